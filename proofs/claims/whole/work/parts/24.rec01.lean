theorem B_88_113 {L : Nat} {xs : Nat → Int32} {d : Nat} {M : Nat} {rec : Int32 → Int32 → sm_H → Option (Int32 × sm_H)} (hrec : ∀ d, M ≤ d → ∀ (x1 x2 : Int32) (h : sm_H) (q : Int32 × sm_H), rec x1 x2 h = some q → RUN L xs d 82 [.ref 49, .int x1, .int x2] h (some (.int q.1), q.2)) (hd : 2 + M ≤ d) {res : Option Value × sm_H} {y2 : Int32} {y3 : Int32} {y4 : Int32} {y6 : Int32}  {h : sm_H} {r : (Int32 × sm_H)} (hf : F_88_113 rec y2 y3 y4 y6 h = some r) (hs : (fun (r : Int32 × sm_H) => res = (some (.int r.1), r.2)) r) : Ex (P_G L xs) (RUN L xs d) (sm_lk P_t88) 0 113 [some (.ref 49), none, some (.int y2), some (.int y3), some (.int y4), none, some (.int y6), none, none] [] h res := by
  unfold F_88_113 at hf
  refine Ex.seg 5 (pc' := 119) (lc' := [some (.ref 49), none, some (.int y2), some (.int y3), some (.int y4), none, some (.int y6), none, none]) (st' := [.int y4, .int 0, .int 0, .int y2, .ref 49]) (h' := h) (sg1 rfl rfl (sg1 rfl rfl (sg1 rfl rfl (sg1 rfl rfl (sg1 rfl rfl rfl))))) ?_
  obtain ⟨q1, e_q1, hf⟩ := bnd hf
  refine Ex.callV (a := 49) (As := [.int y2, .int 0, .int 0, .int y4]) (r := []) (v := none) (h' := q1) rfl rfl (by decide) rfl (Nat.le_of_ble_eq_true rfl) rfl (E_80 (by omega) e_q1) rfl ?_
  refine Ex.seg 11 (pc' := 138) (lc' := [some (.ref 49), none, some (.int y2), some (.int y3), some (.int y4), none, some (.int y6), none, none]) (st' := [.int y4, .int y3, .ref 10, .long (Int32.toInt64 y6), .int y4, .int (y2 + 1), .ref 49]) (h' := q1) (sg1 rfl rfl (sg1 rfl rfl (sg1 rfl rfl (sg1 rfl rfl (sg1 rfl rfl (sg1 rfl rfl (sg1 rfl rfl (sg1 rfl rfl (sg1 rfl rfl (sg1 rfl rfl (sg1 rfl rfl rfl))))))))))) ?_
  obtain ⟨q2, e_q2, hf⟩ := bnd hf
  refine Ex.callV (a := 10) (As := [.int y3, .int y4]) (r := [.long (Int32.toInt64 y6), .int y4, .int (y2 + 1), .ref 49]) (v := some (.int q2.1)) (h' := q2.2) rfl rfl (by decide) rfl (Nat.le_of_ble_eq_true rfl) rfl (E_46 (by omega) e_q2) rfl ?_
  obtain ⟨q3, e_q3, hf⟩ := bnd hf
  refine Ex.callV (a := 49) (As := [.int (y2 + 1), .int y4, .long (Int32.toInt64 y6), .int q2.1]) (r := []) (v := none) (h' := q3) rfl rfl (by decide) rfl (Nat.le_of_ble_eq_true rfl) rfl (E_79 (by omega) e_q3) rfl ?_
  refine Ex.seg 5 (pc' := 149) (lc' := [some (.ref 49), none, some (.int y2), some (.int y3), some (.int y4), none, some (.int y6), none, none]) (st' := [.int (y2 + 1), .int y3, .ref 49]) (h' := q3) (sg1 rfl rfl (sg1 rfl rfl (sg1 rfl rfl (sg1 rfl rfl (sg1 rfl rfl rfl))))) ?_
  obtain ⟨q4, e_q4, hf⟩ := bnd hf
  refine Ex.callV (a := 49) (As := [.int y3, .int (y2 + 1)]) (r := []) (v := some (.int q4.1)) (h' := q4.2) rfl rfl (by decide) rfl (Nat.le_of_ble_eq_true rfl) rfl (hrec d (by omega) _ _ _ _ e_q4) rfl ?_
  obtain rfl := Option.some.inj hf
  exact Ex.iret rfl rfl (fun c0 => by cases c0) hs
theorem B_88_66B {L : Nat} {xs : Nat → Int32} {d : Nat} {M : Nat} {rec : Int32 → Int32 → sm_H → Option (Int32 × sm_H)} (hrec : ∀ d, M ≤ d → ∀ (x1 x2 : Int32) (h : sm_H) (q : Int32 × sm_H), rec x1 x2 h = some q → RUN L xs d 82 [.ref 49, .int x1, .int x2] h (some (.int q.1), q.2)) (hd : 2 + M ≤ d) {res : Option Value × sm_H} {S1 : (Int32 × Int32 × Int32 × Int32 × Int32 × Nat × Int32 × sm_H) → Prop} (hS1 : ∀ s, S1 s → Ex (P_G L xs) (RUN L xs d) (sm_lk P_t88) 0 66 [some (.ref 49), none, some (.int s.1), some (.int s.2.1), some (.int s.2.2.1), some (.int s.2.2.2.1), some (.int s.2.2.2.2.1), some (.ref s.2.2.2.2.2.1), some (.int s.2.2.2.2.2.2.1)] [] s.2.2.2.2.2.2.2 res) {s : (Int32 × Int32 × Int32 × Int32 × Int32 × Nat × Int32 × sm_H)}  {r : ((Int32 × Int32 × Int32 × Int32 × Int32 × Nat × Int32 × sm_H) ⊕ (Int32 × sm_H))} (hf : F_88_66B rec s = some r) (hs : (Sum.elim S1 (fun (r : Int32 × sm_H) => res = (some (.int r.1), r.2))) r) : Ex (P_G L xs) (RUN L xs d) (sm_lk P_t88) 0 66 [some (.ref 49), none, some (.int s.1), some (.int s.2.1), some (.int s.2.2.1), some (.int s.2.2.2.1), some (.int s.2.2.2.2.1), some (.ref s.2.2.2.2.2.1), some (.int s.2.2.2.2.2.2.1)] [] s.2.2.2.2.2.2.2 res := by
  unfold F_88_66B at hf
  refine Ex.seg 2 (pc' := 70) (lc' := [some (.ref 49), none, some (.int s.1), some (.int s.2.1), some (.int s.2.2.1), some (.int s.2.2.2.1), some (.int s.2.2.2.2.1), some (.ref s.2.2.2.2.2.1), some (.int s.2.2.2.2.2.2.1)]) (st' := [.int s.2.2.2.1, .int s.2.2.2.2.2.2.1]) (h' := s.2.2.2.2.2.2.2) (sg1 rfl rfl (sg1 rfl rfl rfl)) ?_
  refine Ex.icmp rfl rfl (fun (c0 : s.2.2.2.1 ≤ s.2.2.2.2.2.2.1) => ?_) (fun (c0 : ¬ (s.2.2.2.1 ≤ s.2.2.2.2.2.2.1)) => ?_)
  · rw [if_pos c0] at hf
    obtain ⟨r0, hf0, rfl⟩ := Option.map_eq_some_iff.mp hf
    exact Ex.weak (sm_le_s (sm_le_s (sm_le_s (sm_le_s (sm_le_s (sm_le_n (sm_le_s (sm_le_n (sm_le_n sm_le_nil))))))))) (B_88_113 hrec hd  hf0 hs)
  · rw [if_neg c0] at hf
    refine Ex.seg 2 (pc' := 77) (lc' := [some (.ref 49), none, some (.int s.1), some (.int s.2.1), some (.int s.2.2.1), some (.int s.2.2.2.1), some (.int s.2.2.2.2.1), some (.ref s.2.2.2.2.2.1), some (.int s.2.2.2.2.2.2.1)]) (st' := [.int 10, .int s.2.2.2.2.2.2.1]) (h' := s.2.2.2.2.2.2.2) (sg1 rfl rfl (sg1 rfl rfl rfl)) ?_
    refine Ex.icmp rfl rfl (fun (c0 : 10 ≤ s.2.2.2.2.2.2.1) => ?_) (fun (c0 : ¬ (10 ≤ s.2.2.2.2.2.2.1)) => ?_)
    · rw [if_pos c0] at hf
      obtain ⟨r0, hf0, rfl⟩ := Option.map_eq_some_iff.mp hf
      exact Ex.weak (sm_le_s (sm_le_s (sm_le_s (sm_le_s (sm_le_s (sm_le_n (sm_le_s (sm_le_n (sm_le_n sm_le_nil))))))))) (B_88_113 hrec hd  hf0 hs)
    · rw [if_neg c0] at hf
      refine Ex.seg 7 (pc' := 91) (lc' := [some (.ref 49), none, some (.int s.1), some (.int s.2.1), some (.int s.2.2.1), some (.int s.2.2.2.1), some (.int s.2.2.2.2.1), some (.ref s.2.2.2.2.2.1), some (.int s.2.2.2.2.2.2.1)]) (st' := [.int (s.2.2.1 + s.2.2.2.2.2.2.1), .int s.1, .ref 49, .int s.2.2.2.2.2.2.1, .ref s.2.2.2.2.2.1]) (h' := s.2.2.2.2.2.2.2) (sg1 rfl rfl (sg1 rfl rfl (sg1 rfl rfl (sg1 rfl rfl (sg1 rfl rfl (sg1 rfl rfl (sg1 rfl rfl rfl))))))) ?_
      obtain ⟨q5, e_q5, hf⟩ := bnd hf
      refine Ex.callV (a := 49) (As := [.int s.1, .int (s.2.2.1 + s.2.2.2.2.2.2.1)]) (r := [.int s.2.2.2.2.2.2.1, .ref s.2.2.2.2.2.1]) (v := some (.long q5.1)) (h' := q5.2) rfl rfl (by decide) rfl (Nat.le_of_ble_eq_true rfl) rfl (E_77 (by omega) e_q5) rfl ?_
      refine Ex.seg 5 (pc' := 101) (lc' := [some (.ref 49), none, some (.int s.1), some (.int s.2.1), some (.int s.2.2.1), some (.int s.2.2.2.1), some (.int s.2.2.2.2.1), some (.ref s.2.2.2.2.2.1), some (.int s.2.2.2.2.2.2.1)]) (st' := [.int (s.2.2.1 + s.2.2.2.2.2.2.1), .int s.1, .ref 49, .long q5.1, .int s.2.2.2.2.2.2.1, .ref s.2.2.2.2.2.1]) (h' := q5.2) (sg1 rfl rfl (sg1 rfl rfl (sg1 rfl rfl (sg1 rfl rfl (sg1 rfl rfl rfl))))) ?_
      obtain ⟨q6, e_q6, hf⟩ := bnd hf
      refine Ex.callV (a := 49) (As := [.int s.1, .int (s.2.2.1 + s.2.2.2.2.2.2.1)]) (r := [.long q5.1, .int s.2.2.2.2.2.2.1, .ref s.2.2.2.2.2.1]) (v := some (.int q6.1)) (h' := q6.2) rfl rfl (by decide) rfl (Nat.le_of_ble_eq_true rfl) rfl (E_78 (by omega) e_q6) rfl ?_
      have g8 : sm_is G0 q6.2 s.2.2.2.2.2.1 8 = true := Classical.byContradiction (fun z => by rw [if_pos z] at hf; cases hf)
      rw [if_neg (fun z => z g8)] at hf
      obtain ⟨q7, e_q7, hf⟩ := bnd hf
      refine Ex.callV (a := s.2.2.2.2.2.1) (As := [.int s.2.2.2.2.2.2.1, .long q5.1, .int q6.1]) (r := []) (v := none) (h' := q7) rfl rfl (by decide) rfl (Nat.le_of_ble_eq_true rfl) g8 (E_221 (by omega) e_q7) rfl ?_
      refine Ex.seg 1 (pc' := 110) (lc' := [some (.ref 49), none, some (.int s.1), some (.int s.2.1), some (.int s.2.2.1), some (.int s.2.2.2.1), some (.int s.2.2.2.2.1), some (.ref s.2.2.2.2.2.1), some (.int (s.2.2.2.2.2.2.1 + 1))]) (st' := []) (h' := q7) (sg1 rfl rfl rfl) ?_
      obtain ⟨v9, e_v9, hf⟩ := bnd hf
      rw [Option.some.inj e_v9]
      refine Ex.seg 1 (pc' := 66) (lc' := [some (.ref 49), none, some (.int s.1), some (.int s.2.1), some (.int s.2.2.1), some (.int s.2.2.2.1), some (.int s.2.2.2.2.1), some (.ref s.2.2.2.2.2.1), some (.int v9)]) (st' := []) (h' := q7) (sg1 rfl rfl rfl) ?_
      obtain rfl := Option.some.inj hf
      exact Ex.weak (sm_le_s (sm_le_s (sm_le_s (sm_le_s (sm_le_s (sm_le_s (sm_le_s (sm_le_s (sm_le_s sm_le_nil))))))))) (hS1 _ hs)
theorem B_88_66 {L : Nat} {xs : Nat → Int32} {d : Nat} {M : Nat} {rec : Int32 → Int32 → sm_H → Option (Int32 × sm_H)} (hrec : ∀ d, M ≤ d → ∀ (x1 x2 : Int32) (h : sm_H) (q : Int32 × sm_H), rec x1 x2 h = some q → RUN L xs d 82 [.ref 49, .int x1, .int x2] h (some (.int q.1), q.2)) (hd : 2 + M ≤ d) {res : Option Value × sm_H} {y2 : Int32} {y3 : Int32} {y4 : Int32} {y5 : Int32} {y6 : Int32} {y7 : Nat} {y8 : Int32}  {h : sm_H} {r : (Int32 × sm_H)} (hf : F_88_66 rec y2 y3 y4 y5 y6 y7 y8 h = some r) (hs : (fun (r : Int32 × sm_H) => res = (some (.int r.1), r.2)) r) : Ex (P_G L xs) (RUN L xs d) (sm_lk P_t88) 0 66 [some (.ref 49), none, some (.int y2), some (.int y3), some (.int y4), some (.int y5), some (.int y6), some (.ref y7), some (.int y8)] [] h res := by
  unfold F_88_66 at hf
  exact lp_ok (P := fun (s : (Int32 × Int32 × Int32 × Int32 × Int32 × Nat × Int32 × sm_H)) => Ex (P_G L xs) (RUN L xs d) (sm_lk P_t88) 0 66 [some (.ref 49), none, some (.int s.1), some (.int s.2.1), some (.int s.2.2.1), some (.int s.2.2.2.1), some (.int s.2.2.2.2.1), some (.ref s.2.2.2.2.2.1), some (.int s.2.2.2.2.2.2.1)] [] s.2.2.2.2.2.2.2 res) (S := (fun (r : Int32 × sm_H) => res = (some (.int r.1), r.2))) (fun s x hx hsx => by
    intros
    exact B_88_66B hrec hd  (fun _ q => q) hx hsx) 1000000 _ r hf hs
theorem B_88_0 {L : Nat} {xs : Nat → Int32} {d : Nat} {M : Nat} {rec : Int32 → Int32 → sm_H → Option (Int32 × sm_H)} (hrec : ∀ d, M ≤ d → ∀ (x1 x2 : Int32) (h : sm_H) (q : Int32 × sm_H), rec x1 x2 h = some q → RUN L xs d 82 [.ref 49, .int x1, .int x2] h (some (.int q.1), q.2)) (hd : 2 + M ≤ d) {res : Option Value × sm_H} {x1 : Int32} {x2 : Int32}  {h : sm_H} {r : (Int32 × sm_H)} (hf : F_88_0 rec x1 x2 h = some r) (hs : (fun (r : Int32 × sm_H) => res = (some (.int r.1), r.2)) r) : Ex (P_G L xs) (RUN L xs d) (sm_lk P_t88) 0 0 [some (.ref 49), some (.int x1), some (.int x2), none, none, none, none, none, none] [] h res := by
  unfold F_88_0 at hf
  refine Ex.seg 4 (pc' := 6) (lc' := [some (.ref 49), some (.int x1), some (.int x2), none, none, none, none, none, none]) (st' := [.int 0, .int x1, .ref 10]) (h' := h) (sg1 rfl rfl (sg1 rfl rfl (sg1 rfl rfl (sg1 rfl rfl rfl)))) ?_
  obtain ⟨q10, e_q10, hf⟩ := bnd hf
  refine Ex.callV (a := 10) (As := [.int x1, .int 0]) (r := []) (v := some (.int q10.1)) (h' := q10.2) rfl rfl (by decide) rfl (Nat.le_of_ble_eq_true rfl) rfl (E_43 (by omega) e_q10) rfl ?_
  refine Ex.seg 4 (pc' := 15) (lc' := [some (.ref 49), some (.int x1), some (.int x2), some (.int q10.1), none, none, none, none, none]) (st' := [.int q10.1, .ref 10]) (h' := q10.2) (sg1 rfl rfl (sg1 rfl rfl (sg1 rfl rfl (sg1 rfl rfl rfl)))) ?_
  obtain ⟨q11, e_q11, hf⟩ := bnd hf
  refine Ex.callV (a := 10) (As := [.int q10.1]) (r := []) (v := some (.int q11.1)) (h' := q11.2) rfl rfl (by decide) rfl (Nat.le_of_ble_eq_true rfl) rfl (E_45 (by omega) e_q11) rfl ?_
  refine Ex.seg 3 (pc' := 22) (lc' := [some (.ref 49), some (.int x1), some (.int x2), some (.int q10.1), some (.int (q11.1 - 1)), none, none, none, none]) (st' := []) (h' := q11.2) (sg1 rfl rfl (sg1 rfl rfl (sg1 rfl rfl rfl))) ?_
  obtain ⟨v12, e_v12, hf⟩ := bnd hf
  rw [Option.some.inj e_v12]
  refine Ex.seg 3 (pc' := 27) (lc' := [some (.ref 49), some (.int x1), some (.int x2), some (.int q10.1), some (.int v12), none, none, none, none]) (st' := [.int x1, .ref 10]) (h' := q11.2) (sg1 rfl rfl (sg1 rfl rfl (sg1 rfl rfl rfl))) ?_
  obtain ⟨q13, e_q13, hf⟩ := bnd hf
  refine Ex.callV (a := 10) (As := [.int x1]) (r := []) (v := some (.int q13.1)) (h' := q13.2) rfl rfl (by decide) rfl (Nat.le_of_ble_eq_true rfl) rfl (E_39 (by omega) e_q13) rfl ?_
  refine Ex.seg 4 (pc' := 38) (lc' := [some (.ref 49), some (.int x1), some (.int x2), some (.int q10.1), some (.int v12), some (.int q13.1), none, none, none]) (st' := [.int q13.1, .ref 21]) (h' := q13.2) (sg1 rfl rfl (sg1 rfl rfl (sg1 rfl rfl (sg1 rfl rfl rfl)))) ?_
  obtain ⟨q14, e_q14, hf⟩ := bnd hf
  refine Ex.callV (a := 21) (As := [.int q13.1]) (r := []) (v := some (.int q14.1)) (h' := q14.2) rfl rfl (by decide) rfl (Nat.le_of_ble_eq_true rfl) rfl (E_146 (by omega) e_q14) rfl ?_
  refine Ex.seg 3 (pc' := 46) (lc' := [some (.ref 49), some (.int x1), some (.int x2), some (.int q10.1), some (.int v12), some (.int q13.1), some (.int q14.1), none, none]) (st' := [.int (-1), .int q14.1]) (h' := q14.2) (sg1 rfl rfl (sg1 rfl rfl (sg1 rfl rfl rfl))) ?_
  refine Ex.icmp rfl rfl (fun (c0 : ¬ (q14.1 = (-1))) => ?_) (fun (c0 : ¬ ¬ (q14.1 = (-1))) => ?_)
  · rw [if_neg c0] at hf
    refine Ex.seg 4 (pc' := 58) (lc' := [some (.ref 49), some (.int x1), some (.int x2), some (.int q10.1), some (.int v12), some (.int q13.1), some (.int q14.1), none, none]) (st' := [.long (Int32.toInt64 q14.1), .ref 21]) (h' := q14.2) (sg1 rfl rfl (sg1 rfl rfl (sg1 rfl rfl (sg1 rfl rfl rfl)))) ?_
    obtain ⟨q15, e_q15, hf⟩ := bnd hf
    refine Ex.callV (a := 21) (As := [.long (Int32.toInt64 q14.1)]) (r := []) (v := some (.ref q15.1)) (h' := q15.2) rfl rfl (by decide) rfl (Nat.le_of_ble_eq_true rfl) rfl (E_147 (by omega) e_q15) rfl ?_
    refine Ex.seg 3 (pc' := 66) (lc' := [some (.ref 49), some (.int x1), some (.int x2), some (.int q10.1), some (.int v12), some (.int q13.1), some (.int q14.1), some (.ref q15.1), some (.int 0)]) (st' := []) (h' := q15.2) (sg1 rfl rfl (sg1 rfl rfl (sg1 rfl rfl rfl))) ?_
    exact Ex.weak (sm_le_s (sm_le_n (sm_le_s (sm_le_s (sm_le_s (sm_le_s (sm_le_s (sm_le_s (sm_le_s sm_le_nil))))))))) (B_88_66 hrec hd  hf hs)
  · rw [if_pos (Classical.not_not.mp c0)] at hf
    refine Ex.seg 1 (pc' := 50) (lc' := [some (.ref 49), some (.int x1), some (.int x2), some (.int q10.1), some (.int v12), some (.int q13.1), some (.int q14.1), none, none]) (st' := [.int 4]) (h' := q14.2) (sg1 rfl rfl rfl) ?_
    obtain rfl := Option.some.inj hf
    exact Ex.iret rfl rfl (fun c0 => by cases c0) hs
theorem E_88 {L : Nat} {xs : Nat → Int32} {d : Nat} {M : Nat} {rec : Int32 → Int32 → sm_H → Option (Int32 × sm_H)} (hrec : ∀ d, M ≤ d → ∀ (x1 x2 : Int32) (h : sm_H) (q : Int32 × sm_H), rec x1 x2 h = some q → RUN L xs d 82 [.ref 49, .int x1, .int x2] h (some (.int q.1), q.2)) (hd : 3 + M ≤ d) {x1 : Int32} {x2 : Int32} {h : sm_H} {r : Int32 × sm_H} (hf : F_88 rec x1 x2 h = some r) : RUN L xs d 88 [.ref 49, .int x1, .int x2] h (some (.int r.1), r.2) := by
  obtain ⟨d, rfl⟩ : ∃ e, d = e + 1 := ⟨d - 1, by omega⟩
  exact ⟨Nat.le_of_ble_eq_true rfl, B_88_0 hrec (by omega) hf rfl⟩
theorem B_101_111 {L : Nat} {xs : Nat → Int32} {d : Nat} {M : Nat} {rec : Int32 → Int32 → sm_H → Option (Int32 × sm_H)} (hrec : ∀ d, M ≤ d → ∀ (x1 x2 : Int32) (h : sm_H) (q : Int32 × sm_H), rec x1 x2 h = some q → RUN L xs d 82 [.ref 49, .int x1, .int x2] h (some (.int q.1), q.2)) (hd : 2 + M ≤ d) {res : Option Value × sm_H} {z0 : Int32}  {h : sm_H} {r : (Int32 × sm_H)} (hf : F_101_111 rec z0 h = some r) (hs : (fun (r : Int32 × sm_H) => res = (some (.int r.1), r.2)) r) : Ex (P_G L xs) (RUN L xs d) (sm_lk P_t101) 0 111 [none, none, none, none, none, none, none] [.int z0] h res := by
  unfold F_101_111 at hf
  obtain rfl := Option.some.inj hf
  exact Ex.iret rfl rfl (fun c0 => by cases c0) hs
theorem B_101_0 {L : Nat} {xs : Nat → Int32} {d : Nat} {M : Nat} {rec : Int32 → Int32 → sm_H → Option (Int32 × sm_H)} (hrec : ∀ d, M ≤ d → ∀ (x1 x2 : Int32) (h : sm_H) (q : Int32 × sm_H), rec x1 x2 h = some q → RUN L xs d 82 [.ref 49, .int x1, .int x2] h (some (.int q.1), q.2)) (hd : 2 + M ≤ d) {res : Option Value × sm_H} {x1 : Int32} {x2 : Int32}  {h : sm_H} {r : (Int32 × sm_H)} (hf : F_101_0 rec x1 x2 h = some r) (hs : (fun (r : Int32 × sm_H) => res = (some (.int r.1), r.2)) r) : Ex (P_G L xs) (RUN L xs d) (sm_lk P_t101) 0 0 [some (.ref 49), some (.int x1), some (.int x2), none, none, none, none] [] h res := by
  unfold F_101_0 at hf
  refine Ex.seg 3 (pc' := 5) (lc' := [some (.ref 49), some (.int x1), some (.int x2), none, none, none, none]) (st' := [.int x1, .ref 10]) (h' := h) (sg1 rfl rfl (sg1 rfl rfl (sg1 rfl rfl rfl))) ?_
  obtain ⟨q1, e_q1, hf⟩ := bnd hf
  refine Ex.callV (a := 10) (As := [.int x1]) (r := []) (v := some (.int q1.1)) (h' := q1.2) rfl rfl (by decide) rfl (Nat.le_of_ble_eq_true rfl) rfl (E_38 (by omega) e_q1) rfl ?_
  refine Ex.seg 4 (pc' := 14) (lc' := [some (.ref 49), some (.int x1), some (.int x2), some (.int q1.1), none, none, none]) (st' := [.int q1.1, .ref 38]) (h' := q1.2) (sg1 rfl rfl (sg1 rfl rfl (sg1 rfl rfl (sg1 rfl rfl rfl)))) ?_
  obtain ⟨q2, e_q2, hf⟩ := bnd hf
  refine Ex.callV (a := 38) (As := [.int q1.1]) (r := []) (v := some (.int q2.1)) (h' := q2.2) rfl rfl (by decide) rfl (Nat.le_of_ble_eq_true rfl) rfl (E_131 (by omega) e_q2) rfl ?_
  refine Ex.seg 4 (pc' := 25) (lc' := [some (.ref 49), some (.int x1), some (.int x2), some (.int q1.1), some (.int q2.1), none, none]) (st' := [.int 24, .ref 21]) (h' := q2.2) (sg1 rfl rfl (sg1 rfl rfl (sg1 rfl rfl (sg1 rfl rfl rfl)))) ?_
  obtain ⟨q3, e_q3, hf⟩ := bnd hf
  refine Ex.callV (a := 21) (As := [.int 24]) (r := []) (v := some (.int q3.1)) (h' := q3.2) rfl rfl (by decide) rfl (Nat.le_of_ble_eq_true rfl) rfl (E_146 (by omega) e_q3) rfl ?_
  refine Ex.seg 3 (pc' := 33) (lc' := [some (.ref 49), some (.int x1), some (.int x2), some (.int q1.1), some (.int q2.1), some (.int q3.1), none]) (st' := [.int (-1), .int q3.1]) (h' := q3.2) (sg1 rfl rfl (sg1 rfl rfl (sg1 rfl rfl rfl))) ?_
  refine Ex.icmp rfl rfl (fun (c0 : ¬ (q3.1 = (-1))) => ?_) (fun (c0 : ¬ ¬ (q3.1 = (-1))) => ?_)
  · rw [if_neg c0] at hf
    refine Ex.seg 10 (pc' := 51) (lc' := [some (.ref 49), some (.int x1), some (.int x2), some (.int q1.1), some (.int q2.1), some (.int q3.1), none]) (st' := [.int q1.1, .ref 38, .long (Int32.toInt64 q3.1), .int 0, .int (x2 + 1), .ref 49]) (h' := q3.2) (sg1 rfl rfl (sg1 rfl rfl (sg1 rfl rfl (sg1 rfl rfl (sg1 rfl rfl (sg1 rfl rfl (sg1 rfl rfl (sg1 rfl rfl (sg1 rfl rfl (sg1 rfl rfl rfl)))))))))) ?_
    obtain ⟨q4, e_q4, hf⟩ := bnd hf
    refine Ex.callV (a := 38) (As := [.int q1.1]) (r := [.long (Int32.toInt64 q3.1), .int 0, .int (x2 + 1), .ref 49]) (v := some (.int q4.1)) (h' := q4.2) rfl rfl (by decide) rfl (Nat.le_of_ble_eq_true rfl) rfl (E_132 (by omega) e_q4) rfl ?_
    obtain ⟨q5, e_q5, hf⟩ := bnd hf
    refine Ex.callV (a := 49) (As := [.int (x2 + 1), .int 0, .long (Int32.toInt64 q3.1), .int q4.1]) (r := []) (v := none) (h' := q5) rfl rfl (by decide) rfl (Nat.le_of_ble_eq_true rfl) rfl (E_79 (by omega) e_q5) rfl ?_
    refine Ex.seg 7 (pc' := 67) (lc' := [some (.ref 49), some (.int x1), some (.int x2), some (.int q1.1), some (.int q2.1), some (.int q3.1), none]) (st' := [.int q2.1, .ref 10, .int 1, .int 0, .int x2, .ref 49]) (h' := q5) (sg1 rfl rfl (sg1 rfl rfl (sg1 rfl rfl (sg1 rfl rfl (sg1 rfl rfl (sg1 rfl rfl (sg1 rfl rfl rfl))))))) ?_
    obtain ⟨q6, e_q6, hf⟩ := bnd hf
    refine Ex.callV (a := 10) (As := [.int q2.1]) (r := [.int 1, .int 0, .int x2, .ref 49]) (v := some (.int q6.1)) (h' := q6.2) rfl rfl (by decide) rfl (Nat.le_of_ble_eq_true rfl) rfl (E_45 (by omega) e_q6) rfl ?_
    refine Ex.seg 2 (pc' := 72) (lc' := [some (.ref 49), some (.int x1), some (.int x2), some (.int q1.1), some (.int q2.1), some (.int q3.1), none]) (st' := [.int (q6.1 - 1), .int 1, .int 0, .int x2, .ref 49]) (h' := q6.2) (sg1 rfl rfl (sg1 rfl rfl rfl)) ?_
    obtain ⟨q7, e_q7, hf⟩ := bnd hf
    refine Ex.callV (a := 49) (As := [.int x2, .int 0, .int 1, .int (q6.1 - 1)]) (r := []) (v := none) (h' := q7) rfl rfl (by decide) rfl (Nat.le_of_ble_eq_true rfl) rfl (E_80 (by omega) e_q7) rfl ?_
    refine Ex.seg 5 (pc' := 81) (lc' := [some (.ref 49), some (.int x1), some (.int x2), some (.int q1.1), some (.int q2.1), some (.int q3.1), none]) (st' := [.int (x2 + 1), .int q2.1, .ref 49]) (h' := q7) (sg1 rfl rfl (sg1 rfl rfl (sg1 rfl rfl (sg1 rfl rfl (sg1 rfl rfl rfl))))) ?_
    obtain ⟨q8, e_q8, hf⟩ := bnd hf
    refine Ex.callV (a := 49) (As := [.int q2.1, .int (x2 + 1)]) (r := []) (v := some (.int q8.1)) (h' := q8.2) rfl rfl (by decide) rfl (Nat.le_of_ble_eq_true rfl) rfl (hrec d (by omega) _ _ _ _ e_q8) rfl ?_
    refine Ex.seg 2 (pc' := 88) (lc' := [some (.ref 49), some (.int x1), some (.int x2), some (.int q1.1), some (.int q2.1), some (.int q3.1), some (.int q8.1)]) (st' := [.int q8.1]) (h' := q8.2) (sg1 rfl rfl (sg1 rfl rfl rfl)) ?_
    refine Ex.ifc rfl rfl (fun (c0 : ¬ (q8.1 = 0)) => ?_) (fun (c0 : ¬ ¬ (q8.1 = 0)) => ?_)
    · rw [if_neg c0] at hf
      refine Ex.seg 1 (pc' := 111) (lc' := [some (.ref 49), some (.int x1), some (.int x2), some (.int q1.1), some (.int q2.1), some (.int q3.1), some (.int q8.1)]) (st' := [.int q8.1]) (h' := q8.2) (sg1 rfl rfl rfl) ?_
      exact Ex.weak (sm_le_n (sm_le_n (sm_le_n (sm_le_n (sm_le_n (sm_le_n (sm_le_n sm_le_nil))))))) (B_101_111 hrec hd  hf hs)
    · rw [if_pos (Classical.not_not.mp c0)] at hf
      refine Ex.seg 6 (pc' := 100) (lc' := [some (.ref 49), some (.int x1), some (.int x2), some (.int q1.1), some (.int q2.1), some (.int q3.1), some (.int q8.1)]) (st' := [.int q1.1, .ref 38, .long (Int32.toInt64 q3.1), .ref 49]) (h' := q8.2) (sg1 rfl rfl (sg1 rfl rfl (sg1 rfl rfl (sg1 rfl rfl (sg1 rfl rfl (sg1 rfl rfl rfl)))))) ?_
      obtain ⟨q9, e_q9, hf⟩ := bnd hf
      refine Ex.callV (a := 38) (As := [.int q1.1]) (r := [.long (Int32.toInt64 q3.1), .ref 49]) (v := some (.int q9.1)) (h' := q9.2) rfl rfl (by decide) rfl (Nat.le_of_ble_eq_true rfl) rfl (E_132 (by omega) e_q9) rfl ?_
      obtain ⟨q10, e_q10, hf⟩ := bnd hf
      refine Ex.callV (a := 49) (As := [.long (Int32.toInt64 q3.1), .int q9.1]) (r := []) (v := some (.int q10.1)) (h' := q10.2) rfl rfl (by decide) rfl (Nat.le_of_ble_eq_true rfl) rfl (E_75 (by omega) e_q10) rfl ?_
      refine Ex.seg 1 (pc' := 111) (lc' := [some (.ref 49), some (.int x1), some (.int x2), some (.int q1.1), some (.int q2.1), some (.int q3.1), some (.int q8.1)]) (st' := [.int q10.1]) (h' := q10.2) (sg1 rfl rfl rfl) ?_
      exact Ex.weak (sm_le_n (sm_le_n (sm_le_n (sm_le_n (sm_le_n (sm_le_n (sm_le_n sm_le_nil))))))) (B_101_111 hrec hd  hf hs)
  · rw [if_pos (Classical.not_not.mp c0)] at hf
    refine Ex.seg 1 (pc' := 37) (lc' := [some (.ref 49), some (.int x1), some (.int x2), some (.int q1.1), some (.int q2.1), some (.int q3.1), none]) (st' := [.int 4]) (h' := q3.2) (sg1 rfl rfl rfl) ?_
    obtain rfl := Option.some.inj hf
    exact Ex.iret rfl rfl (fun c0 => by cases c0) hs
theorem E_101 {L : Nat} {xs : Nat → Int32} {d : Nat} {M : Nat} {rec : Int32 → Int32 → sm_H → Option (Int32 × sm_H)} (hrec : ∀ d, M ≤ d → ∀ (x1 x2 : Int32) (h : sm_H) (q : Int32 × sm_H), rec x1 x2 h = some q → RUN L xs d 82 [.ref 49, .int x1, .int x2] h (some (.int q.1), q.2)) (hd : 3 + M ≤ d) {x1 : Int32} {x2 : Int32} {h : sm_H} {r : Int32 × sm_H} (hf : F_101 rec x1 x2 h = some r) : RUN L xs d 101 [.ref 49, .int x1, .int x2] h (some (.int r.1), r.2) := by
  obtain ⟨d, rfl⟩ : ∃ e, d = e + 1 := ⟨d - 1, by omega⟩
  exact ⟨Nat.le_of_ble_eq_true rfl, B_101_0 hrec (by omega) hf rfl⟩
theorem B_107_35 {L : Nat} {xs : Nat → Int32} {d : Nat} (hd : 2 ≤ d) {res : Option Value × sm_H} {z0 : Int32}  {h : sm_H} {r : (Int32 × sm_H)} (hf : F_107_35 z0 h = some r) (hs : (fun (r : Int32 × sm_H) => res = (some (.int r.1), r.2)) r) : Ex (P_G L xs) (RUN L xs d) (sm_lk P_t107) 0 35 [none, none, none, none] [.int z0] h res := by
  unfold F_107_35 at hf
  obtain rfl := Option.some.inj hf
  exact Ex.iret rfl rfl (fun c0 => by cases c0) hs
theorem B_107_0 {L : Nat} {xs : Nat → Int32} {d : Nat} (hd : 2 ≤ d) {res : Option Value × sm_H} {x1 : Int32} {x2 : Int32}  {h : sm_H} {r : (Int32 × sm_H)} (hf : F_107_0 x1 x2 h = some r) (hs : (fun (r : Int32 × sm_H) => res = (some (.int r.1), r.2)) r) : Ex (P_G L xs) (RUN L xs d) (sm_lk P_t107) 0 0 [some (.ref 49), some (.int x1), some (.int x2), none] [] h res := by
  unfold F_107_0 at hf
  refine Ex.seg 1 (pc' := 1) (lc' := [some (.ref 49), some (.int x1), some (.int x2), none]) (st' := [.int x2]) (h' := h) (sg1 rfl rfl rfl) ?_
  refine Ex.ifc rfl rfl (fun (c0 : 0 ≤ x2) => ?_) (fun (c0 : ¬ (0 ≤ x2)) => ?_)
  · rw [if_pos c0] at hf
    refine Ex.seg 3 (pc' := 15) (lc' := [some (.ref 49), some (.int x1), some (.int x2), none]) (st' := [.int x2, .ref 21]) (h' := h) (sg1 rfl rfl (sg1 rfl rfl (sg1 rfl rfl rfl))) ?_
    obtain ⟨q1, e_q1, hf⟩ := bnd hf
    refine Ex.callV (a := 21) (As := [.int x2]) (r := []) (v := some (.int q1.1)) (h' := q1.2) rfl rfl (by decide) rfl (Nat.le_of_ble_eq_true rfl) rfl (E_146 (Nat.le_trans (by decide) hd) e_q1) rfl ?_
    refine Ex.seg 3 (pc' := 21) (lc' := [some (.ref 49), some (.int x1), some (.int x2), some (.int q1.1)]) (st' := [.int (-1), .int q1.1]) (h' := q1.2) (sg1 rfl rfl (sg1 rfl rfl (sg1 rfl rfl rfl))) ?_
    refine Ex.icmp rfl rfl (fun (c0 : ¬ (q1.1 = (-1))) => ?_) (fun (c0 : ¬ ¬ (q1.1 = (-1))) => ?_)
    · rw [if_neg c0] at hf
      refine Ex.seg 4 (pc' := 32) (lc' := [some (.ref 49), some (.int x1), some (.int x2), some (.int q1.1)]) (st' := [.int x1, .long (Int32.toInt64 q1.1), .ref 49]) (h' := q1.2) (sg1 rfl rfl (sg1 rfl rfl (sg1 rfl rfl (sg1 rfl rfl rfl)))) ?_
      obtain ⟨q2, e_q2, hf⟩ := bnd hf
      refine Ex.callV (a := 49) (As := [.long (Int32.toInt64 q1.1), .int x1]) (r := []) (v := some (.int q2.1)) (h' := q2.2) rfl rfl (by decide) rfl (Nat.le_of_ble_eq_true rfl) rfl (E_75 (Nat.le_trans (by decide) hd) e_q2) rfl ?_
      exact Ex.weak (sm_le_n (sm_le_n (sm_le_n (sm_le_n sm_le_nil)))) (B_107_35 hd  hf hs)
    · rw [if_pos (Classical.not_not.mp c0)] at hf
      refine Ex.seg 2 (pc' := 35) (lc' := [some (.ref 49), some (.int x1), some (.int x2), some (.int q1.1)]) (st' := [.int 4]) (h' := q1.2) (sg1 rfl rfl (sg1 rfl rfl rfl)) ?_
      exact Ex.weak (sm_le_n (sm_le_n (sm_le_n (sm_le_n sm_le_nil)))) (B_107_35 hd  hf hs)
  · rw [if_neg c0] at hf
    refine Ex.seg 2 (pc' := 6) (lc' := [some (.ref 49), some (.int x1), some (.int x2), none]) (st' := [.int 4, .ref 49]) (h' := h) (sg1 rfl rfl (sg1 rfl rfl rfl)) ?_
    obtain ⟨q3, e_q3, hf⟩ := bnd hf
    refine Ex.callV (a := 49) (As := [.int 4]) (r := []) (v := some (.int q3.1)) (h' := q3.2) rfl rfl (by decide) rfl (Nat.le_of_ble_eq_true rfl) rfl (E_76 (Nat.le_trans (by decide) hd) e_q3) rfl ?_
    obtain rfl := Option.some.inj hf
    exact Ex.iret rfl rfl (fun c0 => by cases c0) hs
theorem E_107 {L : Nat} {xs : Nat → Int32} {d : Nat} (hd : 3 ≤ d) {x1 : Int32} {x2 : Int32} {h : sm_H} {r : Int32 × sm_H} (hf : F_107 x1 x2 h = some r) : RUN L xs d 107 [.ref 49, .int x1, .int x2] h (some (.int r.1), r.2) := by
  obtain ⟨d, rfl⟩ : ∃ e, d = e + 1 := ⟨d - 1, by omega⟩
  exact ⟨Nat.le_of_ble_eq_true rfl, B_107_0 (by omega) hf rfl⟩
theorem B_193_0 {L : Nat} {xs : Nat → Int32} {d : Nat} {M : Nat} {rec : sm_H → Option (Int32 × sm_H)} (hrec : ∀ d, M ≤ d → ∀ (h : sm_H) (q : Int32 × sm_H), rec h = some q → RUN L xs d 194 [.ref 55] h (some (.int q.1), q.2)) (hd : 3 + M ≤ d) {res : Option Value × sm_H}   {h : sm_H} {r : (Int32 × sm_H)} (hf : F_193_0 rec  h = some r) (hs : (fun (r : Int32 × sm_H) => res = (some (.int r.1), r.2)) r) : Ex (P_G L xs) (RUN L xs d) (sm_lk P_t193) 0 0 [some (.ref 55)] [] h res := by
  unfold F_193_0 at hf
  refine Ex.seg 1 (pc' := 1) (lc' := [some (.ref 55)]) (st' := [.ref 55]) (h' := h) (sg1 rfl rfl rfl) ?_
  obtain ⟨q1, e_q1, hf⟩ := bnd hf
  refine Ex.callV (a := 55) (As := []) (r := []) (v := some (.int q1.1)) (h' := q1.2) rfl rfl (by decide) rfl (Nat.le_of_ble_eq_true rfl) rfl (E_171 (by omega) e_q1) rfl ?_
  refine Ex.seg 2 (pc' := 6) (lc' := [some (.ref 55)]) (st' := [.ref 55]) (h' := q1.2) (sg1 rfl rfl (sg1 rfl rfl rfl)) ?_
  obtain ⟨q2, e_q2, hf⟩ := bnd hf
  refine Ex.callV (a := 55) (As := []) (r := []) (v := some (.int q2.1)) (h' := q2.2) rfl rfl (by decide) rfl (Nat.le_of_ble_eq_true rfl) rfl (hrec d (by omega)  _ _ e_q2) rfl ?_
  obtain rfl := Option.some.inj hf
  exact Ex.iret rfl rfl (fun c0 => by cases c0) hs
theorem E_193 {L : Nat} {xs : Nat → Int32} {d : Nat} {M : Nat} {rec : sm_H → Option (Int32 × sm_H)} (hrec : ∀ d, M ≤ d → ∀ (h : sm_H) (q : Int32 × sm_H), rec h = some q → RUN L xs d 194 [.ref 55] h (some (.int q.1), q.2)) (hd : 4 + M ≤ d)  {h : sm_H} {r : Int32 × sm_H} (hf : F_193 rec  h = some r) : RUN L xs d 193 [.ref 55] h (some (.int r.1), r.2) := by
  obtain ⟨d, rfl⟩ : ∃ e, d = e + 1 := ⟨d - 1, by omega⟩
  exact ⟨Nat.le_of_ble_eq_true rfl, B_193_0 hrec (by omega) hf rfl⟩
theorem B_199_2B {L : Nat} {xs : Nat → Int32} {d : Nat} {M : Nat} {rec : sm_H → Option (Int32 × sm_H)} (hrec : ∀ d, M ≤ d → ∀ (h : sm_H) (q : Int32 × sm_H), rec h = some q → RUN L xs d 194 [.ref 55] h (some (.int q.1), q.2)) (hd : 4 + M ≤ d) {res : Option Value × sm_H} {S1 : (Int32 × Int32 × sm_H) → Prop} (hS1 : ∀ s, S1 s → Ex (P_G L xs) (RUN L xs d) (sm_lk P_t199) 3 2 [some (.ref 55), some (.int s.1), some (.int s.2.1)] [] s.2.2 res) {s : (Int32 × Int32 × sm_H)}  {r : ((Int32 × Int32 × sm_H) ⊕ (Int32 × sm_H))} (hf : F_199_2B rec s = some r) (hs : (Sum.elim S1 (fun (r : Int32 × sm_H) => res = (some (.int r.1), r.2))) r) : Ex (P_G L xs) (RUN L xs d) (sm_lk P_t199) 3 2 [some (.ref 55), some (.int s.1), some (.int s.2.1)] [] s.2.2 res := by
  unfold F_199_2B at hf
  refine Ex.seg 2 (pc' := 4) (lc' := [some (.ref 55), some (.int s.1), some (.int s.2.1)]) (st' := [.int s.1, .int s.2.1]) (h' := s.2.2) (sg1 rfl rfl (sg1 rfl rfl rfl)) ?_
  refine Ex.icmp rfl rfl (fun (c0 : s.1 ≤ s.2.1) => ?_) (fun (c0 : ¬ (s.1 ≤ s.2.1)) => ?_)
  · rw [if_pos c0] at hf
    refine Ex.seg 1 (pc' := 28) (lc' := [some (.ref 55), some (.int s.1), some (.int s.2.1)]) (st' := [.int 1]) (h' := s.2.2) (sg1 rfl rfl rfl) ?_
    obtain rfl := Option.some.inj hf
    exact Ex.iret rfl rfl (fun _ => by decide) hs
  · rw [if_neg c0] at hf
    refine Ex.seg 2 (pc' := 9) (lc' := [some (.ref 55), some (.int s.1), some (.int s.2.1)]) (st' := [.ref 55, .ref 55]) (h' := s.2.2) (sg1 rfl rfl (sg1 rfl rfl rfl)) ?_
    obtain ⟨q1, e_q1, hf⟩ := bnd hf
    refine Ex.callV (a := 55) (As := []) (r := [.ref 55]) (v := some (.int q1.1)) (h' := q1.2) rfl rfl (by decide) rfl (Nat.le_of_ble_eq_true rfl) rfl (E_193 hrec (by omega) e_q1) rfl ?_
    refine Ex.seg 1 (pc' := 13) (lc' := [some (.ref 55), some (.int s.1), some (.int s.2.1)]) (st' := [.long 0, .int q1.1, .ref 55]) (h' := q1.2) (sg1 rfl rfl rfl) ?_
    obtain ⟨q2, e_q2, hf⟩ := bnd hf
    refine Ex.callV (a := 55) (As := [.int q1.1, .long 0]) (r := []) (v := some (.int q2.1)) (h' := q2.2) rfl rfl (by decide) rfl (Nat.le_of_ble_eq_true rfl) rfl (E_188 (by omega) e_q2) rfl ?_
    refine Ex.ifc rfl rfl (fun (c0 : ¬ (q2.1 = 0)) => ?_) (fun (c0 : ¬ ¬ (q2.1 = 0)) => ?_)
    · rw [if_neg c0] at hf
      refine Ex.seg 1 (pc' := 24) (lc' := [some (.ref 55), some (.int s.1), some (.int (s.2.1 + 1))]) (st' := []) (h' := q2.2) (sg1 rfl rfl rfl) ?_
      obtain ⟨v3, e_v3, hf⟩ := bnd hf
      rw [Option.some.inj e_v3]
      refine Ex.seg 1 (pc' := 2) (lc' := [some (.ref 55), some (.int s.1), some (.int v3)]) (st' := []) (h' := q2.2) (sg1 rfl rfl rfl) ?_
      obtain rfl := Option.some.inj hf
      exact Ex.weak (sm_le_s (sm_le_s (sm_le_s sm_le_nil))) (hS1 _ hs)
    · rw [if_pos (Classical.not_not.mp c0)] at hf
      refine Ex.seg 1 (pc' := 20) (lc' := [some (.ref 55), some (.int s.1), some (.int s.2.1)]) (st' := [.int 0]) (h' := q2.2) (sg1 rfl rfl rfl) ?_
      obtain rfl := Option.some.inj hf
      exact Ex.iret rfl rfl (fun _ => by decide) hs
theorem B_199_2 {L : Nat} {xs : Nat → Int32} {d : Nat} {M : Nat} {rec : sm_H → Option (Int32 × sm_H)} (hrec : ∀ d, M ≤ d → ∀ (h : sm_H) (q : Int32 × sm_H), rec h = some q → RUN L xs d 194 [.ref 55] h (some (.int q.1), q.2)) (hd : 4 + M ≤ d) {res : Option Value × sm_H} {y1 : Int32} {y2 : Int32}  {h : sm_H} {r : (Int32 × sm_H)} (hf : F_199_2 rec y1 y2 h = some r) (hs : (fun (r : Int32 × sm_H) => res = (some (.int r.1), r.2)) r) : Ex (P_G L xs) (RUN L xs d) (sm_lk P_t199) 3 2 [some (.ref 55), some (.int y1), some (.int y2)] [] h res := by
  unfold F_199_2 at hf
  exact lp_ok (P := fun (s : (Int32 × Int32 × sm_H)) => Ex (P_G L xs) (RUN L xs d) (sm_lk P_t199) 3 2 [some (.ref 55), some (.int s.1), some (.int s.2.1)] [] s.2.2 res) (S := (fun (r : Int32 × sm_H) => res = (some (.int r.1), r.2))) (fun s x hx hsx => by
    intros
    exact B_199_2B hrec hd  (fun _ q => q) hx hsx) 1000000 _ r hf hs
theorem B_199_0 {L : Nat} {xs : Nat → Int32} {d : Nat} {M : Nat} {rec : sm_H → Option (Int32 × sm_H)} (hrec : ∀ d, M ≤ d → ∀ (h : sm_H) (q : Int32 × sm_H), rec h = some q → RUN L xs d 194 [.ref 55] h (some (.int q.1), q.2)) (hd : 4 + M ≤ d) {res : Option Value × sm_H} {x1 : Int32}  {h : sm_H} {r : (Int32 × sm_H)} (hf : F_199_0 rec x1 h = some r) (hs : (fun (r : Int32 × sm_H) => res = (some (.int r.1), r.2)) r) : Ex (P_G L xs) (RUN L xs d) (sm_lk P_t199) 3 0 [some (.ref 55), some (.int x1), none] [] h res := by
  unfold F_199_0 at hf
  refine Ex.seg 2 (pc' := 2) (lc' := [some (.ref 55), some (.int x1), some (.int 0)]) (st' := []) (h' := h) (sg1 rfl rfl (sg1 rfl rfl rfl)) ?_
  exact Ex.weak (sm_le_s (sm_le_s (sm_le_s sm_le_nil))) (B_199_2 hrec hd  hf hs)
theorem E_199 {L : Nat} {xs : Nat → Int32} {d : Nat} {M : Nat} {rec : sm_H → Option (Int32 × sm_H)} (hrec : ∀ d, M ≤ d → ∀ (h : sm_H) (q : Int32 × sm_H), rec h = some q → RUN L xs d 194 [.ref 55] h (some (.int q.1), q.2)) (hd : 5 + M ≤ d) {x1 : Int32} {h : sm_H} {r : Int32 × sm_H} (hf : F_199 rec x1 h = some r) : RUN L xs d 199 [.ref 55, .int x1] h (some (.int r.1), r.2) := by
  obtain ⟨d, rfl⟩ : ∃ e, d = e + 1 := ⟨d - 1, by omega⟩
  exact ⟨Nat.le_of_ble_eq_true rfl, B_199_0 hrec (by omega) hf rfl⟩
theorem B_207_76 {L : Nat} {xs : Nat → Int32} {d : Nat} {M : Nat} {rec : sm_H → Option (Int32 × sm_H)} (hrec : ∀ d, M ≤ d → ∀ (h : sm_H) (q : Int32 × sm_H), rec h = some q → RUN L xs d 194 [.ref 55] h (some (.int q.1), q.2)) (hd : 4 + M ≤ d) {res : Option Value × sm_H} {z0 : Int32}  {h : sm_H} {r : (Int32 × sm_H)} (hf : F_207_76 rec z0 h = some r) (hs : (fun (r : Int32 × sm_H) => res = (some (.int r.1), r.2)) r) : Ex (P_G L xs) (RUN L xs d) (sm_lk P_t207) 3 76 [none, none, none, none, none] [.int z0] h res := by
  unfold F_207_76 at hf
  rcases Classical.em (z0 = 0 ∨ z0 = 1) with c0 | c0
  · rw [if_pos c0] at hf
    obtain rfl := Option.some.inj hf
    exact Ex.iret rfl rfl (fun _ => c0) hs
  · rw [if_neg c0] at hf
    cases hf
theorem B_207_75 {L : Nat} {xs : Nat → Int32} {d : Nat} {M : Nat} {rec : sm_H → Option (Int32 × sm_H)} (hrec : ∀ d, M ≤ d → ∀ (h : sm_H) (q : Int32 × sm_H), rec h = some q → RUN L xs d 194 [.ref 55] h (some (.int q.1), q.2)) (hd : 4 + M ≤ d) {res : Option Value × sm_H}   {h : sm_H} {r : (Int32 × sm_H)} (hf : F_207_75 rec  h = some r) (hs : (fun (r : Int32 × sm_H) => res = (some (.int r.1), r.2)) r) : Ex (P_G L xs) (RUN L xs d) (sm_lk P_t207) 3 75 [none, none, none, none, none] [] h res := by
  unfold F_207_75 at hf
  refine Ex.seg 1 (pc' := 76) (lc' := [none, none, none, none, none]) (st' := [.int 0]) (h' := h) (sg1 rfl rfl rfl) ?_
  exact Ex.weak (sm_le_s (sm_le_s (sm_le_s (sm_le_s (sm_le_s sm_le_nil))))) (B_207_76 hrec hd  hf hs)
theorem B_207_0 {L : Nat} {xs : Nat → Int32} {d : Nat} {M : Nat} {rec : sm_H → Option (Int32 × sm_H)} (hrec : ∀ d, M ≤ d → ∀ (h : sm_H) (q : Int32 × sm_H), rec h = some q → RUN L xs d 194 [.ref 55] h (some (.int q.1), q.2)) (hd : 4 + M ≤ d) {res : Option Value × sm_H} {x1 : Int32}  {h : sm_H} {r : (Int32 × sm_H)} (hf : F_207_0 rec x1 h = some r) (hs : (fun (r : Int32 × sm_H) => res = (some (.int r.1), r.2)) r) : Ex (P_G L xs) (RUN L xs d) (sm_lk P_t207) 3 0 [some (.ref 55), some (.int x1), none, none, none] [] h res := by
  unfold F_207_0 at hf
  refine Ex.seg 2 (pc' := 2) (lc' := [some (.ref 55), some (.int x1), none, none, none]) (st' := [.int 4, .ref 55]) (h' := h) (sg1 rfl rfl (sg1 rfl rfl rfl)) ?_
  obtain ⟨q1, e_q1, hf⟩ := bnd hf
  refine Ex.callV (a := 55) (As := [.int 4]) (r := []) (v := some (.int q1.1)) (h' := q1.2) rfl rfl (by decide) rfl (Nat.le_of_ble_eq_true rfl) rfl (E_172 (by omega) e_q1) rfl ?_
  refine Ex.ifc rfl rfl (fun (c0 : ¬ (q1.1 = 0)) => ?_) (fun (c0 : ¬ ¬ (q1.1 = 0)) => ?_)
  · rw [if_neg c0] at hf
    refine Ex.seg 2 (pc' := 14) (lc' := [some (.ref 55), some (.int x1), none, none, none]) (st' := [.ref 52]) (h' := q1.2) (sg1 rfl rfl (sg1 rfl rfl rfl)) ?_
    obtain ⟨q2, e_q2, hf⟩ := bnd hf
    refine Ex.callV (a := 52) (As := []) (r := []) (v := some (.long q2.1)) (h' := q2.2) rfl rfl (by decide) rfl (Nat.le_of_ble_eq_true rfl) rfl (E_248 (by omega) e_q2) rfl ?_
    refine Ex.seg 2 (pc' := 19) (lc' := [some (.ref 55), some (.int x1), some (.long q2.1), none, none]) (st' := [.ref 55]) (h' := q2.2) (sg1 rfl rfl (sg1 rfl rfl rfl)) ?_
    obtain ⟨q3, e_q3, hf⟩ := bnd hf
    refine Ex.callV (a := 55) (As := []) (r := []) (v := some (.int q3.1)) (h' := q3.2) rfl rfl (by decide) rfl (Nat.le_of_ble_eq_true rfl) rfl (E_193 hrec (by omega) e_q3) rfl ?_
    refine Ex.seg 3 (pc' := 27) (lc' := [some (.ref 55), some (.int x1), some (.long q2.1), none, some (.int q3.1)]) (st' := [.int (-1), .int q3.1]) (h' := q3.2) (sg1 rfl rfl (sg1 rfl rfl (sg1 rfl rfl rfl))) ?_
    refine Ex.icmp rfl rfl (fun (c0 : ¬ (q3.1 = (-1))) => ?_) (fun (c0 : ¬ ¬ (q3.1 = (-1))) => ?_)
    · rw [if_neg c0] at hf
      refine Ex.seg 3 (pc' := 38) (lc' := [some (.ref 55), some (.int x1), some (.long q2.1), none, some (.int q3.1)]) (st' := [.int q3.1, .ref 10]) (h' := q3.2) (sg1 rfl rfl (sg1 rfl rfl (sg1 rfl rfl rfl))) ?_
      obtain ⟨q4, e_q4, hf⟩ := bnd hf
      refine Ex.callV (a := 10) (As := [.int q3.1]) (r := []) (v := some (.int q4.1)) (h' := q4.2) rfl rfl (by decide) rfl (Nat.le_of_ble_eq_true rfl) rfl (E_44 (by omega) e_q4) rfl ?_
      refine Ex.ifc rfl rfl (fun (c0 : ¬ (q4.1 = 0)) => ?_) (fun (c0 : ¬ ¬ (q4.1 = 0)) => ?_)
      · rw [if_neg c0] at hf
        refine Ex.seg 3 (pc' := 58) (lc' := [some (.ref 55), some (.int x1), some (.long q2.1), none, some (.int q3.1)]) (st' := [.long q2.1, .int q3.1, .ref 55]) (h' := q4.2) (sg1 rfl rfl (sg1 rfl rfl (sg1 rfl rfl rfl))) ?_
        obtain ⟨q5, e_q5, hf⟩ := bnd hf
        refine Ex.callV (a := 55) (As := [.int q3.1, .long q2.1]) (r := []) (v := some (.int q5.1)) (h' := q5.2) rfl rfl (by decide) rfl (Nat.le_of_ble_eq_true rfl) rfl (E_188 (by omega) e_q5) rfl ?_
        refine Ex.ifc rfl rfl (fun (c0 : q5.1 = 0) => ?_) (fun (c0 : ¬ (q5.1 = 0)) => ?_)
        · rw [if_pos c0] at hf
          exact Ex.weak (sm_le_n (sm_le_n (sm_le_n (sm_le_s (sm_le_n sm_le_nil))))) (B_207_75 hrec hd  hf hs)
        · rw [if_neg c0] at hf
          refine Ex.seg 1 (pc' := 65) (lc' := [some (.ref 55), some (.int x1), some (.long q2.1), none, some (.int q3.1)]) (st' := [.ref 55]) (h' := q5.2) (sg1 rfl rfl rfl) ?_
          obtain ⟨q6, e_q6, hf⟩ := bnd hf
          refine Ex.callV (a := 55) (As := []) (r := []) (v := some (.int q6.1)) (h' := q6.2) rfl rfl (by decide) rfl (Nat.le_of_ble_eq_true rfl) rfl (E_175 (by omega) e_q6) rfl ?_
          refine Ex.ifc rfl rfl (fun (c0 : q6.1 = 0) => ?_) (fun (c0 : ¬ (q6.1 = 0)) => ?_)
          · rw [if_pos c0] at hf
            exact Ex.weak (sm_le_n (sm_le_n (sm_le_n (sm_le_s (sm_le_n sm_le_nil))))) (B_207_75 hrec hd  hf hs)
          · rw [if_neg c0] at hf
            refine Ex.seg 2 (pc' := 76) (lc' := [some (.ref 55), some (.int x1), some (.long q2.1), none, some (.int q3.1)]) (st' := [.int 1]) (h' := q6.2) (sg1 rfl rfl (sg1 rfl rfl rfl)) ?_
            exact Ex.weak (sm_le_n (sm_le_n (sm_le_n (sm_le_s (sm_le_n sm_le_nil))))) (B_207_76 hrec hd  hf hs)
      · rw [if_pos (Classical.not_not.mp c0)] at hf
        refine Ex.seg 3 (pc' := 48) (lc' := [some (.ref 55), some (.int x1), some (.long q2.1), none, some (.int q3.1)]) (st' := [.int x1, .int 7, .ref 55]) (h' := q4.2) (sg1 rfl rfl (sg1 rfl rfl (sg1 rfl rfl rfl))) ?_
        obtain ⟨q7, e_q7, hf⟩ := bnd hf
        refine Ex.callV (a := 55) (As := [.int 7, .int x1]) (r := []) (v := some (.int q7.1)) (h' := q7.2) rfl rfl (by decide) rfl (Nat.le_of_ble_eq_true rfl) rfl (E_169 (by omega) e_q7) rfl ?_
        refine Ex.seg 2 (pc' := 53) (lc' := [some (.ref 55), some (.int x1), some (.long q2.1), none, some (.int q3.1)]) (st' := [.int 0]) (h' := q7.2) (sg1 rfl rfl (sg1 rfl rfl rfl)) ?_
        obtain rfl := Option.some.inj hf
        exact Ex.iret rfl rfl (fun _ => by decide) hs
    · rw [if_pos (Classical.not_not.mp c0)] at hf
      refine Ex.seg 1 (pc' := 31) (lc' := [some (.ref 55), some (.int x1), some (.long q2.1), none, some (.int q3.1)]) (st' := [.int 0]) (h' := q3.2) (sg1 rfl rfl rfl) ?_
      obtain rfl := Option.some.inj hf
      exact Ex.iret rfl rfl (fun _ => by decide) hs
  · rw [if_pos (Classical.not_not.mp c0)] at hf
    refine Ex.seg 1 (pc' := 9) (lc' := [some (.ref 55), some (.int x1), none, none, none]) (st' := [.int 0]) (h' := q1.2) (sg1 rfl rfl rfl) ?_
    obtain rfl := Option.some.inj hf
    exact Ex.iret rfl rfl (fun _ => by decide) hs
theorem E_207 {L : Nat} {xs : Nat → Int32} {d : Nat} {M : Nat} {rec : sm_H → Option (Int32 × sm_H)} (hrec : ∀ d, M ≤ d → ∀ (h : sm_H) (q : Int32 × sm_H), rec h = some q → RUN L xs d 194 [.ref 55] h (some (.int q.1), q.2)) (hd : 5 + M ≤ d) {x1 : Int32} {h : sm_H} {r : Int32 × sm_H} (hf : F_207 rec x1 h = some r) : RUN L xs d 207 [.ref 55, .int x1] h (some (.int r.1), r.2) := by
  obtain ⟨d, rfl⟩ : ∃ e, d = e + 1 := ⟨d - 1, by omega⟩
  exact ⟨Nat.le_of_ble_eq_true rfl, B_207_0 hrec (by omega) hf rfl⟩
theorem B_212_80 {L : Nat} {xs : Nat → Int32} {d : Nat} {M : Nat} {rec : sm_H → Option (Int32 × sm_H)} (hrec : ∀ d, M ≤ d → ∀ (h : sm_H) (q : Int32 × sm_H), rec h = some q → RUN L xs d 194 [.ref 55] h (some (.int q.1), q.2)) (hd : 5 + M ≤ d) {res : Option Value × sm_H}   {h : sm_H} {r : (Int32 × sm_H)} (hf : F_212_80 rec  h = some r) (hs : (fun (r : Int32 × sm_H) => res = (some (.int r.1), r.2)) r) : Ex (P_G L xs) (RUN L xs d) (sm_lk P_t212) 0 80 [none, none, none, none] [] h res := by
  unfold F_212_80 at hf
  refine Ex.seg 1 (pc' := 81) (lc' := [none, none, none, none]) (st' := [.int 0]) (h' := h) (sg1 rfl rfl rfl) ?_
  obtain rfl := Option.some.inj hf
  exact Ex.iret rfl rfl (fun c0 => by cases c0) hs
theorem B_212_58 {L : Nat} {xs : Nat → Int32} {d : Nat} {M : Nat} {rec : sm_H → Option (Int32 × sm_H)} (hrec : ∀ d, M ≤ d → ∀ (h : sm_H) (q : Int32 × sm_H), rec h = some q → RUN L xs d 194 [.ref 55] h (some (.int q.1), q.2)) (hd : 5 + M ≤ d) {res : Option Value × sm_H} {S1 : (Int32 × Int32 × sm_H) → Prop} (hS1 : ∀ s, S1 s → Ex (P_G L xs) (RUN L xs d) (sm_lk P_t212) 0 11 [some (.ref 55), some (.int s.1), some (.int s.2.1), none] [] s.2.2 res) {y1 : Int32} {y2 : Int32}  {h : sm_H} {r : ((Int32 × Int32 × sm_H) ⊕ (Int32 × sm_H))} (hf : F_212_58 rec y1 y2 h = some r) (hs : (Sum.elim S1 (fun (r : Int32 × sm_H) => res = (some (.int r.1), r.2))) r) : Ex (P_G L xs) (RUN L xs d) (sm_lk P_t212) 0 58 [some (.ref 55), some (.int y1), some (.int y2), none] [] h res := by
  unfold F_212_58 at hf
  refine Ex.seg 2 (pc' := 62) (lc' := [some (.ref 55), some (.int y1), some (.int y2), none]) (st' := [.int (h.1 55 17)]) (h' := h) (sg1 rfl rfl (sg1 rfl rfl rfl)) ?_
  refine Ex.ifc rfl rfl (fun (c0 : ¬ ((h.1 55 17) = 0)) => ?_) (fun (c0 : ¬ ¬ ((h.1 55 17) = 0)) => ?_)
  · rw [if_neg c0] at hf
    obtain ⟨r0, hf0, rfl⟩ := Option.map_eq_some_iff.mp hf
    exact Ex.weak (sm_le_n (sm_le_n (sm_le_n (sm_le_s sm_le_nil)))) (B_212_80 hrec hd  hf0 hs)
  · rw [if_pos (Classical.not_not.mp c0)] at hf
    refine Ex.seg 1 (pc' := 66) (lc' := [some (.ref 55), some (.int y1), some (.int y2), none]) (st' := [.ref 55]) (h' := h) (sg1 rfl rfl rfl) ?_
    obtain ⟨q1, e_q1, hf⟩ := bnd hf
    refine Ex.callV (a := 55) (As := []) (r := []) (v := some (.int q1.1)) (h' := q1.2) rfl rfl (by decide) rfl (Nat.le_of_ble_eq_true rfl) rfl (E_173 (by omega) e_q1) rfl ?_
    refine Ex.ifc rfl rfl (fun (c0 : q1.1 = 0) => ?_) (fun (c0 : ¬ (q1.1 = 0)) => ?_)
    · rw [if_pos c0] at hf
      obtain ⟨r0, hf0, rfl⟩ := Option.map_eq_some_iff.mp hf
      exact Ex.weak (sm_le_n (sm_le_n (sm_le_n (sm_le_s sm_le_nil)))) (B_212_80 hrec hd  hf0 hs)
    · rw [if_neg c0] at hf
      refine Ex.seg 2 (pc' := 74) (lc' := [some (.ref 55), some (.int y1), some (.int y2), none]) (st' := [.int y1, .ref 55]) (h' := q1.2) (sg1 rfl rfl (sg1 rfl rfl rfl)) ?_
      obtain ⟨q2, e_q2, hf⟩ := bnd hf
      refine Ex.callV (a := 55) (As := [.int y1]) (r := []) (v := some (.int q2.1)) (h' := q2.2) rfl rfl (by decide) rfl (Nat.le_of_ble_eq_true rfl) rfl (E_207 hrec (by omega) e_q2) rfl ?_
      refine Ex.ifc rfl rfl (fun (c0 : ¬ (q2.1 = 0)) => ?_) (fun (c0 : ¬ ¬ (q2.1 = 0)) => ?_)
      · rw [if_neg c0] at hf
        refine Ex.seg 1 (pc' := 85) (lc' := [some (.ref 55), some (.int y1), some (.int (y2 + 1)), none]) (st' := []) (h' := q2.2) (sg1 rfl rfl rfl) ?_
        obtain ⟨v3, e_v3, hf⟩ := bnd hf
        rw [Option.some.inj e_v3]
        refine Ex.seg 1 (pc' := 11) (lc' := [some (.ref 55), some (.int y1), some (.int v3), none]) (st' := []) (h' := q2.2) (sg1 rfl rfl rfl) ?_
        obtain rfl := Option.some.inj hf
        exact Ex.weak (sm_le_s (sm_le_s (sm_le_s (sm_le_s sm_le_nil)))) (hS1 _ hs)
      · rw [if_pos (Classical.not_not.mp c0)] at hf
        obtain ⟨r0, hf0, rfl⟩ := Option.map_eq_some_iff.mp hf
        exact Ex.weak (sm_le_n (sm_le_n (sm_le_n (sm_le_s sm_le_nil)))) (B_212_80 hrec hd  hf0 hs)
theorem B_212_52 {L : Nat} {xs : Nat → Int32} {d : Nat} {M : Nat} {rec : sm_H → Option (Int32 × sm_H)} (hrec : ∀ d, M ≤ d → ∀ (h : sm_H) (q : Int32 × sm_H), rec h = some q → RUN L xs d 194 [.ref 55] h (some (.int q.1), q.2)) (hd : 5 + M ≤ d) {res : Option Value × sm_H} {S1 : (Int32 × Int32 × sm_H) → Prop} (hS1 : ∀ s, S1 s → Ex (P_G L xs) (RUN L xs d) (sm_lk P_t212) 0 11 [some (.ref 55), some (.int s.1), some (.int s.2.1), none] [] s.2.2 res) {y1 : Int32} {y2 : Int32}  {h : sm_H} {r : ((Int32 × Int32 × sm_H) ⊕ (Int32 × sm_H))} (hf : F_212_52 rec y1 y2 h = some r) (hs : (Sum.elim S1 (fun (r : Int32 × sm_H) => res = (some (.int r.1), r.2))) r) : Ex (P_G L xs) (RUN L xs d) (sm_lk P_t212) 0 52 [some (.ref 55), some (.int y1), some (.int y2), none] [] h res := by
  unfold F_212_52 at hf
  refine Ex.seg 2 (pc' := 54) (lc' := [some (.ref 55), some (.int y1), some (.int y2), none]) (st' := [.int 4, .ref 55]) (h' := h) (sg1 rfl rfl (sg1 rfl rfl rfl)) ?_
  obtain ⟨q4, e_q4, hf⟩ := bnd hf
  refine Ex.callV (a := 55) (As := [.int 4]) (r := []) (v := some (.int q4.1)) (h' := q4.2) rfl rfl (by decide) rfl (Nat.le_of_ble_eq_true rfl) rfl (E_170 (by omega) e_q4) rfl ?_
  refine Ex.seg 1 (pc' := 58) (lc' := [some (.ref 55), some (.int y1), some (.int y2), none]) (st' := []) (h' := q4.2) (sg1 rfl rfl rfl) ?_
  exact Ex.weak (sm_le_s (sm_le_s (sm_le_s (sm_le_s sm_le_nil)))) (B_212_58 hrec hd hS1 hf hs)
theorem B_212_42 {L : Nat} {xs : Nat → Int32} {d : Nat} {M : Nat} {rec : sm_H → Option (Int32 × sm_H)} (hrec : ∀ d, M ≤ d → ∀ (h : sm_H) (q : Int32 × sm_H), rec h = some q → RUN L xs d 194 [.ref 55] h (some (.int q.1), q.2)) (hd : 5 + M ≤ d) {res : Option Value × sm_H} {S1 : (Int32 × Int32 × sm_H) → Prop} (hS1 : ∀ s, S1 s → Ex (P_G L xs) (RUN L xs d) (sm_lk P_t212) 0 11 [some (.ref 55), some (.int s.1), some (.int s.2.1), none] [] s.2.2 res) {y1 : Int32} {y2 : Int32} {y3 : Int32}  {h : sm_H} {r : ((Int32 × Int32 × sm_H) ⊕ (Int32 × sm_H))} (hf : F_212_42 rec y1 y2 y3 h = some r) (hs : (Sum.elim S1 (fun (r : Int32 × sm_H) => res = (some (.int r.1), r.2))) r) : Ex (P_G L xs) (RUN L xs d) (sm_lk P_t212) 0 42 [some (.ref 55), some (.int y1), some (.int y2), some (.int y3)] [] h res := by
  unfold F_212_42 at hf
  refine Ex.seg 2 (pc' := 44) (lc' := [some (.ref 55), some (.int y1), some (.int y2), some (.int y3)]) (st' := [.int 1, .int y3]) (h' := h) (sg1 rfl rfl (sg1 rfl rfl rfl)) ?_
  refine Ex.icmp rfl rfl (fun (c0 : ¬ (y3 = 1)) => ?_) (fun (c0 : ¬ ¬ (y3 = 1)) => ?_)
  · rw [if_neg c0] at hf
    exact Ex.weak (sm_le_s (sm_le_s (sm_le_s (sm_le_n sm_le_nil)))) (B_212_52 hrec hd hS1 hf hs)
  · rw [if_pos (Classical.not_not.mp c0)] at hf
    refine Ex.seg 2 (pc' := 49) (lc' := [some (.ref 55), some (.int y1), some (.int y2), some (.int y3)]) (st' := [.int 3, .int y2]) (h' := h) (sg1 rfl rfl (sg1 rfl rfl rfl)) ?_
    refine Ex.icmp rfl rfl (fun (c0 : ¬ (y2 = 3)) => ?_) (fun (c0 : ¬ ¬ (y2 = 3)) => ?_)
    · rw [if_neg c0] at hf
      exact Ex.weak (sm_le_s (sm_le_s (sm_le_s (sm_le_n sm_le_nil)))) (B_212_58 hrec hd hS1 hf hs)
    · rw [if_pos (Classical.not_not.mp c0)] at hf
      exact Ex.weak (sm_le_s (sm_le_s (sm_le_s (sm_le_n sm_le_nil)))) (B_212_52 hrec hd hS1 hf hs)
theorem B_212_11B {L : Nat} {xs : Nat → Int32} {d : Nat} {M : Nat} {rec : sm_H → Option (Int32 × sm_H)} (hrec : ∀ d, M ≤ d → ∀ (h : sm_H) (q : Int32 × sm_H), rec h = some q → RUN L xs d 194 [.ref 55] h (some (.int q.1), q.2)) (hd : 5 + M ≤ d) {res : Option Value × sm_H} {S1 : (Int32 × Int32 × sm_H) → Prop} (hS1 : ∀ s, S1 s → Ex (P_G L xs) (RUN L xs d) (sm_lk P_t212) 0 11 [some (.ref 55), some (.int s.1), some (.int s.2.1), none] [] s.2.2 res) {s : (Int32 × Int32 × sm_H)}  {r : ((Int32 × Int32 × sm_H) ⊕ (Int32 × sm_H))} (hf : F_212_11B rec s = some r) (hs : (Sum.elim S1 (fun (r : Int32 × sm_H) => res = (some (.int r.1), r.2))) r) : Ex (P_G L xs) (RUN L xs d) (sm_lk P_t212) 0 11 [some (.ref 55), some (.int s.1), some (.int s.2.1), none] [] s.2.2 res := by
  unfold F_212_11B at hf
  refine Ex.seg 2 (pc' := 13) (lc' := [some (.ref 55), some (.int s.1), some (.int s.2.1), none]) (st' := [.int 3, .int s.2.1]) (h' := s.2.2) (sg1 rfl rfl (sg1 rfl rfl rfl)) ?_
  refine Ex.icmp rfl rfl (fun (c0 : 3 < s.2.1) => ?_) (fun (c0 : ¬ (3 < s.2.1)) => ?_)
  · rw [if_pos c0] at hf
    refine Ex.seg 1 (pc' := 89) (lc' := [some (.ref 55), some (.int s.1), some (.int s.2.1), none]) (st' := [.int 0]) (h' := s.2.2) (sg1 rfl rfl rfl) ?_
    obtain rfl := Option.some.inj hf
    exact Ex.iret rfl rfl (fun c0 => by cases c0) hs
  · rw [if_neg c0] at hf
    refine Ex.seg 1 (pc' := 17) (lc' := [some (.ref 55), some (.int s.1), some (.int s.2.1), none]) (st' := [.ref 55]) (h' := s.2.2) (sg1 rfl rfl rfl) ?_
    obtain ⟨q5, e_q5, hf⟩ := bnd hf
    refine Ex.callV (a := 55) (As := []) (r := []) (v := some (.int q5.1)) (h' := q5.2) rfl rfl (by decide) rfl (Nat.le_of_ble_eq_true rfl) rfl (E_171 (by omega) e_q5) rfl ?_
    refine Ex.seg 3 (pc' := 23) (lc' := [some (.ref 55), some (.int s.1), some (.int s.2.1), some (.int q5.1)]) (st' := [.int 2, .int q5.1]) (h' := q5.2) (sg1 rfl rfl (sg1 rfl rfl (sg1 rfl rfl rfl))) ?_
    refine Ex.icmp rfl rfl (fun (c0 : ¬ (q5.1 = 2)) => ?_) (fun (c0 : ¬ ¬ (q5.1 = 2)) => ?_)
    · rw [if_neg c0] at hf
      exact Ex.weak (sm_le_s (sm_le_s (sm_le_s (sm_le_s sm_le_nil)))) (B_212_42 hrec hd hS1 hf hs)
    · rw [if_pos (Classical.not_not.mp c0)] at hf
      refine Ex.seg 1 (pc' := 27) (lc' := [some (.ref 55), some (.int s.1), some (.int s.2.1), some (.int q5.1)]) (st' := [.int s.2.1]) (h' := q5.2) (sg1 rfl rfl rfl) ?_
      refine Ex.ifc rfl rfl (fun (c0 : s.2.1 ≤ 0) => ?_) (fun (c0 : ¬ (s.2.1 ≤ 0)) => ?_)
      · rw [if_pos c0] at hf
        exact Ex.weak (sm_le_s (sm_le_s (sm_le_s (sm_le_s sm_le_nil)))) (B_212_42 hrec hd hS1 hf hs)
      · rw [if_neg c0] at hf
        refine Ex.seg 6 (pc' := 40) (lc' := [some (.ref 55), some (.int s.1), some (.int s.2.1), some (.int q5.1)]) (st' := []) (h' := (sm_wI q5.2 55 16 ((q5.2.1 55 16) - 1))) (sg1 rfl rfl (sg1 rfl rfl (sg1 rfl rfl (sg1 rfl rfl (sg1 rfl rfl (sg1 rfl rfl rfl)))))) ?_
        obtain ⟨h6, e_h6, hf⟩ := bnd hf
        rw [Option.some.inj e_h6]
        refine Ex.seg 1 (pc' := 41) (lc' := [some (.ref 55), some (.int s.1), some (.int s.2.1), some (.int q5.1)]) (st' := [.int s.2.1]) (h' := h6) (sg1 rfl rfl rfl) ?_
        obtain rfl := Option.some.inj hf
        exact Ex.iret rfl rfl (fun c0 => by cases c0) hs
theorem B_212_11 {L : Nat} {xs : Nat → Int32} {d : Nat} {M : Nat} {rec : sm_H → Option (Int32 × sm_H)} (hrec : ∀ d, M ≤ d → ∀ (h : sm_H) (q : Int32 × sm_H), rec h = some q → RUN L xs d 194 [.ref 55] h (some (.int q.1), q.2)) (hd : 5 + M ≤ d) {res : Option Value × sm_H} {y1 : Int32} {y2 : Int32}  {h : sm_H} {r : (Int32 × sm_H)} (hf : F_212_11 rec y1 y2 h = some r) (hs : (fun (r : Int32 × sm_H) => res = (some (.int r.1), r.2)) r) : Ex (P_G L xs) (RUN L xs d) (sm_lk P_t212) 0 11 [some (.ref 55), some (.int y1), some (.int y2), none] [] h res := by
  unfold F_212_11 at hf
  exact lp_ok (P := fun (s : (Int32 × Int32 × sm_H)) => Ex (P_G L xs) (RUN L xs d) (sm_lk P_t212) 0 11 [some (.ref 55), some (.int s.1), some (.int s.2.1), none] [] s.2.2 res) (S := (fun (r : Int32 × sm_H) => res = (some (.int r.1), r.2))) (fun s x hx hsx => by
    intros
    exact B_212_11B hrec hd  (fun _ q => q) hx hsx) 1000000 _ r hf hs
theorem B_212_0 {L : Nat} {xs : Nat → Int32} {d : Nat} {M : Nat} {rec : sm_H → Option (Int32 × sm_H)} (hrec : ∀ d, M ≤ d → ∀ (h : sm_H) (q : Int32 × sm_H), rec h = some q → RUN L xs d 194 [.ref 55] h (some (.int q.1), q.2)) (hd : 5 + M ≤ d) {res : Option Value × sm_H} {x1 : Int32}  {h : sm_H} {r : (Int32 × sm_H)} (hf : F_212_0 rec x1 h = some r) (hs : (fun (r : Int32 × sm_H) => res = (some (.int r.1), r.2)) r) : Ex (P_G L xs) (RUN L xs d) (sm_lk P_t212) 0 0 [some (.ref 55), some (.int x1), none, none] [] h res := by
  unfold F_212_0 at hf
  refine Ex.seg 1 (pc' := 1) (lc' := [some (.ref 55), some (.int x1), none, none]) (st' := [.ref 55]) (h' := h) (sg1 rfl rfl rfl) ?_
  obtain ⟨q7, e_q7, hf⟩ := bnd hf
  refine Ex.callV (a := 55) (As := []) (r := []) (v := some (.int q7.1)) (h' := q7.2) rfl rfl (by decide) rfl (Nat.le_of_ble_eq_true rfl) rfl (E_174 (by omega) e_q7) rfl ?_
  refine Ex.ifc rfl rfl (fun (c0 : ¬ (q7.1 = 0)) => ?_) (fun (c0 : ¬ ¬ (q7.1 = 0)) => ?_)
  · rw [if_neg c0] at hf
    refine Ex.seg 2 (pc' := 11) (lc' := [some (.ref 55), some (.int x1), some (.int 0), none]) (st' := []) (h' := q7.2) (sg1 rfl rfl (sg1 rfl rfl rfl)) ?_
    exact Ex.weak (sm_le_s (sm_le_s (sm_le_s (sm_le_s sm_le_nil)))) (B_212_11 hrec hd  hf hs)
  · rw [if_pos (Classical.not_not.mp c0)] at hf
    refine Ex.seg 1 (pc' := 8) (lc' := [some (.ref 55), some (.int x1), none, none]) (st' := [.int 0]) (h' := q7.2) (sg1 rfl rfl rfl) ?_
    obtain rfl := Option.some.inj hf
    exact Ex.iret rfl rfl (fun c0 => by cases c0) hs
theorem E_212 {L : Nat} {xs : Nat → Int32} {d : Nat} {M : Nat} {rec : sm_H → Option (Int32 × sm_H)} (hrec : ∀ d, M ≤ d → ∀ (h : sm_H) (q : Int32 × sm_H), rec h = some q → RUN L xs d 194 [.ref 55] h (some (.int q.1), q.2)) (hd : 6 + M ≤ d) {x1 : Int32} {h : sm_H} {r : Int32 × sm_H} (hf : F_212 rec x1 h = some r) : RUN L xs d 212 [.ref 55, .int x1] h (some (.int r.1), r.2) := by
  obtain ⟨d, rfl⟩ : ∃ e, d = e + 1 := ⟨d - 1, by omega⟩
  exact ⟨Nat.le_of_ble_eq_true rfl, B_212_0 hrec (by omega) hf rfl⟩
theorem B_89_163 {L : Nat} {xs : Nat → Int32} {d : Nat} {M : Nat} {rec : Int32 → Int32 → sm_H → Option (Int32 × sm_H)} (hrec : ∀ d, M ≤ d → ∀ (x1 x2 : Int32) (h : sm_H) (q : Int32 × sm_H), rec x1 x2 h = some q → RUN L xs d 82 [.ref 49, .int x1, .int x2] h (some (.int q.1), q.2)) (hd : 4 + M ≤ d) {res : Option Value × sm_H} {z0 : Int32}  {h : sm_H} {r : (Int32 × sm_H)} (hf : F_89_163 rec z0 h = some r) (hs : (fun (r : Int32 × sm_H) => res = (some (.int r.1), r.2)) r) : Ex (P_G L xs) (RUN L xs d) (sm_lk P_t89) 0 163 [none, none, none, none, none, none, none, none] [.int z0] h res := by
  unfold F_89_163 at hf
  obtain rfl := Option.some.inj hf
  exact Ex.iret rfl rfl (fun c0 => by cases c0) hs
theorem B_89_3B {L : Nat} {xs : Nat → Int32} {d : Nat} {M : Nat} {rec : Int32 → Int32 → sm_H → Option (Int32 × sm_H)} (hrec : ∀ d, M ≤ d → ∀ (x1 x2 : Int32) (h : sm_H) (q : Int32 × sm_H), rec x1 x2 h = some q → RUN L xs d 82 [.ref 49, .int x1, .int x2] h (some (.int q.1), q.2)) (hd : 4 + M ≤ d) {res : Option Value × sm_H} {S1 : (Int32 × Int32 × Int32 × Int32 × Int32 × Int32 × sm_H) → Prop} (hS1 : ∀ s, S1 s → Ex (P_G L xs) (RUN L xs d) (sm_lk P_t89) 0 3 [some (.ref 49), some (.int s.1), some (.int s.2.1), some (.int s.2.2.1), some (.int s.2.2.2.1), some (.int s.2.2.2.2.1), some (.int s.2.2.2.2.2.1), none] [] s.2.2.2.2.2.2 res) {s : (Int32 × Int32 × Int32 × Int32 × Int32 × Int32 × sm_H)}  {r : ((Int32 × Int32 × Int32 × Int32 × Int32 × Int32 × sm_H) ⊕ (Int32 × sm_H))} (hf : F_89_3B rec s = some r) (hs : (Sum.elim S1 (fun (r : Int32 × sm_H) => res = (some (.int r.1), r.2))) r) : Ex (P_G L xs) (RUN L xs d) (sm_lk P_t89) 0 3 [some (.ref 49), some (.int s.1), some (.int s.2.1), some (.int s.2.2.1), some (.int s.2.2.2.1), some (.int s.2.2.2.2.1), some (.int s.2.2.2.2.2.1), none] [] s.2.2.2.2.2.2 res := by
  unfold F_89_3B at hf
  refine Ex.seg 4 (pc' := 10) (lc' := [some (.ref 49), some (.int s.1), some (.int s.2.1), some (.int s.2.2.1), some (.int s.2.2.2.1), some (.int s.2.2.2.2.1), some (.int s.2.2.2.2.2.1), none]) (st' := [.int s.1, .ref 10, .int s.2.2.2.2.2.1]) (h' := s.2.2.2.2.2.2) (sg1 rfl rfl (sg1 rfl rfl (sg1 rfl rfl (sg1 rfl rfl rfl)))) ?_
  obtain ⟨q1, e_q1, hf⟩ := bnd hf
  refine Ex.callV (a := 10) (As := [.int s.1]) (r := [.int s.2.2.2.2.2.1]) (v := some (.int q1.1)) (h' := q1.2) rfl rfl (by decide) rfl (Nat.le_of_ble_eq_true rfl) rfl (E_45 (by omega) e_q1) rfl ?_
  refine Ex.icmp rfl rfl (fun (c0 : q1.1 ≤ s.2.2.2.2.2.1) => ?_) (fun (c0 : ¬ (q1.1 ≤ s.2.2.2.2.2.1)) => ?_)
  · rw [if_pos c0] at hf
    refine Ex.seg 5 (pc' := 111) (lc' := [some (.ref 49), some (.int s.1), some (.int s.2.1), some (.int s.2.2.1), some (.int s.2.2.2.1), some (.int s.2.2.2.2.1), some (.int s.2.2.2.2.2.1), none]) (st' := [.int (s.2.2.2.1 + 1), .int s.1, .ref 49]) (h' := q1.2) (sg1 rfl rfl (sg1 rfl rfl (sg1 rfl rfl (sg1 rfl rfl (sg1 rfl rfl rfl))))) ?_
    obtain ⟨q2, e_q2, hf⟩ := bnd hf
    refine Ex.callV (a := 49) (As := [.int s.1, .int (s.2.2.2.1 + 1)]) (r := []) (v := some (.int q2.1)) (h' := q2.2) rfl rfl (by decide) rfl (Nat.le_of_ble_eq_true rfl) rfl (hrec d (by omega) _ _ _ _ e_q2) rfl ?_
    refine Ex.seg 2 (pc' := 118) (lc' := [some (.ref 49), some (.int s.1), some (.int s.2.1), some (.int s.2.2.1), some (.int s.2.2.2.1), some (.int s.2.2.2.2.1), some (.int q2.1), none]) (st' := [.int q2.1]) (h' := q2.2) (sg1 rfl rfl (sg1 rfl rfl rfl)) ?_
    refine Ex.ifc rfl rfl (fun (c0 : q2.1 = 0) => ?_) (fun (c0 : ¬ (q2.1 = 0)) => ?_)
    · rw [if_pos c0] at hf
      refine Ex.seg 4 (pc' := 130) (lc' := [some (.ref 49), some (.int s.1), some (.int s.2.1), some (.int s.2.2.1), some (.int s.2.2.2.1), some (.int s.2.2.2.2.1), some (.int q2.1), none]) (st' := [.int s.1, .ref 10, .ref 49]) (h' := q2.2) (sg1 rfl rfl (sg1 rfl rfl (sg1 rfl rfl (sg1 rfl rfl rfl)))) ?_
      obtain ⟨q3, e_q3, hf⟩ := bnd hf
      refine Ex.callV (a := 10) (As := [.int s.1]) (r := [.ref 49]) (v := some (.int q3.1)) (h' := q3.2) rfl rfl (by decide) rfl (Nat.le_of_ble_eq_true rfl) rfl (E_44 (by omega) e_q3) rfl ?_
      refine Ex.seg 3 (pc' := 138) (lc' := [some (.ref 49), some (.int s.1), some (.int s.2.1), some (.int s.2.2.1), some (.int s.2.2.2.1), some (.int s.2.2.2.2.1), some (.int q2.1), none]) (st' := [.int s.2.1, .ref 5, .int q3.1, .ref 49]) (h' := q3.2) (sg1 rfl rfl (sg1 rfl rfl (sg1 rfl rfl rfl))) ?_
      obtain ⟨q4, e_q4, hf⟩ := bnd hf
      refine Ex.callV (a := 5) (As := [.int s.2.1]) (r := [.int q3.1, .ref 49]) (v := some (.int q4.1)) (h' := q4.2) rfl rfl (by decide) rfl (Nat.le_of_ble_eq_true rfl) rfl (E_225 (by omega) e_q4) rfl ?_
      refine Ex.seg 1 (pc' := 143) (lc' := [some (.ref 49), some (.int s.1), some (.int s.2.1), some (.int s.2.2.1), some (.int s.2.2.2.1), some (.int s.2.2.2.2.1), some (.int q2.1), none]) (st' := [.int s.2.2.2.2.1, .int q4.1, .int q3.1, .ref 49]) (h' := q4.2) (sg1 rfl rfl rfl) ?_
      obtain ⟨q5, e_q5, hf⟩ := bnd hf
      refine Ex.callV (a := 49) (As := [.int q3.1, .int q4.1, .int s.2.2.2.2.1]) (r := []) (v := some (.int q5.1)) (h' := q5.2) rfl rfl (by decide) rfl (Nat.le_of_ble_eq_true rfl) rfl (E_90 (by omega) e_q5) rfl ?_
      refine Ex.seg 2 (pc' := 150) (lc' := [some (.ref 49), some (.int s.1), some (.int s.2.1), some (.int s.2.2.1), some (.int s.2.2.2.1), some (.int s.2.2.2.2.1), some (.int q2.1), some (.int q5.1)]) (st' := [.int q5.1]) (h' := q5.2) (sg1 rfl rfl (sg1 rfl rfl rfl)) ?_
      refine Ex.ifc rfl rfl (fun (c0 : ¬ (q5.1 = 0)) => ?_) (fun (c0 : ¬ ¬ (q5.1 = 0)) => ?_)
      · rw [if_neg c0] at hf
        refine Ex.seg 2 (pc' := 160) (lc' := [some (.ref 49), some (.int s.1), some (.int s.2.1), some (.int s.2.2.1), some (.int s.2.2.2.1), some (.int s.2.2.2.2.1), some (.int q2.1), some (.int q5.1)]) (st' := [.int q5.1, .ref 49]) (h' := q5.2) (sg1 rfl rfl (sg1 rfl rfl rfl)) ?_
        obtain ⟨q6, e_q6, hf⟩ := bnd hf
        refine Ex.callV (a := 49) (As := [.int q5.1]) (r := []) (v := some (.int q6.1)) (h' := q6.2) rfl rfl (by decide) rfl (Nat.le_of_ble_eq_true rfl) rfl (E_76 (by omega) e_q6) rfl ?_
        obtain ⟨r0, hf0, rfl⟩ := Option.map_eq_some_iff.mp hf
        exact Ex.weak (sm_le_n (sm_le_n (sm_le_n (sm_le_n (sm_le_n (sm_le_n (sm_le_n (sm_le_n sm_le_nil)))))))) (B_89_163 hrec hd  hf0 hs)
      · rw [if_pos (Classical.not_not.mp c0)] at hf
        refine Ex.seg 2 (pc' := 163) (lc' := [some (.ref 49), some (.int s.1), some (.int s.2.1), some (.int s.2.2.1), some (.int s.2.2.2.1), some (.int s.2.2.2.2.1), some (.int q2.1), some (.int q5.1)]) (st' := [.int 0]) (h' := q5.2) (sg1 rfl rfl (sg1 rfl rfl rfl)) ?_
        obtain ⟨r0, hf0, rfl⟩ := Option.map_eq_some_iff.mp hf
        exact Ex.weak (sm_le_n (sm_le_n (sm_le_n (sm_le_n (sm_le_n (sm_le_n (sm_le_n (sm_le_n sm_le_nil)))))))) (B_89_163 hrec hd  hf0 hs)
    · rw [if_neg c0] at hf
      refine Ex.seg 1 (pc' := 123) (lc' := [some (.ref 49), some (.int s.1), some (.int s.2.1), some (.int s.2.2.1), some (.int s.2.2.2.1), some (.int s.2.2.2.2.1), some (.int q2.1), none]) (st' := [.int q2.1]) (h' := q2.2) (sg1 rfl rfl rfl) ?_
      obtain rfl := Option.some.inj hf
      exact Ex.iret rfl rfl (fun c0 => by cases c0) hs
  · rw [if_neg c0] at hf
    refine Ex.seg 6 (pc' := 24) (lc' := [some (.ref 49), some (.int s.1), some (.int s.2.1), some (.int s.2.2.1), some (.int s.2.2.2.1), some (.int s.2.2.2.2.1), some (.int s.2.2.2.2.2.1), none]) (st' := [.int (s.2.2.1 + s.2.2.2.2.2.1), .int s.2.2.2.1, .ref 49, .ref 49]) (h' := q1.2) (sg1 rfl rfl (sg1 rfl rfl (sg1 rfl rfl (sg1 rfl rfl (sg1 rfl rfl (sg1 rfl rfl rfl)))))) ?_
    obtain ⟨q7, e_q7, hf⟩ := bnd hf
    refine Ex.callV (a := 49) (As := [.int s.2.2.2.1, .int (s.2.2.1 + s.2.2.2.2.2.1)]) (r := [.ref 49]) (v := some (.long q7.1)) (h' := q7.2) rfl rfl (by decide) rfl (Nat.le_of_ble_eq_true rfl) rfl (E_77 (by omega) e_q7) rfl ?_
    refine Ex.seg 5 (pc' := 34) (lc' := [some (.ref 49), some (.int s.1), some (.int s.2.1), some (.int s.2.2.1), some (.int s.2.2.2.1), some (.int s.2.2.2.2.1), some (.int s.2.2.2.2.2.1), none]) (st' := [.int (s.2.2.1 + s.2.2.2.2.2.1), .int s.2.2.2.1, .ref 49, .long q7.1, .ref 49]) (h' := q7.2) (sg1 rfl rfl (sg1 rfl rfl (sg1 rfl rfl (sg1 rfl rfl (sg1 rfl rfl rfl))))) ?_
    obtain ⟨q8, e_q8, hf⟩ := bnd hf
    refine Ex.callV (a := 49) (As := [.int s.2.2.2.1, .int (s.2.2.1 + s.2.2.2.2.2.1)]) (r := [.long q7.1, .ref 49]) (v := some (.int q8.1)) (h' := q8.2) rfl rfl (by decide) rfl (Nat.le_of_ble_eq_true rfl) rfl (E_78 (by omega) e_q8) rfl ?_
    obtain ⟨q9, e_q9, hf⟩ := bnd hf
    refine Ex.callV (a := 49) (As := [.long q7.1, .int q8.1]) (r := []) (v := some (.int q9.1)) (h' := q9.2) rfl rfl (by decide) rfl (Nat.le_of_ble_eq_true rfl) rfl (E_75 (by omega) e_q9) rfl ?_
    refine Ex.seg 6 (pc' := 49) (lc' := [some (.ref 49), some (.int s.1), some (.int s.2.1), some (.int s.2.2.1), some (.int s.2.2.2.1), some (.int s.2.2.2.2.1), some (.int s.2.2.2.2.2.1), none]) (st' := [.int s.2.2.2.2.2.1, .int s.2.1, .ref 5, .ref 49]) (h' := q9.2) (sg1 rfl rfl (sg1 rfl rfl (sg1 rfl rfl (sg1 rfl rfl (sg1 rfl rfl (sg1 rfl rfl rfl)))))) ?_
    obtain ⟨q10, e_q10, hf⟩ := bnd hf
    refine Ex.callV (a := 5) (As := [.int s.2.1, .int s.2.2.2.2.2.1]) (r := [.ref 49]) (v := some (.int q10.1)) (h' := q10.2) rfl rfl (by decide) rfl (Nat.le_of_ble_eq_true rfl) rfl (E_227 (by omega) e_q10) rfl ?_
    refine Ex.seg 4 (pc' := 59) (lc' := [some (.ref 49), some (.int s.1), some (.int s.2.1), some (.int s.2.2.1), some (.int s.2.2.2.1), some (.int s.2.2.2.2.1), some (.int s.2.2.2.2.2.1), none]) (st' := [.int s.2.2.2.2.2.1, .int s.1, .ref 10, .int q10.1, .ref 49]) (h' := q10.2) (sg1 rfl rfl (sg1 rfl rfl (sg1 rfl rfl (sg1 rfl rfl rfl)))) ?_
    obtain ⟨q11, e_q11, hf⟩ := bnd hf
    refine Ex.callV (a := 10) (As := [.int s.1, .int s.2.2.2.2.2.1]) (r := [.int q10.1, .ref 49]) (v := some (.int q11.1)) (h' := q11.2) rfl rfl (by decide) rfl (Nat.le_of_ble_eq_true rfl) rfl (E_46 (by omega) e_q11) rfl ?_
    refine Ex.seg 1 (pc' := 64) (lc' := [some (.ref 49), some (.int s.1), some (.int s.2.1), some (.int s.2.2.1), some (.int s.2.2.2.1), some (.int s.2.2.2.2.1), some (.int s.2.2.2.2.2.1), none]) (st' := [.int s.2.2.2.2.1, .int q11.1, .int q10.1, .ref 49]) (h' := q11.2) (sg1 rfl rfl rfl) ?_
    obtain ⟨q12, e_q12, hf⟩ := bnd hf
    refine Ex.callV (a := 49) (As := [.int q10.1, .int q11.1, .int s.2.2.2.2.1]) (r := []) (v := some (.int q12.1)) (h' := q12.2) rfl rfl (by decide) rfl (Nat.le_of_ble_eq_true rfl) rfl (E_90 (by omega) e_q12) rfl ?_
    refine Ex.seg 2 (pc' := 71) (lc' := [some (.ref 49), some (.int s.1), some (.int s.2.1), some (.int s.2.2.1), some (.int s.2.2.2.1), some (.int s.2.2.2.2.1), some (.int s.2.2.2.2.2.1), some (.int q12.1)]) (st' := [.int q12.1]) (h' := q12.2) (sg1 rfl rfl (sg1 rfl rfl rfl)) ?_
    refine Ex.ifc rfl rfl (fun (c0 : q12.1 = 0) => ?_) (fun (c0 : ¬ (q12.1 = 0)) => ?_)
    · rw [if_pos c0] at hf
      refine Ex.seg 9 (pc' := 96) (lc' := [some (.ref 49), some (.int s.1), some (.int s.2.1), some (.int s.2.2.1), some (.int s.2.2.2.1), some (.int s.2.2.2.2.1), some (.int s.2.2.2.2.2.1), some (.int q12.1)]) (st' := [.int (q12.2.1 49 10), .long (q12.2.2.1 49 9), .int s.2.2.2.2.2.1, .int (s.2.2.2.1 + 1), .ref 49]) (h' := q12.2) (sg1 rfl rfl (sg1 rfl rfl (sg1 rfl rfl (sg1 rfl rfl (sg1 rfl rfl (sg1 rfl rfl (sg1 rfl rfl (sg1 rfl rfl (sg1 rfl rfl rfl))))))))) ?_
      obtain ⟨q13, e_q13, hf⟩ := bnd hf
      refine Ex.callV (a := 49) (As := [.int (s.2.2.2.1 + 1), .int s.2.2.2.2.2.1, .long (q12.2.2.1 49 9), .int (q12.2.1 49 10)]) (r := []) (v := none) (h' := q13) rfl rfl (by decide) rfl (Nat.le_of_ble_eq_true rfl) rfl (E_79 (by omega) e_q13) rfl ?_
      refine Ex.seg 1 (pc' := 102) (lc' := [some (.ref 49), some (.int s.1), some (.int s.2.1), some (.int s.2.2.1), some (.int s.2.2.2.1), some (.int s.2.2.2.2.1), some (.int (s.2.2.2.2.2.1 + 1)), some (.int q12.1)]) (st' := []) (h' := q13) (sg1 rfl rfl rfl) ?_
      obtain ⟨v14, e_v14, hf⟩ := bnd hf
      rw [Option.some.inj e_v14]
      refine Ex.seg 1 (pc' := 3) (lc' := [some (.ref 49), some (.int s.1), some (.int s.2.1), some (.int s.2.2.1), some (.int s.2.2.2.1), some (.int s.2.2.2.2.1), some (.int v14), some (.int q12.1)]) (st' := []) (h' := q13) (sg1 rfl rfl rfl) ?_
      obtain rfl := Option.some.inj hf
      exact Ex.weak (sm_le_s (sm_le_s (sm_le_s (sm_le_s (sm_le_s (sm_le_s (sm_le_s (sm_le_n sm_le_nil)))))))) (hS1 _ hs)
    · rw [if_neg c0] at hf
      refine Ex.seg 2 (pc' := 77) (lc' := [some (.ref 49), some (.int s.1), some (.int s.2.1), some (.int s.2.2.1), some (.int s.2.2.2.1), some (.int s.2.2.2.2.1), some (.int s.2.2.2.2.2.1), some (.int q12.1)]) (st' := [.int q12.1, .ref 49]) (h' := q12.2) (sg1 rfl rfl (sg1 rfl rfl rfl)) ?_
      obtain ⟨q15, e_q15, hf⟩ := bnd hf
      refine Ex.callV (a := 49) (As := [.int q12.1]) (r := []) (v := some (.int q15.1)) (h' := q15.2) rfl rfl (by decide) rfl (Nat.le_of_ble_eq_true rfl) rfl (E_76 (by omega) e_q15) rfl ?_
      obtain rfl := Option.some.inj hf
      exact Ex.iret rfl rfl (fun c0 => by cases c0) hs
theorem B_89_3 {L : Nat} {xs : Nat → Int32} {d : Nat} {M : Nat} {rec : Int32 → Int32 → sm_H → Option (Int32 × sm_H)} (hrec : ∀ d, M ≤ d → ∀ (x1 x2 : Int32) (h : sm_H) (q : Int32 × sm_H), rec x1 x2 h = some q → RUN L xs d 82 [.ref 49, .int x1, .int x2] h (some (.int q.1), q.2)) (hd : 4 + M ≤ d) {res : Option Value × sm_H} {y1 : Int32} {y2 : Int32} {y3 : Int32} {y4 : Int32} {y5 : Int32} {y6 : Int32}  {h : sm_H} {r : (Int32 × sm_H)} (hf : F_89_3 rec y1 y2 y3 y4 y5 y6 h = some r) (hs : (fun (r : Int32 × sm_H) => res = (some (.int r.1), r.2)) r) : Ex (P_G L xs) (RUN L xs d) (sm_lk P_t89) 0 3 [some (.ref 49), some (.int y1), some (.int y2), some (.int y3), some (.int y4), some (.int y5), some (.int y6), none] [] h res := by
  unfold F_89_3 at hf
  exact lp_ok (P := fun (s : (Int32 × Int32 × Int32 × Int32 × Int32 × Int32 × sm_H)) => Ex (P_G L xs) (RUN L xs d) (sm_lk P_t89) 0 3 [some (.ref 49), some (.int s.1), some (.int s.2.1), some (.int s.2.2.1), some (.int s.2.2.2.1), some (.int s.2.2.2.2.1), some (.int s.2.2.2.2.2.1), none] [] s.2.2.2.2.2.2 res) (S := (fun (r : Int32 × sm_H) => res = (some (.int r.1), r.2))) (fun s x hx hsx => by
    intros
    exact B_89_3B hrec hd  (fun _ q => q) hx hsx) 1000000 _ r hf hs
theorem B_89_0 {L : Nat} {xs : Nat → Int32} {d : Nat} {M : Nat} {rec : Int32 → Int32 → sm_H → Option (Int32 × sm_H)} (hrec : ∀ d, M ≤ d → ∀ (x1 x2 : Int32) (h : sm_H) (q : Int32 × sm_H), rec x1 x2 h = some q → RUN L xs d 82 [.ref 49, .int x1, .int x2] h (some (.int q.1), q.2)) (hd : 4 + M ≤ d) {res : Option Value × sm_H} {x1 : Int32} {x2 : Int32} {x3 : Int32} {x4 : Int32} {x5 : Int32}  {h : sm_H} {r : (Int32 × sm_H)} (hf : F_89_0 rec x1 x2 x3 x4 x5 h = some r) (hs : (fun (r : Int32 × sm_H) => res = (some (.int r.1), r.2)) r) : Ex (P_G L xs) (RUN L xs d) (sm_lk P_t89) 0 0 [some (.ref 49), some (.int x1), some (.int x2), some (.int x3), some (.int x4), some (.int x5), none, none] [] h res := by
  unfold F_89_0 at hf
  refine Ex.seg 2 (pc' := 3) (lc' := [some (.ref 49), some (.int x1), some (.int x2), some (.int x3), some (.int x4), some (.int x5), some (.int 0), none]) (st' := []) (h' := h) (sg1 rfl rfl (sg1 rfl rfl rfl)) ?_
  exact Ex.weak (sm_le_s (sm_le_s (sm_le_s (sm_le_s (sm_le_s (sm_le_s (sm_le_s (sm_le_s sm_le_nil)))))))) (B_89_3 hrec hd  hf hs)
theorem E_89 {L : Nat} {xs : Nat → Int32} {d : Nat} {M : Nat} {rec : Int32 → Int32 → sm_H → Option (Int32 × sm_H)} (hrec : ∀ d, M ≤ d → ∀ (x1 x2 : Int32) (h : sm_H) (q : Int32 × sm_H), rec x1 x2 h = some q → RUN L xs d 82 [.ref 49, .int x1, .int x2] h (some (.int q.1), q.2)) (hd : 5 + M ≤ d) {x1 : Int32} {x2 : Int32} {x3 : Int32} {x4 : Int32} {x5 : Int32} {h : sm_H} {r : Int32 × sm_H} (hf : F_89 rec x1 x2 x3 x4 x5 h = some r) : RUN L xs d 89 [.ref 49, .int x1, .int x2, .int x3, .int x4, .int x5] h (some (.int r.1), r.2) := by
  obtain ⟨d, rfl⟩ : ∃ e, d = e + 1 := ⟨d - 1, by omega⟩
  exact ⟨Nat.le_of_ble_eq_true rfl, B_89_0 hrec (by omega) hf rfl⟩
theorem B_100_74 {L : Nat} {xs : Nat → Int32} {d : Nat} {M : Nat} {rec : Int32 → Int32 → sm_H → Option (Int32 × sm_H)} (hrec : ∀ d, M ≤ d → ∀ (x1 x2 : Int32) (h : sm_H) (q : Int32 × sm_H), rec x1 x2 h = some q → RUN L xs d 82 [.ref 49, .int x1, .int x2] h (some (.int q.1), q.2)) (hd : 5 + M ≤ d) {res : Option Value × sm_H} {y2 : Int32} {z0 : Int32}  {h : sm_H} {r : (Int32 × sm_H)} (hf : F_100_74 rec y2 z0 h = some r) (hs : (fun (r : Int32 × sm_H) => res = (some (.int r.1), r.2)) r) : Ex (P_G L xs) (RUN L xs d) (sm_lk P_t100) 0 74 [some (.ref 49), none, some (.int y2), none, none, none] [.int z0] h res := by
  unfold F_100_74 at hf
  refine Ex.seg 4 (pc' := 80) (lc' := [some (.ref 49), none, some (.int y2), none, none, some (.int z0)]) (st' := [.int z0, .int y2, .ref 49]) (h' := h) (sg1 rfl rfl (sg1 rfl rfl (sg1 rfl rfl (sg1 rfl rfl rfl)))) ?_
  obtain ⟨q1, e_q1, hf⟩ := bnd hf
  refine Ex.callV (a := 49) (As := [.int y2, .int z0]) (r := []) (v := none) (h' := q1) rfl rfl (by decide) rfl (Nat.le_of_ble_eq_true rfl) rfl (E_81 (by omega) e_q1) rfl ?_
  refine Ex.seg 5 (pc' := 89) (lc' := [some (.ref 49), none, some (.int y2), none, none, some (.int z0)]) (st' := [.int (y2 + 1), .int z0, .ref 49]) (h' := q1) (sg1 rfl rfl (sg1 rfl rfl (sg1 rfl rfl (sg1 rfl rfl (sg1 rfl rfl rfl))))) ?_
  obtain ⟨q2, e_q2, hf⟩ := bnd hf
  refine Ex.callV (a := 49) (As := [.int z0, .int (y2 + 1)]) (r := []) (v := some (.int q2.1)) (h' := q2.2) rfl rfl (by decide) rfl (Nat.le_of_ble_eq_true rfl) rfl (hrec d (by omega) _ _ _ _ e_q2) rfl ?_
  obtain rfl := Option.some.inj hf
  exact Ex.iret rfl rfl (fun c0 => by cases c0) hs
theorem B_100_42 {L : Nat} {xs : Nat → Int32} {d : Nat} {M : Nat} {rec : Int32 → Int32 → sm_H → Option (Int32 × sm_H)} (hrec : ∀ d, M ≤ d → ∀ (x1 x2 : Int32) (h : sm_H) (q : Int32 × sm_H), rec x1 x2 h = some q → RUN L xs d 82 [.ref 49, .int x1, .int x2] h (some (.int q.1), q.2)) (hd : 5 + M ≤ d) {res : Option Value × sm_H} {y2 : Int32} {y3 : Int32} {z0 : Int32}  {h : sm_H} {r : (Int32 × sm_H)} (hf : F_100_42 rec y2 y3 z0 h = some r) (hs : (fun (r : Int32 × sm_H) => res = (some (.int r.1), r.2)) r) : Ex (P_G L xs) (RUN L xs d) (sm_lk P_t100) 0 42 [some (.ref 49), none, some (.int y2), some (.int y3), none, none] [.int z0] h res := by
  unfold F_100_42 at hf
  refine Ex.seg 2 (pc' := 46) (lc' := [some (.ref 49), none, some (.int y2), some (.int y3), some (.int z0), none]) (st' := [.int z0]) (h' := h) (sg1 rfl rfl (sg1 rfl rfl rfl)) ?_
  refine Ex.ifc rfl rfl (fun (c0 : z0 = 0) => ?_) (fun (c0 : ¬ (z0 = 0)) => ?_)
  · rw [if_pos c0] at hf
    refine Ex.seg 3 (pc' := 71) (lc' := [some (.ref 49), none, some (.int y2), some (.int y3), some (.int z0), none]) (st' := [.int y3, .ref 38]) (h' := h) (sg1 rfl rfl (sg1 rfl rfl (sg1 rfl rfl rfl))) ?_
    obtain ⟨q3, e_q3, hf⟩ := bnd hf
    refine Ex.callV (a := 38) (As := [.int y3]) (r := []) (v := some (.int q3.1)) (h' := q3.2) rfl rfl (by decide) rfl (Nat.le_of_ble_eq_true rfl) rfl (E_131 (by omega) e_q3) rfl ?_
    exact Ex.weak (sm_le_s (sm_le_s (sm_le_s (sm_le_n (sm_le_n (sm_le_s sm_le_nil)))))) (B_100_74 hrec hd  hf hs)
  · rw [if_neg c0] at hf
    refine Ex.seg 6 (pc' := 57) (lc' := [some (.ref 49), none, some (.int y2), some (.int y3), some (.int z0), none]) (st' := [.int 0, .int y2, .ref 49, .int y3, .ref 38]) (h' := h) (sg1 rfl rfl (sg1 rfl rfl (sg1 rfl rfl (sg1 rfl rfl (sg1 rfl rfl (sg1 rfl rfl rfl)))))) ?_
    obtain ⟨q4, e_q4, hf⟩ := bnd hf
    refine Ex.callV (a := 49) (As := [.int y2, .int 0]) (r := [.int y3, .ref 38]) (v := some (.int q4.1)) (h' := q4.2) rfl rfl (by decide) rfl (Nat.le_of_ble_eq_true rfl) rfl (E_78 (by omega) e_q4) rfl ?_
    obtain ⟨q5, e_q5, hf⟩ := bnd hf
    refine Ex.callV (a := 38) (As := [.int y3, .int q4.1]) (r := []) (v := some (.int q5.1)) (h' := q5.2) rfl rfl (by decide) rfl (Nat.le_of_ble_eq_true rfl) rfl (E_133 (by omega) e_q5) rfl ?_
    refine Ex.seg 1 (pc' := 74) (lc' := [some (.ref 49), none, some (.int y2), some (.int y3), some (.int z0), none]) (st' := [.int q5.1]) (h' := q5.2) (sg1 rfl rfl rfl) ?_
    exact Ex.weak (sm_le_s (sm_le_s (sm_le_s (sm_le_n (sm_le_n (sm_le_s sm_le_nil)))))) (B_100_74 hrec hd  hf hs)
theorem B_100_0 {L : Nat} {xs : Nat → Int32} {d : Nat} {M : Nat} {rec : Int32 → Int32 → sm_H → Option (Int32 × sm_H)} (hrec : ∀ d, M ≤ d → ∀ (x1 x2 : Int32) (h : sm_H) (q : Int32 × sm_H), rec x1 x2 h = some q → RUN L xs d 82 [.ref 49, .int x1, .int x2] h (some (.int q.1), q.2)) (hd : 5 + M ≤ d) {res : Option Value × sm_H} {x1 : Int32} {x2 : Int32}  {h : sm_H} {r : (Int32 × sm_H)} (hf : F_100_0 rec x1 x2 h = some r) (hs : (fun (r : Int32 × sm_H) => res = (some (.int r.1), r.2)) r) : Ex (P_G L xs) (RUN L xs d) (sm_lk P_t100) 0 0 [some (.ref 49), some (.int x1), some (.int x2), none, none, none] [] h res := by
  unfold F_100_0 at hf
  refine Ex.seg 3 (pc' := 5) (lc' := [some (.ref 49), some (.int x1), some (.int x2), none, none, none]) (st' := [.int x1, .ref 10]) (h' := h) (sg1 rfl rfl (sg1 rfl rfl (sg1 rfl rfl rfl))) ?_
  obtain ⟨q6, e_q6, hf⟩ := bnd hf
  refine Ex.callV (a := 10) (As := [.int x1]) (r := []) (v := some (.int q6.1)) (h' := q6.2) rfl rfl (by decide) rfl (Nat.le_of_ble_eq_true rfl) rfl (E_38 (by omega) e_q6) rfl ?_
  refine Ex.seg 4 (pc' := 12) (lc' := [some (.ref 49), some (.int x1), some (.int x2), some (.int q6.1), none, none]) (st' := [.int 0, .int x2, .ref 49]) (h' := q6.2) (sg1 rfl rfl (sg1 rfl rfl (sg1 rfl rfl (sg1 rfl rfl rfl)))) ?_
  obtain ⟨q7, e_q7, hf⟩ := bnd hf
  refine Ex.callV (a := 49) (As := [.int x2, .int 0]) (r := []) (v := some (.int q7.1)) (h' := q7.2) rfl rfl (by decide) rfl (Nat.le_of_ble_eq_true rfl) rfl (E_78 (by omega) e_q7) rfl ?_
  refine Ex.ifc rfl rfl (fun (c0 : ¬ (q7.1 = 0)) => ?_) (fun (c0 : ¬ ¬ (q7.1 = 0)) => ?_)
  · rw [if_neg c0] at hf
    refine Ex.seg 3 (pc' := 29) (lc' := [some (.ref 49), some (.int x1), some (.int x2), some (.int q6.1), none, none]) (st' := [.int x1, .ref 10]) (h' := q7.2) (sg1 rfl rfl (sg1 rfl rfl (sg1 rfl rfl rfl))) ?_
    obtain ⟨q8, e_q8, hf⟩ := bnd hf
    refine Ex.callV (a := 10) (As := [.int x1]) (r := []) (v := some (.int q8.1)) (h' := q8.2) rfl rfl (by decide) rfl (Nat.le_of_ble_eq_true rfl) rfl (E_37 (by omega) e_q8) rfl ?_
    refine Ex.seg 1 (pc' := 34) (lc' := [some (.ref 49), some (.int x1), some (.int x2), some (.int q6.1), none, none]) (st' := [.int 36, .int q8.1]) (h' := q8.2) (sg1 rfl rfl rfl) ?_
    refine Ex.icmp rfl rfl (fun (c0 : ¬ (q8.1 = 36)) => ?_) (fun (c0 : ¬ ¬ (q8.1 = 36)) => ?_)
    · rw [if_neg c0] at hf
      refine Ex.seg 1 (pc' := 42) (lc' := [some (.ref 49), some (.int x1), some (.int x2), some (.int q6.1), none, none]) (st' := [.int 0]) (h' := q8.2) (sg1 rfl rfl rfl) ?_
      exact Ex.weak (sm_le_s (sm_le_n (sm_le_s (sm_le_s (sm_le_s (sm_le_s sm_le_nil)))))) (B_100_42 hrec hd  hf hs)
    · rw [if_pos (Classical.not_not.mp c0)] at hf
      refine Ex.seg 2 (pc' := 42) (lc' := [some (.ref 49), some (.int x1), some (.int x2), some (.int q6.1), none, none]) (st' := [.int 1]) (h' := q8.2) (sg1 rfl rfl (sg1 rfl rfl rfl)) ?_
      exact Ex.weak (sm_le_s (sm_le_n (sm_le_s (sm_le_s (sm_le_s (sm_le_s sm_le_nil)))))) (B_100_42 hrec hd  hf hs)
  · rw [if_pos (Classical.not_not.mp c0)] at hf
    refine Ex.seg 2 (pc' := 20) (lc' := [some (.ref 49), some (.int x1), some (.int x2), some (.int q6.1), none, none]) (st' := [.int 1, .ref 49]) (h' := q7.2) (sg1 rfl rfl (sg1 rfl rfl rfl)) ?_
    obtain ⟨q9, e_q9, hf⟩ := bnd hf
    refine Ex.callV (a := 49) (As := [.int 1]) (r := []) (v := some (.int q9.1)) (h' := q9.2) rfl rfl (by decide) rfl (Nat.le_of_ble_eq_true rfl) rfl (E_76 (by omega) e_q9) rfl ?_
    obtain rfl := Option.some.inj hf
    exact Ex.iret rfl rfl (fun c0 => by cases c0) hs
theorem E_100 {L : Nat} {xs : Nat → Int32} {d : Nat} {M : Nat} {rec : Int32 → Int32 → sm_H → Option (Int32 × sm_H)} (hrec : ∀ d, M ≤ d → ∀ (x1 x2 : Int32) (h : sm_H) (q : Int32 × sm_H), rec x1 x2 h = some q → RUN L xs d 82 [.ref 49, .int x1, .int x2] h (some (.int q.1), q.2)) (hd : 6 + M ≤ d) {x1 : Int32} {x2 : Int32} {h : sm_H} {r : Int32 × sm_H} (hf : F_100 rec x1 x2 h = some r) : RUN L xs d 100 [.ref 49, .int x1, .int x2] h (some (.int r.1), r.2) := by
  obtain ⟨d, rfl⟩ : ∃ e, d = e + 1 := ⟨d - 1, by omega⟩
  exact ⟨Nat.le_of_ble_eq_true rfl, B_100_0 hrec (by omega) hf rfl⟩
theorem B_102_480 {L : Nat} {xs : Nat → Int32} {d : Nat} (hd : 4 ≤ d) {res : Option Value × sm_H}   {h : sm_H} {r : (Int32 × sm_H)} (hf : F_102_480  h = some r) (hs : (fun (r : Int32 × sm_H) => res = (some (.int r.1), r.2)) r) : Ex (P_G L xs) (RUN L xs d) (sm_lk P_t102) 0 480 [some (.ref 49), none, none, none] [] h res := by
  unfold F_102_480 at hf
  refine Ex.seg 3 (pc' := 483) (lc' := [some (.ref 49), none, none, none]) (st' := [.int 0, .long 0, .ref 49]) (h' := h) (sg1 rfl rfl (sg1 rfl rfl (sg1 rfl rfl rfl))) ?_
  obtain ⟨q1, e_q1, hf⟩ := bnd hf
  refine Ex.callV (a := 49) (As := [.long 0, .int 0]) (r := []) (v := some (.int q1.1)) (h' := q1.2) rfl rfl (by decide) rfl (Nat.le_of_ble_eq_true rfl) rfl (E_75 (Nat.le_trans (by decide) hd) e_q1) rfl ?_
  obtain rfl := Option.some.inj hf
  exact Ex.iret rfl rfl (fun c0 => by cases c0) hs
theorem B_102_468 {L : Nat} {xs : Nat → Int32} {d : Nat} (hd : 4 ≤ d) {res : Option Value × sm_H} {z1 : Int64}  {h : sm_H} {r : (Int32 × sm_H)} (hf : F_102_468 z1 h = some r) (hs : (fun (r : Int32 × sm_H) => res = (some (.int r.1), r.2)) r) : Ex (P_G L xs) (RUN L xs d) (sm_lk P_t102) 0 468 [none, none, none, none] [.long z1, .ref 49] h res := by
  unfold F_102_468 at hf
  refine Ex.seg 1 (pc' := 469) (lc' := [none, none, none, none]) (st' := [.int 0, .long z1, .ref 49]) (h' := h) (sg1 rfl rfl rfl) ?_
  obtain ⟨q2, e_q2, hf⟩ := bnd hf
  refine Ex.callV (a := 49) (As := [.long z1, .int 0]) (r := []) (v := some (.int q2.1)) (h' := q2.2) rfl rfl (by decide) rfl (Nat.le_of_ble_eq_true rfl) rfl (E_75 (Nat.le_trans (by decide) hd) e_q2) rfl ?_
  obtain rfl := Option.some.inj hf
  exact Ex.iret rfl rfl (fun c0 => by cases c0) hs
theorem B_102_426 {L : Nat} {xs : Nat → Int32} {d : Nat} (hd : 4 ≤ d) {res : Option Value × sm_H} {z1 : Int64}  {h : sm_H} {r : (Int32 × sm_H)} (hf : F_102_426 z1 h = some r) (hs : (fun (r : Int32 × sm_H) => res = (some (.int r.1), r.2)) r) : Ex (P_G L xs) (RUN L xs d) (sm_lk P_t102) 0 426 [none, none, none, none] [.long z1, .ref 49] h res := by
  unfold F_102_426 at hf
  refine Ex.seg 1 (pc' := 427) (lc' := [none, none, none, none]) (st' := [.int 0, .long z1, .ref 49]) (h' := h) (sg1 rfl rfl rfl) ?_
  obtain ⟨q3, e_q3, hf⟩ := bnd hf
  refine Ex.callV (a := 49) (As := [.long z1, .int 0]) (r := []) (v := some (.int q3.1)) (h' := q3.2) rfl rfl (by decide) rfl (Nat.le_of_ble_eq_true rfl) rfl (E_75 (Nat.le_trans (by decide) hd) e_q3) rfl ?_
  obtain rfl := Option.some.inj hf
  exact Ex.iret rfl rfl (fun c0 => by cases c0) hs
theorem B_102_407 {L : Nat} {xs : Nat → Int32} {d : Nat} (hd : 4 ≤ d) {res : Option Value × sm_H} {z1 : Int64}  {h : sm_H} {r : (Int32 × sm_H)} (hf : F_102_407 z1 h = some r) (hs : (fun (r : Int32 × sm_H) => res = (some (.int r.1), r.2)) r) : Ex (P_G L xs) (RUN L xs d) (sm_lk P_t102) 0 407 [none, none, none, none] [.long z1, .ref 49] h res := by
  unfold F_102_407 at hf
  refine Ex.seg 1 (pc' := 408) (lc' := [none, none, none, none]) (st' := [.int 0, .long z1, .ref 49]) (h' := h) (sg1 rfl rfl rfl) ?_
  obtain ⟨q4, e_q4, hf⟩ := bnd hf
  refine Ex.callV (a := 49) (As := [.long z1, .int 0]) (r := []) (v := some (.int q4.1)) (h' := q4.2) rfl rfl (by decide) rfl (Nat.le_of_ble_eq_true rfl) rfl (E_75 (Nat.le_trans (by decide) hd) e_q4) rfl ?_
  obtain rfl := Option.some.inj hf
  exact Ex.iret rfl rfl (fun c0 => by cases c0) hs
theorem B_102_406 {L : Nat} {xs : Nat → Int32} {d : Nat} (hd : 4 ≤ d) {res : Option Value × sm_H}   {h : sm_H} {r : (Int32 × sm_H)} (hf : F_102_406  h = some r) (hs : (fun (r : Int32 × sm_H) => res = (some (.int r.1), r.2)) r) : Ex (P_G L xs) (RUN L xs d) (sm_lk P_t102) 0 406 [none, none, none, none] [.ref 49] h res := by
  unfold F_102_406 at hf
  refine Ex.seg 1 (pc' := 407) (lc' := [none, none, none, none]) (st' := [.long 0, .ref 49]) (h' := h) (sg1 rfl rfl rfl) ?_
  exact Ex.weak (sm_le_s (sm_le_s (sm_le_s (sm_le_s sm_le_nil)))) (B_102_407 hd  hf hs)
theorem B_102_368 {L : Nat} {xs : Nat → Int32} {d : Nat} (hd : 4 ≤ d) {res : Option Value × sm_H} {y1 : Int32} {y2 : Int32}  {h : sm_H} {r : (Int32 × sm_H)} (hf : F_102_368 y1 y2 h = some r) (hs : (fun (r : Int32 × sm_H) => res = (some (.int r.1), r.2)) r) : Ex (P_G L xs) (RUN L xs d) (sm_lk P_t102) 0 368 [some (.ref 49), some (.int y1), some (.int y2), none] [] h res := by
  unfold F_102_368 at hf
  refine Ex.seg 3 (pc' := 371) (lc' := [some (.ref 49), some (.int y1), some (.int y2), none]) (st' := [.int y2, .int y1, .ref 49]) (h' := h) (sg1 rfl rfl (sg1 rfl rfl (sg1 rfl rfl rfl))) ?_
  obtain ⟨q5, e_q5, hf⟩ := bnd hf
  refine Ex.callV (a := 49) (As := [.int y1, .int y2]) (r := []) (v := some (.int q5.1)) (h' := q5.2) rfl rfl (by decide) rfl (Nat.le_of_ble_eq_true rfl) rfl (E_108 (Nat.le_trans (by decide) hd) e_q5) rfl ?_
  obtain rfl := Option.some.inj hf
  exact Ex.iret rfl rfl (fun c0 => by cases c0) hs
theorem B_102_316 {L : Nat} {xs : Nat → Int32} {d : Nat} (hd : 4 ≤ d) {res : Option Value × sm_H} {z0 : Int32}  {h : sm_H} {r : (Int32 × sm_H)} (hf : F_102_316 z0 h = some r) (hs : (fun (r : Int32 × sm_H) => res = (some (.int r.1), r.2)) r) : Ex (P_G L xs) (RUN L xs d) (sm_lk P_t102) 0 316 [none, none, none, none] [.int z0] h res := by
  unfold F_102_316 at hf
  obtain rfl := Option.some.inj hf
  exact Ex.iret rfl rfl (fun c0 => by cases c0) hs
theorem B_102_267 {L : Nat} {xs : Nat → Int32} {d : Nat} (hd : 4 ≤ d) {res : Option Value × sm_H} {y2 : Int32} {z1 : Int32} {z2 : Int32}  {h : sm_H} {r : (Int32 × sm_H)} (hf : F_102_267 y2 z1 z2 h = some r) (hs : (fun (r : Int32 × sm_H) => res = (some (.int r.1), r.2)) r) : Ex (P_G L xs) (RUN L xs d) (sm_lk P_t102) 0 267 [some (.ref 49), none, some (.int y2), none] [.int z2, .int z1, .ref 49] h res := by
  unfold F_102_267 at hf
  refine Ex.seg 3 (pc' := 270) (lc' := [some (.ref 49), none, some (.int y2), none]) (st' := [.int 0, .int y2, .ref 49, .int z2, .int z1, .ref 49]) (h' := h) (sg1 rfl rfl (sg1 rfl rfl (sg1 rfl rfl rfl))) ?_
  obtain ⟨q6, e_q6, hf⟩ := bnd hf
  refine Ex.callV (a := 49) (As := [.int y2, .int 0]) (r := [.int z2, .int z1, .ref 49]) (v := some (.long q6.1)) (h' := q6.2) rfl rfl (by decide) rfl (Nat.le_of_ble_eq_true rfl) rfl (E_77 (Nat.le_trans (by decide) hd) e_q6) rfl ?_
  refine Ex.seg 3 (pc' := 276) (lc' := [some (.ref 49), none, some (.int y2), none]) (st' := [.int 1, .int y2, .ref 49, .long q6.1, .int z2, .int z1, .ref 49]) (h' := q6.2) (sg1 rfl rfl (sg1 rfl rfl (sg1 rfl rfl rfl))) ?_
  obtain ⟨q7, e_q7, hf⟩ := bnd hf
  refine Ex.callV (a := 49) (As := [.int y2, .int 1]) (r := [.long q6.1, .int z2, .int z1, .ref 49]) (v := some (.long q7.1)) (h' := q7.2) rfl rfl (by decide) rfl (Nat.le_of_ble_eq_true rfl) rfl (E_77 (Nat.le_trans (by decide) hd) e_q7) rfl ?_
  obtain ⟨q8, e_q8, hf⟩ := bnd hf
  refine Ex.callV (a := 49) (As := [.int z1, .int z2, .long q6.1, .long q7.1]) (r := []) (v := some (.int q8.1)) (h' := q8.2) rfl rfl (by decide) rfl (Nat.le_of_ble_eq_true rfl) rfl (E_104 (Nat.le_trans (by decide) hd) e_q8) rfl ?_
  obtain rfl := Option.some.inj hf
  exact Ex.iret rfl rfl (fun c0 => by cases c0) hs
theorem B_102_0 {L : Nat} {xs : Nat → Int32} {d : Nat} (hd : 4 ≤ d) {res : Option Value × sm_H} {x1 : Int32} {x2 : Int32}  {h : sm_H} {r : (Int32 × sm_H)} (hf : F_102_0 x1 x2 h = some r) (hs : (fun (r : Int32 × sm_H) => res = (some (.int r.1), r.2)) r) : Ex (P_G L xs) (RUN L xs d) (sm_lk P_t102) 0 0 [some (.ref 49), some (.int x1), some (.int x2), none] [] h res := by
  unfold F_102_0 at hf
  refine Ex.seg 3 (pc' := 5) (lc' := [some (.ref 49), some (.int x1), some (.int x2), none]) (st' := [.int x1, .ref 10]) (h' := h) (sg1 rfl rfl (sg1 rfl rfl (sg1 rfl rfl rfl))) ?_
  obtain ⟨q9, e_q9, hf⟩ := bnd hf
  refine Ex.callV (a := 10) (As := [.int x1]) (r := []) (v := some (.int q9.1)) (h' := q9.2) rfl rfl (by decide) rfl (Nat.le_of_ble_eq_true rfl) rfl (E_38 (Nat.le_trans (by decide) hd) e_q9) rfl ?_
  refine Ex.seg 4 (pc' := 14) (lc' := [some (.ref 49), some (.int x1), some (.int x2), some (.int q9.1)]) (st' := [.int x1, .ref 10]) (h' := q9.2) (sg1 rfl rfl (sg1 rfl rfl (sg1 rfl rfl (sg1 rfl rfl rfl)))) ?_
  obtain ⟨q10, e_q10, hf⟩ := bnd hf
  refine Ex.callV (a := 10) (As := [.int x1]) (r := []) (v := some (.int q10.1)) (h' := q10.2) rfl rfl (by decide) rfl (Nat.le_of_ble_eq_true rfl) rfl (E_37 (Nat.le_trans (by decide) hd) e_q10) rfl ?_
  rcases Classical.em (q10.1 = 0) with n1 | n1
  · rw [if_pos n1] at hf
    refine Ex.swt (t := 176) rfl rfl (by rw [n1]; exact Or.inr ⟨by decide, by decide, _, rfl, by decide⟩) ?_
    refine Ex.seg 7 (pc' := 187) (lc' := [some (.ref 49), some (.int x1), some (.int x2), some (.int q9.1)]) (st' := [.int x1, .ref 10, .int q9.1, .ref 21, .ref 49]) (h' := q10.2) (sg1 rfl rfl (sg1 rfl rfl (sg1 rfl rfl (sg1 rfl rfl (sg1 rfl rfl (sg1 rfl rfl (sg1 rfl rfl rfl))))))) ?_
    obtain ⟨q11, e_q11, hf⟩ := bnd hf
    refine Ex.callV (a := 10) (As := [.int x1]) (r := [.int q9.1, .ref 21, .ref 49]) (v := some (.long q11.1)) (h' := q11.2) rfl rfl (by decide) rfl (Nat.le_of_ble_eq_true rfl) rfl (E_40 (Nat.le_trans (by decide) hd) e_q11) rfl ?_
    obtain ⟨q12, e_q12, hf⟩ := bnd hf
    refine Ex.callV (a := 21) (As := [.int q9.1, .long q11.1]) (r := [.ref 49]) (v := some (.long q12.1)) (h' := q12.2) rfl rfl (by decide) rfl (Nat.le_of_ble_eq_true rfl) rfl (E_153 (Nat.le_trans (by decide) hd) e_q12) rfl ?_
    refine Ex.seg 6 (pc' := 203) (lc' := [some (.ref 49), some (.int x1), some (.int x2), some (.int q9.1)]) (st' := [.int x1, .ref 10, .int q9.1, .ref 21, .long q12.1, .ref 49]) (h' := q12.2) (sg1 rfl rfl (sg1 rfl rfl (sg1 rfl rfl (sg1 rfl rfl (sg1 rfl rfl (sg1 rfl rfl rfl)))))) ?_
    obtain ⟨q13, e_q13, hf⟩ := bnd hf
    refine Ex.callV (a := 10) (As := [.int x1]) (r := [.int q9.1, .ref 21, .long q12.1, .ref 49]) (v := some (.long q13.1)) (h' := q13.2) rfl rfl (by decide) rfl (Nat.le_of_ble_eq_true rfl) rfl (E_40 (Nat.le_trans (by decide) hd) e_q13) rfl ?_
    obtain ⟨q14, e_q14, hf⟩ := bnd hf
    refine Ex.callV (a := 21) (As := [.int q9.1, .long q13.1]) (r := [.long q12.1, .ref 49]) (v := some (.int q14.1)) (h' := q14.2) rfl rfl (by decide) rfl (Nat.le_of_ble_eq_true rfl) rfl (E_154 (Nat.le_trans (by decide) hd) e_q14) rfl ?_
    obtain ⟨q15, e_q15, hf⟩ := bnd hf
    refine Ex.callV (a := 49) (As := [.long q12.1, .int q14.1]) (r := []) (v := some (.int q15.1)) (h' := q15.2) rfl rfl (by decide) rfl (Nat.le_of_ble_eq_true rfl) rfl (E_75 (Nat.le_trans (by decide) hd) e_q15) rfl ?_
    obtain rfl := Option.some.inj hf
    exact Ex.iret rfl rfl (fun c0 => by cases c0) hs
  rw [if_neg n1] at hf
  rcases Classical.em (q10.1 = 1) with n2 | n2
  · rw [if_pos n2] at hf
    refine Ex.swt (t := 213) rfl rfl (by rw [n2]; exact Or.inr ⟨by decide, by decide, _, rfl, by decide⟩) ?_
    refine Ex.seg 5 (pc' := 220) (lc' := [some (.ref 49), some (.int x1), some (.int x2), some (.int q9.1)]) (st' := [.int 0, .int x1, .ref 10, .ref 49]) (h' := q10.2) (sg1 rfl rfl (sg1 rfl rfl (sg1 rfl rfl (sg1 rfl rfl (sg1 rfl rfl rfl))))) ?_
    obtain ⟨q16, e_q16, hf⟩ := bnd hf
    refine Ex.callV (a := 10) (As := [.int x1, .int 0]) (r := [.ref 49]) (v := some (.int q16.1)) (h' := q16.2) rfl rfl (by decide) rfl (Nat.le_of_ble_eq_true rfl) rfl (E_43 (Nat.le_trans (by decide) hd) e_q16) rfl ?_
    refine Ex.seg 2 (pc' := 226) (lc' := [some (.ref 49), some (.int x1), some (.int x2), some (.int q9.1)]) (st' := [.int 18, .long (Int32.toInt64 q16.1), .ref 49]) (h' := q16.2) (sg1 rfl rfl (sg1 rfl rfl rfl)) ?_
    obtain ⟨q17, e_q17, hf⟩ := bnd hf
    refine Ex.callV (a := 49) (As := [.long (Int32.toInt64 q16.1), .int 18]) (r := []) (v := some (.int q17.1)) (h' := q17.2) rfl rfl (by decide) rfl (Nat.le_of_ble_eq_true rfl) rfl (E_75 (Nat.le_trans (by decide) hd) e_q17) rfl ?_
    obtain rfl := Option.some.inj hf
    exact Ex.iret rfl rfl (fun c0 => by cases c0) hs
  rw [if_neg n2] at hf
  rcases Classical.em (q10.1 = 2) with n3 | n3
  · rw [if_pos n3] at hf
    refine Ex.swt (t := 230) rfl rfl (by rw [n3]; exact Or.inr ⟨by decide, by decide, _, rfl, by decide⟩) ?_
    refine Ex.seg 4 (pc' := 234) (lc' := [some (.ref 49), some (.int x1), some (.int x2), some (.int q9.1)]) (st' := [.int 0, .int x2, .ref 49, .ref 49]) (h' := q10.2) (sg1 rfl rfl (sg1 rfl rfl (sg1 rfl rfl (sg1 rfl rfl rfl)))) ?_
    obtain ⟨q18, e_q18, hf⟩ := bnd hf
    refine Ex.callV (a := 49) (As := [.int x2, .int 0]) (r := [.ref 49]) (v := some (.long q18.1)) (h' := q18.2) rfl rfl (by decide) rfl (Nat.le_of_ble_eq_true rfl) rfl (E_77 (Nat.le_trans (by decide) hd) e_q18) rfl ?_
    refine Ex.seg 3 (pc' := 240) (lc' := [some (.ref 49), some (.int x1), some (.int x2), some (.int q9.1)]) (st' := [.int 0, .int x2, .ref 49, .long q18.1, .ref 49]) (h' := q18.2) (sg1 rfl rfl (sg1 rfl rfl (sg1 rfl rfl rfl))) ?_
    obtain ⟨q19, e_q19, hf⟩ := bnd hf
    refine Ex.callV (a := 49) (As := [.int x2, .int 0]) (r := [.long q18.1, .ref 49]) (v := some (.int q19.1)) (h' := q19.2) rfl rfl (by decide) rfl (Nat.le_of_ble_eq_true rfl) rfl (E_78 (Nat.le_trans (by decide) hd) e_q19) rfl ?_
    obtain ⟨q20, e_q20, hf⟩ := bnd hf
    refine Ex.callV (a := 49) (As := [.long q18.1, .int q19.1]) (r := []) (v := some (.int q20.1)) (h' := q20.2) rfl rfl (by decide) rfl (Nat.le_of_ble_eq_true rfl) rfl (E_75 (Nat.le_trans (by decide) hd) e_q20) rfl ?_
    obtain rfl := Option.some.inj hf
    exact Ex.iret rfl rfl (fun c0 => by cases c0) hs
  rw [if_neg n3] at hf
  rcases Classical.em (q10.1 = 3) with n4 | n4
  · rw [if_pos n4] at hf
    refine Ex.swt (t := 247) rfl rfl (by rw [n4]; exact Or.inr ⟨by decide, by decide, _, rfl, by decide⟩) ?_
    refine Ex.seg 5 (pc' := 254) (lc' := [some (.ref 49), some (.int x1), some (.int x2), some (.int q9.1)]) (st' := [.int x1, .ref 10, .int q9.1, .ref 49]) (h' := q10.2) (sg1 rfl rfl (sg1 rfl rfl (sg1 rfl rfl (sg1 rfl rfl (sg1 rfl rfl rfl))))) ?_
    obtain ⟨q21, e_q21, hf⟩ := bnd hf
    refine Ex.callV (a := 10) (As := [.int x1]) (r := [.int q9.1, .ref 49]) (v := some (.int q21.1)) (h' := q21.2) rfl rfl (by decide) rfl (Nat.le_of_ble_eq_true rfl) rfl (E_39 (Nat.le_trans (by decide) hd) e_q21) rfl ?_
    refine Ex.seg 1 (pc' := 259) (lc' := [some (.ref 49), some (.int x1), some (.int x2), some (.int q9.1)]) (st' := [.int 6, .int q21.1, .int q9.1, .ref 49]) (h' := q21.2) (sg1 rfl rfl rfl) ?_
    refine Ex.icmp rfl rfl (fun (c0 : ¬ (q21.1 = 6)) => ?_) (fun (c0 : ¬ ¬ (q21.1 = 6)) => ?_)
    · rw [if_neg c0] at hf
      refine Ex.seg 1 (pc' := 267) (lc' := [some (.ref 49), some (.int x1), some (.int x2), some (.int q9.1)]) (st' := [.int 0, .int q9.1, .ref 49]) (h' := q21.2) (sg1 rfl rfl rfl) ?_
      exact Ex.weak (sm_le_s (sm_le_n (sm_le_s (sm_le_n sm_le_nil)))) (B_102_267 hd  hf hs)
    · rw [if_pos (Classical.not_not.mp c0)] at hf
      refine Ex.seg 2 (pc' := 267) (lc' := [some (.ref 49), some (.int x1), some (.int x2), some (.int q9.1)]) (st' := [.int 1, .int q9.1, .ref 49]) (h' := q21.2) (sg1 rfl rfl (sg1 rfl rfl rfl)) ?_
      exact Ex.weak (sm_le_s (sm_le_n (sm_le_s (sm_le_n sm_le_nil)))) (B_102_267 hd  hf hs)
  rw [if_neg n4] at hf
  rcases Classical.em (q10.1 = 19) with n5 | n5
  · rw [if_pos n5] at hf
    refine Ex.swt (t := 283) rfl rfl (by rw [n5]; exact Or.inr ⟨by decide, by decide, _, rfl, by decide⟩) ?_
    refine Ex.seg 4 (pc' := 287) (lc' := [some (.ref 49), some (.int x1), some (.int x2), some (.int q9.1)]) (st' := [.int 0, .int x2, .ref 49, .ref 49]) (h' := q10.2) (sg1 rfl rfl (sg1 rfl rfl (sg1 rfl rfl (sg1 rfl rfl rfl)))) ?_
    obtain ⟨q22, e_q22, hf⟩ := bnd hf
    refine Ex.callV (a := 49) (As := [.int x2, .int 0]) (r := [.ref 49]) (v := some (.long q22.1)) (h' := q22.2) rfl rfl (by decide) rfl (Nat.le_of_ble_eq_true rfl) rfl (E_77 (Nat.le_trans (by decide) hd) e_q22) rfl ?_
    refine Ex.seg 3 (pc' := 293) (lc' := [some (.ref 49), some (.int x1), some (.int x2), some (.int q9.1)]) (st' := [.int 0, .int x2, .ref 49, .long q22.1, .ref 49]) (h' := q22.2) (sg1 rfl rfl (sg1 rfl rfl (sg1 rfl rfl rfl))) ?_
    obtain ⟨q23, e_q23, hf⟩ := bnd hf
    refine Ex.callV (a := 49) (As := [.int x2, .int 0]) (r := [.long q22.1, .ref 49]) (v := some (.int q23.1)) (h' := q23.2) rfl rfl (by decide) rfl (Nat.le_of_ble_eq_true rfl) rfl (E_78 (Nat.le_trans (by decide) hd) e_q23) rfl ?_
    obtain ⟨q24, e_q24, hf⟩ := bnd hf
    refine Ex.callV (a := 49) (As := [.long q22.1, .int q23.1]) (r := []) (v := some (.int q24.1)) (h' := q24.2) rfl rfl (by decide) rfl (Nat.le_of_ble_eq_true rfl) rfl (E_75 (Nat.le_trans (by decide) hd) e_q24) rfl ?_
    refine Ex.seg 3 (pc' := 304) (lc' := [some (.ref 49), some (.int x1), some (.int x2), some (.int q9.1)]) (st' := [.int (q24.2.1 49 10)]) (h' := q24.2) (sg1 rfl rfl (sg1 rfl rfl (sg1 rfl rfl rfl))) ?_
    refine Ex.ifc rfl rfl (fun (c0 : ¬ ((q24.2.1 49 10) = 0)) => ?_) (fun (c0 : ¬ ¬ ((q24.2.1 49 10) = 0)) => ?_)
    · rw [if_neg c0] at hf
      refine Ex.seg 1 (pc' := 316) (lc' := [some (.ref 49), some (.int x1), some (.int x2), some (.int q9.1)]) (st' := [.int 1]) (h' := q24.2) (sg1 rfl rfl rfl) ?_
      exact Ex.weak (sm_le_n (sm_le_n (sm_le_n (sm_le_n sm_le_nil)))) (B_102_316 hd  hf hs)
    · rw [if_pos (Classical.not_not.mp c0)] at hf
      refine Ex.seg 2 (pc' := 309) (lc' := [some (.ref 49), some (.int x1), some (.int x2), some (.int q9.1)]) (st' := [.int 1, .ref 49]) (h' := q24.2) (sg1 rfl rfl (sg1 rfl rfl rfl)) ?_
      obtain ⟨q25, e_q25, hf⟩ := bnd hf
      refine Ex.callV (a := 49) (As := [.int 1]) (r := []) (v := some (.int q25.1)) (h' := q25.2) rfl rfl (by decide) rfl (Nat.le_of_ble_eq_true rfl) rfl (E_76 (Nat.le_trans (by decide) hd) e_q25) rfl ?_
      refine Ex.seg 1 (pc' := 316) (lc' := [some (.ref 49), some (.int x1), some (.int x2), some (.int q9.1)]) (st' := [.int q25.1]) (h' := q25.2) (sg1 rfl rfl rfl) ?_
      exact Ex.weak (sm_le_n (sm_le_n (sm_le_n (sm_le_n sm_le_nil)))) (B_102_316 hd  hf hs)
  rw [if_neg n5] at hf
  rcases Classical.em (q10.1 = 20) with n6 | n6
  · rw [if_pos n6] at hf
    refine Ex.swt (t := 317) rfl rfl (by rw [n6]; exact Or.inr ⟨by decide, by decide, _, rfl, by decide⟩) ?_
    refine Ex.seg 5 (pc' := 322) (lc' := [some (.ref 49), some (.int x1), some (.int x2), some (.int q9.1)]) (st' := [.int 0, .int x2, .ref 49, .int q9.1, .ref 49]) (h' := q10.2) (sg1 rfl rfl (sg1 rfl rfl (sg1 rfl rfl (sg1 rfl rfl (sg1 rfl rfl rfl))))) ?_
    obtain ⟨q26, e_q26, hf⟩ := bnd hf
    refine Ex.callV (a := 49) (As := [.int x2, .int 0]) (r := [.int q9.1, .ref 49]) (v := some (.long q26.1)) (h' := q26.2) rfl rfl (by decide) rfl (Nat.le_of_ble_eq_true rfl) rfl (E_77 (Nat.le_trans (by decide) hd) e_q26) rfl ?_
    refine Ex.seg 1 (pc' := 326) (lc' := [some (.ref 49), some (.int x1), some (.int x2), some (.int q9.1)]) (st' := [.int (Int64.toInt32 q26.1), .int q9.1, .ref 49]) (h' := q26.2) (sg1 rfl rfl rfl) ?_
    obtain ⟨q27, e_q27, hf⟩ := bnd hf
    refine Ex.callV (a := 49) (As := [.int q9.1, .int (Int64.toInt32 q26.1)]) (r := []) (v := some (.int q27.1)) (h' := q27.2) rfl rfl (by decide) rfl (Nat.le_of_ble_eq_true rfl) rfl (E_107 (Nat.le_trans (by decide) hd) e_q27) rfl ?_
    obtain rfl := Option.some.inj hf
    exact Ex.iret rfl rfl (fun c0 => by cases c0) hs
  rw [if_neg n6] at hf
  rcases Classical.em (q10.1 = 21) with n7 | n7
  · rw [if_pos n7] at hf
    refine Ex.swt (t := 330) rfl rfl (by rw [n7]; exact Or.inr ⟨by decide, by decide, _, rfl, by decide⟩) ?_
    refine Ex.seg 3 (pc' := 333) (lc' := [some (.ref 49), some (.int x1), some (.int x2), some (.int q9.1)]) (st' := [.int 0, .int x2, .ref 49]) (h' := q10.2) (sg1 rfl rfl (sg1 rfl rfl (sg1 rfl rfl rfl))) ?_
    obtain ⟨q28, e_q28, hf⟩ := bnd hf
    refine Ex.callV (a := 49) (As := [.int x2, .int 0]) (r := []) (v := some (.int q28.1)) (h' := q28.2) rfl rfl (by decide) rfl (Nat.le_of_ble_eq_true rfl) rfl (E_78 (Nat.le_trans (by decide) hd) e_q28) rfl ?_
    refine Ex.ifc rfl rfl (fun (c0 : ¬ (q28.1 = 0)) => ?_) (fun (c0 : ¬ ¬ (q28.1 = 0)) => ?_)
    · rw [if_neg c0] at hf
      refine Ex.seg 6 (pc' := 353) (lc' := [some (.ref 49), some (.int x1), some (.int x2), some (.int q9.1)]) (st' := [.int 0, .int x2, .ref 49, .ref 21, .ref 49]) (h' := q28.2) (sg1 rfl rfl (sg1 rfl rfl (sg1 rfl rfl (sg1 rfl rfl (sg1 rfl rfl (sg1 rfl rfl rfl)))))) ?_
      obtain ⟨q29, e_q29, hf⟩ := bnd hf
      refine Ex.callV (a := 49) (As := [.int x2, .int 0]) (r := [.ref 21, .ref 49]) (v := some (.long q29.1)) (h' := q29.2) rfl rfl (by decide) rfl (Nat.le_of_ble_eq_true rfl) rfl (E_77 (Nat.le_trans (by decide) hd) e_q29) rfl ?_
      obtain ⟨q30, e_q30, hf⟩ := bnd hf
      refine Ex.callV (a := 21) (As := [.long q29.1]) (r := [.ref 49]) (v := some (.ref q30.1)) (h' := q30.2) rfl rfl (by decide) rfl (Nat.le_of_ble_eq_true rfl) rfl (E_147 (Nat.le_trans (by decide) hd) e_q30) rfl ?_
      have g32 : sm_is G0 q30.2 q30.1 8 = true := Classical.byContradiction (fun z => by rw [if_pos z] at hf; cases hf)
      rw [if_neg (fun z => z g32)] at hf
      obtain ⟨q31, e_q31, hf⟩ := bnd hf
      refine Ex.callV (a := q30.1) (As := []) (r := [.ref 49]) (v := some (.int q31.1)) (h' := q31.2) rfl rfl (by decide) rfl (Nat.le_of_ble_eq_true rfl) g32 (E_216 (Nat.le_trans (by decide) hd) e_q31) rfl ?_
      refine Ex.seg 2 (pc' := 364) (lc' := [some (.ref 49), some (.int x1), some (.int x2), some (.int q9.1)]) (st' := [.int 0, .long (Int32.toInt64 q31.1), .ref 49]) (h' := q31.2) (sg1 rfl rfl (sg1 rfl rfl rfl)) ?_
      obtain ⟨q33, e_q33, hf⟩ := bnd hf
      refine Ex.callV (a := 49) (As := [.long (Int32.toInt64 q31.1), .int 0]) (r := []) (v := some (.int q33.1)) (h' := q33.2) rfl rfl (by decide) rfl (Nat.le_of_ble_eq_true rfl) rfl (E_75 (Nat.le_trans (by decide) hd) e_q33) rfl ?_
      obtain rfl := Option.some.inj hf
      exact Ex.iret rfl rfl (fun c0 => by cases c0) hs
    · rw [if_pos (Classical.not_not.mp c0)] at hf
      refine Ex.seg 2 (pc' := 341) (lc' := [some (.ref 49), some (.int x1), some (.int x2), some (.int q9.1)]) (st' := [.int 1, .ref 49]) (h' := q28.2) (sg1 rfl rfl (sg1 rfl rfl rfl)) ?_
      obtain ⟨q34, e_q34, hf⟩ := bnd hf
      refine Ex.callV (a := 49) (As := [.int 1]) (r := []) (v := some (.int q34.1)) (h' := q34.2) rfl rfl (by decide) rfl (Nat.le_of_ble_eq_true rfl) rfl (E_76 (Nat.le_trans (by decide) hd) e_q34) rfl ?_
      obtain rfl := Option.some.inj hf
      exact Ex.iret rfl rfl (fun c0 => by cases c0) hs
  rw [if_neg n7] at hf
  rcases Classical.em (q10.1 = 22) with n8 | n8
  · rw [if_pos n8] at hf
    refine Ex.swt (t := 368) rfl rfl (by rw [n8]; exact Or.inr ⟨by decide, by decide, _, rfl, by decide⟩) ?_
    exact Ex.weak (sm_le_s (sm_le_s (sm_le_s (sm_le_n sm_le_nil)))) (B_102_368 hd  hf hs)
  rw [if_neg n8] at hf
  rcases Classical.em (q10.1 = 23) with n9 | n9
  · rw [if_pos n9] at hf
    refine Ex.swt (t := 368) rfl rfl (by rw [n9]; exact Or.inr ⟨by decide, by decide, _, rfl, by decide⟩) ?_
    exact Ex.weak (sm_le_s (sm_le_s (sm_le_s (sm_le_n sm_le_nil)))) (B_102_368 hd  hf hs)
  rw [if_neg n9] at hf
  rcases Classical.em (q10.1 = 24) with n10 | n10
  · rw [if_pos n10] at hf
    refine Ex.swt (t := 368) rfl rfl (by rw [n10]; exact Or.inr ⟨by decide, by decide, _, rfl, by decide⟩) ?_
    exact Ex.weak (sm_le_s (sm_le_s (sm_le_s (sm_le_n sm_le_nil)))) (B_102_368 hd  hf hs)
  rw [if_neg n10] at hf
  rcases Classical.em (q10.1 = 25) with n11 | n11
  · rw [if_pos n11] at hf
    refine Ex.swt (t := 368) rfl rfl (by rw [n11]; exact Or.inr ⟨by decide, by decide, _, rfl, by decide⟩) ?_
    exact Ex.weak (sm_le_s (sm_le_s (sm_le_s (sm_le_n sm_le_nil)))) (B_102_368 hd  hf hs)
  rw [if_neg n11] at hf
  rcases Classical.em (q10.1 = 26) with n12 | n12
  · rw [if_pos n12] at hf
    refine Ex.swt (t := 368) rfl rfl (by rw [n12]; exact Or.inr ⟨by decide, by decide, _, rfl, by decide⟩) ?_
    exact Ex.weak (sm_le_s (sm_le_s (sm_le_s (sm_le_n sm_le_nil)))) (B_102_368 hd  hf hs)
  rw [if_neg n12] at hf
  rcases Classical.em (q10.1 = 31) with n13 | n13
  · rw [if_pos n13] at hf
    refine Ex.swt (t := 375) rfl rfl (by rw [n13]; exact Or.inr ⟨by decide, by decide, _, rfl, by decide⟩) ?_
    refine Ex.seg 4 (pc' := 379) (lc' := [some (.ref 49), some (.int x1), some (.int x2), some (.int q9.1)]) (st' := [.int 0, .int x2, .ref 49, .ref 49]) (h' := q10.2) (sg1 rfl rfl (sg1 rfl rfl (sg1 rfl rfl (sg1 rfl rfl rfl)))) ?_
    obtain ⟨q35, e_q35, hf⟩ := bnd hf
    refine Ex.callV (a := 49) (As := [.int x2, .int 0]) (r := [.ref 49]) (v := some (.int q35.1)) (h' := q35.2) rfl rfl (by decide) rfl (Nat.le_of_ble_eq_true rfl) rfl (E_78 (Nat.le_trans (by decide) hd) e_q35) rfl ?_
    refine Ex.ifc rfl rfl (fun (c0 : q35.1 = 0) => ?_) (fun (c0 : ¬ (q35.1 = 0)) => ?_)
    · rw [if_pos c0] at hf
      exact Ex.weak (sm_le_n (sm_le_n (sm_le_n (sm_le_n sm_le_nil)))) (B_102_406 hd  hf hs)
    · rw [if_neg c0] at hf
      refine Ex.seg 5 (pc' := 392) (lc' := [some (.ref 49), some (.int x1), some (.int x2), some (.int q9.1)]) (st' := [.int 0, .int x2, .ref 49, .ref 1, .ref 49]) (h' := q35.2) (sg1 rfl rfl (sg1 rfl rfl (sg1 rfl rfl (sg1 rfl rfl (sg1 rfl rfl rfl))))) ?_
      obtain ⟨q36, e_q36, hf⟩ := bnd hf
      refine Ex.callV (a := 49) (As := [.int x2, .int 0]) (r := [.ref 1, .ref 49]) (v := some (.int q36.1)) (h' := q36.2) rfl rfl (by decide) rfl (Nat.le_of_ble_eq_true rfl) rfl (E_78 (Nat.le_trans (by decide) hd) e_q36) rfl ?_
      refine Ex.seg 1 (pc' := 396) (lc' := [some (.ref 49), some (.int x1), some (.int x2), some (.int q9.1)]) (st' := [.int q9.1, .int q36.1, .ref 1, .ref 49]) (h' := q36.2) (sg1 rfl rfl rfl) ?_
      obtain ⟨q37, e_q37, hf⟩ := bnd hf
      refine Ex.callV (a := 1) (As := [.int q36.1, .int q9.1]) (r := [.ref 49]) (v := some (.int q37.1)) (h' := q37.2) rfl rfl (by decide) rfl (Nat.le_of_ble_eq_true rfl) rfl (E_60 (Nat.le_trans (by decide) hd) e_q37) rfl ?_
      refine Ex.ifc rfl rfl (fun (c0 : q37.1 = 0) => ?_) (fun (c0 : ¬ (q37.1 = 0)) => ?_)
      · rw [if_pos c0] at hf
        exact Ex.weak (sm_le_n (sm_le_n (sm_le_n (sm_le_n sm_le_nil)))) (B_102_406 hd  hf hs)
      · rw [if_neg c0] at hf
        refine Ex.seg 2 (pc' := 407) (lc' := [some (.ref 49), some (.int x1), some (.int x2), some (.int q9.1)]) (st' := [.long 1, .ref 49]) (h' := q37.2) (sg1 rfl rfl (sg1 rfl rfl rfl)) ?_
        exact Ex.weak (sm_le_n (sm_le_n (sm_le_n (sm_le_n sm_le_nil)))) (B_102_407 hd  hf hs)
  rw [if_neg n13] at hf
  rcases Classical.em (q10.1 = 32) with n14 | n14
  · rw [if_pos n14] at hf
    refine Ex.swt (t := 412) rfl rfl (by rw [n14]; exact Or.inr ⟨by decide, by decide, _, rfl, by decide⟩) ?_
    refine Ex.seg 3 (pc' := 415) (lc' := [some (.ref 49), some (.int x1), some (.int x2), some (.int q9.1)]) (st' := [.int x2, .ref 49, .ref 49]) (h' := q10.2) (sg1 rfl rfl (sg1 rfl rfl (sg1 rfl rfl rfl))) ?_
    obtain ⟨q38, e_q38, hf⟩ := bnd hf
    refine Ex.callV (a := 49) (As := [.int x2]) (r := [.ref 49]) (v := some (.int q38.1)) (h' := q38.2) rfl rfl (by decide) rfl (Nat.le_of_ble_eq_true rfl) rfl (E_103 (Nat.le_trans (by decide) hd) e_q38) rfl ?_
    refine Ex.ifc rfl rfl (fun (c0 : q38.1 = 0) => ?_) (fun (c0 : ¬ (q38.1 = 0)) => ?_)
    · rw [if_pos c0] at hf
      refine Ex.seg 1 (pc' := 426) (lc' := [some (.ref 49), some (.int x1), some (.int x2), some (.int q9.1)]) (st' := [.long 0, .ref 49]) (h' := q38.2) (sg1 rfl rfl rfl) ?_
      exact Ex.weak (sm_le_n (sm_le_n (sm_le_n (sm_le_n sm_le_nil)))) (B_102_426 hd  hf hs)
    · rw [if_neg c0] at hf
      refine Ex.seg 2 (pc' := 426) (lc' := [some (.ref 49), some (.int x1), some (.int x2), some (.int q9.1)]) (st' := [.long 1, .ref 49]) (h' := q38.2) (sg1 rfl rfl (sg1 rfl rfl rfl)) ?_
      exact Ex.weak (sm_le_n (sm_le_n (sm_le_n (sm_le_n sm_le_nil)))) (B_102_426 hd  hf hs)
  rw [if_neg n14] at hf
  rcases Classical.em (q10.1 = 33) with n15 | n15
  · rw [if_pos n15] at hf
    refine Ex.swt (t := 431) rfl rfl (by rw [n15]; exact Or.inr ⟨by decide, by decide, _, rfl, by decide⟩) ?_
    refine Ex.seg 3 (pc' := 434) (lc' := [some (.ref 49), some (.int x1), some (.int x2), some (.int q9.1)]) (st' := [.int 0, .int x2, .ref 49]) (h' := q10.2) (sg1 rfl rfl (sg1 rfl rfl (sg1 rfl rfl rfl))) ?_
    obtain ⟨q39, e_q39, hf⟩ := bnd hf
    refine Ex.callV (a := 49) (As := [.int x2, .int 0]) (r := []) (v := some (.int q39.1)) (h' := q39.2) rfl rfl (by decide) rfl (Nat.le_of_ble_eq_true rfl) rfl (E_78 (Nat.le_trans (by decide) hd) e_q39) rfl ?_
    refine Ex.ifc rfl rfl (fun (c0 : ¬ (q39.1 = 0)) => ?_) (fun (c0 : ¬ ¬ (q39.1 = 0)) => ?_)
    · rw [if_neg c0] at hf
      refine Ex.seg 4 (pc' := 450) (lc' := [some (.ref 49), some (.int x1), some (.int x2), some (.int q9.1)]) (st' := [.int 0, .int x2, .ref 49, .ref 49]) (h' := q39.2) (sg1 rfl rfl (sg1 rfl rfl (sg1 rfl rfl (sg1 rfl rfl rfl)))) ?_
      obtain ⟨q40, e_q40, hf⟩ := bnd hf
      refine Ex.callV (a := 49) (As := [.int x2, .int 0]) (r := [.ref 49]) (v := some (.int q40.1)) (h' := q40.2) rfl rfl (by decide) rfl (Nat.le_of_ble_eq_true rfl) rfl (E_78 (Nat.le_trans (by decide) hd) e_q40) rfl ?_
      refine Ex.seg 1 (pc' := 455) (lc' := [some (.ref 49), some (.int x1), some (.int x2), some (.int q9.1)]) (st' := [.int 19, .int q40.1, .ref 49]) (h' := q40.2) (sg1 rfl rfl rfl) ?_
      refine Ex.icmp rfl rfl (fun (c0 : ¬ (q40.1 = 19)) => ?_) (fun (c0 : ¬ ¬ (q40.1 = 19)) => ?_)
      · rw [if_neg c0] at hf
        refine Ex.seg 1 (pc' := 468) (lc' := [some (.ref 49), some (.int x1), some (.int x2), some (.int q9.1)]) (st' := [.long 0, .ref 49]) (h' := q40.2) (sg1 rfl rfl rfl) ?_
        exact Ex.weak (sm_le_n (sm_le_n (sm_le_n (sm_le_n sm_le_nil)))) (B_102_468 hd  hf hs)
      · rw [if_pos (Classical.not_not.mp c0)] at hf
        refine Ex.seg 3 (pc' := 461) (lc' := [some (.ref 49), some (.int x1), some (.int x2), some (.int q9.1)]) (st' := [.int 0, .int x2, .ref 49, .ref 49]) (h' := q40.2) (sg1 rfl rfl (sg1 rfl rfl (sg1 rfl rfl rfl))) ?_
        obtain ⟨q41, e_q41, hf⟩ := bnd hf
        refine Ex.callV (a := 49) (As := [.int x2, .int 0]) (r := [.ref 49]) (v := some (.long q41.1)) (h' := q41.2) rfl rfl (by decide) rfl (Nat.le_of_ble_eq_true rfl) rfl (E_77 (Nat.le_trans (by decide) hd) e_q41) rfl ?_
        refine Ex.seg 1 (pc' := 468) (lc' := [some (.ref 49), some (.int x1), some (.int x2), some (.int q9.1)]) (st' := [.long q41.1, .ref 49]) (h' := q41.2) (sg1 rfl rfl rfl) ?_
        exact Ex.weak (sm_le_n (sm_le_n (sm_le_n (sm_le_n sm_le_nil)))) (B_102_468 hd  hf hs)
    · rw [if_pos (Classical.not_not.mp c0)] at hf
      refine Ex.seg 2 (pc' := 442) (lc' := [some (.ref 49), some (.int x1), some (.int x2), some (.int q9.1)]) (st' := [.int 1, .ref 49]) (h' := q39.2) (sg1 rfl rfl (sg1 rfl rfl rfl)) ?_
      obtain ⟨q42, e_q42, hf⟩ := bnd hf
      refine Ex.callV (a := 49) (As := [.int 1]) (r := []) (v := some (.int q42.1)) (h' := q42.2) rfl rfl (by decide) rfl (Nat.le_of_ble_eq_true rfl) rfl (E_76 (Nat.le_trans (by decide) hd) e_q42) rfl ?_
      obtain rfl := Option.some.inj hf
      exact Ex.iret rfl rfl (fun c0 => by cases c0) hs
  rw [if_neg n15] at hf
  rcases Classical.em (q10.1 = 35) with n16 | n16
  · rw [if_pos n16] at hf
    refine Ex.swt (t := 473) rfl rfl (by rw [n16]; exact Or.inr ⟨by decide, by decide, _, rfl, by decide⟩) ?_
    refine Ex.seg 3 (pc' := 476) (lc' := [some (.ref 49), some (.int x1), some (.int x2), some (.int q9.1)]) (st' := [.int x2, .int x1, .ref 49]) (h' := q10.2) (sg1 rfl rfl (sg1 rfl rfl (sg1 rfl rfl rfl))) ?_
    obtain ⟨q43, e_q43, hf⟩ := bnd hf
    refine Ex.callV (a := 49) (As := [.int x1, .int x2]) (r := []) (v := some (.int q43.1)) (h' := q43.2) rfl rfl (by decide) rfl (Nat.le_of_ble_eq_true rfl) rfl (E_109 (Nat.le_trans (by decide) hd) e_q43) rfl ?_
    obtain rfl := Option.some.inj hf
    exact Ex.iret rfl rfl (fun c0 => by cases c0) hs
  rw [if_neg n16] at hf
  refine Ex.swt (t := 480) rfl rfl (sw_dflt (by decide) (by decide) (fun k hk he => ?_)) ?_
  · have hk : k < 36 := hk
    rcases (show k = 0 ∨ k = 1 ∨ k = 2 ∨ k = 3 ∨ k = 4 ∨ k = 5 ∨ k = 6 ∨ k = 7 ∨ k = 8 ∨ k = 9 ∨ k = 10 ∨ k = 11 ∨ k = 12 ∨ k = 13 ∨ k = 14 ∨ k = 15 ∨ k = 16 ∨ k = 17 ∨ k = 18 ∨ k = 19 ∨ k = 20 ∨ k = 21 ∨ k = 22 ∨ k = 23 ∨ k = 24 ∨ k = 25 ∨ k = 26 ∨ k = 27 ∨ k = 28 ∨ k = 29 ∨ k = 30 ∨ k = 31 ∨ k = 32 ∨ k = 33 ∨ k = 34 ∨ k = 35 by omega) with rfl | rfl | rfl | rfl | rfl | rfl | rfl | rfl | rfl | rfl | rfl | rfl | rfl | rfl | rfl | rfl | rfl | rfl | rfl | rfl | rfl | rfl | rfl | rfl | rfl | rfl | rfl | rfl | rfl | rfl | rfl | rfl | rfl | rfl | rfl | rfl
    · exact absurd (Int32.toInt_inj.mp (he.symm.trans (by decide : (_ : Int) = Int32.toInt 0))) n1
    · exact absurd (Int32.toInt_inj.mp (he.symm.trans (by decide : (_ : Int) = Int32.toInt 1))) n2
    · exact absurd (Int32.toInt_inj.mp (he.symm.trans (by decide : (_ : Int) = Int32.toInt 2))) n3
    · exact absurd (Int32.toInt_inj.mp (he.symm.trans (by decide : (_ : Int) = Int32.toInt 3))) n4
    · rfl
    · rfl
    · rfl
    · rfl
    · rfl
    · rfl
    · rfl
    · rfl
    · rfl
    · rfl
    · rfl
    · rfl
    · rfl
    · rfl
    · rfl
    · exact absurd (Int32.toInt_inj.mp (he.symm.trans (by decide : (_ : Int) = Int32.toInt 19))) n5
    · exact absurd (Int32.toInt_inj.mp (he.symm.trans (by decide : (_ : Int) = Int32.toInt 20))) n6
    · exact absurd (Int32.toInt_inj.mp (he.symm.trans (by decide : (_ : Int) = Int32.toInt 21))) n7
    · exact absurd (Int32.toInt_inj.mp (he.symm.trans (by decide : (_ : Int) = Int32.toInt 22))) n8
    · exact absurd (Int32.toInt_inj.mp (he.symm.trans (by decide : (_ : Int) = Int32.toInt 23))) n9
    · exact absurd (Int32.toInt_inj.mp (he.symm.trans (by decide : (_ : Int) = Int32.toInt 24))) n10
    · exact absurd (Int32.toInt_inj.mp (he.symm.trans (by decide : (_ : Int) = Int32.toInt 25))) n11
    · exact absurd (Int32.toInt_inj.mp (he.symm.trans (by decide : (_ : Int) = Int32.toInt 26))) n12
    · rfl
    · rfl
    · rfl
    · rfl
    · exact absurd (Int32.toInt_inj.mp (he.symm.trans (by decide : (_ : Int) = Int32.toInt 31))) n13
    · exact absurd (Int32.toInt_inj.mp (he.symm.trans (by decide : (_ : Int) = Int32.toInt 32))) n14
    · exact absurd (Int32.toInt_inj.mp (he.symm.trans (by decide : (_ : Int) = Int32.toInt 33))) n15
    · rfl
    · exact absurd (Int32.toInt_inj.mp (he.symm.trans (by decide : (_ : Int) = Int32.toInt 35))) n16
  exact Ex.weak (sm_le_s (sm_le_n (sm_le_n (sm_le_n sm_le_nil)))) (B_102_480 hd  hf hs)
theorem E_102 {L : Nat} {xs : Nat → Int32} {d : Nat} (hd : 5 ≤ d) {x1 : Int32} {x2 : Int32} {h : sm_H} {r : Int32 × sm_H} (hf : F_102 x1 x2 h = some r) : RUN L xs d 102 [.ref 49, .int x1, .int x2] h (some (.int r.1), r.2) := by
  obtain ⟨d, rfl⟩ : ∃ e, d = e + 1 := ⟨d - 1, by omega⟩
  exact ⟨Nat.le_of_ble_eq_true rfl, B_102_0 (by omega) hf rfl⟩
theorem B_82_367 {L : Nat} {xs : Nat → Int32} {d : Nat} {M : Nat} {rec : Int32 → Int32 → sm_H → Option (Int32 × sm_H)} (hrec : ∀ d, M ≤ d → ∀ (x1 x2 : Int32) (h : sm_H) (q : Int32 × sm_H), rec x1 x2 h = some q → RUN L xs d 82 [.ref 49, .int x1, .int x2] h (some (.int q.1), q.2)) (hd : 6 + M ≤ d) {res : Option Value × sm_H} {y1 : Int32} {y2 : Int32}  {h : sm_H} {r : (Int32 × sm_H)} (hf : F_82_367 rec y1 y2 h = some r) (hs : (fun (r : Int32 × sm_H) => res = (some (.int r.1), r.2)) r) : Ex (P_G L xs) (RUN L xs d) (sm_lk P_t82) 0 367 [some (.ref 49), some (.int y1), some (.int y2), none, none] [] h res := by
  unfold F_82_367 at hf
  refine Ex.seg 3 (pc' := 370) (lc' := [some (.ref 49), some (.int y1), some (.int y2), none, none]) (st' := [.int y2, .int y1, .ref 49]) (h' := h) (sg1 rfl rfl (sg1 rfl rfl (sg1 rfl rfl rfl))) ?_
  obtain ⟨q1, e_q1, hf⟩ := bnd hf
  refine Ex.callV (a := 49) (As := [.int y1, .int y2]) (r := []) (v := some (.int q1.1)) (h' := q1.2) rfl rfl (by decide) rfl (Nat.le_of_ble_eq_true rfl) rfl (E_102 (by omega) e_q1) rfl ?_
  obtain rfl := Option.some.inj hf
  exact Ex.iret rfl rfl (fun c0 => by cases c0) hs
theorem B_82_353 {L : Nat} {xs : Nat → Int32} {d : Nat} {M : Nat} {rec : Int32 → Int32 → sm_H → Option (Int32 × sm_H)} (hrec : ∀ d, M ≤ d → ∀ (x1 x2 : Int32) (h : sm_H) (q : Int32 × sm_H), rec x1 x2 h = some q → RUN L xs d 82 [.ref 49, .int x1, .int x2] h (some (.int q.1), q.2)) (hd : 6 + M ≤ d) {res : Option Value × sm_H} {y1 : Int32} {y2 : Int32}  {h : sm_H} {r : (Int32 × sm_H)} (hf : F_82_353 rec y1 y2 h = some r) (hs : (fun (r : Int32 × sm_H) => res = (some (.int r.1), r.2)) r) : Ex (P_G L xs) (RUN L xs d) (sm_lk P_t82) 0 353 [some (.ref 49), some (.int y1), some (.int y2), none, none] [] h res := by
  unfold F_82_353 at hf
  refine Ex.seg 3 (pc' := 356) (lc' := [some (.ref 49), some (.int y1), some (.int y2), none, none]) (st' := [.int y2, .int y1, .ref 49]) (h' := h) (sg1 rfl rfl (sg1 rfl rfl (sg1 rfl rfl rfl))) ?_
  obtain ⟨q2, e_q2, hf⟩ := bnd hf
  refine Ex.callV (a := 49) (As := [.int y1, .int y2]) (r := []) (v := some (.int q2.1)) (h' := q2.2) rfl rfl (by decide) rfl (Nat.le_of_ble_eq_true rfl) rfl (E_100 hrec (by omega) e_q2) rfl ?_
  obtain rfl := Option.some.inj hf
  exact Ex.iret rfl rfl (fun c0 => by cases c0) hs
theorem B_82_352 {L : Nat} {xs : Nat → Int32} {d : Nat} {M : Nat} {rec : Int32 → Int32 → sm_H → Option (Int32 × sm_H)} (hrec : ∀ d, M ≤ d → ∀ (x1 x2 : Int32) (h : sm_H) (q : Int32 × sm_H), rec x1 x2 h = some q → RUN L xs d 82 [.ref 49, .int x1, .int x2] h (some (.int q.1), q.2)) (hd : 6 + M ≤ d) {res : Option Value × sm_H} {z0 : Int32}  {h : sm_H} {r : (Int32 × sm_H)} (hf : F_82_352 rec z0 h = some r) (hs : (fun (r : Int32 × sm_H) => res = (some (.int r.1), r.2)) r) : Ex (P_G L xs) (RUN L xs d) (sm_lk P_t82) 0 352 [none, none, none, none, none] [.int z0] h res := by
  unfold F_82_352 at hf
  obtain rfl := Option.some.inj hf
  exact Ex.iret rfl rfl (fun c0 => by cases c0) hs
theorem B_82_312 {L : Nat} {xs : Nat → Int32} {d : Nat} {M : Nat} {rec : Int32 → Int32 → sm_H → Option (Int32 × sm_H)} (hrec : ∀ d, M ≤ d → ∀ (x1 x2 : Int32) (h : sm_H) (q : Int32 × sm_H), rec x1 x2 h = some q → RUN L xs d 82 [.ref 49, .int x1, .int x2] h (some (.int q.1), q.2)) (hd : 6 + M ≤ d) {res : Option Value × sm_H} {y1 : Int32} {y2 : Int32}  {h : sm_H} {r : (Int32 × sm_H)} (hf : F_82_312 rec y1 y2 h = some r) (hs : (fun (r : Int32 × sm_H) => res = (some (.int r.1), r.2)) r) : Ex (P_G L xs) (RUN L xs d) (sm_lk P_t82) 0 312 [some (.ref 49), some (.int y1), some (.int y2), none, none] [] h res := by
  unfold F_82_312 at hf
  refine Ex.seg 3 (pc' := 315) (lc' := [some (.ref 49), some (.int y1), some (.int y2), none, none]) (st' := [.int y2, .int y1, .ref 49]) (h' := h) (sg1 rfl rfl (sg1 rfl rfl (sg1 rfl rfl rfl))) ?_
  obtain ⟨q3, e_q3, hf⟩ := bnd hf
  refine Ex.callV (a := 49) (As := [.int y1, .int y2]) (r := []) (v := some (.int q3.1)) (h' := q3.2) rfl rfl (by decide) rfl (Nat.le_of_ble_eq_true rfl) rfl (E_99 (by omega) e_q3) rfl ?_
  refine Ex.seg 2 (pc' := 322) (lc' := [some (.ref 49), some (.int y1), some (.int y2), none, some (.int q3.1)]) (st' := [.int q3.1]) (h' := q3.2) (sg1 rfl rfl (sg1 rfl rfl rfl)) ?_
  refine Ex.ifc rfl rfl (fun (c0 : 0 ≤ q3.1) => ?_) (fun (c0 : ¬ (0 ≤ q3.1)) => ?_)
  · rw [if_pos c0] at hf
    refine Ex.seg 5 (pc' := 343) (lc' := [some (.ref 49), some (.int y1), some (.int y2), none, some (.int q3.1)]) (st' := [.int y1, .ref 10, .int q3.1, .ref 49]) (h' := q3.2) (sg1 rfl rfl (sg1 rfl rfl (sg1 rfl rfl (sg1 rfl rfl (sg1 rfl rfl rfl))))) ?_
    obtain ⟨q4, e_q4, hf⟩ := bnd hf
    refine Ex.callV (a := 10) (As := [.int y1]) (r := [.int q3.1, .ref 49]) (v := some (.int q4.1)) (h' := q4.2) rfl rfl (by decide) rfl (Nat.le_of_ble_eq_true rfl) rfl (E_39 (by omega) e_q4) rfl ?_
    refine Ex.seg 3 (pc' := 349) (lc' := [some (.ref 49), some (.int y1), some (.int y2), none, some (.int q3.1)]) (st' := [.int 0, .int y2, .int 1, .int q4.1, .int q3.1, .ref 49]) (h' := q4.2) (sg1 rfl rfl (sg1 rfl rfl (sg1 rfl rfl rfl))) ?_
    obtain ⟨q5, e_q5, hf⟩ := bnd hf
    refine Ex.callV (a := 49) (As := [.int q3.1, .int q4.1, .int 1, .int y2, .int 0]) (r := []) (v := some (.int q5.1)) (h' := q5.2) rfl rfl (by decide) rfl (Nat.le_of_ble_eq_true rfl) rfl (E_89 hrec (by omega) e_q5) rfl ?_
    exact Ex.weak (sm_le_n (sm_le_n (sm_le_n (sm_le_s (sm_le_n sm_le_nil))))) (B_82_352 hrec hd  hf hs)
  · rw [if_neg c0] at hf
    refine Ex.seg 3 (pc' := 329) (lc' := [some (.ref 49), some (.int y1), some (.int y2), none, some (.int q3.1)]) (st' := [.int (-q3.1), .ref 49]) (h' := q3.2) (sg1 rfl rfl (sg1 rfl rfl (sg1 rfl rfl rfl))) ?_
    obtain ⟨q6, e_q6, hf⟩ := bnd hf
    refine Ex.callV (a := 49) (As := [.int (-q3.1)]) (r := []) (v := some (.int q6.1)) (h' := q6.2) rfl rfl (by decide) rfl (Nat.le_of_ble_eq_true rfl) rfl (E_76 (by omega) e_q6) rfl ?_
    refine Ex.seg 1 (pc' := 352) (lc' := [some (.ref 49), some (.int y1), some (.int y2), none, some (.int q3.1)]) (st' := [.int q6.1]) (h' := q6.2) (sg1 rfl rfl rfl) ?_
    exact Ex.weak (sm_le_n (sm_le_n (sm_le_n (sm_le_s (sm_le_n sm_le_nil))))) (B_82_352 hrec hd  hf hs)
theorem B_82_311 {L : Nat} {xs : Nat → Int32} {d : Nat} {M : Nat} {rec : Int32 → Int32 → sm_H → Option (Int32 × sm_H)} (hrec : ∀ d, M ≤ d → ∀ (x1 x2 : Int32) (h : sm_H) (q : Int32 × sm_H), rec x1 x2 h = some q → RUN L xs d 82 [.ref 49, .int x1, .int x2] h (some (.int q.1), q.2)) (hd : 6 + M ≤ d) {res : Option Value × sm_H} {z0 : Int32}  {h : sm_H} {r : (Int32 × sm_H)} (hf : F_82_311 rec z0 h = some r) (hs : (fun (r : Int32 × sm_H) => res = (some (.int r.1), r.2)) r) : Ex (P_G L xs) (RUN L xs d) (sm_lk P_t82) 0 311 [none, none, none, none, none] [.int z0] h res := by
  unfold F_82_311 at hf
  obtain rfl := Option.some.inj hf
  exact Ex.iret rfl rfl (fun c0 => by cases c0) hs
theorem B_82_265 {L : Nat} {xs : Nat → Int32} {d : Nat} {M : Nat} {rec : Int32 → Int32 → sm_H → Option (Int32 × sm_H)} (hrec : ∀ d, M ≤ d → ∀ (x1 x2 : Int32) (h : sm_H) (q : Int32 × sm_H), rec x1 x2 h = some q → RUN L xs d 82 [.ref 49, .int x1, .int x2] h (some (.int q.1), q.2)) (hd : 6 + M ≤ d) {res : Option Value × sm_H} {z1 : Int32} {z2 : Int32} {z3 : Int32} {z4 : Int32} {z5 : Int32}  {h : sm_H} {r : (Int32 × sm_H)} (hf : F_82_265 rec z1 z2 z3 z4 z5 h = some r) (hs : (fun (r : Int32 × sm_H) => res = (some (.int r.1), r.2)) r) : Ex (P_G L xs) (RUN L xs d) (sm_lk P_t82) 0 265 [none, none, none, none, none] [.int z5, .int z4, .int z3, .int z2, .int z1, .ref 49] h res := by
  unfold F_82_265 at hf
  obtain ⟨q7, e_q7, hf⟩ := bnd hf
  refine Ex.callV (a := 49) (As := [.int z1, .int z2, .int z3, .int z4, .int z5]) (r := []) (v := some (.int q7.1)) (h' := q7.2) rfl rfl (by decide) rfl (Nat.le_of_ble_eq_true rfl) rfl (E_89 hrec (by omega) e_q7) rfl ?_
  obtain rfl := Option.some.inj hf
  exact Ex.iret rfl rfl (fun c0 => by cases c0) hs
theorem B_82_227 {L : Nat} {xs : Nat → Int32} {d : Nat} {M : Nat} {rec : Int32 → Int32 → sm_H → Option (Int32 × sm_H)} (hrec : ∀ d, M ≤ d → ∀ (x1 x2 : Int32) (h : sm_H) (q : Int32 × sm_H), rec x1 x2 h = some q → RUN L xs d 82 [.ref 49, .int x1, .int x2] h (some (.int q.1), q.2)) (hd : 6 + M ≤ d) {res : Option Value × sm_H} {y1 : Int32} {y2 : Int32}  {h : sm_H} {r : (Int32 × sm_H)} (hf : F_82_227 rec y1 y2 h = some r) (hs : (fun (r : Int32 × sm_H) => res = (some (.int r.1), r.2)) r) : Ex (P_G L xs) (RUN L xs d) (sm_lk P_t82) 0 227 [some (.ref 49), some (.int y1), some (.int y2), none, none] [] h res := by
  unfold F_82_227 at hf
  refine Ex.seg 5 (pc' := 234) (lc' := [some (.ref 49), some (.int y1), some (.int y2), none, none]) (st' := [.int 0, .int y1, .ref 10, .ref 49]) (h' := h) (sg1 rfl rfl (sg1 rfl rfl (sg1 rfl rfl (sg1 rfl rfl (sg1 rfl rfl rfl))))) ?_
  obtain ⟨q8, e_q8, hf⟩ := bnd hf
  refine Ex.callV (a := 10) (As := [.int y1, .int 0]) (r := [.ref 49]) (v := some (.int q8.1)) (h' := q8.2) rfl rfl (by decide) rfl (Nat.le_of_ble_eq_true rfl) rfl (E_43 (by omega) e_q8) rfl ?_
  refine Ex.seg 3 (pc' := 242) (lc' := [some (.ref 49), some (.int y1), some (.int y2), none, none]) (st' := [.int y1, .ref 10, .int q8.1, .ref 49]) (h' := q8.2) (sg1 rfl rfl (sg1 rfl rfl (sg1 rfl rfl rfl))) ?_
  obtain ⟨q9, e_q9, hf⟩ := bnd hf
  refine Ex.callV (a := 10) (As := [.int y1]) (r := [.int q8.1, .ref 49]) (v := some (.int q9.1)) (h' := q9.2) rfl rfl (by decide) rfl (Nat.le_of_ble_eq_true rfl) rfl (E_39 (by omega) e_q9) rfl ?_
  refine Ex.seg 5 (pc' := 252) (lc' := [some (.ref 49), some (.int y1), some (.int y2), none, none]) (st' := [.int y1, .ref 10, .int y2, .int 0, .int q9.1, .int q8.1, .ref 49]) (h' := q9.2) (sg1 rfl rfl (sg1 rfl rfl (sg1 rfl rfl (sg1 rfl rfl (sg1 rfl rfl rfl))))) ?_
  obtain ⟨q10, e_q10, hf⟩ := bnd hf
  refine Ex.callV (a := 10) (As := [.int y1]) (r := [.int y2, .int 0, .int q9.1, .int q8.1, .ref 49]) (v := some (.int q10.1)) (h' := q10.2) rfl rfl (by decide) rfl (Nat.le_of_ble_eq_true rfl) rfl (E_37 (by omega) e_q10) rfl ?_
  refine Ex.seg 1 (pc' := 257) (lc' := [some (.ref 49), some (.int y1), some (.int y2), none, none]) (st' := [.int 13, .int q10.1, .int y2, .int 0, .int q9.1, .int q8.1, .ref 49]) (h' := q10.2) (sg1 rfl rfl rfl) ?_
  refine Ex.icmp rfl rfl (fun (c0 : ¬ (q10.1 = 13)) => ?_) (fun (c0 : ¬ ¬ (q10.1 = 13)) => ?_)
  · rw [if_neg c0] at hf
    refine Ex.seg 1 (pc' := 265) (lc' := [some (.ref 49), some (.int y1), some (.int y2), none, none]) (st' := [.int 0, .int y2, .int 0, .int q9.1, .int q8.1, .ref 49]) (h' := q10.2) (sg1 rfl rfl rfl) ?_
    exact Ex.weak (sm_le_n (sm_le_n (sm_le_n (sm_le_s (sm_le_s sm_le_nil))))) (B_82_265 hrec hd  hf hs)
  · rw [if_pos (Classical.not_not.mp c0)] at hf
    refine Ex.seg 2 (pc' := 265) (lc' := [some (.ref 49), some (.int y1), some (.int y2), none, none]) (st' := [.int 1, .int y2, .int 0, .int q9.1, .int q8.1, .ref 49]) (h' := q10.2) (sg1 rfl rfl (sg1 rfl rfl rfl)) ?_
    exact Ex.weak (sm_le_n (sm_le_n (sm_le_n (sm_le_s (sm_le_s sm_le_nil))))) (B_82_265 hrec hd  hf hs)
theorem B_82_199 {L : Nat} {xs : Nat → Int32} {d : Nat} {M : Nat} {rec : Int32 → Int32 → sm_H → Option (Int32 × sm_H)} (hrec : ∀ d, M ≤ d → ∀ (x1 x2 : Int32) (h : sm_H) (q : Int32 × sm_H), rec x1 x2 h = some q → RUN L xs d 82 [.ref 49, .int x1, .int x2] h (some (.int q.1), q.2)) (hd : 6 + M ≤ d) {res : Option Value × sm_H} {y1 : Int32} {y2 : Int32}  {h : sm_H} {r : (Int32 × sm_H)} (hf : F_82_199 rec y1 y2 h = some r) (hs : (fun (r : Int32 × sm_H) => res = (some (.int r.1), r.2)) r) : Ex (P_G L xs) (RUN L xs d) (sm_lk P_t82) 0 199 [some (.ref 49), some (.int y1), some (.int y2), none, none] [] h res := by
  unfold F_82_199 at hf
  refine Ex.seg 3 (pc' := 202) (lc' := [some (.ref 49), some (.int y1), some (.int y2), none, none]) (st' := [.int y2, .int y1, .ref 49]) (h' := h) (sg1 rfl rfl (sg1 rfl rfl (sg1 rfl rfl rfl))) ?_
  obtain ⟨q11, e_q11, hf⟩ := bnd hf
  refine Ex.callV (a := 49) (As := [.int y1, .int y2]) (r := []) (v := some (.int q11.1)) (h' := q11.2) rfl rfl (by decide) rfl (Nat.le_of_ble_eq_true rfl) rfl (E_85 hrec (by omega) e_q11) rfl ?_
  obtain rfl := Option.some.inj hf
  exact Ex.iret rfl rfl (fun c0 => by cases c0) hs
theorem B_82_192 {L : Nat} {xs : Nat → Int32} {d : Nat} {M : Nat} {rec : Int32 → Int32 → sm_H → Option (Int32 × sm_H)} (hrec : ∀ d, M ≤ d → ∀ (x1 x2 : Int32) (h : sm_H) (q : Int32 × sm_H), rec x1 x2 h = some q → RUN L xs d 82 [.ref 49, .int x1, .int x2] h (some (.int q.1), q.2)) (hd : 6 + M ≤ d) {res : Option Value × sm_H} {y1 : Int32} {y2 : Int32}  {h : sm_H} {r : (Int32 × sm_H)} (hf : F_82_192 rec y1 y2 h = some r) (hs : (fun (r : Int32 × sm_H) => res = (some (.int r.1), r.2)) r) : Ex (P_G L xs) (RUN L xs d) (sm_lk P_t82) 0 192 [some (.ref 49), some (.int y1), some (.int y2), none, none] [] h res := by
  unfold F_82_192 at hf
  refine Ex.seg 3 (pc' := 195) (lc' := [some (.ref 49), some (.int y1), some (.int y2), none, none]) (st' := [.int y2, .int y1, .ref 49]) (h' := h) (sg1 rfl rfl (sg1 rfl rfl (sg1 rfl rfl rfl))) ?_
  obtain ⟨q12, e_q12, hf⟩ := bnd hf
  refine Ex.callV (a := 49) (As := [.int y1, .int y2]) (r := []) (v := some (.int q12.1)) (h' := q12.2) rfl rfl (by decide) rfl (Nat.le_of_ble_eq_true rfl) rfl (E_83 hrec (by omega) e_q12) rfl ?_
  obtain rfl := Option.some.inj hf
  exact Ex.iret rfl rfl (fun c0 => by cases c0) hs
theorem B_82_0 {L : Nat} {xs : Nat → Int32} {d : Nat} {M : Nat} {rec : Int32 → Int32 → sm_H → Option (Int32 × sm_H)} (hrec : ∀ d, M ≤ d → ∀ (x1 x2 : Int32) (h : sm_H) (q : Int32 × sm_H), rec x1 x2 h = some q → RUN L xs d 82 [.ref 49, .int x1, .int x2] h (some (.int q.1), q.2)) (hd : 6 + M ≤ d) {res : Option Value × sm_H} {x1 : Int32} {x2 : Int32}  {h : sm_H} {r : (Int32 × sm_H)} (hf : F_82_0 rec x1 x2 h = some r) (hs : (fun (r : Int32 × sm_H) => res = (some (.int r.1), r.2)) r) : Ex (P_G L xs) (RUN L xs d) (sm_lk P_t82) 0 0 [some (.ref 49), some (.int x1), some (.int x2), none, none] [] h res := by
  unfold F_82_0 at hf
  refine Ex.seg 2 (pc' := 3) (lc' := [some (.ref 49), some (.int x1), some (.int x2), none, none]) (st' := [.int 100, .int x2]) (h' := h) (sg1 rfl rfl (sg1 rfl rfl rfl)) ?_
  refine Ex.icmp rfl rfl (fun (c0 : x2 < 100) => ?_) (fun (c0 : ¬ (x2 < 100)) => ?_)
  · rw [if_pos c0] at hf
    refine Ex.seg 4 (pc' := 16) (lc' := [some (.ref 49), some (.int x1), some (.int x2), none, none]) (st' := [.int (h.1 49 7), .int (h.1 49 8)]) (h' := h) (sg1 rfl rfl (sg1 rfl rfl (sg1 rfl rfl (sg1 rfl rfl rfl)))) ?_
    refine Ex.icmp rfl rfl (fun (c0 : (h.1 49 8) < (h.1 49 7)) => ?_) (fun (c0 : ¬ ((h.1 49 8) < (h.1 49 7))) => ?_)
    · rw [if_pos c0] at hf
      refine Ex.seg 6 (pc' := 31) (lc' := [some (.ref 49), some (.int x1), some (.int x2), none, none]) (st' := []) (h' := (sm_wI h 49 8 ((h.1 49 8) + 1))) (sg1 rfl rfl (sg1 rfl rfl (sg1 rfl rfl (sg1 rfl rfl (sg1 rfl rfl (sg1 rfl rfl rfl)))))) ?_
      obtain ⟨h13, e_h13, hf⟩ := bnd hf
      rw [Option.some.inj e_h13]
      refine Ex.seg 3 (pc' := 36) (lc' := [some (.ref 49), some (.int x1), some (.int x2), none, none]) (st' := [.int x1, .ref 10]) (h' := h13) (sg1 rfl rfl (sg1 rfl rfl (sg1 rfl rfl rfl))) ?_
      obtain ⟨q14, e_q14, hf⟩ := bnd hf
      refine Ex.callV (a := 10) (As := [.int x1]) (r := []) (v := some (.int q14.1)) (h' := q14.2) rfl rfl (by decide) rfl (Nat.le_of_ble_eq_true rfl) rfl (E_37 (by omega) e_q14) rfl ?_
      rcases Classical.em (q14.1 = 4) with n1 | n1
      · rw [if_pos n1] at hf
        refine Ex.swt (t := 192) rfl rfl (by rw [n1]; exact Or.inr ⟨by decide, by decide, _, rfl, by decide⟩) ?_
        exact Ex.weak (sm_le_s (sm_le_s (sm_le_s (sm_le_s (sm_le_s sm_le_nil))))) (B_82_192 hrec hd  hf hs)
      rw [if_neg n1] at hf
      rcases Classical.em (q14.1 = 5) with n2 | n2
      · rw [if_pos n2] at hf
        refine Ex.swt (t := 192) rfl rfl (by rw [n2]; exact Or.inr ⟨by decide, by decide, _, rfl, by decide⟩) ?_
        exact Ex.weak (sm_le_s (sm_le_s (sm_le_s (sm_le_s (sm_le_s sm_le_nil))))) (B_82_192 hrec hd  hf hs)
      rw [if_neg n2] at hf
      rcases Classical.em (q14.1 = 6) with n3 | n3
      · rw [if_pos n3] at hf
        refine Ex.swt (t := 192) rfl rfl (by rw [n3]; exact Or.inr ⟨by decide, by decide, _, rfl, by decide⟩) ?_
        exact Ex.weak (sm_le_s (sm_le_s (sm_le_s (sm_le_s (sm_le_s sm_le_nil))))) (B_82_192 hrec hd  hf hs)
      rw [if_neg n3] at hf
      rcases Classical.em (q14.1 = 7) with n4 | n4
      · rw [if_pos n4] at hf
        refine Ex.swt (t := 199) rfl rfl (by rw [n4]; exact Or.inr ⟨by decide, by decide, _, rfl, by decide⟩) ?_
        exact Ex.weak (sm_le_s (sm_le_s (sm_le_s (sm_le_s (sm_le_s sm_le_nil))))) (B_82_199 hrec hd  hf hs)
      rw [if_neg n4] at hf
      rcases Classical.em (q14.1 = 8) with n5 | n5
      · rw [if_pos n5] at hf
        refine Ex.swt (t := 199) rfl rfl (by rw [n5]; exact Or.inr ⟨by decide, by decide, _, rfl, by decide⟩) ?_
        exact Ex.weak (sm_le_s (sm_le_s (sm_le_s (sm_le_s (sm_le_s sm_le_nil))))) (B_82_199 hrec hd  hf hs)
      rw [if_neg n5] at hf
      rcases Classical.em (q14.1 = 9) with n6 | n6
      · rw [if_pos n6] at hf
        refine Ex.swt (t := 206) rfl rfl (by rw [n6]; exact Or.inr ⟨by decide, by decide, _, rfl, by decide⟩) ?_
        refine Ex.seg 3 (pc' := 209) (lc' := [some (.ref 49), some (.int x1), some (.int x2), none, none]) (st' := [.int x2, .int x1, .ref 49]) (h' := q14.2) (sg1 rfl rfl (sg1 rfl rfl (sg1 rfl rfl rfl))) ?_
        obtain ⟨q15, e_q15, hf⟩ := bnd hf
        refine Ex.callV (a := 49) (As := [.int x1, .int x2]) (r := []) (v := some (.int q15.1)) (h' := q15.2) rfl rfl (by decide) rfl (Nat.le_of_ble_eq_true rfl) rfl (E_86 hrec (by omega) e_q15) rfl ?_
        obtain rfl := Option.some.inj hf
        exact Ex.iret rfl rfl (fun c0 => by cases c0) hs
      rw [if_neg n6] at hf
      rcases Classical.em (q14.1 = 10) with n7 | n7
      · rw [if_pos n7] at hf
        refine Ex.swt (t := 213) rfl rfl (by rw [n7]; exact Or.inr ⟨by decide, by decide, _, rfl, by decide⟩) ?_
        refine Ex.seg 3 (pc' := 216) (lc' := [some (.ref 49), some (.int x1), some (.int x2), none, none]) (st' := [.int x2, .int x1, .ref 49]) (h' := q14.2) (sg1 rfl rfl (sg1 rfl rfl (sg1 rfl rfl rfl))) ?_
        obtain ⟨q16, e_q16, hf⟩ := bnd hf
        refine Ex.callV (a := 49) (As := [.int x1, .int x2]) (r := []) (v := some (.int q16.1)) (h' := q16.2) rfl rfl (by decide) rfl (Nat.le_of_ble_eq_true rfl) rfl (E_87 hrec (by omega) e_q16) rfl ?_
        obtain rfl := Option.some.inj hf
        exact Ex.iret rfl rfl (fun c0 => by cases c0) hs
      rw [if_neg n7] at hf
      rcases Classical.em (q14.1 = 11) with n8 | n8
      · rw [if_pos n8] at hf
        refine Ex.swt (t := 220) rfl rfl (by rw [n8]; exact Or.inr ⟨by decide, by decide, _, rfl, by decide⟩) ?_
        refine Ex.seg 3 (pc' := 223) (lc' := [some (.ref 49), some (.int x1), some (.int x2), none, none]) (st' := [.int x2, .int x1, .ref 49]) (h' := q14.2) (sg1 rfl rfl (sg1 rfl rfl (sg1 rfl rfl rfl))) ?_
        obtain ⟨q17, e_q17, hf⟩ := bnd hf
        refine Ex.callV (a := 49) (As := [.int x1, .int x2]) (r := []) (v := some (.int q17.1)) (h' := q17.2) rfl rfl (by decide) rfl (Nat.le_of_ble_eq_true rfl) rfl (E_88 hrec (by omega) e_q17) rfl ?_
        obtain rfl := Option.some.inj hf
        exact Ex.iret rfl rfl (fun c0 => by cases c0) hs
      rw [if_neg n8] at hf
      rcases Classical.em (q14.1 = 12) with n9 | n9
      · rw [if_pos n9] at hf
        refine Ex.swt (t := 227) rfl rfl (by rw [n9]; exact Or.inr ⟨by decide, by decide, _, rfl, by decide⟩) ?_
        exact Ex.weak (sm_le_s (sm_le_s (sm_le_s (sm_le_s (sm_le_s sm_le_nil))))) (B_82_227 hrec hd  hf hs)
      rw [if_neg n9] at hf
      rcases Classical.em (q14.1 = 13) with n10 | n10
      · rw [if_pos n10] at hf
        refine Ex.swt (t := 227) rfl rfl (by rw [n10]; exact Or.inr ⟨by decide, by decide, _, rfl, by decide⟩) ?_
        exact Ex.weak (sm_le_s (sm_le_s (sm_le_s (sm_le_s (sm_le_s sm_le_nil))))) (B_82_227 hrec hd  hf hs)
      rw [if_neg n10] at hf
      rcases Classical.em (q14.1 = 14) with n11 | n11
      · rw [if_pos n11] at hf
        refine Ex.swt (t := 269) rfl rfl (by rw [n11]; exact Or.inr ⟨by decide, by decide, _, rfl, by decide⟩) ?_
        refine Ex.seg 3 (pc' := 272) (lc' := [some (.ref 49), some (.int x1), some (.int x2), none, none]) (st' := [.int x2, .int x1, .ref 49]) (h' := q14.2) (sg1 rfl rfl (sg1 rfl rfl (sg1 rfl rfl rfl))) ?_
        obtain ⟨q18, e_q18, hf⟩ := bnd hf
        refine Ex.callV (a := 49) (As := [.int x1, .int x2]) (r := []) (v := some (.int q18.1)) (h' := q18.2) rfl rfl (by decide) rfl (Nat.le_of_ble_eq_true rfl) rfl (E_92 hrec (by omega) e_q18) rfl ?_
        obtain rfl := Option.some.inj hf
        exact Ex.iret rfl rfl (fun c0 => by cases c0) hs
      rw [if_neg n11] at hf
      rcases Classical.em (q14.1 = 15) with n12 | n12
      · rw [if_pos n12] at hf
        refine Ex.swt (t := 276) rfl rfl (by rw [n12]; exact Or.inr ⟨by decide, by decide, _, rfl, by decide⟩) ?_
        refine Ex.seg 3 (pc' := 279) (lc' := [some (.ref 49), some (.int x1), some (.int x2), none, none]) (st' := [.int x2, .int x1, .ref 49]) (h' := q14.2) (sg1 rfl rfl (sg1 rfl rfl (sg1 rfl rfl rfl))) ?_
        obtain ⟨q19, e_q19, hf⟩ := bnd hf
        refine Ex.callV (a := 49) (As := [.int x1, .int x2]) (r := []) (v := some (.int q19.1)) (h' := q19.2) rfl rfl (by decide) rfl (Nat.le_of_ble_eq_true rfl) rfl (E_93 hrec (by omega) e_q19) rfl ?_
        obtain rfl := Option.some.inj hf
        exact Ex.iret rfl rfl (fun c0 => by cases c0) hs
      rw [if_neg n12] at hf
      rcases Classical.em (q14.1 = 16) with n13 | n13
      · rw [if_pos n13] at hf
        refine Ex.swt (t := 283) rfl rfl (by rw [n13]; exact Or.inr ⟨by decide, by decide, _, rfl, by decide⟩) ?_
        refine Ex.seg 3 (pc' := 286) (lc' := [some (.ref 49), some (.int x1), some (.int x2), none, none]) (st' := [.int x2, .int x1, .ref 49]) (h' := q14.2) (sg1 rfl rfl (sg1 rfl rfl (sg1 rfl rfl rfl))) ?_
        obtain ⟨q20, e_q20, hf⟩ := bnd hf
        refine Ex.callV (a := 49) (As := [.int x1, .int x2]) (r := []) (v := some (.int q20.1)) (h' := q20.2) rfl rfl (by decide) rfl (Nat.le_of_ble_eq_true rfl) rfl (E_94 hrec (by omega) e_q20) rfl ?_
        obtain rfl := Option.some.inj hf
        exact Ex.iret rfl rfl (fun c0 => by cases c0) hs
      rw [if_neg n13] at hf
      rcases Classical.em (q14.1 = 17) with n14 | n14
      · rw [if_pos n14] at hf
        refine Ex.swt (t := 192) rfl rfl (by rw [n14]; exact Or.inr ⟨by decide, by decide, _, rfl, by decide⟩) ?_
        exact Ex.weak (sm_le_s (sm_le_s (sm_le_s (sm_le_s (sm_le_s sm_le_nil))))) (B_82_192 hrec hd  hf hs)
      rw [if_neg n14] at hf
      rcases Classical.em (q14.1 = 18) with n15 | n15
      · rw [if_pos n15] at hf
        refine Ex.swt (t := 290) rfl rfl (by rw [n15]; exact Or.inr ⟨by decide, by decide, _, rfl, by decide⟩) ?_
        refine Ex.seg 3 (pc' := 293) (lc' := [some (.ref 49), some (.int x1), some (.int x2), none, none]) (st' := [.int x2, .int x1, .ref 49]) (h' := q14.2) (sg1 rfl rfl (sg1 rfl rfl (sg1 rfl rfl rfl))) ?_
        obtain ⟨q21, e_q21, hf⟩ := bnd hf
        refine Ex.callV (a := 49) (As := [.int x1, .int x2]) (r := []) (v := some (.int q21.1)) (h' := q21.2) rfl rfl (by decide) rfl (Nat.le_of_ble_eq_true rfl) rfl (E_95 hrec (by omega) e_q21) rfl ?_
        refine Ex.seg 2 (pc' := 298) (lc' := [some (.ref 49), some (.int x1), some (.int x2), some (.int q21.1), none]) (st' := [.int q21.1]) (h' := q21.2) (sg1 rfl rfl (sg1 rfl rfl rfl)) ?_
        refine Ex.ifc rfl rfl (fun (c0 : ¬ (q21.1 = 0)) => ?_) (fun (c0 : ¬ ¬ (q21.1 = 0)) => ?_)
        · rw [if_neg c0] at hf
          refine Ex.seg 1 (pc' := 311) (lc' := [some (.ref 49), some (.int x1), some (.int x2), some (.int q21.1), none]) (st' := [.int q21.1]) (h' := q21.2) (sg1 rfl rfl rfl) ?_
          exact Ex.weak (sm_le_n (sm_le_n (sm_le_n (sm_le_n (sm_le_s sm_le_nil))))) (B_82_311 hrec hd  hf hs)
        · rw [if_pos (Classical.not_not.mp c0)] at hf
          refine Ex.seg 3 (pc' := 304) (lc' := [some (.ref 49), some (.int x1), some (.int x2), some (.int q21.1), none]) (st' := [.int x2, .int x1, .ref 49]) (h' := q21.2) (sg1 rfl rfl (sg1 rfl rfl (sg1 rfl rfl rfl))) ?_
          obtain ⟨q22, e_q22, hf⟩ := bnd hf
          refine Ex.callV (a := 49) (As := [.int x1, .int x2]) (r := []) (v := some (.int q22.1)) (h' := q22.2) rfl rfl (by decide) rfl (Nat.le_of_ble_eq_true rfl) rfl (E_96 hrec (by omega) e_q22) rfl ?_
          refine Ex.seg 1 (pc' := 311) (lc' := [some (.ref 49), some (.int x1), some (.int x2), some (.int q21.1), none]) (st' := [.int q22.1]) (h' := q22.2) (sg1 rfl rfl rfl) ?_
          exact Ex.weak (sm_le_n (sm_le_n (sm_le_n (sm_le_n (sm_le_s sm_le_nil))))) (B_82_311 hrec hd  hf hs)
      rw [if_neg n15] at hf
      rcases Classical.em (q14.1 = 27) with n16 | n16
      · rw [if_pos n16] at hf
        refine Ex.swt (t := 312) rfl rfl (by rw [n16]; exact Or.inr ⟨by decide, by decide, _, rfl, by decide⟩) ?_
        exact Ex.weak (sm_le_s (sm_le_s (sm_le_s (sm_le_s (sm_le_s sm_le_nil))))) (B_82_312 hrec hd  hf hs)
      rw [if_neg n16] at hf
      rcases Classical.em (q14.1 = 28) with n17 | n17
      · rw [if_pos n17] at hf
        refine Ex.swt (t := 312) rfl rfl (by rw [n17]; exact Or.inr ⟨by decide, by decide, _, rfl, by decide⟩) ?_
        exact Ex.weak (sm_le_s (sm_le_s (sm_le_s (sm_le_s (sm_le_s sm_le_nil))))) (B_82_312 hrec hd  hf hs)
      rw [if_neg n17] at hf
      rcases Classical.em (q14.1 = 29) with n18 | n18
      · rw [if_pos n18] at hf
        refine Ex.swt (t := 192) rfl rfl (by rw [n18]; exact Or.inr ⟨by decide, by decide, _, rfl, by decide⟩) ?_
        exact Ex.weak (sm_le_s (sm_le_s (sm_le_s (sm_le_s (sm_le_s sm_le_nil))))) (B_82_192 hrec hd  hf hs)
      rw [if_neg n18] at hf
      rcases Classical.em (q14.1 = 30) with n19 | n19
      · rw [if_pos n19] at hf
        refine Ex.swt (t := 192) rfl rfl (by rw [n19]; exact Or.inr ⟨by decide, by decide, _, rfl, by decide⟩) ?_
        exact Ex.weak (sm_le_s (sm_le_s (sm_le_s (sm_le_s (sm_le_s sm_le_nil))))) (B_82_192 hrec hd  hf hs)
      rw [if_neg n19] at hf
      rcases Classical.em (q14.1 = 36) with n20 | n20
      · rw [if_pos n20] at hf
        refine Ex.swt (t := 353) rfl rfl (by rw [n20]; exact Or.inr ⟨by decide, by decide, _, rfl, by decide⟩) ?_
        exact Ex.weak (sm_le_s (sm_le_s (sm_le_s (sm_le_s (sm_le_s sm_le_nil))))) (B_82_353 hrec hd  hf hs)
      rw [if_neg n20] at hf
      rcases Classical.em (q14.1 = 37) with n21 | n21
      · rw [if_pos n21] at hf
        refine Ex.swt (t := 353) rfl rfl (by rw [n21]; exact Or.inr ⟨by decide, by decide, _, rfl, by decide⟩) ?_
        exact Ex.weak (sm_le_s (sm_le_s (sm_le_s (sm_le_s (sm_le_s sm_le_nil))))) (B_82_353 hrec hd  hf hs)
      rw [if_neg n21] at hf
      rcases Classical.em (q14.1 = 38) with n22 | n22
      · rw [if_pos n22] at hf
        refine Ex.swt (t := 360) rfl rfl (by rw [n22]; exact Or.inr ⟨by decide, by decide, _, rfl, by decide⟩) ?_
        refine Ex.seg 3 (pc' := 363) (lc' := [some (.ref 49), some (.int x1), some (.int x2), none, none]) (st' := [.int x2, .int x1, .ref 49]) (h' := q14.2) (sg1 rfl rfl (sg1 rfl rfl (sg1 rfl rfl rfl))) ?_
        obtain ⟨q23, e_q23, hf⟩ := bnd hf
        refine Ex.callV (a := 49) (As := [.int x1, .int x2]) (r := []) (v := some (.int q23.1)) (h' := q23.2) rfl rfl (by decide) rfl (Nat.le_of_ble_eq_true rfl) rfl (E_101 hrec (by omega) e_q23) rfl ?_
        obtain rfl := Option.some.inj hf
        exact Ex.iret rfl rfl (fun c0 => by cases c0) hs
      rw [if_neg n22] at hf
      refine Ex.swt (t := 367) rfl rfl (sw_dflt (by decide) (by decide) (fun k hk he => ?_)) ?_
      · have hk : k < 35 := hk
        rcases (show k = 0 ∨ k = 1 ∨ k = 2 ∨ k = 3 ∨ k = 4 ∨ k = 5 ∨ k = 6 ∨ k = 7 ∨ k = 8 ∨ k = 9 ∨ k = 10 ∨ k = 11 ∨ k = 12 ∨ k = 13 ∨ k = 14 ∨ k = 15 ∨ k = 16 ∨ k = 17 ∨ k = 18 ∨ k = 19 ∨ k = 20 ∨ k = 21 ∨ k = 22 ∨ k = 23 ∨ k = 24 ∨ k = 25 ∨ k = 26 ∨ k = 27 ∨ k = 28 ∨ k = 29 ∨ k = 30 ∨ k = 31 ∨ k = 32 ∨ k = 33 ∨ k = 34 by omega) with rfl | rfl | rfl | rfl | rfl | rfl | rfl | rfl | rfl | rfl | rfl | rfl | rfl | rfl | rfl | rfl | rfl | rfl | rfl | rfl | rfl | rfl | rfl | rfl | rfl | rfl | rfl | rfl | rfl | rfl | rfl | rfl | rfl | rfl | rfl
        · exact absurd (Int32.toInt_inj.mp (he.symm.trans (by decide : (_ : Int) = Int32.toInt 4))) n1
        · exact absurd (Int32.toInt_inj.mp (he.symm.trans (by decide : (_ : Int) = Int32.toInt 5))) n2
        · exact absurd (Int32.toInt_inj.mp (he.symm.trans (by decide : (_ : Int) = Int32.toInt 6))) n3
        · exact absurd (Int32.toInt_inj.mp (he.symm.trans (by decide : (_ : Int) = Int32.toInt 7))) n4
        · exact absurd (Int32.toInt_inj.mp (he.symm.trans (by decide : (_ : Int) = Int32.toInt 8))) n5
        · exact absurd (Int32.toInt_inj.mp (he.symm.trans (by decide : (_ : Int) = Int32.toInt 9))) n6
        · exact absurd (Int32.toInt_inj.mp (he.symm.trans (by decide : (_ : Int) = Int32.toInt 10))) n7
        · exact absurd (Int32.toInt_inj.mp (he.symm.trans (by decide : (_ : Int) = Int32.toInt 11))) n8
        · exact absurd (Int32.toInt_inj.mp (he.symm.trans (by decide : (_ : Int) = Int32.toInt 12))) n9
        · exact absurd (Int32.toInt_inj.mp (he.symm.trans (by decide : (_ : Int) = Int32.toInt 13))) n10
        · exact absurd (Int32.toInt_inj.mp (he.symm.trans (by decide : (_ : Int) = Int32.toInt 14))) n11
        · exact absurd (Int32.toInt_inj.mp (he.symm.trans (by decide : (_ : Int) = Int32.toInt 15))) n12
        · exact absurd (Int32.toInt_inj.mp (he.symm.trans (by decide : (_ : Int) = Int32.toInt 16))) n13
        · exact absurd (Int32.toInt_inj.mp (he.symm.trans (by decide : (_ : Int) = Int32.toInt 17))) n14
        · exact absurd (Int32.toInt_inj.mp (he.symm.trans (by decide : (_ : Int) = Int32.toInt 18))) n15
        · rfl
        · rfl
        · rfl
        · rfl
        · rfl
        · rfl
        · rfl
        · rfl
        · exact absurd (Int32.toInt_inj.mp (he.symm.trans (by decide : (_ : Int) = Int32.toInt 27))) n16
        · exact absurd (Int32.toInt_inj.mp (he.symm.trans (by decide : (_ : Int) = Int32.toInt 28))) n17
        · exact absurd (Int32.toInt_inj.mp (he.symm.trans (by decide : (_ : Int) = Int32.toInt 29))) n18
        · exact absurd (Int32.toInt_inj.mp (he.symm.trans (by decide : (_ : Int) = Int32.toInt 30))) n19
        · rfl
        · rfl
        · rfl
        · rfl
        · rfl
        · exact absurd (Int32.toInt_inj.mp (he.symm.trans (by decide : (_ : Int) = Int32.toInt 36))) n20
        · exact absurd (Int32.toInt_inj.mp (he.symm.trans (by decide : (_ : Int) = Int32.toInt 37))) n21
        · exact absurd (Int32.toInt_inj.mp (he.symm.trans (by decide : (_ : Int) = Int32.toInt 38))) n22
      exact Ex.weak (sm_le_s (sm_le_s (sm_le_s (sm_le_s (sm_le_s sm_le_nil))))) (B_82_367 hrec hd  hf hs)
    · rw [if_neg c0] at hf
      refine Ex.seg 1 (pc' := 20) (lc' := [some (.ref 49), some (.int x1), some (.int x2), none, none]) (st' := [.int 2]) (h' := h) (sg1 rfl rfl rfl) ?_
      obtain rfl := Option.some.inj hf
      exact Ex.iret rfl rfl (fun c0 => by cases c0) hs
  · rw [if_neg c0] at hf
    refine Ex.seg 1 (pc' := 7) (lc' := [some (.ref 49), some (.int x1), some (.int x2), none, none]) (st' := [.int 3]) (h' := h) (sg1 rfl rfl rfl) ?_
    obtain rfl := Option.some.inj hf
    exact Ex.iret rfl rfl (fun c0 => by cases c0) hs
theorem E_82R {L : Nat} {xs : Nat → Int32} {d : Nat} {M : Nat} {rec : Int32 → Int32 → sm_H → Option (Int32 × sm_H)} (hrec : ∀ d, M ≤ d → ∀ (x1 x2 : Int32) (h : sm_H) (q : Int32 × sm_H), rec x1 x2 h = some q → RUN L xs d 82 [.ref 49, .int x1, .int x2] h (some (.int q.1), q.2)) (hd : 7 + M ≤ d) {x1 : Int32} {x2 : Int32} {h : sm_H} {r : Int32 × sm_H} (hf : F_82R rec x1 x2 h = some r) : RUN L xs d 82 [.ref 49, .int x1, .int x2] h (some (.int r.1), r.2) := by
  obtain ⟨d, rfl⟩ : ∃ e, d = e + 1 := ⟨d - 1, by omega⟩
  exact ⟨Nat.le_of_ble_eq_true rfl, B_82_0 hrec (by omega) hf rfl⟩
theorem KE_82 {L : Nat} {xs : Nat → Int32} : ∀ (n d : Nat), 7 * n ≤ d → ∀ (x1 x2 : Int32) (h : sm_H) (q : Int32 × sm_H), K_82 n x1 x2 h = some q → RUN L xs d 82 [.ref 49, .int x1, .int x2] h (some (.int q.1), q.2) := by
  intro n
  induction n with
  | zero => intro d _ x1 x2 h q hf; cases hf
  | succ n ih =>
    intro d hd x1 x2 h q hf
    exact E_82R (M := 7 * n) (rec := K_82 n) (fun d hd => ih d hd) (by omega) hf
