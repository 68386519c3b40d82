theorem B_462_212B {L : Nat} {xs : Nat → Int32} {d : Nat} (hd : 10 ≤ d) {res : Option Value × sm_H} {S1 : (Int32 × Int32 × sm_H) → Prop} (hS1 : ∀ s, S1 s → Ex (P_G L xs) (RUN L xs d) (sm_lk P_t462) 0 212 [some (.ref 67), none, none, some (.int s.1), some (.int s.2.1)] [] s.2.2 res) {s : (Int32 × Int32 × sm_H)}  {r : ((Int32 × Int32 × sm_H) ⊕ (Int32 × sm_H))} (hf : F_462_212B s = some r) (hs : (Sum.elim S1 (fun (r : Int32 × sm_H) => res = (some (.int r.1), r.2))) r) : Ex (P_G L xs) (RUN L xs d) (sm_lk P_t462) 0 212 [some (.ref 67), none, none, some (.int s.1), some (.int s.2.1)] [] s.2.2 res := by
  unfold F_462_212B at hf
  refine Ex.seg 3 (pc' := 218) (lc' := [some (.ref 67), none, none, some (.int s.1), some (.int s.2.1)]) (st' := [.int (s.2.2.1 67 3), .int s.2.1]) (h' := s.2.2) (sg1 rfl rfl (sg1 rfl rfl (sg1 rfl rfl rfl))) ?_
  refine Ex.icmp rfl rfl (fun (c0 : (s.2.2.1 67 3) ≤ s.2.1) => ?_) (fun (c0 : ¬ ((s.2.2.1 67 3) ≤ s.2.1)) => ?_)
  · rw [if_pos c0] at hf
    refine Ex.seg 5 (pc' := 247) (lc' := [some (.ref 67), none, none, some (.int s.1), some (.int s.2.1)]) (st' := [.long 0, .int s.1, .int 0, .int 18, .ref 67]) (h' := s.2.2) (sg1 rfl rfl (sg1 rfl rfl (sg1 rfl rfl (sg1 rfl rfl (sg1 rfl rfl rfl))))) ?_
    obtain ⟨q1, e_q1, hf⟩ := bnd hf
    refine Ex.callV (a := 67) (As := [.int 18, .int 0, .int s.1, .long 0]) (r := []) (v := some (.int q1.1)) (h' := q1.2) rfl rfl (by decide) rfl (Nat.le_of_ble_eq_true rfl) rfl (E_429 (Nat.le_trans (by decide) hd) e_q1) rfl ?_
    obtain rfl := Option.some.inj hf
    exact Ex.iret rfl rfl (fun c0 => by cases c0) hs
  · rw [if_neg c0] at hf
    refine Ex.seg 6 (pc' := 233) (lc' := [some (.ref 67), none, none, some (.int s.1), some (.int s.2.1)]) (st' := [.int s.2.1, .ref 128, .int s.2.1, .ref 69]) (h' := s.2.2) (sg1 rfl rfl (sg1 rfl rfl (sg1 rfl rfl (sg1 rfl rfl (sg1 rfl rfl (sg1 rfl rfl rfl)))))) ?_
    obtain ⟨v2, e_v2, hf⟩ := bnd hf
    refine Ex.iald e_v2 rfl rfl ?_
    obtain ⟨h3, e_h3, hf⟩ := bnd hf
    refine Ex.iast e_h3 rfl rfl ?_
    refine Ex.seg 1 (pc' := 238) (lc' := [some (.ref 67), none, none, some (.int s.1), some (.int (s.2.1 + 1))]) (st' := []) (h' := h3) (sg1 rfl rfl rfl) ?_
    obtain ⟨v4, e_v4, hf⟩ := bnd hf
    rw [Option.some.inj e_v4]
    refine Ex.seg 1 (pc' := 212) (lc' := [some (.ref 67), none, none, some (.int s.1), some (.int v4)]) (st' := []) (h' := h3) (sg1 rfl rfl rfl) ?_
    obtain rfl := Option.some.inj hf
    exact Ex.weak (sm_le_s (sm_le_s (sm_le_s (sm_le_s (sm_le_s sm_le_nil))))) (hS1 _ hs)
theorem B_462_212 {L : Nat} {xs : Nat → Int32} {d : Nat} (hd : 10 ≤ d) {res : Option Value × sm_H} {y3 : Int32} {y4 : Int32}  {h : sm_H} {r : (Int32 × sm_H)} (hf : F_462_212 y3 y4 h = some r) (hs : (fun (r : Int32 × sm_H) => res = (some (.int r.1), r.2)) r) : Ex (P_G L xs) (RUN L xs d) (sm_lk P_t462) 0 212 [some (.ref 67), none, none, some (.int y3), some (.int y4)] [] h res := by
  unfold F_462_212 at hf
  exact lp_ok (P := fun (s : (Int32 × Int32 × sm_H)) => Ex (P_G L xs) (RUN L xs d) (sm_lk P_t462) 0 212 [some (.ref 67), none, none, some (.int s.1), some (.int s.2.1)] [] s.2.2 res) (S := (fun (r : Int32 × sm_H) => res = (some (.int r.1), r.2))) (fun s x hx hsx => by
    intros
    exact B_462_212B hd  (fun _ q => q) hx hsx) 1000000 _ r hf hs
theorem B_462_30B {L : Nat} {xs : Nat → Int32} {d : Nat} (hd : 10 ≤ d) {res : Option Value × sm_H} {S1 : (Int32 × Int32 × Int32 × sm_H) → Prop} (hS1 : ∀ s, S1 s → Ex (P_G L xs) (RUN L xs d) (sm_lk P_t462) 0 30 [some (.ref 67), some (.int s.1), some (.int s.2.1), some (.int s.2.2.1), none] [] s.2.2.2 res) {s : (Int32 × Int32 × Int32 × sm_H)}  {r : ((Int32 × Int32 × Int32 × sm_H) ⊕ (Int32 × sm_H))} (hf : F_462_30B s = some r) (hs : (Sum.elim S1 (fun (r : Int32 × sm_H) => res = (some (.int r.1), r.2))) r) : Ex (P_G L xs) (RUN L xs d) (sm_lk P_t462) 0 30 [some (.ref 67), some (.int s.1), some (.int s.2.1), some (.int s.2.2.1), none] [] s.2.2.2 res := by
  unfold F_462_30B at hf
  refine Ex.seg 2 (pc' := 32) (lc' := [some (.ref 67), some (.int s.1), some (.int s.2.1), some (.int s.2.2.1), none]) (st' := [.int s.2.1, .int s.2.2.1]) (h' := s.2.2.2) (sg1 rfl rfl (sg1 rfl rfl rfl)) ?_
  refine Ex.icmp rfl rfl (fun (c0 : s.2.1 ≤ s.2.2.1) => ?_) (fun (c0 : ¬ (s.2.1 ≤ s.2.2.1)) => ?_)
  · rw [if_pos c0] at hf
    refine Ex.seg 17 (pc' := 124) (lc' := [some (.ref 67), some (.int s.1), some (.int s.2.1), some (.int s.2.2.1), none]) (st' := [.int ((20 * s.1) + (2 * s.2.1)), .ref 125, .ref 67, .int ((4 * s.2.1) + 2), .ref 128]) (h' := s.2.2.2) (sg1 rfl rfl (sg1 rfl rfl (sg1 rfl rfl (sg1 rfl rfl (sg1 rfl rfl (sg1 rfl rfl (sg1 rfl rfl (sg1 rfl rfl (sg1 rfl rfl (sg1 rfl rfl (sg1 rfl rfl (sg1 rfl rfl (sg1 rfl rfl (sg1 rfl rfl (sg1 rfl rfl (sg1 rfl rfl (sg1 rfl rfl rfl))))))))))))))))) ?_
    obtain ⟨v5, e_v5, hf⟩ := bnd hf
    refine Ex.iald e_v5 rfl rfl ?_
    refine Ex.seg 1 (pc' := 126) (lc' := [some (.ref 67), some (.int s.1), some (.int s.2.1), some (.int s.2.2.1), none]) (st' := [.int 1, .int v5, .ref 67, .int ((4 * s.2.1) + 2), .ref 128]) (h' := s.2.2.2) (sg1 rfl rfl rfl) ?_
    obtain ⟨q6, e_q6, hf⟩ := bnd hf
    refine Ex.callV (a := 67) (As := [.int v5, .int 1]) (r := [.int ((4 * s.2.1) + 2), .ref 128]) (v := some (.int q6.1)) (h' := q6.2) rfl rfl (by decide) rfl (Nat.le_of_ble_eq_true rfl) rfl (E_433 (Nat.le_trans (by decide) hd) e_q6) rfl ?_
    obtain ⟨h7, e_h7, hf⟩ := bnd hf
    refine Ex.iast e_h7 rfl rfl ?_
    refine Ex.seg 18 (pc' := 153) (lc' := [some (.ref 67), some (.int s.1), some (.int s.2.1), some (.int s.2.2.1), none]) (st' := [.int (((20 * s.1) + (2 * s.2.1)) + 1), .ref 125, .int ((4 * s.2.1) + 3), .ref 128]) (h' := h7) (sg1 rfl rfl (sg1 rfl rfl (sg1 rfl rfl (sg1 rfl rfl (sg1 rfl rfl (sg1 rfl rfl (sg1 rfl rfl (sg1 rfl rfl (sg1 rfl rfl (sg1 rfl rfl (sg1 rfl rfl (sg1 rfl rfl (sg1 rfl rfl (sg1 rfl rfl (sg1 rfl rfl (sg1 rfl rfl (sg1 rfl rfl (sg1 rfl rfl rfl)))))))))))))))))) ?_
    obtain ⟨v8, e_v8, hf⟩ := bnd hf
    refine Ex.iald e_v8 rfl rfl ?_
    obtain ⟨h9, e_h9, hf⟩ := bnd hf
    refine Ex.iast e_h9 rfl rfl ?_
    refine Ex.seg 2 (pc' := 159) (lc' := [some (.ref 67), some (.int s.1), some (.int s.2.1), some (.int s.2.2.1), none]) (st' := [.int (h9.1 67 77)]) (h' := h9) (sg1 rfl rfl (sg1 rfl rfl rfl)) ?_
    refine Ex.ifc rfl rfl (fun (c0 : (h9.1 67 77) = 0) => ?_) (fun (c0 : ¬ ((h9.1 67 77) = 0)) => ?_)
    · rw [if_pos c0] at hf
      refine Ex.seg 4 (pc' := 170) (lc' := [some (.ref 67), some (.int s.1), some (.int s.2.1), some (.int s.2.2.1), none]) (st' := [.int s.1, .ref 123, .ref 67]) (h' := h9) (sg1 rfl rfl (sg1 rfl rfl (sg1 rfl rfl (sg1 rfl rfl rfl)))) ?_
      obtain ⟨v10, e_v10, hf⟩ := bnd hf
      refine Ex.iald e_v10 rfl rfl ?_
      refine Ex.seg 1 (pc' := 174) (lc' := [some (.ref 67), some (.int s.1), some (.int s.2.1), some (.int s.2.2.1), none]) (st' := []) (h' := (sm_wI h9 67 94 v10)) (sg1 rfl rfl rfl) ?_
      obtain ⟨h11, e_h11, hf⟩ := bnd hf
      rw [Option.some.inj e_h11]
      refine Ex.seg 9 (pc' := 185) (lc' := [some (.ref 67), some (.int s.1), some (.int s.2.1), some (.int s.2.2.1), none]) (st' := [.int ((4 * s.2.1) + 3), .ref 128, .ref 67, .ref 67]) (h' := h11) (sg1 rfl rfl (sg1 rfl rfl (sg1 rfl rfl (sg1 rfl rfl (sg1 rfl rfl (sg1 rfl rfl (sg1 rfl rfl (sg1 rfl rfl (sg1 rfl rfl rfl))))))))) ?_
      obtain ⟨v12, e_v12, hf⟩ := bnd hf
      refine Ex.iald e_v12 rfl rfl ?_
      obtain ⟨q13, e_q13, hf⟩ := bnd hf
      refine Ex.callV (a := 67) (As := [.int v12]) (r := [.ref 67]) (v := some (.int q13.1)) (h' := q13.2) rfl rfl (by decide) rfl (Nat.le_of_ble_eq_true rfl) rfl (E_307 (Nat.le_trans (by decide) hd) e_q13) rfl ?_
      obtain ⟨q14, e_q14, hf⟩ := bnd hf
      refine Ex.callV (a := 67) (As := [.int q13.1]) (r := []) (v := some (.int q14.1)) (h' := q14.2) rfl rfl (by decide) rfl (Nat.le_of_ble_eq_true rfl) rfl (E_428 (Nat.le_trans (by decide) hd) e_q14) rfl ?_
      refine Ex.seg 3 (pc' := 195) (lc' := [some (.ref 67), some (.int s.1), some (.int s.2.1), some (.int q14.1), none]) (st' := [.int (-1), .int q14.1]) (h' := q14.2) (sg1 rfl rfl (sg1 rfl rfl (sg1 rfl rfl rfl))) ?_
      refine Ex.icmp rfl rfl (fun (c0 : ¬ (q14.1 = (-1))) => ?_) (fun (c0 : ¬ ¬ (q14.1 = (-1))) => ?_)
      · rw [if_neg c0] at hf
        refine Ex.seg 7 (pc' := 209) (lc' := [some (.ref 67), some (.int s.1), some (.int s.2.1), some (.int q14.1), none]) (st' := []) (h' := (sm_wI q14.2 67 3 ((4 * s.2.1) + 4))) (sg1 rfl rfl (sg1 rfl rfl (sg1 rfl rfl (sg1 rfl rfl (sg1 rfl rfl (sg1 rfl rfl (sg1 rfl rfl rfl))))))) ?_
        obtain ⟨h15, e_h15, hf⟩ := bnd hf
        rw [Option.some.inj e_h15]
        refine Ex.seg 2 (pc' := 212) (lc' := [some (.ref 67), some (.int s.1), some (.int s.2.1), some (.int q14.1), some (.int 0)]) (st' := []) (h' := h15) (sg1 rfl rfl (sg1 rfl rfl rfl)) ?_
        obtain ⟨r0, hf0, rfl⟩ := Option.map_eq_some_iff.mp hf
        exact Ex.weak (sm_le_s (sm_le_n (sm_le_n (sm_le_s (sm_le_s sm_le_nil))))) (B_462_212 hd  hf0 hs)
      · rw [if_pos (Classical.not_not.mp c0)] at hf
        refine Ex.seg 1 (pc' := 199) (lc' := [some (.ref 67), some (.int s.1), some (.int s.2.1), some (.int q14.1), none]) (st' := [.int (-1)]) (h' := q14.2) (sg1 rfl rfl rfl) ?_
        obtain rfl := Option.some.inj hf
        exact Ex.iret rfl rfl (fun c0 => by cases c0) hs
    · rw [if_neg c0] at hf
      refine Ex.seg 1 (pc' := 163) (lc' := [some (.ref 67), some (.int s.1), some (.int s.2.1), some (.int s.2.2.1), none]) (st' := [.int (-1)]) (h' := h9) (sg1 rfl rfl rfl) ?_
      obtain rfl := Option.some.inj hf
      exact Ex.iret rfl rfl (fun c0 => by cases c0) hs
  · rw [if_neg c0] at hf
    refine Ex.seg 12 (pc' := 52) (lc' := [some (.ref 67), some (.int s.1), some (.int s.2.1), some (.int s.2.2.1), none]) (st' := [.int ((20 * s.1) + s.2.2.1), .ref 125, .int (4 * s.2.2.1), .ref 128]) (h' := s.2.2.2) (sg1 rfl rfl (sg1 rfl rfl (sg1 rfl rfl (sg1 rfl rfl (sg1 rfl rfl (sg1 rfl rfl (sg1 rfl rfl (sg1 rfl rfl (sg1 rfl rfl (sg1 rfl rfl (sg1 rfl rfl (sg1 rfl rfl rfl)))))))))))) ?_
    obtain ⟨v16, e_v16, hf⟩ := bnd hf
    refine Ex.iald e_v16 rfl rfl ?_
    obtain ⟨h17, e_h17, hf⟩ := bnd hf
    refine Ex.iast e_h17 rfl rfl ?_
    refine Ex.seg 17 (pc' := 76) (lc' := [some (.ref 67), some (.int s.1), some (.int s.2.1), some (.int s.2.2.1), none]) (st' := [.int (((20 * s.1) + s.2.1) + s.2.2.1), .ref 125, .ref 67, .int ((4 * s.2.2.1) + 1), .ref 128]) (h' := h17) (sg1 rfl rfl (sg1 rfl rfl (sg1 rfl rfl (sg1 rfl rfl (sg1 rfl rfl (sg1 rfl rfl (sg1 rfl rfl (sg1 rfl rfl (sg1 rfl rfl (sg1 rfl rfl (sg1 rfl rfl (sg1 rfl rfl (sg1 rfl rfl (sg1 rfl rfl (sg1 rfl rfl (sg1 rfl rfl (sg1 rfl rfl rfl))))))))))))))))) ?_
    obtain ⟨v18, e_v18, hf⟩ := bnd hf
    refine Ex.iald e_v18 rfl rfl ?_
    refine Ex.seg 8 (pc' := 88) (lc' := [some (.ref 67), some (.int s.1), some (.int s.2.1), some (.int s.2.2.1), none]) (st' := [.int ((20 * s.1) + s.2.2.1), .ref 125, .ref 67, .int v18, .ref 67, .int ((4 * s.2.2.1) + 1), .ref 128]) (h' := h17) (sg1 rfl rfl (sg1 rfl rfl (sg1 rfl rfl (sg1 rfl rfl (sg1 rfl rfl (sg1 rfl rfl (sg1 rfl rfl (sg1 rfl rfl rfl)))))))) ?_
    obtain ⟨v19, e_v19, hf⟩ := bnd hf
    refine Ex.iald e_v19 rfl rfl ?_
    obtain ⟨q20, e_q20, hf⟩ := bnd hf
    refine Ex.callV (a := 67) (As := [.int v19]) (r := [.int v18, .ref 67, .int ((4 * s.2.2.1) + 1), .ref 128]) (v := some (.int q20.1)) (h' := q20.2) rfl rfl (by decide) rfl (Nat.le_of_ble_eq_true rfl) rfl (E_307 (Nat.le_trans (by decide) hd) e_q20) rfl ?_
    obtain ⟨q21, e_q21, hf⟩ := bnd hf
    refine Ex.callV (a := 67) (As := [.int v18, .int q20.1]) (r := [.int ((4 * s.2.2.1) + 1), .ref 128]) (v := some (.int q21.1)) (h' := q21.2) rfl rfl (by decide) rfl (Nat.le_of_ble_eq_true rfl) rfl (E_433 (Nat.le_trans (by decide) hd) e_q21) rfl ?_
    obtain ⟨h22, e_h22, hf⟩ := bnd hf
    refine Ex.iast e_h22 rfl rfl ?_
    refine Ex.seg 1 (pc' := 99) (lc' := [some (.ref 67), some (.int s.1), some (.int s.2.1), some (.int (s.2.2.1 + 1)), none]) (st' := []) (h' := h22) (sg1 rfl rfl rfl) ?_
    obtain ⟨v23, e_v23, hf⟩ := bnd hf
    rw [Option.some.inj e_v23]
    refine Ex.seg 1 (pc' := 30) (lc' := [some (.ref 67), some (.int s.1), some (.int s.2.1), some (.int v23), none]) (st' := []) (h' := h22) (sg1 rfl rfl rfl) ?_
    obtain rfl := Option.some.inj hf
    exact Ex.weak (sm_le_s (sm_le_s (sm_le_s (sm_le_s (sm_le_s sm_le_nil))))) (hS1 _ hs)
theorem B_462_30 {L : Nat} {xs : Nat → Int32} {d : Nat} (hd : 10 ≤ d) {res : Option Value × sm_H} {y1 : Int32} {y2 : Int32} {y3 : Int32}  {h : sm_H} {r : (Int32 × sm_H)} (hf : F_462_30 y1 y2 y3 h = some r) (hs : (fun (r : Int32 × sm_H) => res = (some (.int r.1), r.2)) r) : Ex (P_G L xs) (RUN L xs d) (sm_lk P_t462) 0 30 [some (.ref 67), some (.int y1), some (.int y2), some (.int y3), none] [] h res := by
  unfold F_462_30 at hf
  exact lp_ok (P := fun (s : (Int32 × Int32 × Int32 × sm_H)) => Ex (P_G L xs) (RUN L xs d) (sm_lk P_t462) 0 30 [some (.ref 67), some (.int s.1), some (.int s.2.1), some (.int s.2.2.1), none] [] s.2.2.2 res) (S := (fun (r : Int32 × sm_H) => res = (some (.int r.1), r.2))) (fun s x hx hsx => by
    intros
    exact B_462_30B hd  (fun _ q => q) hx hsx) 1000000 _ r hf hs
theorem B_462_9B {L : Nat} {xs : Nat → Int32} {d : Nat} (hd : 10 ≤ d) {res : Option Value × sm_H} {S1 : (Int32 × Int32 × Int32 × sm_H) → Prop} (hS1 : ∀ s, S1 s → Ex (P_G L xs) (RUN L xs d) (sm_lk P_t462) 0 9 [some (.ref 67), some (.int s.1), some (.int s.2.1), some (.int s.2.2.1), none] [] s.2.2.2 res) {s : (Int32 × Int32 × Int32 × sm_H)}  {r : ((Int32 × Int32 × Int32 × sm_H) ⊕ (Int32 × sm_H))} (hf : F_462_9B s = some r) (hs : (Sum.elim S1 (fun (r : Int32 × sm_H) => res = (some (.int r.1), r.2))) r) : Ex (P_G L xs) (RUN L xs d) (sm_lk P_t462) 0 9 [some (.ref 67), some (.int s.1), some (.int s.2.1), some (.int s.2.2.1), none] [] s.2.2.2 res := by
  unfold F_462_9B at hf
  refine Ex.seg 2 (pc' := 12) (lc' := [some (.ref 67), some (.int s.1), some (.int s.2.1), some (.int s.2.2.1), none]) (st' := [.int 16, .int s.2.2.1]) (h' := s.2.2.2) (sg1 rfl rfl (sg1 rfl rfl rfl)) ?_
  refine Ex.icmp rfl rfl (fun (c0 : 16 ≤ s.2.2.1) => ?_) (fun (c0 : ¬ (16 ≤ s.2.2.1)) => ?_)
  · rw [if_pos c0] at hf
    refine Ex.seg 2 (pc' := 30) (lc' := [some (.ref 67), some (.int s.1), some (.int s.2.1), some (.int 0), none]) (st' := []) (h' := s.2.2.2) (sg1 rfl rfl (sg1 rfl rfl rfl)) ?_
    obtain ⟨r0, hf0, rfl⟩ := Option.map_eq_some_iff.mp hf
    exact Ex.weak (sm_le_s (sm_le_s (sm_le_s (sm_le_s (sm_le_s sm_le_nil))))) (B_462_30 hd  hf0 hs)
  · rw [if_neg c0] at hf
    refine Ex.seg 4 (pc' := 21) (lc' := [some (.ref 67), some (.int s.1), some (.int s.2.1), some (.int s.2.2.1), none]) (st' := [.int (-1), .int s.2.2.1, .ref 128]) (h' := s.2.2.2) (sg1 rfl rfl (sg1 rfl rfl (sg1 rfl rfl (sg1 rfl rfl rfl)))) ?_
    obtain ⟨h24, e_h24, hf⟩ := bnd hf
    refine Ex.iast e_h24 rfl rfl ?_
    refine Ex.seg 1 (pc' := 25) (lc' := [some (.ref 67), some (.int s.1), some (.int s.2.1), some (.int (s.2.2.1 + 1)), none]) (st' := []) (h' := h24) (sg1 rfl rfl rfl) ?_
    obtain ⟨v25, e_v25, hf⟩ := bnd hf
    rw [Option.some.inj e_v25]
    refine Ex.seg 1 (pc' := 9) (lc' := [some (.ref 67), some (.int s.1), some (.int s.2.1), some (.int v25), none]) (st' := []) (h' := h24) (sg1 rfl rfl rfl) ?_
    obtain rfl := Option.some.inj hf
    exact Ex.weak (sm_le_s (sm_le_s (sm_le_s (sm_le_s (sm_le_s sm_le_nil))))) (hS1 _ hs)
theorem B_462_9 {L : Nat} {xs : Nat → Int32} {d : Nat} (hd : 10 ≤ d) {res : Option Value × sm_H} {y1 : Int32} {y2 : Int32} {y3 : Int32}  {h : sm_H} {r : (Int32 × sm_H)} (hf : F_462_9 y1 y2 y3 h = some r) (hs : (fun (r : Int32 × sm_H) => res = (some (.int r.1), r.2)) r) : Ex (P_G L xs) (RUN L xs d) (sm_lk P_t462) 0 9 [some (.ref 67), some (.int y1), some (.int y2), some (.int y3), none] [] h res := by
  unfold F_462_9 at hf
  exact lp_ok (P := fun (s : (Int32 × Int32 × Int32 × sm_H)) => Ex (P_G L xs) (RUN L xs d) (sm_lk P_t462) 0 9 [some (.ref 67), some (.int s.1), some (.int s.2.1), some (.int s.2.2.1), none] [] s.2.2.2 res) (S := (fun (r : Int32 × sm_H) => res = (some (.int r.1), r.2))) (fun s x hx hsx => by
    intros
    exact B_462_9B hd  (fun _ q => q) hx hsx) 1000000 _ r hf hs
theorem B_462_0 {L : Nat} {xs : Nat → Int32} {d : Nat} (hd : 10 ≤ d) {res : Option Value × sm_H} {x1 : Int32}  {h : sm_H} {r : (Int32 × sm_H)} (hf : F_462_0 x1 h = some r) (hs : (fun (r : Int32 × sm_H) => res = (some (.int r.1), r.2)) r) : Ex (P_G L xs) (RUN L xs d) (sm_lk P_t462) 0 0 [some (.ref 67), some (.int x1), none, none, none] [] h res := by
  unfold F_462_0 at hf
  refine Ex.seg 3 (pc' := 5) (lc' := [some (.ref 67), some (.int x1), none, none, none]) (st' := [.int x1, .ref 122]) (h' := h) (sg1 rfl rfl (sg1 rfl rfl (sg1 rfl rfl rfl))) ?_
  obtain ⟨v26, e_v26, hf⟩ := bnd hf
  refine Ex.iald e_v26 rfl rfl ?_
  refine Ex.seg 3 (pc' := 9) (lc' := [some (.ref 67), some (.int x1), some (.int v26), some (.int 0), none]) (st' := []) (h' := h) (sg1 rfl rfl (sg1 rfl rfl (sg1 rfl rfl rfl))) ?_
  exact Ex.weak (sm_le_s (sm_le_s (sm_le_s (sm_le_s (sm_le_s sm_le_nil))))) (B_462_9 hd  hf hs)
theorem E_462 {L : Nat} {xs : Nat → Int32} {d : Nat} (hd : 11 ≤ d) {x1 : Int32} {h : sm_H} {r : Int32 × sm_H} (hf : F_462 x1 h = some r) : RUN L xs d 462 [.ref 67, .int x1] h (some (.int r.1), r.2) := by
  obtain ⟨d, rfl⟩ : ∃ e, d = e + 1 := ⟨d - 1, by omega⟩
  exact ⟨Nat.le_of_ble_eq_true rfl, B_462_0 (by omega) hf rfl⟩
theorem B_463_92B {L : Nat} {xs : Nat → Int32} {d : Nat} (hd : 10 ≤ d) {res : Option Value × sm_H} {S1 : (Int32 × Int32 × sm_H) → Prop} (hS1 : ∀ s, S1 s → Ex (P_G L xs) (RUN L xs d) (sm_lk P_t463) 0 92 [some (.ref 67), none, some (.int s.1), some (.int s.2.1), none] [] s.2.2 res) {s : (Int32 × Int32 × sm_H)}  {r : ((Int32 × Int32 × sm_H) ⊕ (Int32 × sm_H))} (hf : F_463_92B s = some r) (hs : (Sum.elim S1 (fun (r : Int32 × sm_H) => res = (some (.int r.1), r.2))) r) : Ex (P_G L xs) (RUN L xs d) (sm_lk P_t463) 0 92 [some (.ref 67), none, some (.int s.1), some (.int s.2.1), none] [] s.2.2 res := by
  unfold F_463_92B at hf
  refine Ex.seg 4 (pc' := 98) (lc' := [some (.ref 67), none, some (.int s.1), some (.int s.2.1), none]) (st' := [.int s.1, .ref 115, .int s.2.1]) (h' := s.2.2) (sg1 rfl rfl (sg1 rfl rfl (sg1 rfl rfl (sg1 rfl rfl rfl)))) ?_
  obtain ⟨v1, e_v1, hf⟩ := bnd hf
  refine Ex.iald e_v1 rfl rfl ?_
  refine Ex.icmp rfl rfl (fun (c0 : v1 ≤ s.2.1) => ?_) (fun (c0 : ¬ (v1 ≤ s.2.1)) => ?_)
  · rw [if_pos c0] at hf
    refine Ex.seg 4 (pc' := 126) (lc' := [some (.ref 67), none, some (.int s.1), some (.int s.2.1), none]) (st' := [.int s.1, .ref 114, .ref 67]) (h' := s.2.2) (sg1 rfl rfl (sg1 rfl rfl (sg1 rfl rfl (sg1 rfl rfl rfl)))) ?_
    obtain ⟨v2, e_v2, hf⟩ := bnd hf
    refine Ex.iald e_v2 rfl rfl ?_
    refine Ex.seg 3 (pc' := 132) (lc' := [some (.ref 67), none, some (.int s.1), some (.int s.2.1), none]) (st' := [.int s.1, .ref 115, .int v2, .ref 67]) (h' := s.2.2) (sg1 rfl rfl (sg1 rfl rfl (sg1 rfl rfl rfl))) ?_
    obtain ⟨v3, e_v3, hf⟩ := bnd hf
    refine Ex.iald e_v3 rfl rfl ?_
    obtain ⟨q4, e_q4, hf⟩ := bnd hf
    refine Ex.callV (a := 67) (As := [.int v2, .int v3]) (r := []) (v := some (.int q4.1)) (h' := q4.2) rfl rfl (by decide) rfl (Nat.le_of_ble_eq_true rfl) rfl (E_434 (Nat.le_trans (by decide) hd) e_q4) rfl ?_
    obtain rfl := Option.some.inj hf
    exact Ex.iret rfl rfl (fun c0 => by cases c0) hs
  · rw [if_neg c0] at hf
    refine Ex.seg 6 (pc' := 112) (lc' := [some (.ref 67), none, some (.int s.1), some (.int s.2.1), none]) (st' := [.int s.2.1, .ref 129, .int s.2.1, .ref 127]) (h' := s.2.2) (sg1 rfl rfl (sg1 rfl rfl (sg1 rfl rfl (sg1 rfl rfl (sg1 rfl rfl (sg1 rfl rfl rfl)))))) ?_
    obtain ⟨v5, e_v5, hf⟩ := bnd hf
    refine Ex.iald e_v5 rfl rfl ?_
    obtain ⟨h6, e_h6, hf⟩ := bnd hf
    refine Ex.iast e_h6 rfl rfl ?_
    refine Ex.seg 1 (pc' := 117) (lc' := [some (.ref 67), none, some (.int s.1), some (.int (s.2.1 + 1)), none]) (st' := []) (h' := h6) (sg1 rfl rfl rfl) ?_
    obtain ⟨v7, e_v7, hf⟩ := bnd hf
    rw [Option.some.inj e_v7]
    refine Ex.seg 1 (pc' := 92) (lc' := [some (.ref 67), none, some (.int s.1), some (.int v7), none]) (st' := []) (h' := h6) (sg1 rfl rfl rfl) ?_
    obtain rfl := Option.some.inj hf
    exact Ex.weak (sm_le_s (sm_le_s (sm_le_s (sm_le_s (sm_le_s sm_le_nil))))) (hS1 _ hs)
theorem B_463_92 {L : Nat} {xs : Nat → Int32} {d : Nat} (hd : 10 ≤ d) {res : Option Value × sm_H} {y2 : Int32} {y3 : Int32}  {h : sm_H} {r : (Int32 × sm_H)} (hf : F_463_92 y2 y3 h = some r) (hs : (fun (r : Int32 × sm_H) => res = (some (.int r.1), r.2)) r) : Ex (P_G L xs) (RUN L xs d) (sm_lk P_t463) 0 92 [some (.ref 67), none, some (.int y2), some (.int y3), none] [] h res := by
  unfold F_463_92 at hf
  exact lp_ok (P := fun (s : (Int32 × Int32 × sm_H)) => Ex (P_G L xs) (RUN L xs d) (sm_lk P_t463) 0 92 [some (.ref 67), none, some (.int s.1), some (.int s.2.1), none] [] s.2.2 res) (S := (fun (r : Int32 × sm_H) => res = (some (.int r.1), r.2))) (fun s x hx hsx => by
    intros
    exact B_463_92B hd  (fun _ q => q) hx hsx) 1000000 _ r hf hs
theorem B_463_30B {L : Nat} {xs : Nat → Int32} {d : Nat} (hd : 10 ≤ d) {res : Option Value × sm_H} {S1 : (Int32 × Int32 × Int32 × sm_H) → Prop} (hS1 : ∀ s, S1 s → Ex (P_G L xs) (RUN L xs d) (sm_lk P_t463) 0 30 [some (.ref 67), some (.int s.1), some (.int s.2.1), some (.int s.2.2.1), none] [] s.2.2.2 res) {s : (Int32 × Int32 × Int32 × sm_H)}  {r : ((Int32 × Int32 × Int32 × sm_H) ⊕ (Int32 × sm_H))} (hf : F_463_30B s = some r) (hs : (Sum.elim S1 (fun (r : Int32 × sm_H) => res = (some (.int r.1), r.2))) r) : Ex (P_G L xs) (RUN L xs d) (sm_lk P_t463) 0 30 [some (.ref 67), some (.int s.1), some (.int s.2.1), some (.int s.2.2.1), none] [] s.2.2.2 res := by
  unfold F_463_30B at hf
  refine Ex.seg 4 (pc' := 36) (lc' := [some (.ref 67), some (.int s.1), some (.int s.2.1), some (.int s.2.2.1), none]) (st' := [.int s.2.1, .ref 115, .int s.2.2.1]) (h' := s.2.2.2) (sg1 rfl rfl (sg1 rfl rfl (sg1 rfl rfl (sg1 rfl rfl rfl)))) ?_
  obtain ⟨v8, e_v8, hf⟩ := bnd hf
  refine Ex.iald e_v8 rfl rfl ?_
  refine Ex.icmp rfl rfl (fun (c0 : v8 ≤ s.2.2.1) => ?_) (fun (c0 : ¬ (v8 ≤ s.2.2.1)) => ?_)
  · rw [if_pos c0] at hf
    refine Ex.seg 2 (pc' := 92) (lc' := [some (.ref 67), some (.int s.1), some (.int s.2.1), some (.int 0), none]) (st' := []) (h' := s.2.2.2) (sg1 rfl rfl (sg1 rfl rfl rfl)) ?_
    obtain ⟨r0, hf0, rfl⟩ := Option.map_eq_some_iff.mp hf
    exact Ex.weak (sm_le_s (sm_le_n (sm_le_s (sm_le_s (sm_le_s sm_le_nil))))) (B_463_92 hd  hf0 hs)
  · rw [if_neg c0] at hf
    refine Ex.seg 8 (pc' := 51) (lc' := [some (.ref 67), some (.int s.1), some (.int s.2.1), some (.int s.2.2.1), none]) (st' := [.int ((20 * s.1) + s.2.2.1), .ref 125, .ref 67]) (h' := s.2.2.2) (sg1 rfl rfl (sg1 rfl rfl (sg1 rfl rfl (sg1 rfl rfl (sg1 rfl rfl (sg1 rfl rfl (sg1 rfl rfl (sg1 rfl rfl rfl)))))))) ?_
    obtain ⟨v9, e_v9, hf⟩ := bnd hf
    refine Ex.iald e_v9 rfl rfl ?_
    refine Ex.seg 7 (pc' := 62) (lc' := [some (.ref 67), some (.int s.1), some (.int s.2.1), some (.int s.2.2.1), none]) (st' := [.int ((6 * s.2.1) + s.2.2.1), .ref 116, .int v9, .ref 67]) (h' := s.2.2.2) (sg1 rfl rfl (sg1 rfl rfl (sg1 rfl rfl (sg1 rfl rfl (sg1 rfl rfl (sg1 rfl rfl (sg1 rfl rfl rfl))))))) ?_
    obtain ⟨v10, e_v10, hf⟩ := bnd hf
    refine Ex.iald e_v10 rfl rfl ?_
    obtain ⟨q11, e_q11, hf⟩ := bnd hf
    refine Ex.callV (a := 67) (As := [.int v9, .int v10]) (r := []) (v := some (.int q11.1)) (h' := q11.2) rfl rfl (by decide) rfl (Nat.le_of_ble_eq_true rfl) rfl (E_433 (Nat.le_trans (by decide) hd) e_q11) rfl ?_
    refine Ex.seg 3 (pc' := 71) (lc' := [some (.ref 67), some (.int s.1), some (.int s.2.1), some (.int s.2.2.1), some (.int q11.1)]) (st' := [.int (-1), .int q11.1]) (h' := q11.2) (sg1 rfl rfl (sg1 rfl rfl (sg1 rfl rfl rfl))) ?_
    refine Ex.icmp rfl rfl (fun (c0 : ¬ (q11.1 = (-1))) => ?_) (fun (c0 : ¬ ¬ (q11.1 = (-1))) => ?_)
    · rw [if_neg c0] at hf
      refine Ex.seg 4 (pc' := 83) (lc' := [some (.ref 67), some (.int s.1), some (.int s.2.1), some (.int s.2.2.1), some (.int q11.1)]) (st' := [.int q11.1, .int s.2.2.1, .ref 129]) (h' := q11.2) (sg1 rfl rfl (sg1 rfl rfl (sg1 rfl rfl (sg1 rfl rfl rfl)))) ?_
      obtain ⟨h12, e_h12, hf⟩ := bnd hf
      refine Ex.iast e_h12 rfl rfl ?_
      refine Ex.seg 1 (pc' := 87) (lc' := [some (.ref 67), some (.int s.1), some (.int s.2.1), some (.int (s.2.2.1 + 1)), some (.int q11.1)]) (st' := []) (h' := h12) (sg1 rfl rfl rfl) ?_
      obtain ⟨v13, e_v13, hf⟩ := bnd hf
      rw [Option.some.inj e_v13]
      refine Ex.seg 1 (pc' := 30) (lc' := [some (.ref 67), some (.int s.1), some (.int s.2.1), some (.int v13), some (.int q11.1)]) (st' := []) (h' := h12) (sg1 rfl rfl rfl) ?_
      obtain rfl := Option.some.inj hf
      exact Ex.weak (sm_le_s (sm_le_s (sm_le_s (sm_le_s (sm_le_n sm_le_nil))))) (hS1 _ hs)
    · rw [if_pos (Classical.not_not.mp c0)] at hf
      refine Ex.seg 1 (pc' := 75) (lc' := [some (.ref 67), some (.int s.1), some (.int s.2.1), some (.int s.2.2.1), some (.int q11.1)]) (st' := [.int (-1)]) (h' := q11.2) (sg1 rfl rfl rfl) ?_
      obtain rfl := Option.some.inj hf
      exact Ex.iret rfl rfl (fun c0 => by cases c0) hs
theorem B_463_30 {L : Nat} {xs : Nat → Int32} {d : Nat} (hd : 10 ≤ d) {res : Option Value × sm_H} {y1 : Int32} {y2 : Int32} {y3 : Int32}  {h : sm_H} {r : (Int32 × sm_H)} (hf : F_463_30 y1 y2 y3 h = some r) (hs : (fun (r : Int32 × sm_H) => res = (some (.int r.1), r.2)) r) : Ex (P_G L xs) (RUN L xs d) (sm_lk P_t463) 0 30 [some (.ref 67), some (.int y1), some (.int y2), some (.int y3), none] [] h res := by
  unfold F_463_30 at hf
  exact lp_ok (P := fun (s : (Int32 × Int32 × Int32 × sm_H)) => Ex (P_G L xs) (RUN L xs d) (sm_lk P_t463) 0 30 [some (.ref 67), some (.int s.1), some (.int s.2.1), some (.int s.2.2.1), none] [] s.2.2.2 res) (S := (fun (r : Int32 × sm_H) => res = (some (.int r.1), r.2))) (fun s x hx hsx => by
    intros
    exact B_463_30B hd  (fun _ q => q) hx hsx) 1000000 _ r hf hs
theorem B_463_0 {L : Nat} {xs : Nat → Int32} {d : Nat} (hd : 10 ≤ d) {res : Option Value × sm_H} {x1 : Int32} {x2 : Int32}  {h : sm_H} {r : (Int32 × sm_H)} (hf : F_463_0 x1 x2 h = some r) (hs : (fun (r : Int32 × sm_H) => res = (some (.int r.1), r.2)) r) : Ex (P_G L xs) (RUN L xs d) (sm_lk P_t463) 0 0 [some (.ref 67), some (.int x1), some (.int x2), none, none] [] h res := by
  unfold F_463_0 at hf
  refine Ex.seg 3 (pc' := 5) (lc' := [some (.ref 67), some (.int x1), some (.int x2), none, none]) (st' := [.int x1, .ref 124]) (h' := h) (sg1 rfl rfl (sg1 rfl rfl (sg1 rfl rfl rfl))) ?_
  obtain ⟨v14, e_v14, hf⟩ := bnd hf
  refine Ex.iald e_v14 rfl rfl ?_
  refine Ex.seg 3 (pc' := 11) (lc' := [some (.ref 67), some (.int x1), some (.int x2), none, none]) (st' := [.int x2, .ref 115, .int v14]) (h' := h) (sg1 rfl rfl (sg1 rfl rfl (sg1 rfl rfl rfl))) ?_
  obtain ⟨v15, e_v15, hf⟩ := bnd hf
  refine Ex.iald e_v15 rfl rfl ?_
  refine Ex.icmp rfl rfl (fun (c0 : v14 = v15) => ?_) (fun (c0 : ¬ (v14 = v15)) => ?_)
  · rw [if_pos c0] at hf
    refine Ex.seg 2 (pc' := 30) (lc' := [some (.ref 67), some (.int x1), some (.int x2), some (.int 0), none]) (st' := []) (h' := h) (sg1 rfl rfl (sg1 rfl rfl rfl)) ?_
    exact Ex.weak (sm_le_s (sm_le_s (sm_le_s (sm_le_s (sm_le_s sm_le_nil))))) (B_463_30 hd  hf hs)
  · rw [if_neg c0] at hf
    refine Ex.seg 4 (pc' := 22) (lc' := [some (.ref 67), some (.int x1), some (.int x2), none, none]) (st' := [.int (h.1 67 106), .int 9, .ref 67]) (h' := h) (sg1 rfl rfl (sg1 rfl rfl (sg1 rfl rfl (sg1 rfl rfl rfl)))) ?_
    obtain ⟨q16, e_q16, hf⟩ := bnd hf
    refine Ex.callV (a := 67) (As := [.int 9, .int (h.1 67 106)]) (r := []) (v := some (.int q16.1)) (h' := q16.2) rfl rfl (by decide) rfl (Nat.le_of_ble_eq_true rfl) rfl (E_413 (Nat.le_trans (by decide) hd) e_q16) rfl ?_
    refine Ex.seg 2 (pc' := 27) (lc' := [some (.ref 67), some (.int x1), some (.int x2), none, none]) (st' := [.int (-1)]) (h' := q16.2) (sg1 rfl rfl (sg1 rfl rfl rfl)) ?_
    obtain rfl := Option.some.inj hf
    exact Ex.iret rfl rfl (fun c0 => by cases c0) hs
theorem E_463 {L : Nat} {xs : Nat → Int32} {d : Nat} (hd : 11 ≤ d) {x1 : Int32} {x2 : Int32} {h : sm_H} {r : Int32 × sm_H} (hf : F_463 x1 x2 h = some r) : RUN L xs d 463 [.ref 67, .int x1, .int x2] h (some (.int r.1), r.2) := by
  obtain ⟨d, rfl⟩ : ∃ e, d = e + 1 := ⟨d - 1, by omega⟩
  exact ⟨Nat.le_of_ble_eq_true rfl, B_463_0 (by omega) hf rfl⟩
theorem B_467_36 {L : Nat} {xs : Nat → Int32} {d : Nat} (hd : 0 ≤ d) {res : Option Value × sm_H} {z0 : Int32}  {h : sm_H} {r : (Int32 × sm_H)} (hf : F_467_36 z0 h = some r) (hs : (fun (r : Int32 × sm_H) => res = (some (.int r.1), r.2)) r) : Ex (P_G L xs) (RUN L xs d) (sm_lk P_t467) 0 36 [none, none] [.int z0] h res := by
  unfold F_467_36 at hf
  obtain rfl := Option.some.inj hf
  exact Ex.iret rfl rfl (fun c0 => by cases c0) hs
theorem B_467_0 {L : Nat} {xs : Nat → Int32} {d : Nat} (hd : 0 ≤ d) {res : Option Value × sm_H} {x1 : Int32}  {h : sm_H} {r : (Int32 × sm_H)} (hf : F_467_0 x1 h = some r) (hs : (fun (r : Int32 × sm_H) => res = (some (.int r.1), r.2)) r) : Ex (P_G L xs) (RUN L xs d) (sm_lk P_t467) 0 0 [some (.ref 67), some (.int x1)] [] h res := by
  unfold F_467_0 at hf
  refine Ex.seg 1 (pc' := 1) (lc' := [some (.ref 67), some (.int x1)]) (st' := [.int x1]) (h' := h) (sg1 rfl rfl rfl) ?_
  refine Ex.ifc rfl rfl (fun (c0 : ¬ (x1 = 0)) => ?_) (fun (c0 : ¬ ¬ (x1 = 0)) => ?_)
  · rw [if_neg c0] at hf
    refine Ex.seg 2 (pc' := 13) (lc' := [some (.ref 67), some (.int x1)]) (st' := [.int 1, .int x1]) (h' := h) (sg1 rfl rfl (sg1 rfl rfl rfl)) ?_
    refine Ex.icmp rfl rfl (fun (c0 : ¬ (x1 = 1)) => ?_) (fun (c0 : ¬ ¬ (x1 = 1)) => ?_)
    · rw [if_neg c0] at hf
      refine Ex.seg 2 (pc' := 25) (lc' := [some (.ref 67), some (.int x1)]) (st' := [.int 2, .int x1]) (h' := h) (sg1 rfl rfl (sg1 rfl rfl rfl)) ?_
      refine Ex.icmp rfl rfl (fun (c0 : ¬ (x1 = 2)) => ?_) (fun (c0 : ¬ ¬ (x1 = 2)) => ?_)
      · rw [if_neg c0] at hf
        refine Ex.seg 1 (pc' := 36) (lc' := [some (.ref 67), some (.int x1)]) (st' := [.int (-1)]) (h' := h) (sg1 rfl rfl rfl) ?_
        exact Ex.weak (sm_le_n (sm_le_n sm_le_nil)) (B_467_36 hd  hf hs)
      · rw [if_pos (Classical.not_not.mp c0)] at hf
        refine Ex.seg 3 (pc' := 36) (lc' := [some (.ref 67), some (.int x1)]) (st' := [.int (h.1 67 91)]) (h' := h) (sg1 rfl rfl (sg1 rfl rfl (sg1 rfl rfl rfl))) ?_
        exact Ex.weak (sm_le_n (sm_le_n sm_le_nil)) (B_467_36 hd  hf hs)
    · rw [if_pos (Classical.not_not.mp c0)] at hf
      refine Ex.seg 3 (pc' := 36) (lc' := [some (.ref 67), some (.int x1)]) (st' := [.int (h.1 67 78)]) (h' := h) (sg1 rfl rfl (sg1 rfl rfl (sg1 rfl rfl rfl))) ?_
      exact Ex.weak (sm_le_n (sm_le_n sm_le_nil)) (B_467_36 hd  hf hs)
  · rw [if_pos (Classical.not_not.mp c0)] at hf
    refine Ex.seg 3 (pc' := 36) (lc' := [some (.ref 67), some (.int x1)]) (st' := [.int (h.1 67 77)]) (h' := h) (sg1 rfl rfl (sg1 rfl rfl (sg1 rfl rfl rfl))) ?_
    exact Ex.weak (sm_le_n (sm_le_n sm_le_nil)) (B_467_36 hd  hf hs)
theorem E_467 {L : Nat} {xs : Nat → Int32} {d : Nat} (hd : 1 ≤ d) {x1 : Int32} {h : sm_H} {r : Int32 × sm_H} (hf : F_467 x1 h = some r) : RUN L xs d 467 [.ref 67, .int x1] h (some (.int r.1), r.2) := by
  obtain ⟨d, rfl⟩ : ∃ e, d = e + 1 := ⟨d - 1, by omega⟩
  exact ⟨Nat.le_of_ble_eq_true rfl, B_467_0 (by omega) hf rfl⟩
theorem B_468_66 {L : Nat} {xs : Nat → Int32} {d : Nat} (hd : 1 ≤ d) {res : Option Value × sm_H} {z0 : Int32}  {h : sm_H} {r : (Int32 × sm_H)} (hf : F_468_66 z0 h = some r) (hs : (fun (r : Int32 × sm_H) => res = (some (.int r.1), r.2)) r) : Ex (P_G L xs) (RUN L xs d) (sm_lk P_t468) 0 66 [none, none, none, none, none, none, none, none] [.int z0] h res := by
  unfold F_468_66 at hf
  obtain rfl := Option.some.inj hf
  exact Ex.iret rfl rfl (fun c0 => by cases c0) hs
theorem B_468_36 {L : Nat} {xs : Nat → Int32} {d : Nat} (hd : 1 ≤ d) {res : Option Value × sm_H} {S1 : (Int64 × Int64 × Int32 × sm_H) → Prop} (hS1 : ∀ s, S1 s → Ex (P_G L xs) (RUN L xs d) (sm_lk P_t468) 0 6 [some (.ref 67), some (.long s.1), none, some (.long s.2.1), none, some (.int s.2.2.1), none, none] [] s.2.2.2 res) {y1 : Int64} {y3 : Int64} {y5 : Int32}  {h : sm_H} {r : ((Int64 × Int64 × Int32 × sm_H) ⊕ (Int32 × sm_H))} (hf : F_468_36 y1 y3 y5 h = some r) (hs : (Sum.elim S1 (fun (r : Int32 × sm_H) => res = (some (.int r.1), r.2))) r) : Ex (P_G L xs) (RUN L xs d) (sm_lk P_t468) 0 36 [some (.ref 67), some (.long y1), none, some (.long y3), none, some (.int y5), none, none] [] h res := by
  unfold F_468_36 at hf
  refine Ex.seg 1 (pc' := 39) (lc' := [some (.ref 67), some (.long y1), none, some (.long y3), none, some (.int (y5 + (-8))), none, none]) (st' := []) (h' := h) (sg1 rfl rfl rfl) ?_
  obtain ⟨v1, e_v1, hf⟩ := bnd hf
  rw [Option.some.inj e_v1]
  refine Ex.seg 1 (pc' := 6) (lc' := [some (.ref 67), some (.long y1), none, some (.long y3), none, some (.int v1), none, none]) (st' := []) (h' := h) (sg1 rfl rfl rfl) ?_
  obtain rfl := Option.some.inj hf
  exact Ex.weak (sm_le_s (sm_le_s (sm_le_s (sm_le_s (sm_le_s (sm_le_s (sm_le_s (sm_le_s sm_le_nil)))))))) (hS1 _ hs)
theorem B_468_6B {L : Nat} {xs : Nat → Int32} {d : Nat} (hd : 1 ≤ d) {res : Option Value × sm_H} {S1 : (Int64 × Int64 × Int32 × sm_H) → Prop} (hS1 : ∀ s, S1 s → Ex (P_G L xs) (RUN L xs d) (sm_lk P_t468) 0 6 [some (.ref 67), some (.long s.1), none, some (.long s.2.1), none, some (.int s.2.2.1), none, none] [] s.2.2.2 res) {s : (Int64 × Int64 × Int32 × sm_H)}  {r : ((Int64 × Int64 × Int32 × sm_H) ⊕ (Int32 × sm_H))} (hf : F_468_6B s = some r) (hs : (Sum.elim S1 (fun (r : Int32 × sm_H) => res = (some (.int r.1), r.2))) r) : Ex (P_G L xs) (RUN L xs d) (sm_lk P_t468) 0 6 [some (.ref 67), some (.long s.1), none, some (.long s.2.1), none, some (.int s.2.2.1), none, none] [] s.2.2.2 res := by
  unfold F_468_6B at hf
  refine Ex.seg 1 (pc' := 8) (lc' := [some (.ref 67), some (.long s.1), none, some (.long s.2.1), none, some (.int s.2.2.1), none, none]) (st' := [.int s.2.2.1]) (h' := s.2.2.2) (sg1 rfl rfl rfl) ?_
  refine Ex.ifc rfl rfl (fun (c0 : s.2.2.1 < 0) => ?_) (fun (c0 : ¬ (s.2.2.1 < 0)) => ?_)
  · rw [if_pos c0] at hf
    refine Ex.seg 2 (pc' := 44) (lc' := [some (.ref 67), some (.long s.1), none, some (.long s.2.1), none, some (.int s.2.2.1), none, none]) (st' := [.long s.2.1, .ref 67]) (h' := s.2.2.2) (sg1 rfl rfl (sg1 rfl rfl rfl)) ?_
    obtain ⟨q2, e_q2, hf⟩ := bnd hf
    refine Ex.callV (a := 67) (As := [.long s.2.1]) (r := []) (v := some (.int q2.1)) (h' := q2.2) rfl rfl (by decide) rfl (Nat.le_of_ble_eq_true rfl) rfl (E_443 (Nat.le_trans (by decide) hd) e_q2) rfl ?_
    refine Ex.seg 3 (pc' := 52) (lc' := [some (.ref 67), some (.long s.1), none, some (.long s.2.1), none, some (.int q2.1), none, none]) (st' := [.int (-1), .int q2.1]) (h' := q2.2) (sg1 rfl rfl (sg1 rfl rfl (sg1 rfl rfl rfl))) ?_
    refine Ex.icmp rfl rfl (fun (c0 : ¬ (q2.1 = (-1))) => ?_) (fun (c0 : ¬ ¬ (q2.1 = (-1))) => ?_)
    · rw [if_neg c0] at hf
      refine Ex.seg 3 (pc' := 65) (lc' := [some (.ref 67), some (.long s.1), none, some (.long s.2.1), none, some (.int q2.1), none, none]) (st' := [.int q2.1, .ref 114]) (h' := q2.2) (sg1 rfl rfl (sg1 rfl rfl (sg1 rfl rfl rfl))) ?_
      obtain ⟨v3, e_v3, hf⟩ := bnd hf
      refine Ex.iald e_v3 rfl rfl ?_
      obtain ⟨r0, hf0, rfl⟩ := Option.map_eq_some_iff.mp hf
      exact Ex.weak (sm_le_n (sm_le_n (sm_le_s (sm_le_n (sm_le_s (sm_le_n (sm_le_s (sm_le_s sm_le_nil)))))))) (B_468_66 hd  hf0 hs)
    · rw [if_pos (Classical.not_not.mp c0)] at hf
      refine Ex.seg 2 (pc' := 66) (lc' := [some (.ref 67), some (.long s.1), none, some (.long s.2.1), none, some (.int q2.1), none, none]) (st' := [.int (-1)]) (h' := q2.2) (sg1 rfl rfl (sg1 rfl rfl rfl)) ?_
      obtain ⟨r0, hf0, rfl⟩ := Option.map_eq_some_iff.mp hf
      exact Ex.weak (sm_le_n (sm_le_n (sm_le_s (sm_le_n (sm_le_s (sm_le_n (sm_le_s (sm_le_s sm_le_nil)))))))) (B_468_66 hd  hf0 hs)
  · rw [if_neg c0] at hf
    refine Ex.seg 6 (pc' := 21) (lc' := [some (.ref 67), some (.long s.1), none, some (.long s.2.1), none, some (.int s.2.2.1), some (.long ((s.1 >>> (Int32.toInt64 s.2.2.1 &&& 63)) &&& 255)), none]) (st' := []) (h' := s.2.2.2) (sg1 rfl rfl (sg1 rfl rfl (sg1 rfl rfl (sg1 rfl rfl (sg1 rfl rfl (sg1 rfl rfl rfl)))))) ?_
    obtain ⟨v4, e_v4, hf⟩ := bnd hf
    rw [Option.some.inj e_v4]
    refine Ex.seg 3 (pc' := 25) (lc' := [some (.ref 67), some (.long s.1), none, some (.long s.2.1), none, some (.int s.2.2.1), some (.long v4), none]) (st' := [.int (lg_cmp v4 0)]) (h' := s.2.2.2) (sg1 rfl rfl (sg1 rfl rfl (sg1 rfl rfl rfl))) ?_
    refine Ex.ifc rfl rfl (fun (c0 : (lg_cmp v4 0) = 0) => ?_) (fun (c0 : ¬ ((lg_cmp v4 0) = 0)) => ?_)
    · rw [if_pos c0] at hf
      exact Ex.weak (sm_le_s (sm_le_s (sm_le_s (sm_le_s (sm_le_s (sm_le_s (sm_le_n (sm_le_s sm_le_nil)))))))) (B_468_36 hd hS1 hf hs)
    · rw [if_neg c0] at hf
      refine Ex.seg 6 (pc' := 36) (lc' := [some (.ref 67), some (.long s.1), none, some (.long ((s.2.1 <<< (Int32.toInt64 8 &&& 63)) ||| v4)), none, some (.int s.2.2.1), some (.long v4), none]) (st' := []) (h' := s.2.2.2) (sg1 rfl rfl (sg1 rfl rfl (sg1 rfl rfl (sg1 rfl rfl (sg1 rfl rfl (sg1 rfl rfl rfl)))))) ?_
      obtain ⟨v5, e_v5, hf⟩ := bnd hf
      rw [Option.some.inj e_v5]
      exact Ex.weak (sm_le_s (sm_le_s (sm_le_s (sm_le_s (sm_le_s (sm_le_s (sm_le_n (sm_le_s sm_le_nil)))))))) (B_468_36 hd hS1 hf hs)
theorem B_468_6 {L : Nat} {xs : Nat → Int32} {d : Nat} (hd : 1 ≤ d) {res : Option Value × sm_H} {y1 : Int64} {y3 : Int64} {y5 : Int32}  {h : sm_H} {r : (Int32 × sm_H)} (hf : F_468_6 y1 y3 y5 h = some r) (hs : (fun (r : Int32 × sm_H) => res = (some (.int r.1), r.2)) r) : Ex (P_G L xs) (RUN L xs d) (sm_lk P_t468) 0 6 [some (.ref 67), some (.long y1), none, some (.long y3), none, some (.int y5), none, none] [] h res := by
  unfold F_468_6 at hf
  exact lp_ok (P := fun (s : (Int64 × Int64 × Int32 × sm_H)) => Ex (P_G L xs) (RUN L xs d) (sm_lk P_t468) 0 6 [some (.ref 67), some (.long s.1), none, some (.long s.2.1), none, some (.int s.2.2.1), none, none] [] s.2.2.2 res) (S := (fun (r : Int32 × sm_H) => res = (some (.int r.1), r.2))) (fun s x hx hsx => by
    intros
    exact B_468_6B hd  (fun _ q => q) hx hsx) 1000000 _ r hf hs
theorem B_468_0 {L : Nat} {xs : Nat → Int32} {d : Nat} (hd : 1 ≤ d) {res : Option Value × sm_H} {x1 : Int64}  {h : sm_H} {r : (Int32 × sm_H)} (hf : F_468_0 x1 h = some r) (hs : (fun (r : Int32 × sm_H) => res = (some (.int r.1), r.2)) r) : Ex (P_G L xs) (RUN L xs d) (sm_lk P_t468) 0 0 [some (.ref 67), some (.long x1), none, none, none, none, none, none] [] h res := by
  unfold F_468_0 at hf
  refine Ex.seg 4 (pc' := 6) (lc' := [some (.ref 67), some (.long x1), none, some (.long 0), none, some (.int 56), none, none]) (st' := []) (h' := h) (sg1 rfl rfl (sg1 rfl rfl (sg1 rfl rfl (sg1 rfl rfl rfl)))) ?_
  exact Ex.weak (sm_le_s (sm_le_s (sm_le_s (sm_le_s (sm_le_s (sm_le_s (sm_le_s (sm_le_s sm_le_nil)))))))) (B_468_6 hd  hf hs)
theorem E_468 {L : Nat} {xs : Nat → Int32} {d : Nat} (hd : 2 ≤ d) {x1 : Int64} {h : sm_H} {r : Int32 × sm_H} (hf : F_468 x1 h = some r) : RUN L xs d 468 [.ref 67, .long x1] h (some (.int r.1), r.2) := by
  obtain ⟨d, rfl⟩ : ∃ e, d = e + 1 := ⟨d - 1, by omega⟩
  exact ⟨Nat.le_of_ble_eq_true rfl, B_468_0 (by omega) hf rfl⟩
theorem B_469_40 {L : Nat} {xs : Nat → Int32} {d : Nat} (hd : 3 ≤ d) {res : Option Value × sm_H} {z0 : Int32}  {h : sm_H} {r : (Int32 × sm_H)} (hf : F_469_40 z0 h = some r) (hs : (fun (r : Int32 × sm_H) => res = (some (.int r.1), r.2)) r) : Ex (P_G L xs) (RUN L xs d) (sm_lk P_t469) 3 40 [none, none, none, none] [.int z0] h res := by
  unfold F_469_40 at hf
  rcases Classical.em (z0 = 0 ∨ z0 = 1) with c0 | c0
  · rw [if_pos c0] at hf
    obtain rfl := Option.some.inj hf
    exact Ex.iret rfl rfl (fun _ => c0) hs
  · rw [if_neg c0] at hf
    cases hf
theorem B_469_39 {L : Nat} {xs : Nat → Int32} {d : Nat} (hd : 3 ≤ d) {res : Option Value × sm_H}   {h : sm_H} {r : (Int32 × sm_H)} (hf : F_469_39  h = some r) (hs : (fun (r : Int32 × sm_H) => res = (some (.int r.1), r.2)) r) : Ex (P_G L xs) (RUN L xs d) (sm_lk P_t469) 3 39 [none, none, none, none] [] h res := by
  unfold F_469_39 at hf
  refine Ex.seg 1 (pc' := 40) (lc' := [none, none, none, none]) (st' := [.int 0]) (h' := h) (sg1 rfl rfl rfl) ?_
  exact Ex.weak (sm_le_s (sm_le_s (sm_le_s (sm_le_s sm_le_nil)))) (B_469_40 hd  hf hs)
theorem B_469_0 {L : Nat} {xs : Nat → Int32} {d : Nat} (hd : 3 ≤ d) {res : Option Value × sm_H} {x1 : Int32} {x2 : Int32} {x3 : Int32}  {h : sm_H} {r : (Int32 × sm_H)} (hf : F_469_0 x1 x2 x3 h = some r) (hs : (fun (r : Int32 × sm_H) => res = (some (.int r.1), r.2)) r) : Ex (P_G L xs) (RUN L xs d) (sm_lk P_t469) 3 0 [some (.ref 67), some (.int x1), some (.int x2), some (.int x3)] [] h res := by
  unfold F_469_0 at hf
  refine Ex.seg 2 (pc' := 2) (lc' := [some (.ref 67), some (.int x1), some (.int x2), some (.int x3)]) (st' := [.int x1, .ref 67]) (h' := h) (sg1 rfl rfl (sg1 rfl rfl rfl)) ?_
  obtain ⟨q1, e_q1, hf⟩ := bnd hf
  refine Ex.callV (a := 67) (As := [.int x1]) (r := []) (v := some (.int q1.1)) (h' := q1.2) rfl rfl (by decide) rfl (Nat.le_of_ble_eq_true rfl) rfl (E_289 (Nat.le_trans (by decide) hd) e_q1) rfl ?_
  refine Ex.ifc rfl rfl (fun (c0 : q1.1 = 0) => ?_) (fun (c0 : ¬ (q1.1 = 0)) => ?_)
  · rw [if_pos c0] at hf
    exact Ex.weak (sm_le_n (sm_le_n (sm_le_n (sm_le_n sm_le_nil)))) (B_469_39 hd  hf hs)
  · rw [if_neg c0] at hf
    refine Ex.seg 2 (pc' := 10) (lc' := [some (.ref 67), some (.int x1), some (.int x2), some (.int x3)]) (st' := [.int x2, .ref 67]) (h' := q1.2) (sg1 rfl rfl (sg1 rfl rfl rfl)) ?_
    obtain ⟨q2, e_q2, hf⟩ := bnd hf
    refine Ex.callV (a := 67) (As := [.int x2]) (r := []) (v := some (.int q2.1)) (h' := q2.2) rfl rfl (by decide) rfl (Nat.le_of_ble_eq_true rfl) rfl (E_289 (Nat.le_trans (by decide) hd) e_q2) rfl ?_
    refine Ex.ifc rfl rfl (fun (c0 : q2.1 = 0) => ?_) (fun (c0 : ¬ (q2.1 = 0)) => ?_)
    · rw [if_pos c0] at hf
      exact Ex.weak (sm_le_n (sm_le_n (sm_le_n (sm_le_n sm_le_nil)))) (B_469_39 hd  hf hs)
    · rw [if_neg c0] at hf
      refine Ex.seg 1 (pc' := 17) (lc' := [some (.ref 67), some (.int x1), some (.int x2), some (.int x3)]) (st' := [.int x1]) (h' := q2.2) (sg1 rfl rfl rfl) ?_
      refine Ex.ifc rfl rfl (fun (c0 : x1 = 0) => ?_) (fun (c0 : ¬ (x1 = 0)) => ?_)
      · rw [if_pos c0] at hf
        exact Ex.weak (sm_le_n (sm_le_n (sm_le_n (sm_le_n sm_le_nil)))) (B_469_39 hd  hf hs)
      · rw [if_neg c0] at hf
        refine Ex.seg 1 (pc' := 21) (lc' := [some (.ref 67), some (.int x1), some (.int x2), some (.int x3)]) (st' := [.int x2]) (h' := q2.2) (sg1 rfl rfl rfl) ?_
        refine Ex.ifc rfl rfl (fun (c0 : x2 = 0) => ?_) (fun (c0 : ¬ (x2 = 0)) => ?_)
        · rw [if_pos c0] at hf
          exact Ex.weak (sm_le_n (sm_le_n (sm_le_n (sm_le_n sm_le_nil)))) (B_469_39 hd  hf hs)
        · rw [if_neg c0] at hf
          refine Ex.seg 5 (pc' := 29) (lc' := [some (.ref 67), some (.int x1), some (.int x2), some (.int x3)]) (st' := [.int 0, .int x3, .int x2, .int x1, .ref 67]) (h' := q2.2) (sg1 rfl rfl (sg1 rfl rfl (sg1 rfl rfl (sg1 rfl rfl (sg1 rfl rfl rfl))))) ?_
          obtain ⟨q3, e_q3, hf⟩ := bnd hf
          refine Ex.callV (a := 67) (As := [.int x1, .int x2, .int x3, .int 0]) (r := []) (v := some (.int q3.1)) (h' := q3.2) rfl rfl (by decide) rfl (Nat.le_of_ble_eq_true rfl) rfl (E_297 (Nat.le_trans (by decide) hd) e_q3) rfl ?_
          refine Ex.ifc rfl rfl (fun (c0 : q3.1 = 0) => ?_) (fun (c0 : ¬ (q3.1 = 0)) => ?_)
          · rw [if_pos c0] at hf
            exact Ex.weak (sm_le_n (sm_le_n (sm_le_n (sm_le_n sm_le_nil)))) (B_469_39 hd  hf hs)
          · rw [if_neg c0] at hf
            refine Ex.seg 2 (pc' := 40) (lc' := [some (.ref 67), some (.int x1), some (.int x2), some (.int x3)]) (st' := [.int 1]) (h' := q3.2) (sg1 rfl rfl (sg1 rfl rfl rfl)) ?_
            exact Ex.weak (sm_le_n (sm_le_n (sm_le_n (sm_le_n sm_le_nil)))) (B_469_40 hd  hf hs)
theorem E_469 {L : Nat} {xs : Nat → Int32} {d : Nat} (hd : 4 ≤ d) {x1 : Int32} {x2 : Int32} {x3 : Int32} {h : sm_H} {r : Int32 × sm_H} (hf : F_469 x1 x2 x3 h = some r) : RUN L xs d 469 [.ref 67, .int x1, .int x2, .int x3] h (some (.int r.1), r.2) := by
  obtain ⟨d, rfl⟩ : ∃ e, d = e + 1 := ⟨d - 1, by omega⟩
  exact ⟨Nat.le_of_ble_eq_true rfl, B_469_0 (by omega) hf rfl⟩
theorem B_363_260 {L : Nat} {xs : Nat → Int32} {d : Nat} (hd : 1 ≤ d) {res : Option Value × sm_H} {S1 : (Int32 × Int32 × Int32 × sm_H) → Prop} (hS1 : ∀ s, S1 s → Ex (P_G L xs) (RUN L xs d) (sm_lk P_t363) 0 164 [some (.ref 67), some (.int s.1), none, some (.int s.2.1), some (.int s.2.2.1), none] [] s.2.2.2 res) {y1 : Int32} {y3 : Int32} {y4 : Int32} {z0 : Int32}  {h : sm_H} {r : ((Int32 × Int32 × Int32 × sm_H) ⊕ (Int32 × sm_H))} (hf : F_363_260 y1 y3 y4 z0 h = some r) (hs : (Sum.elim S1 (fun (r : Int32 × sm_H) => res = (some (.int r.1), r.2))) r) : Ex (P_G L xs) (RUN L xs d) (sm_lk P_t363) 0 260 [some (.ref 67), some (.int y1), none, some (.int y3), some (.int y4), none] [.int z0] h res := by
  unfold F_363_260 at hf
  refine Ex.seg 2 (pc' := 264) (lc' := [some (.ref 67), some (.int y1), none, some (.int y3), some (.int y4), some (.int z0)]) (st' := [.int z0]) (h' := h) (sg1 rfl rfl (sg1 rfl rfl rfl)) ?_
  refine Ex.ifc rfl rfl (fun (c0 : z0 = 0) => ?_) (fun (c0 : ¬ (z0 = 0)) => ?_)
  · rw [if_pos c0] at hf
    refine Ex.seg 1 (pc' := 278) (lc' := [some (.ref 67), some (.int y1), none, some (.int y3), some (.int (y4 + 1)), some (.int z0)]) (st' := []) (h' := h) (sg1 rfl rfl rfl) ?_
    obtain ⟨v1, e_v1, hf⟩ := bnd hf
    rw [Option.some.inj e_v1]
    refine Ex.seg 1 (pc' := 164) (lc' := [some (.ref 67), some (.int y1), none, some (.int y3), some (.int v1), some (.int z0)]) (st' := []) (h' := h) (sg1 rfl rfl rfl) ?_
    obtain rfl := Option.some.inj hf
    exact Ex.weak (sm_le_s (sm_le_s (sm_le_s (sm_le_s (sm_le_s (sm_le_n sm_le_nil)))))) (hS1 _ hs)
  · rw [if_neg c0] at hf
    refine Ex.seg 3 (pc' := 273) (lc' := [some (.ref 67), some (.int y1), none, some (.int y3), some (.int y4), some (.int z0)]) (st' := [.int y4, .ref 90]) (h' := h) (sg1 rfl rfl (sg1 rfl rfl (sg1 rfl rfl rfl))) ?_
    obtain ⟨v2, e_v2, hf⟩ := bnd hf
    refine Ex.iald e_v2 rfl rfl ?_
    obtain rfl := Option.some.inj hf
    exact Ex.iret rfl rfl (fun c0 => by cases c0) hs
theorem B_363_259 {L : Nat} {xs : Nat → Int32} {d : Nat} (hd : 1 ≤ d) {res : Option Value × sm_H} {S1 : (Int32 × Int32 × Int32 × sm_H) → Prop} (hS1 : ∀ s, S1 s → Ex (P_G L xs) (RUN L xs d) (sm_lk P_t363) 0 164 [some (.ref 67), some (.int s.1), none, some (.int s.2.1), some (.int s.2.2.1), none] [] s.2.2.2 res) {y1 : Int32} {y3 : Int32} {y4 : Int32}  {h : sm_H} {r : ((Int32 × Int32 × Int32 × sm_H) ⊕ (Int32 × sm_H))} (hf : F_363_259 y1 y3 y4 h = some r) (hs : (Sum.elim S1 (fun (r : Int32 × sm_H) => res = (some (.int r.1), r.2))) r) : Ex (P_G L xs) (RUN L xs d) (sm_lk P_t363) 0 259 [some (.ref 67), some (.int y1), none, some (.int y3), some (.int y4), none] [] h res := by
  unfold F_363_259 at hf
  refine Ex.seg 1 (pc' := 260) (lc' := [some (.ref 67), some (.int y1), none, some (.int y3), some (.int y4), none]) (st' := [.int 0]) (h' := h) (sg1 rfl rfl rfl) ?_
  exact Ex.weak (sm_le_s (sm_le_s (sm_le_s (sm_le_s (sm_le_s (sm_le_s sm_le_nil)))))) (B_363_260 hd hS1 hf hs)
theorem B_363_164B {L : Nat} {xs : Nat → Int32} {d : Nat} (hd : 1 ≤ d) {res : Option Value × sm_H} {S1 : (Int32 × Int32 × Int32 × sm_H) → Prop} (hS1 : ∀ s, S1 s → Ex (P_G L xs) (RUN L xs d) (sm_lk P_t363) 0 164 [some (.ref 67), some (.int s.1), none, some (.int s.2.1), some (.int s.2.2.1), none] [] s.2.2.2 res) {s : (Int32 × Int32 × Int32 × sm_H)}  {r : ((Int32 × Int32 × Int32 × sm_H) ⊕ (Int32 × sm_H))} (hf : F_363_164B s = some r) (hs : (Sum.elim S1 (fun (r : Int32 × sm_H) => res = (some (.int r.1), r.2))) r) : Ex (P_G L xs) (RUN L xs d) (sm_lk P_t363) 0 164 [some (.ref 67), some (.int s.1), none, some (.int s.2.1), some (.int s.2.2.1), none] [] s.2.2.2 res := by
  unfold F_363_164B at hf
  refine Ex.seg 3 (pc' := 170) (lc' := [some (.ref 67), some (.int s.1), none, some (.int s.2.1), some (.int s.2.2.1), none]) (st' := [.int (s.2.2.2.1 67 32), .int s.2.2.1]) (h' := s.2.2.2) (sg1 rfl rfl (sg1 rfl rfl (sg1 rfl rfl rfl))) ?_
  refine Ex.icmp rfl rfl (fun (c0 : (s.2.2.2.1 67 32) ≤ s.2.2.1) => ?_) (fun (c0 : ¬ ((s.2.2.2.1 67 32) ≤ s.2.2.1)) => ?_)
  · rw [if_pos c0] at hf
    refine Ex.seg 3 (pc' := 286) (lc' := [some (.ref 67), some (.int s.1), none, some (.int s.2.1), some (.int s.2.2.1), none]) (st' := [.int s.1, .ref 90]) (h' := s.2.2.2) (sg1 rfl rfl (sg1 rfl rfl (sg1 rfl rfl rfl))) ?_
    obtain ⟨v3, e_v3, hf⟩ := bnd hf
    refine Ex.iald e_v3 rfl rfl ?_
    obtain rfl := Option.some.inj hf
    exact Ex.iret rfl rfl (fun c0 => by cases c0) hs
  · rw [if_neg c0] at hf
    refine Ex.seg 3 (pc' := 179) (lc' := [some (.ref 67), some (.int s.1), none, some (.int s.2.1), some (.int s.2.2.1), none]) (st' := [.int s.2.2.1, .ref 83]) (h' := s.2.2.2) (sg1 rfl rfl (sg1 rfl rfl (sg1 rfl rfl rfl))) ?_
    obtain ⟨v4, e_v4, hf⟩ := bnd hf
    refine Ex.iald e_v4 rfl rfl ?_
    refine Ex.seg 1 (pc' := 181) (lc' := [some (.ref 67), some (.int s.1), none, some (.int s.2.1), some (.int s.2.2.1), none]) (st' := [.int s.2.1, .int v4]) (h' := s.2.2.2) (sg1 rfl rfl rfl) ?_
    refine Ex.icmp rfl rfl (fun (c0 : ¬ (v4 = s.2.1)) => ?_) (fun (c0 : ¬ ¬ (v4 = s.2.1)) => ?_)
    · rw [if_neg c0] at hf
      exact Ex.weak (sm_le_s (sm_le_s (sm_le_s (sm_le_s (sm_le_s (sm_le_s sm_le_nil)))))) (B_363_259 hd hS1 hf hs)
    · rw [if_pos (Classical.not_not.mp c0)] at hf
      refine Ex.seg 3 (pc' := 190) (lc' := [some (.ref 67), some (.int s.1), none, some (.int s.2.1), some (.int s.2.2.1), none]) (st' := [.int s.2.2.1, .ref 87]) (h' := s.2.2.2) (sg1 rfl rfl (sg1 rfl rfl (sg1 rfl rfl rfl))) ?_
      obtain ⟨v5, e_v5, hf⟩ := bnd hf
      refine Ex.zald e_v5 rfl rfl ?_
      refine Ex.ifc rfl rfl (fun (c0 : ¬ (v5 = 0)) => ?_) (fun (c0 : ¬ ¬ (v5 = 0)) => ?_)
      · rw [if_neg c0] at hf
        exact Ex.weak (sm_le_s (sm_le_s (sm_le_s (sm_le_s (sm_le_s (sm_le_s sm_le_nil)))))) (B_363_259 hd hS1 hf hs)
      · rw [if_pos (Classical.not_not.mp c0)] at hf
        refine Ex.seg 3 (pc' := 200) (lc' := [some (.ref 67), some (.int s.1), none, some (.int s.2.1), some (.int s.2.2.1), none]) (st' := [.int s.2.2.1, .ref 86]) (h' := s.2.2.2) (sg1 rfl rfl (sg1 rfl rfl (sg1 rfl rfl rfl))) ?_
        obtain ⟨v6, e_v6, hf⟩ := bnd hf
        refine Ex.zald e_v6 rfl rfl ?_
        refine Ex.ifc rfl rfl (fun (c0 : ¬ (v6 = 0)) => ?_) (fun (c0 : ¬ ¬ (v6 = 0)) => ?_)
        · rw [if_neg c0] at hf
          exact Ex.weak (sm_le_s (sm_le_s (sm_le_s (sm_le_s (sm_le_s (sm_le_s sm_le_nil)))))) (B_363_259 hd hS1 hf hs)
        · rw [if_pos (Classical.not_not.mp c0)] at hf
          refine Ex.seg 3 (pc' := 210) (lc' := [some (.ref 67), some (.int s.1), none, some (.int s.2.1), some (.int s.2.2.1), none]) (st' := [.int s.2.2.1, .ref 85]) (h' := s.2.2.2) (sg1 rfl rfl (sg1 rfl rfl (sg1 rfl rfl rfl))) ?_
          obtain ⟨v7, e_v7, hf⟩ := bnd hf
          refine Ex.iald e_v7 rfl rfl ?_
          refine Ex.ifc rfl rfl (fun (c0 : v7 = 0) => ?_) (fun (c0 : ¬ (v7 = 0)) => ?_)
          · rw [if_pos c0] at hf
            exact Ex.weak (sm_le_s (sm_le_s (sm_le_s (sm_le_s (sm_le_s (sm_le_s sm_le_nil)))))) (B_363_259 hd hS1 hf hs)
          · rw [if_neg c0] at hf
            refine Ex.seg 3 (pc' := 220) (lc' := [some (.ref 67), some (.int s.1), none, some (.int s.2.1), some (.int s.2.2.1), none]) (st' := [.int s.2.2.1, .ref 84]) (h' := s.2.2.2) (sg1 rfl rfl (sg1 rfl rfl (sg1 rfl rfl rfl))) ?_
            obtain ⟨v8, e_v8, hf⟩ := bnd hf
            refine Ex.iald e_v8 rfl rfl ?_
            refine Ex.seg 3 (pc' := 226) (lc' := [some (.ref 67), some (.int s.1), none, some (.int s.2.1), some (.int s.2.2.1), none]) (st' := [.int s.1, .ref 84, .int v8]) (h' := s.2.2.2) (sg1 rfl rfl (sg1 rfl rfl (sg1 rfl rfl rfl))) ?_
            obtain ⟨v9, e_v9, hf⟩ := bnd hf
            refine Ex.iald e_v9 rfl rfl ?_
            refine Ex.icmp rfl rfl (fun (c0 : ¬ (v8 = v9)) => ?_) (fun (c0 : ¬ ¬ (v8 = v9)) => ?_)
            · rw [if_neg c0] at hf
              exact Ex.weak (sm_le_s (sm_le_s (sm_le_s (sm_le_s (sm_le_s (sm_le_s sm_le_nil)))))) (B_363_259 hd hS1 hf hs)
            · rw [if_pos (Classical.not_not.mp c0)] at hf
              refine Ex.seg 3 (pc' := 236) (lc' := [some (.ref 67), some (.int s.1), none, some (.int s.2.1), some (.int s.2.2.1), none]) (st' := [.int s.2.2.1, .ref 89]) (h' := s.2.2.2) (sg1 rfl rfl (sg1 rfl rfl (sg1 rfl rfl rfl))) ?_
              obtain ⟨v10, e_v10, hf⟩ := bnd hf
              refine Ex.iald e_v10 rfl rfl ?_
              refine Ex.seg 3 (pc' := 242) (lc' := [some (.ref 67), some (.int s.1), none, some (.int s.2.1), some (.int s.2.2.1), none]) (st' := [.int s.1, .ref 89, .int v10]) (h' := s.2.2.2) (sg1 rfl rfl (sg1 rfl rfl (sg1 rfl rfl rfl))) ?_
              obtain ⟨v11, e_v11, hf⟩ := bnd hf
              refine Ex.iald e_v11 rfl rfl ?_
              refine Ex.icmp rfl rfl (fun (c0 : ¬ (v10 = v11)) => ?_) (fun (c0 : ¬ ¬ (v10 = v11)) => ?_)
              · rw [if_neg c0] at hf
                exact Ex.weak (sm_le_s (sm_le_s (sm_le_s (sm_le_s (sm_le_s (sm_le_s sm_le_nil)))))) (B_363_259 hd hS1 hf hs)
              · rw [if_pos (Classical.not_not.mp c0)] at hf
                refine Ex.seg 2 (pc' := 249) (lc' := [some (.ref 67), some (.int s.1), none, some (.int s.2.1), some (.int s.2.2.1), none]) (st' := [.int s.2.2.1, .ref 67]) (h' := s.2.2.2) (sg1 rfl rfl (sg1 rfl rfl rfl)) ?_
                obtain ⟨q12, e_q12, hf⟩ := bnd hf
                refine Ex.callV (a := 67) (As := [.int s.2.2.1]) (r := []) (v := some (.int q12.1)) (h' := q12.2) rfl rfl (by decide) rfl (Nat.le_of_ble_eq_true rfl) rfl (E_364 (Nat.le_trans (by decide) hd) e_q12) rfl ?_
                refine Ex.ifc rfl rfl (fun (c0 : ¬ (q12.1 = 0)) => ?_) (fun (c0 : ¬ ¬ (q12.1 = 0)) => ?_)
                · rw [if_neg c0] at hf
                  exact Ex.weak (sm_le_s (sm_le_s (sm_le_s (sm_le_s (sm_le_s (sm_le_s sm_le_nil)))))) (B_363_259 hd hS1 hf hs)
                · rw [if_pos (Classical.not_not.mp c0)] at hf
                  refine Ex.seg 2 (pc' := 260) (lc' := [some (.ref 67), some (.int s.1), none, some (.int s.2.1), some (.int s.2.2.1), none]) (st' := [.int 1]) (h' := q12.2) (sg1 rfl rfl (sg1 rfl rfl rfl)) ?_
                  exact Ex.weak (sm_le_s (sm_le_s (sm_le_s (sm_le_s (sm_le_s (sm_le_s sm_le_nil)))))) (B_363_260 hd hS1 hf hs)
theorem B_363_164 {L : Nat} {xs : Nat → Int32} {d : Nat} (hd : 1 ≤ d) {res : Option Value × sm_H} {y1 : Int32} {y3 : Int32} {y4 : Int32}  {h : sm_H} {r : (Int32 × sm_H)} (hf : F_363_164 y1 y3 y4 h = some r) (hs : (fun (r : Int32 × sm_H) => res = (some (.int r.1), r.2)) r) : Ex (P_G L xs) (RUN L xs d) (sm_lk P_t363) 0 164 [some (.ref 67), some (.int y1), none, some (.int y3), some (.int y4), none] [] h res := by
  unfold F_363_164 at hf
  exact lp_ok (P := fun (s : (Int32 × Int32 × Int32 × sm_H)) => Ex (P_G L xs) (RUN L xs d) (sm_lk P_t363) 0 164 [some (.ref 67), some (.int s.1), none, some (.int s.2.1), some (.int s.2.2.1), none] [] s.2.2.2 res) (S := (fun (r : Int32 × sm_H) => res = (some (.int r.1), r.2))) (fun s x hx hsx => by
    intros
    exact B_363_164B hd  (fun _ q => q) hx hsx) 1000000 _ r hf hs
theorem B_363_127 {L : Nat} {xs : Nat → Int32} {d : Nat} (hd : 1 ≤ d) {res : Option Value × sm_H} {S1 : (Int32 × Int32 × sm_H) → Prop} (hS1 : ∀ s, S1 s → Ex (P_G L xs) (RUN L xs d) (sm_lk P_t363) 0 18 [some (.ref 67), some (.int s.1), none, some (.int s.2.1), none, none] [] s.2.2 res) {S2 : (Int32 × Int32 × Int32 × sm_H) → Prop} (hS2 : ∀ s, S2 s → Ex (P_G L xs) (RUN L xs d) (sm_lk P_t363) 0 31 [some (.ref 67), some (.int s.1), none, some (.int s.2.1), some (.int s.2.2.1), none] [] s.2.2.2 res) {y1 : Int32} {y3 : Int32} {y4 : Int32} {z0 : Int32}  {h : sm_H} {r : ((Int32 × Int32 × Int32 × sm_H) ⊕ ((Int32 × Int32 × sm_H) ⊕ (Int32 × sm_H)))} (hf : F_363_127 y1 y3 y4 z0 h = some r) (hs : (Sum.elim S2 (Sum.elim S1 (fun (r : Int32 × sm_H) => res = (some (.int r.1), r.2)))) r) : Ex (P_G L xs) (RUN L xs d) (sm_lk P_t363) 0 127 [some (.ref 67), some (.int y1), none, some (.int y3), some (.int y4), none] [.int z0] h res := by
  unfold F_363_127 at hf
  refine Ex.seg 2 (pc' := 131) (lc' := [some (.ref 67), some (.int y1), none, some (.int y3), some (.int y4), some (.int z0)]) (st' := [.int z0]) (h' := h) (sg1 rfl rfl (sg1 rfl rfl rfl)) ?_
  refine Ex.ifc rfl rfl (fun (c0 : z0 = 0) => ?_) (fun (c0 : ¬ (z0 = 0)) => ?_)
  · rw [if_pos c0] at hf
    refine Ex.seg 1 (pc' := 145) (lc' := [some (.ref 67), some (.int y1), none, some (.int y3), some (.int (y4 + 1)), some (.int z0)]) (st' := []) (h' := h) (sg1 rfl rfl rfl) ?_
    obtain ⟨v13, e_v13, hf⟩ := bnd hf
    rw [Option.some.inj e_v13]
    refine Ex.seg 1 (pc' := 31) (lc' := [some (.ref 67), some (.int y1), none, some (.int y3), some (.int v13), some (.int z0)]) (st' := []) (h' := h) (sg1 rfl rfl rfl) ?_
    obtain rfl := Option.some.inj hf
    exact Ex.weak (sm_le_s (sm_le_s (sm_le_s (sm_le_s (sm_le_s (sm_le_n sm_le_nil)))))) (hS2 _ hs)
  · rw [if_neg c0] at hf
    refine Ex.seg 3 (pc' := 140) (lc' := [some (.ref 67), some (.int y1), none, some (.int y3), some (.int y4), some (.int z0)]) (st' := [.int y4, .ref 90]) (h' := h) (sg1 rfl rfl (sg1 rfl rfl (sg1 rfl rfl rfl))) ?_
    obtain ⟨v14, e_v14, hf⟩ := bnd hf
    refine Ex.iald e_v14 rfl rfl ?_
    obtain rfl := Option.some.inj hf
    exact Ex.iret rfl rfl (fun c0 => by cases c0) hs
theorem B_363_126 {L : Nat} {xs : Nat → Int32} {d : Nat} (hd : 1 ≤ d) {res : Option Value × sm_H} {S1 : (Int32 × Int32 × sm_H) → Prop} (hS1 : ∀ s, S1 s → Ex (P_G L xs) (RUN L xs d) (sm_lk P_t363) 0 18 [some (.ref 67), some (.int s.1), none, some (.int s.2.1), none, none] [] s.2.2 res) {S2 : (Int32 × Int32 × Int32 × sm_H) → Prop} (hS2 : ∀ s, S2 s → Ex (P_G L xs) (RUN L xs d) (sm_lk P_t363) 0 31 [some (.ref 67), some (.int s.1), none, some (.int s.2.1), some (.int s.2.2.1), none] [] s.2.2.2 res) {y1 : Int32} {y3 : Int32} {y4 : Int32}  {h : sm_H} {r : ((Int32 × Int32 × Int32 × sm_H) ⊕ ((Int32 × Int32 × sm_H) ⊕ (Int32 × sm_H)))} (hf : F_363_126 y1 y3 y4 h = some r) (hs : (Sum.elim S2 (Sum.elim S1 (fun (r : Int32 × sm_H) => res = (some (.int r.1), r.2)))) r) : Ex (P_G L xs) (RUN L xs d) (sm_lk P_t363) 0 126 [some (.ref 67), some (.int y1), none, some (.int y3), some (.int y4), none] [] h res := by
  unfold F_363_126 at hf
  refine Ex.seg 1 (pc' := 127) (lc' := [some (.ref 67), some (.int y1), none, some (.int y3), some (.int y4), none]) (st' := [.int 0]) (h' := h) (sg1 rfl rfl rfl) ?_
  exact Ex.weak (sm_le_s (sm_le_s (sm_le_s (sm_le_s (sm_le_s (sm_le_s sm_le_nil)))))) (B_363_127 hd hS1 hS2 hf hs)
theorem B_363_31B {L : Nat} {xs : Nat → Int32} {d : Nat} (hd : 1 ≤ d) {res : Option Value × sm_H} {S1 : (Int32 × Int32 × sm_H) → Prop} (hS1 : ∀ s, S1 s → Ex (P_G L xs) (RUN L xs d) (sm_lk P_t363) 0 18 [some (.ref 67), some (.int s.1), none, some (.int s.2.1), none, none] [] s.2.2 res) {S2 : (Int32 × Int32 × Int32 × sm_H) → Prop} (hS2 : ∀ s, S2 s → Ex (P_G L xs) (RUN L xs d) (sm_lk P_t363) 0 31 [some (.ref 67), some (.int s.1), none, some (.int s.2.1), some (.int s.2.2.1), none] [] s.2.2.2 res) {s : (Int32 × Int32 × Int32 × sm_H)}  {r : ((Int32 × Int32 × Int32 × sm_H) ⊕ ((Int32 × Int32 × sm_H) ⊕ (Int32 × sm_H)))} (hf : F_363_31B s = some r) (hs : (Sum.elim S2 (Sum.elim S1 (fun (r : Int32 × sm_H) => res = (some (.int r.1), r.2)))) r) : Ex (P_G L xs) (RUN L xs d) (sm_lk P_t363) 0 31 [some (.ref 67), some (.int s.1), none, some (.int s.2.1), some (.int s.2.2.1), none] [] s.2.2.2 res := by
  unfold F_363_31B at hf
  refine Ex.seg 3 (pc' := 37) (lc' := [some (.ref 67), some (.int s.1), none, some (.int s.2.1), some (.int s.2.2.1), none]) (st' := [.int (s.2.2.2.1 67 32), .int s.2.2.1]) (h' := s.2.2.2) (sg1 rfl rfl (sg1 rfl rfl (sg1 rfl rfl rfl))) ?_
  refine Ex.icmp rfl rfl (fun (c0 : (s.2.2.2.1 67 32) ≤ s.2.2.1) => ?_) (fun (c0 : ¬ ((s.2.2.2.1 67 32) ≤ s.2.2.1)) => ?_)
  · rw [if_pos c0] at hf
    refine Ex.seg 5 (pc' := 156) (lc' := [some (.ref 67), some (.int s.1), none, some (.int s.2.1), some (.int s.2.2.1), none]) (st' := [.int (s.2.1 - 20), .ref 70]) (h' := s.2.2.2) (sg1 rfl rfl (sg1 rfl rfl (sg1 rfl rfl (sg1 rfl rfl (sg1 rfl rfl rfl))))) ?_
    obtain ⟨v15, e_v15, hf⟩ := bnd hf
    refine Ex.iald e_v15 rfl rfl ?_
    refine Ex.seg 2 (pc' := 18) (lc' := [some (.ref 67), some (.int s.1), none, some (.int v15), some (.int s.2.2.1), none]) (st' := []) (h' := s.2.2.2) (sg1 rfl rfl (sg1 rfl rfl rfl)) ?_
    obtain rfl := Option.some.inj hf
    exact Ex.weak (sm_le_s (sm_le_s (sm_le_s (sm_le_s (sm_le_n (sm_le_s sm_le_nil)))))) (hS1 _ hs)
  · rw [if_neg c0] at hf
    refine Ex.seg 3 (pc' := 46) (lc' := [some (.ref 67), some (.int s.1), none, some (.int s.2.1), some (.int s.2.2.1), none]) (st' := [.int s.2.2.1, .ref 83]) (h' := s.2.2.2) (sg1 rfl rfl (sg1 rfl rfl (sg1 rfl rfl rfl))) ?_
    obtain ⟨v16, e_v16, hf⟩ := bnd hf
    refine Ex.iald e_v16 rfl rfl ?_
    refine Ex.seg 1 (pc' := 48) (lc' := [some (.ref 67), some (.int s.1), none, some (.int s.2.1), some (.int s.2.2.1), none]) (st' := [.int s.2.1, .int v16]) (h' := s.2.2.2) (sg1 rfl rfl rfl) ?_
    refine Ex.icmp rfl rfl (fun (c0 : ¬ (v16 = s.2.1)) => ?_) (fun (c0 : ¬ ¬ (v16 = s.2.1)) => ?_)
    · rw [if_neg c0] at hf
      exact Ex.weak (sm_le_s (sm_le_s (sm_le_s (sm_le_s (sm_le_s (sm_le_s sm_le_nil)))))) (B_363_126 hd hS1 hS2 hf hs)
    · rw [if_pos (Classical.not_not.mp c0)] at hf
      refine Ex.seg 3 (pc' := 57) (lc' := [some (.ref 67), some (.int s.1), none, some (.int s.2.1), some (.int s.2.2.1), none]) (st' := [.int s.2.2.1, .ref 87]) (h' := s.2.2.2) (sg1 rfl rfl (sg1 rfl rfl (sg1 rfl rfl rfl))) ?_
      obtain ⟨v17, e_v17, hf⟩ := bnd hf
      refine Ex.zald e_v17 rfl rfl ?_
      refine Ex.ifc rfl rfl (fun (c0 : ¬ (v17 = 0)) => ?_) (fun (c0 : ¬ ¬ (v17 = 0)) => ?_)
      · rw [if_neg c0] at hf
        exact Ex.weak (sm_le_s (sm_le_s (sm_le_s (sm_le_s (sm_le_s (sm_le_s sm_le_nil)))))) (B_363_126 hd hS1 hS2 hf hs)
      · rw [if_pos (Classical.not_not.mp c0)] at hf
        refine Ex.seg 3 (pc' := 67) (lc' := [some (.ref 67), some (.int s.1), none, some (.int s.2.1), some (.int s.2.2.1), none]) (st' := [.int s.2.2.1, .ref 86]) (h' := s.2.2.2) (sg1 rfl rfl (sg1 rfl rfl (sg1 rfl rfl rfl))) ?_
        obtain ⟨v18, e_v18, hf⟩ := bnd hf
        refine Ex.zald e_v18 rfl rfl ?_
        refine Ex.ifc rfl rfl (fun (c0 : ¬ (v18 = 0)) => ?_) (fun (c0 : ¬ ¬ (v18 = 0)) => ?_)
        · rw [if_neg c0] at hf
          exact Ex.weak (sm_le_s (sm_le_s (sm_le_s (sm_le_s (sm_le_s (sm_le_s sm_le_nil)))))) (B_363_126 hd hS1 hS2 hf hs)
        · rw [if_pos (Classical.not_not.mp c0)] at hf
          refine Ex.seg 3 (pc' := 77) (lc' := [some (.ref 67), some (.int s.1), none, some (.int s.2.1), some (.int s.2.2.1), none]) (st' := [.int s.2.2.1, .ref 85]) (h' := s.2.2.2) (sg1 rfl rfl (sg1 rfl rfl (sg1 rfl rfl rfl))) ?_
          obtain ⟨v19, e_v19, hf⟩ := bnd hf
          refine Ex.iald e_v19 rfl rfl ?_
          refine Ex.ifc rfl rfl (fun (c0 : v19 = 0) => ?_) (fun (c0 : ¬ (v19 = 0)) => ?_)
          · rw [if_pos c0] at hf
            exact Ex.weak (sm_le_s (sm_le_s (sm_le_s (sm_le_s (sm_le_s (sm_le_s sm_le_nil)))))) (B_363_126 hd hS1 hS2 hf hs)
          · rw [if_neg c0] at hf
            refine Ex.seg 3 (pc' := 87) (lc' := [some (.ref 67), some (.int s.1), none, some (.int s.2.1), some (.int s.2.2.1), none]) (st' := [.int s.2.2.1, .ref 84]) (h' := s.2.2.2) (sg1 rfl rfl (sg1 rfl rfl (sg1 rfl rfl rfl))) ?_
            obtain ⟨v20, e_v20, hf⟩ := bnd hf
            refine Ex.iald e_v20 rfl rfl ?_
            refine Ex.seg 3 (pc' := 93) (lc' := [some (.ref 67), some (.int s.1), none, some (.int s.2.1), some (.int s.2.2.1), none]) (st' := [.int s.1, .ref 84, .int v20]) (h' := s.2.2.2) (sg1 rfl rfl (sg1 rfl rfl (sg1 rfl rfl rfl))) ?_
            obtain ⟨v21, e_v21, hf⟩ := bnd hf
            refine Ex.iald e_v21 rfl rfl ?_
            refine Ex.icmp rfl rfl (fun (c0 : ¬ (v20 = v21)) => ?_) (fun (c0 : ¬ ¬ (v20 = v21)) => ?_)
            · rw [if_neg c0] at hf
              exact Ex.weak (sm_le_s (sm_le_s (sm_le_s (sm_le_s (sm_le_s (sm_le_s sm_le_nil)))))) (B_363_126 hd hS1 hS2 hf hs)
            · rw [if_pos (Classical.not_not.mp c0)] at hf
              refine Ex.seg 3 (pc' := 103) (lc' := [some (.ref 67), some (.int s.1), none, some (.int s.2.1), some (.int s.2.2.1), none]) (st' := [.int s.2.2.1, .ref 89]) (h' := s.2.2.2) (sg1 rfl rfl (sg1 rfl rfl (sg1 rfl rfl rfl))) ?_
              obtain ⟨v22, e_v22, hf⟩ := bnd hf
              refine Ex.iald e_v22 rfl rfl ?_
              refine Ex.seg 3 (pc' := 109) (lc' := [some (.ref 67), some (.int s.1), none, some (.int s.2.1), some (.int s.2.2.1), none]) (st' := [.int s.1, .ref 89, .int v22]) (h' := s.2.2.2) (sg1 rfl rfl (sg1 rfl rfl (sg1 rfl rfl rfl))) ?_
              obtain ⟨v23, e_v23, hf⟩ := bnd hf
              refine Ex.iald e_v23 rfl rfl ?_
              refine Ex.icmp rfl rfl (fun (c0 : ¬ (v22 = v23)) => ?_) (fun (c0 : ¬ ¬ (v22 = v23)) => ?_)
              · rw [if_neg c0] at hf
                exact Ex.weak (sm_le_s (sm_le_s (sm_le_s (sm_le_s (sm_le_s (sm_le_s sm_le_nil)))))) (B_363_126 hd hS1 hS2 hf hs)
              · rw [if_pos (Classical.not_not.mp c0)] at hf
                refine Ex.seg 2 (pc' := 116) (lc' := [some (.ref 67), some (.int s.1), none, some (.int s.2.1), some (.int s.2.2.1), none]) (st' := [.int s.2.2.1, .ref 67]) (h' := s.2.2.2) (sg1 rfl rfl (sg1 rfl rfl rfl)) ?_
                obtain ⟨q24, e_q24, hf⟩ := bnd hf
                refine Ex.callV (a := 67) (As := [.int s.2.2.1]) (r := []) (v := some (.int q24.1)) (h' := q24.2) rfl rfl (by decide) rfl (Nat.le_of_ble_eq_true rfl) rfl (E_364 (Nat.le_trans (by decide) hd) e_q24) rfl ?_
                refine Ex.ifc rfl rfl (fun (c0 : ¬ (q24.1 = 0)) => ?_) (fun (c0 : ¬ ¬ (q24.1 = 0)) => ?_)
                · rw [if_neg c0] at hf
                  exact Ex.weak (sm_le_s (sm_le_s (sm_le_s (sm_le_s (sm_le_s (sm_le_s sm_le_nil)))))) (B_363_126 hd hS1 hS2 hf hs)
                · rw [if_pos (Classical.not_not.mp c0)] at hf
                  refine Ex.seg 2 (pc' := 127) (lc' := [some (.ref 67), some (.int s.1), none, some (.int s.2.1), some (.int s.2.2.1), none]) (st' := [.int 1]) (h' := q24.2) (sg1 rfl rfl (sg1 rfl rfl rfl)) ?_
                  exact Ex.weak (sm_le_s (sm_le_s (sm_le_s (sm_le_s (sm_le_s (sm_le_s sm_le_nil)))))) (B_363_127 hd hS1 hS2 hf hs)
theorem B_363_31 {L : Nat} {xs : Nat → Int32} {d : Nat} (hd : 1 ≤ d) {res : Option Value × sm_H} {S1 : (Int32 × Int32 × sm_H) → Prop} (hS1 : ∀ s, S1 s → Ex (P_G L xs) (RUN L xs d) (sm_lk P_t363) 0 18 [some (.ref 67), some (.int s.1), none, some (.int s.2.1), none, none] [] s.2.2 res) {y1 : Int32} {y3 : Int32} {y4 : Int32}  {h : sm_H} {r : ((Int32 × Int32 × sm_H) ⊕ (Int32 × sm_H))} (hf : F_363_31 y1 y3 y4 h = some r) (hs : (Sum.elim S1 (fun (r : Int32 × sm_H) => res = (some (.int r.1), r.2))) r) : Ex (P_G L xs) (RUN L xs d) (sm_lk P_t363) 0 31 [some (.ref 67), some (.int y1), none, some (.int y3), some (.int y4), none] [] h res := by
  unfold F_363_31 at hf
  exact lp_ok (P := fun (s : (Int32 × Int32 × Int32 × sm_H)) => Ex (P_G L xs) (RUN L xs d) (sm_lk P_t363) 0 31 [some (.ref 67), some (.int s.1), none, some (.int s.2.1), some (.int s.2.2.1), none] [] s.2.2.2 res) (S := (Sum.elim S1 (fun (r : Int32 × sm_H) => res = (some (.int r.1), r.2)))) (fun s x hx hsx => by
    intros
    exact B_363_31B hd hS1 (fun _ q => q) hx hsx) 1000000 _ r hf hs
theorem B_363_18B {L : Nat} {xs : Nat → Int32} {d : Nat} (hd : 1 ≤ d) {res : Option Value × sm_H} {S1 : (Int32 × Int32 × sm_H) → Prop} (hS1 : ∀ s, S1 s → Ex (P_G L xs) (RUN L xs d) (sm_lk P_t363) 0 18 [some (.ref 67), some (.int s.1), none, some (.int s.2.1), none, none] [] s.2.2 res) {s : (Int32 × Int32 × sm_H)}  {r : ((Int32 × Int32 × sm_H) ⊕ (Int32 × sm_H))} (hf : F_363_18B s = some r) (hs : (Sum.elim S1 (fun (r : Int32 × sm_H) => res = (some (.int r.1), r.2))) r) : Ex (P_G L xs) (RUN L xs d) (sm_lk P_t363) 0 18 [some (.ref 67), some (.int s.1), none, some (.int s.2.1), none, none] [] s.2.2 res := by
  unfold F_363_18B at hf
  refine Ex.seg 4 (pc' := 24) (lc' := [some (.ref 67), some (.int s.1), none, some (.int s.2.1), none, none]) (st' := [.int s.1, .ref 83, .int s.2.1]) (h' := s.2.2) (sg1 rfl rfl (sg1 rfl rfl (sg1 rfl rfl (sg1 rfl rfl rfl)))) ?_
  obtain ⟨v25, e_v25, hf⟩ := bnd hf
  refine Ex.iald e_v25 rfl rfl ?_
  refine Ex.icmp rfl rfl (fun (c0 : s.2.1 = v25) => ?_) (fun (c0 : ¬ (s.2.1 = v25)) => ?_)
  · rw [if_pos c0] at hf
    refine Ex.seg 2 (pc' := 164) (lc' := [some (.ref 67), some (.int s.1), none, some (.int s.2.1), some (.int 0), none]) (st' := []) (h' := s.2.2) (sg1 rfl rfl (sg1 rfl rfl rfl)) ?_
    obtain ⟨r0, hf0, rfl⟩ := Option.map_eq_some_iff.mp hf
    exact Ex.weak (sm_le_s (sm_le_s (sm_le_s (sm_le_s (sm_le_s (sm_le_s sm_le_nil)))))) (B_363_164 hd  hf0 hs)
  · rw [if_neg c0] at hf
    refine Ex.seg 2 (pc' := 31) (lc' := [some (.ref 67), some (.int s.1), none, some (.int s.2.1), some (.int 0), none]) (st' := []) (h' := s.2.2) (sg1 rfl rfl (sg1 rfl rfl rfl)) ?_
    exact Ex.weak (sm_le_s (sm_le_s (sm_le_s (sm_le_s (sm_le_s (sm_le_s sm_le_nil)))))) (B_363_31 hd hS1 hf hs)
theorem B_363_18 {L : Nat} {xs : Nat → Int32} {d : Nat} (hd : 1 ≤ d) {res : Option Value × sm_H} {y1 : Int32} {y3 : Int32}  {h : sm_H} {r : (Int32 × sm_H)} (hf : F_363_18 y1 y3 h = some r) (hs : (fun (r : Int32 × sm_H) => res = (some (.int r.1), r.2)) r) : Ex (P_G L xs) (RUN L xs d) (sm_lk P_t363) 0 18 [some (.ref 67), some (.int y1), none, some (.int y3), none, none] [] h res := by
  unfold F_363_18 at hf
  exact lp_ok (P := fun (s : (Int32 × Int32 × sm_H)) => Ex (P_G L xs) (RUN L xs d) (sm_lk P_t363) 0 18 [some (.ref 67), some (.int s.1), none, some (.int s.2.1), none, none] [] s.2.2 res) (S := (fun (r : Int32 × sm_H) => res = (some (.int r.1), r.2))) (fun s x hx hsx => by
    intros
    exact B_363_18B hd  (fun _ q => q) hx hsx) 1000000 _ r hf hs
theorem B_363_0 {L : Nat} {xs : Nat → Int32} {d : Nat} (hd : 1 ≤ d) {res : Option Value × sm_H} {x1 : Int32} {x2 : Int32}  {h : sm_H} {r : (Int32 × sm_H)} (hf : F_363_0 x1 x2 h = some r) (hs : (fun (r : Int32 × sm_H) => res = (some (.int r.1), r.2)) r) : Ex (P_G L xs) (RUN L xs d) (sm_lk P_t363) 0 0 [some (.ref 67), some (.int x1), some (.int x2), none, none, none] [] h res := by
  unfold F_363_0 at hf
  refine Ex.seg 3 (pc' := 5) (lc' := [some (.ref 67), some (.int x1), some (.int x2), none, none, none]) (st' := [.int x1, .ref 85]) (h' := h) (sg1 rfl rfl (sg1 rfl rfl (sg1 rfl rfl rfl))) ?_
  obtain ⟨v26, e_v26, hf⟩ := bnd hf
  refine Ex.iald e_v26 rfl rfl ?_
  refine Ex.ifc rfl rfl (fun (c0 : ¬ (v26 = 0)) => ?_) (fun (c0 : ¬ ¬ (v26 = 0)) => ?_)
  · rw [if_neg c0] at hf
    refine Ex.seg 2 (pc' := 18) (lc' := [some (.ref 67), some (.int x1), some (.int x2), some (.int x2), none, none]) (st' := []) (h' := h) (sg1 rfl rfl (sg1 rfl rfl rfl)) ?_
    exact Ex.weak (sm_le_s (sm_le_s (sm_le_n (sm_le_s (sm_le_s (sm_le_s sm_le_nil)))))) (B_363_18 hd  hf hs)
  · rw [if_pos (Classical.not_not.mp c0)] at hf
    refine Ex.seg 3 (pc' := 14) (lc' := [some (.ref 67), some (.int x1), some (.int x2), none, none, none]) (st' := [.int x1, .ref 90]) (h' := h) (sg1 rfl rfl (sg1 rfl rfl (sg1 rfl rfl rfl))) ?_
    obtain ⟨v27, e_v27, hf⟩ := bnd hf
    refine Ex.iald e_v27 rfl rfl ?_
    obtain rfl := Option.some.inj hf
    exact Ex.iret rfl rfl (fun c0 => by cases c0) hs
theorem E_363 {L : Nat} {xs : Nat → Int32} {d : Nat} (hd : 2 ≤ d) {x1 : Int32} {x2 : Int32} {h : sm_H} {r : Int32 × sm_H} (hf : F_363 x1 x2 h = some r) : RUN L xs d 363 [.ref 67, .int x1, .int x2] h (some (.int r.1), r.2) := by
  obtain ⟨d, rfl⟩ : ∃ e, d = e + 1 := ⟨d - 1, by omega⟩
  exact ⟨Nat.le_of_ble_eq_true rfl, B_363_0 (by omega) hf rfl⟩
theorem B_374_79 {L : Nat} {xs : Nat → Int32} {d : Nat} (hd : 3 ≤ d) {res : Option Value × sm_H} {S1 : (Int32 × Int32 × Int32 × sm_H) → Prop} (hS1 : ∀ s, S1 s → Ex (P_G L xs) (RUN L xs d) (sm_lk P_t374) 0 17 [some (.ref 67), none, some (.int s.1), some (.int s.2.1), some (.int s.2.2.1), none] [] s.2.2.2 res) {y2 : Int32} {y3 : Int32} {y5 : Int32}  {h : sm_H} {r : ((Int32 × Int32 × Int32 × sm_H) ⊕ (sm_H))} (hf : F_374_79 y2 y3 y5 h = some r) (hs : (Sum.elim S1 (fun (r : sm_H) => res = (none, r))) r) : Ex (P_G L xs) (RUN L xs d) (sm_lk P_t374) 0 79 [some (.ref 67), none, some (.int y2), some (.int y3), none, some (.int y5)] [] h res := by
  unfold F_374_79 at hf
  refine Ex.seg 5 (pc' := 87) (lc' := [some (.ref 67), none, some (.int y2), some (.int y3), none, some (.int y5)]) (st' := [.int (y5 + 2), .ref 81]) (h' := h) (sg1 rfl rfl (sg1 rfl rfl (sg1 rfl rfl (sg1 rfl rfl (sg1 rfl rfl rfl))))) ?_
  obtain ⟨v1, e_v1, hf⟩ := bnd hf
  refine Ex.iald e_v1 rfl rfl ?_
  refine Ex.seg 1 (pc' := 89) (lc' := [some (.ref 67), none, some (.int y2), some (.int y3), none, some (.int y5)]) (st' := [.int (-1), .int v1]) (h' := h) (sg1 rfl rfl rfl) ?_
  refine Ex.icmp rfl rfl (fun (c0 : v1 = (-1)) => ?_) (fun (c0 : ¬ (v1 = (-1))) => ?_)
  · rw [if_pos c0] at hf
    refine Ex.seg 5 (pc' := 127) (lc' := [some (.ref 67), none, some (.int y2), some (.int y3), some (.int 0), some (.int y5)]) (st' := [.int y3, .int y2, .ref 67]) (h' := h) (sg1 rfl rfl (sg1 rfl rfl (sg1 rfl rfl (sg1 rfl rfl (sg1 rfl rfl rfl))))) ?_
    obtain ⟨q2, e_q2, hf⟩ := bnd hf
    refine Ex.callV (a := 67) (As := [.int y2, .int y3]) (r := []) (v := none) (h' := q2) rfl rfl (by decide) rfl (Nat.le_of_ble_eq_true rfl) rfl (E_375 (Nat.le_trans (by decide) hd) e_q2) rfl ?_
    refine Ex.seg 1 (pc' := 17) (lc' := [some (.ref 67), none, some (.int y2), some (.int y3), some (.int 0), some (.int y5)]) (st' := []) (h' := q2) (sg1 rfl rfl rfl) ?_
    obtain rfl := Option.some.inj hf
    exact Ex.weak (sm_le_s (sm_le_s (sm_le_s (sm_le_s (sm_le_s (sm_le_n sm_le_nil)))))) (hS1 _ hs)
  · rw [if_neg c0] at hf
    refine Ex.seg 6 (pc' := 101) (lc' := [some (.ref 67), none, some (.int y2), some (.int y3), none, some (.int y5)]) (st' := [.int (y5 + 2), .ref 81, .ref 67]) (h' := h) (sg1 rfl rfl (sg1 rfl rfl (sg1 rfl rfl (sg1 rfl rfl (sg1 rfl rfl (sg1 rfl rfl rfl)))))) ?_
    obtain ⟨v3, e_v3, hf⟩ := bnd hf
    refine Ex.iald e_v3 rfl rfl ?_
    obtain ⟨q4, e_q4, hf⟩ := bnd hf
    refine Ex.callV (a := 67) (As := [.int v3]) (r := []) (v := none) (h' := q4) rfl rfl (by decide) rfl (Nat.le_of_ble_eq_true rfl) rfl (E_373 (Nat.le_trans (by decide) hd) e_q4) rfl ?_
    refine Ex.seg 6 (pc' := 114) (lc' := [some (.ref 67), none, some (.int y2), some (.int y3), none, some (.int y5)]) (st' := [.int (y5 + 2), .ref 81, .ref 67]) (h' := q4) (sg1 rfl rfl (sg1 rfl rfl (sg1 rfl rfl (sg1 rfl rfl (sg1 rfl rfl (sg1 rfl rfl rfl)))))) ?_
    obtain ⟨v5, e_v5, hf⟩ := bnd hf
    refine Ex.iald e_v5 rfl rfl ?_
    refine Ex.seg 1 (pc' := 117) (lc' := [some (.ref 67), none, some (.int y2), some (.int y3), none, some (.int y5)]) (st' := [.int 22, .int v5, .ref 67]) (h' := q4) (sg1 rfl rfl rfl) ?_
    obtain ⟨q6, e_q6, hf⟩ := bnd hf
    refine Ex.callV (a := 67) (As := [.int v5, .int 22]) (r := []) (v := none) (h' := q6) rfl rfl (by decide) rfl (Nat.le_of_ble_eq_true rfl) rfl (E_350 (Nat.le_trans (by decide) hd) e_q6) rfl ?_
    obtain rfl := Option.some.inj hf
    exact Ex.vret rfl rfl hs
theorem B_374_17B {L : Nat} {xs : Nat → Int32} {d : Nat} (hd : 3 ≤ d) {res : Option Value × sm_H} {S1 : (Int32 × Int32 × Int32 × sm_H) → Prop} (hS1 : ∀ s, S1 s → Ex (P_G L xs) (RUN L xs d) (sm_lk P_t374) 0 17 [some (.ref 67), none, some (.int s.1), some (.int s.2.1), some (.int s.2.2.1), none] [] s.2.2.2 res) {s : (Int32 × Int32 × Int32 × sm_H)}  {r : ((Int32 × Int32 × Int32 × sm_H) ⊕ (sm_H))} (hf : F_374_17B s = some r) (hs : (Sum.elim S1 (fun (r : sm_H) => res = (none, r))) r) : Ex (P_G L xs) (RUN L xs d) (sm_lk P_t374) 0 17 [some (.ref 67), none, some (.int s.1), some (.int s.2.1), some (.int s.2.2.1), none] [] s.2.2.2 res := by
  unfold F_374_17B at hf
  refine Ex.seg 7 (pc' := 27) (lc' := [some (.ref 67), none, some (.int s.1), some (.int s.2.1), some (.int s.2.2.1), none]) (st' := [.int s.1, .ref 107, .int 4, .int (24 * s.2.1)]) (h' := s.2.2.2) (sg1 rfl rfl (sg1 rfl rfl (sg1 rfl rfl (sg1 rfl rfl (sg1 rfl rfl (sg1 rfl rfl (sg1 rfl rfl rfl))))))) ?_
  obtain ⟨v7, e_v7, hf⟩ := bnd hf
  refine Ex.iald e_v7 rfl rfl ?_
  refine Ex.seg 3 (pc' := 32) (lc' := [some (.ref 67), none, some (.int s.1), some (.int s.2.1), some (.int s.2.2.1), some (.int ((24 * s.2.1) + (4 * v7)))]) (st' := []) (h' := s.2.2.2) (sg1 rfl rfl (sg1 rfl rfl (sg1 rfl rfl rfl))) ?_
  obtain ⟨v8, e_v8, hf⟩ := bnd hf
  rw [Option.some.inj e_v8]
  refine Ex.seg 1 (pc' := 34) (lc' := [some (.ref 67), none, some (.int s.1), some (.int s.2.1), some (.int s.2.2.1), some (.int v8)]) (st' := [.int s.2.2.1]) (h' := s.2.2.2) (sg1 rfl rfl rfl) ?_
  refine Ex.ifc rfl rfl (fun (c0 : ¬ (s.2.2.1 = 0)) => ?_) (fun (c0 : ¬ ¬ (s.2.2.1 = 0)) => ?_)
  · rw [if_neg c0] at hf
    exact Ex.weak (sm_le_s (sm_le_s (sm_le_s (sm_le_s (sm_le_n (sm_le_s sm_le_nil)))))) (B_374_79 hd hS1 hf hs)
  · rw [if_pos (Classical.not_not.mp c0)] at hf
    refine Ex.seg 5 (pc' := 45) (lc' := [some (.ref 67), none, some (.int s.1), some (.int s.2.1), some (.int s.2.2.1), some (.int v8)]) (st' := [.int (v8 + 1), .ref 81]) (h' := s.2.2.2) (sg1 rfl rfl (sg1 rfl rfl (sg1 rfl rfl (sg1 rfl rfl (sg1 rfl rfl rfl))))) ?_
    obtain ⟨v9, e_v9, hf⟩ := bnd hf
    refine Ex.iald e_v9 rfl rfl ?_
    refine Ex.seg 1 (pc' := 47) (lc' := [some (.ref 67), none, some (.int s.1), some (.int s.2.1), some (.int s.2.2.1), some (.int v8)]) (st' := [.int (-1), .int v9]) (h' := s.2.2.2) (sg1 rfl rfl rfl) ?_
    refine Ex.icmp rfl rfl (fun (c0 : v9 = (-1)) => ?_) (fun (c0 : ¬ (v9 = (-1))) => ?_)
    · rw [if_pos c0] at hf
      exact Ex.weak (sm_le_s (sm_le_s (sm_le_s (sm_le_s (sm_le_n (sm_le_s sm_le_nil)))))) (B_374_79 hd hS1 hf hs)
    · rw [if_neg c0] at hf
      refine Ex.seg 6 (pc' := 59) (lc' := [some (.ref 67), none, some (.int s.1), some (.int s.2.1), some (.int s.2.2.1), some (.int v8)]) (st' := [.int (v8 + 1), .ref 81, .ref 67]) (h' := s.2.2.2) (sg1 rfl rfl (sg1 rfl rfl (sg1 rfl rfl (sg1 rfl rfl (sg1 rfl rfl (sg1 rfl rfl rfl)))))) ?_
      obtain ⟨v10, e_v10, hf⟩ := bnd hf
      refine Ex.iald e_v10 rfl rfl ?_
      obtain ⟨q11, e_q11, hf⟩ := bnd hf
      refine Ex.callV (a := 67) (As := [.int v10]) (r := []) (v := none) (h' := q11) rfl rfl (by decide) rfl (Nat.le_of_ble_eq_true rfl) rfl (E_373 (Nat.le_trans (by decide) hd) e_q11) rfl ?_
      refine Ex.seg 6 (pc' := 72) (lc' := [some (.ref 67), none, some (.int s.1), some (.int s.2.1), some (.int s.2.2.1), some (.int v8)]) (st' := [.int (v8 + 1), .ref 81, .ref 67]) (h' := q11) (sg1 rfl rfl (sg1 rfl rfl (sg1 rfl rfl (sg1 rfl rfl (sg1 rfl rfl (sg1 rfl rfl rfl)))))) ?_
      obtain ⟨v12, e_v12, hf⟩ := bnd hf
      refine Ex.iald e_v12 rfl rfl ?_
      refine Ex.seg 1 (pc' := 75) (lc' := [some (.ref 67), none, some (.int s.1), some (.int s.2.1), some (.int s.2.2.1), some (.int v8)]) (st' := [.int 21, .int v12, .ref 67]) (h' := q11) (sg1 rfl rfl rfl) ?_
      obtain ⟨q13, e_q13, hf⟩ := bnd hf
      refine Ex.callV (a := 67) (As := [.int v12, .int 21]) (r := []) (v := none) (h' := q13) rfl rfl (by decide) rfl (Nat.le_of_ble_eq_true rfl) rfl (E_350 (Nat.le_trans (by decide) hd) e_q13) rfl ?_
      obtain rfl := Option.some.inj hf
      exact Ex.vret rfl rfl hs
theorem B_374_17 {L : Nat} {xs : Nat → Int32} {d : Nat} (hd : 3 ≤ d) {res : Option Value × sm_H} {y2 : Int32} {y3 : Int32} {y4 : Int32}  {h : sm_H} {r : (sm_H)} (hf : F_374_17 y2 y3 y4 h = some r) (hs : (fun (r : sm_H) => res = (none, r)) r) : Ex (P_G L xs) (RUN L xs d) (sm_lk P_t374) 0 17 [some (.ref 67), none, some (.int y2), some (.int y3), some (.int y4), none] [] h res := by
  unfold F_374_17 at hf
  exact lp_ok (P := fun (s : (Int32 × Int32 × Int32 × sm_H)) => Ex (P_G L xs) (RUN L xs d) (sm_lk P_t374) 0 17 [some (.ref 67), none, some (.int s.1), some (.int s.2.1), some (.int s.2.2.1), none] [] s.2.2.2 res) (S := (fun (r : sm_H) => res = (none, r))) (fun s x hx hsx => by
    intros
    exact B_374_17B hd  (fun _ q => q) hx hsx) 1000000 _ r hf hs
theorem B_374_0 {L : Nat} {xs : Nat → Int32} {d : Nat} (hd : 3 ≤ d) {res : Option Value × sm_H} {x1 : Int32}  {h : sm_H} {r : (sm_H)} (hf : F_374_0 x1 h = some r) (hs : (fun (r : sm_H) => res = (none, r)) r) : Ex (P_G L xs) (RUN L xs d) (sm_lk P_t374) 0 0 [some (.ref 67), some (.int x1), none, none, none, none] [] h res := by
  unfold F_374_0 at hf
  refine Ex.seg 5 (pc' := 7) (lc' := [some (.ref 67), some (.int x1), some (.int ((h.1 67 56) - 1)), none, none, none]) (st' := []) (h' := h) (sg1 rfl rfl (sg1 rfl rfl (sg1 rfl rfl (sg1 rfl rfl (sg1 rfl rfl rfl))))) ?_
  obtain ⟨v14, e_v14, hf⟩ := bnd hf
  rw [Option.some.inj e_v14]
  refine Ex.seg 3 (pc' := 12) (lc' := [some (.ref 67), some (.int x1), some (.int v14), none, none, none]) (st' := [.int v14, .ref 103]) (h' := h) (sg1 rfl rfl (sg1 rfl rfl (sg1 rfl rfl rfl))) ?_
  obtain ⟨v15, e_v15, hf⟩ := bnd hf
  refine Ex.iald e_v15 rfl rfl ?_
  refine Ex.seg 3 (pc' := 17) (lc' := [some (.ref 67), some (.int x1), some (.int v14), some (.int v15), some (.int x1), none]) (st' := []) (h' := h) (sg1 rfl rfl (sg1 rfl rfl (sg1 rfl rfl rfl))) ?_
  exact Ex.weak (sm_le_s (sm_le_n (sm_le_s (sm_le_s (sm_le_s (sm_le_s sm_le_nil)))))) (B_374_17 hd  hf hs)
theorem E_374 {L : Nat} {xs : Nat → Int32} {d : Nat} (hd : 4 ≤ d) {x1 : Int32} {h : sm_H} {r : sm_H} (hf : F_374 x1 h = some r) : RUN L xs d 374 [.ref 67, .int x1] h (none, r) := by
  obtain ⟨d, rfl⟩ : ∃ e, d = e + 1 := ⟨d - 1, by omega⟩
  exact ⟨Nat.le_of_ble_eq_true rfl, B_374_0 (by omega) hf rfl⟩
theorem B_381_31 {L : Nat} {xs : Nat → Int32} {d : Nat} (hd : 2 ≤ d) {res : Option Value × sm_H} {y1 : Int32} {y2 : Int32}  {h : sm_H} {r : (Int32 × sm_H)} (hf : F_381_31 y1 y2 h = some r) (hs : (fun (r : Int32 × sm_H) => res = (some (.int r.1), r.2)) r) : Ex (P_G L xs) (RUN L xs d) (sm_lk P_t381) 0 31 [some (.ref 67), some (.int y1), some (.int y2)] [] h res := by
  unfold F_381_31 at hf
  refine Ex.seg 5 (pc' := 40) (lc' := [some (.ref 67), some (.int y1), some (.int y2)]) (st' := [.int y1, .int (h.1 67 6), .ref 70]) (h' := h) (sg1 rfl rfl (sg1 rfl rfl (sg1 rfl rfl (sg1 rfl rfl (sg1 rfl rfl rfl))))) ?_
  obtain ⟨h1, e_h1, hf⟩ := bnd hf
  refine Ex.iast e_h1 rfl rfl ?_
  refine Ex.seg 5 (pc' := 50) (lc' := [some (.ref 67), some (.int y1), some (.int y2)]) (st' := [.int y2, .int (h1.1 67 6), .ref 71]) (h' := h1) (sg1 rfl rfl (sg1 rfl rfl (sg1 rfl rfl (sg1 rfl rfl (sg1 rfl rfl rfl))))) ?_
  obtain ⟨h2, e_h2, hf⟩ := bnd hf
  refine Ex.iast e_h2 rfl rfl ?_
  refine Ex.seg 6 (pc' := 61) (lc' := [some (.ref 67), some (.int y1), some (.int y2)]) (st' := []) (h' := (sm_wI h2 67 6 ((h2.1 67 6) + 1))) (sg1 rfl rfl (sg1 rfl rfl (sg1 rfl rfl (sg1 rfl rfl (sg1 rfl rfl (sg1 rfl rfl rfl)))))) ?_
  obtain ⟨h3, e_h3, hf⟩ := bnd hf
  rw [Option.some.inj e_h3]
  refine Ex.seg 6 (pc' := 70) (lc' := [some (.ref 67), some (.int y1), some (.int y2)]) (st' := [.int ((20 + (h3.1 67 6)) - 1)]) (h' := h3) (sg1 rfl rfl (sg1 rfl rfl (sg1 rfl rfl (sg1 rfl rfl (sg1 rfl rfl (sg1 rfl rfl rfl)))))) ?_
  obtain rfl := Option.some.inj hf
  exact Ex.iret rfl rfl (fun c0 => by cases c0) hs
theorem B_381_29 {L : Nat} {xs : Nat → Int32} {d : Nat} (hd : 2 ≤ d) {res : Option Value × sm_H}   {h : sm_H} {r : (Int32 × sm_H)} (hf : F_381_29  h = some r) (hs : (fun (r : Int32 × sm_H) => res = (some (.int r.1), r.2)) r) : Ex (P_G L xs) (RUN L xs d) (sm_lk P_t381) 0 29 [none, none, none] [] h res := by
  unfold F_381_29 at hf
  refine Ex.seg 1 (pc' := 30) (lc' := [none, none, none]) (st' := [.int (-1)]) (h' := h) (sg1 rfl rfl rfl) ?_
  obtain rfl := Option.some.inj hf
  exact Ex.iret rfl rfl (fun c0 => by cases c0) hs
theorem B_381_0 {L : Nat} {xs : Nat → Int32} {d : Nat} (hd : 2 ≤ d) {res : Option Value × sm_H} {x1 : Int32} {x2 : Int32}  {h : sm_H} {r : (Int32 × sm_H)} (hf : F_381_0 x1 x2 h = some r) (hs : (fun (r : Int32 × sm_H) => res = (some (.int r.1), r.2)) r) : Ex (P_G L xs) (RUN L xs d) (sm_lk P_t381) 0 0 [some (.ref 67), some (.int x1), some (.int x2)] [] h res := by
  unfold F_381_0 at hf
  refine Ex.seg 3 (pc' := 6) (lc' := [some (.ref 67), some (.int x1), some (.int x2)]) (st' := [.int 12, .int (h.1 67 6)]) (h' := h) (sg1 rfl rfl (sg1 rfl rfl (sg1 rfl rfl rfl))) ?_
  refine Ex.icmp rfl rfl (fun (c0 : (h.1 67 6) = 12) => ?_) (fun (c0 : ¬ ((h.1 67 6) = 12)) => ?_)
  · rw [if_pos c0] at hf
    exact Ex.weak (sm_le_n (sm_le_n (sm_le_n sm_le_nil))) (B_381_29 hd  hf hs)
  · rw [if_neg c0] at hf
    refine Ex.seg 2 (pc' := 12) (lc' := [some (.ref 67), some (.int x1), some (.int x2)]) (st' := [.int 7, .int x1]) (h' := h) (sg1 rfl rfl (sg1 rfl rfl rfl)) ?_
    refine Ex.icmp rfl rfl (fun (c0 : x1 = 7) => ?_) (fun (c0 : ¬ (x1 = 7)) => ?_)
    · rw [if_pos c0] at hf
      exact Ex.weak (sm_le_s (sm_le_s (sm_le_s sm_le_nil))) (B_381_31 hd  hf hs)
    · rw [if_neg c0] at hf
      refine Ex.seg 2 (pc' := 18) (lc' := [some (.ref 67), some (.int x1), some (.int x2)]) (st' := [.int 19, .int x1]) (h' := h) (sg1 rfl rfl (sg1 rfl rfl rfl)) ?_
      refine Ex.icmp rfl rfl (fun (c0 : x1 = 19) => ?_) (fun (c0 : ¬ (x1 = 19)) => ?_)
      · rw [if_pos c0] at hf
        exact Ex.weak (sm_le_s (sm_le_s (sm_le_s sm_le_nil))) (B_381_31 hd  hf hs)
      · rw [if_neg c0] at hf
        refine Ex.seg 2 (pc' := 23) (lc' := [some (.ref 67), some (.int x1), some (.int x2)]) (st' := [.int x1, .ref 67]) (h' := h) (sg1 rfl rfl (sg1 rfl rfl rfl)) ?_
        obtain ⟨q4, e_q4, hf⟩ := bnd hf
        refine Ex.callV (a := 67) (As := [.int x1]) (r := []) (v := some (.int q4.1)) (h' := q4.2) rfl rfl (by decide) rfl (Nat.le_of_ble_eq_true rfl) rfl (E_387 (Nat.le_trans (by decide) hd) e_q4) rfl ?_
        refine Ex.ifc rfl rfl (fun (c0 : ¬ (q4.1 = 0)) => ?_) (fun (c0 : ¬ ¬ (q4.1 = 0)) => ?_)
        · rw [if_neg c0] at hf
          exact Ex.weak (sm_le_s (sm_le_s (sm_le_s sm_le_nil))) (B_381_31 hd  hf hs)
        · rw [if_pos (Classical.not_not.mp c0)] at hf
          exact Ex.weak (sm_le_n (sm_le_n (sm_le_n sm_le_nil))) (B_381_29 hd  hf hs)
theorem E_381 {L : Nat} {xs : Nat → Int32} {d : Nat} (hd : 3 ≤ d) {x1 : Int32} {x2 : Int32} {h : sm_H} {r : Int32 × sm_H} (hf : F_381 x1 x2 h = some r) : RUN L xs d 381 [.ref 67, .int x1, .int x2] h (some (.int r.1), r.2) := by
  obtain ⟨d, rfl⟩ : ∃ e, d = e + 1 := ⟨d - 1, by omega⟩
  exact ⟨Nat.le_of_ble_eq_true rfl, B_381_0 (by omega) hf rfl⟩
theorem B_395_49 {L : Nat} {xs : Nat → Int32} {d : Nat} (hd : 4 ≤ d) {res : Option Value × sm_H}   {h : sm_H} {r : (Int32 × sm_H)} (hf : F_395_49  h = some r) (hs : (fun (r : Int32 × sm_H) => res = (some (.int r.1), r.2)) r) : Ex (P_G L xs) (RUN L xs d) (sm_lk P_t395) 0 49 [some (.ref 67), none, none, none, none, none, none, none] [] h res := by
  unfold F_395_49 at hf
  refine Ex.seg 2 (pc' := 51) (lc' := [some (.ref 67), none, none, none, none, none, none, none]) (st' := [.int 1, .ref 67]) (h' := h) (sg1 rfl rfl (sg1 rfl rfl rfl)) ?_
  obtain ⟨q1, e_q1, hf⟩ := bnd hf
  refine Ex.callV (a := 67) (As := [.int 1]) (r := []) (v := some (.int q1.1)) (h' := q1.2) rfl rfl (by decide) rfl (Nat.le_of_ble_eq_true rfl) rfl (E_388 (Nat.le_trans (by decide) hd) e_q1) rfl ?_
  obtain rfl := Option.some.inj hf
  exact Ex.iret rfl rfl (fun c0 => by cases c0) hs
theorem B_395_314 {L : Nat} {xs : Nat → Int32} {d : Nat} (hd : 4 ≤ d) {res : Option Value × sm_H} {z1 : Int32} {z2 : Int32} {z3 : Int32}  {h : sm_H} {r : (Int32 × sm_H)} (hf : F_395_314 z1 z2 z3 h = some r) (hs : (fun (r : Int32 × sm_H) => res = (some (.int r.1), r.2)) r) : Ex (P_G L xs) (RUN L xs d) (sm_lk P_t395) 0 314 [none, none, none, none, none, none, none, none] [.int z3, .int z2, .int z1, .ref 67] h res := by
  unfold F_395_314 at hf
  refine Ex.seg 1 (pc' := 315) (lc' := [none, none, none, none, none, none, none, none]) (st' := [.long 0, .int z3, .int z2, .int z1, .ref 67]) (h' := h) (sg1 rfl rfl rfl) ?_
  obtain ⟨q2, e_q2, hf⟩ := bnd hf
  refine Ex.callV (a := 67) (As := [.int z1, .int z2, .int z3, .long 0]) (r := []) (v := some (.int q2.1)) (h' := q2.2) rfl rfl (by decide) rfl (Nat.le_of_ble_eq_true rfl) rfl (E_340 (Nat.le_trans (by decide) hd) e_q2) rfl ?_
  obtain rfl := Option.some.inj hf
  exact Ex.iret rfl rfl (fun c0 => by cases c0) hs
theorem B_395_291 {L : Nat} {xs : Nat → Int32} {d : Nat} (hd : 4 ≤ d) {res : Option Value × sm_H} {y1 : Int32} {y2 : Int32} {y5 : Int32} {y6 : Int32} {z1 : Int32}  {h : sm_H} {r : (Int32 × sm_H)} (hf : F_395_291 y1 y2 y5 y6 z1 h = some r) (hs : (fun (r : Int32 × sm_H) => res = (some (.int r.1), r.2)) r) : Ex (P_G L xs) (RUN L xs d) (sm_lk P_t395) 0 291 [none, some (.int y1), some (.int y2), none, none, some (.int y5), some (.int y6), none] [.int z1, .ref 67] h res := by
  unfold F_395_291 at hf
  refine Ex.seg 3 (pc' := 296) (lc' := [none, some (.int y1), some (.int y2), none, none, some (.int y5), some (.int y6), none]) (st' := [.int 3, .int y5, .int y6, .int z1, .ref 67]) (h' := h) (sg1 rfl rfl (sg1 rfl rfl (sg1 rfl rfl rfl))) ?_
  refine Ex.icmp rfl rfl (fun (c0 : ¬ (y5 = 3)) => ?_) (fun (c0 : ¬ ¬ (y5 = 3)) => ?_)
  · rw [if_neg c0] at hf
    refine Ex.seg 2 (pc' := 306) (lc' := [none, some (.int y1), some (.int y2), none, none, some (.int y5), some (.int y6), none]) (st' := [.int 1, .int y5, .int y6, .int z1, .ref 67]) (h' := h) (sg1 rfl rfl (sg1 rfl rfl rfl)) ?_
    refine Ex.icmp rfl rfl (fun (c0 : ¬ (y5 = 1)) => ?_) (fun (c0 : ¬ ¬ (y5 = 1)) => ?_)
    · rw [if_neg c0] at hf
      refine Ex.seg 1 (pc' := 314) (lc' := [none, some (.int y1), some (.int y2), none, none, some (.int y5), some (.int y6), none]) (st' := [.int y1, .int y6, .int z1, .ref 67]) (h' := h) (sg1 rfl rfl rfl) ?_
      exact Ex.weak (sm_le_s (sm_le_n (sm_le_n (sm_le_s (sm_le_s (sm_le_n (sm_le_n (sm_le_s sm_le_nil)))))))) (B_395_314 hd  hf hs)
    · rw [if_pos (Classical.not_not.mp c0)] at hf
      refine Ex.seg 2 (pc' := 314) (lc' := [none, some (.int y1), some (.int y2), none, none, some (.int y5), some (.int y6), none]) (st' := [.int y2, .int y6, .int z1, .ref 67]) (h' := h) (sg1 rfl rfl (sg1 rfl rfl rfl)) ?_
      exact Ex.weak (sm_le_s (sm_le_n (sm_le_n (sm_le_s (sm_le_s (sm_le_n (sm_le_n (sm_le_s sm_le_nil)))))))) (B_395_314 hd  hf hs)
  · rw [if_pos (Classical.not_not.mp c0)] at hf
    refine Ex.seg 2 (pc' := 314) (lc' := [none, some (.int y1), some (.int y2), none, none, some (.int y5), some (.int y6), none]) (st' := [.int 0, .int y6, .int z1, .ref 67]) (h' := h) (sg1 rfl rfl (sg1 rfl rfl rfl)) ?_
    exact Ex.weak (sm_le_s (sm_le_n (sm_le_n (sm_le_s (sm_le_s (sm_le_n (sm_le_n (sm_le_s sm_le_nil)))))))) (B_395_314 hd  hf hs)
theorem B_395_260 {L : Nat} {xs : Nat → Int32} {d : Nat} (hd : 4 ≤ d) {res : Option Value × sm_H} {y1 : Int32} {y2 : Int32} {y4 : Int32} {y5 : Int32} {y6 : Int32}  {h : sm_H} {r : (Int32 × sm_H)} (hf : F_395_260 y1 y2 y4 y5 y6 h = some r) (hs : (fun (r : Int32 × sm_H) => res = (some (.int r.1), r.2)) r) : Ex (P_G L xs) (RUN L xs d) (sm_lk P_t395) 0 260 [some (.ref 67), some (.int y1), some (.int y2), none, some (.int y4), some (.int y5), some (.int y6), none] [] h res := by
  unfold F_395_260 at hf
  refine Ex.seg 2 (pc' := 263) (lc' := [some (.ref 67), some (.int y1), some (.int y2), none, some (.int y4), some (.int y5), some (.int y6), none]) (st' := [.int y4, .ref 67]) (h' := h) (sg1 rfl rfl (sg1 rfl rfl rfl)) ?_
  obtain ⟨q3, e_q3, hf⟩ := bnd hf
  refine Ex.callV (a := 67) (As := [.int y4]) (r := []) (v := none) (h' := q3) rfl rfl (by decide) rfl (Nat.le_of_ble_eq_true rfl) rfl (E_311 (Nat.le_trans (by decide) hd) e_q3) rfl ?_
  refine Ex.seg 3 (pc' := 270) (lc' := [some (.ref 67), some (.int y1), some (.int y2), none, some (.int y4), some (.int y5), some (.int y6), none]) (st' := [.int 1, .int y5, .ref 67]) (h' := q3) (sg1 rfl rfl (sg1 rfl rfl (sg1 rfl rfl rfl))) ?_
  refine Ex.icmp rfl rfl (fun (c0 : ¬ (y5 = 1)) => ?_) (fun (c0 : ¬ ¬ (y5 = 1)) => ?_)
  · rw [if_neg c0] at hf
    refine Ex.seg 2 (pc' := 281) (lc' := [some (.ref 67), some (.int y1), some (.int y2), none, some (.int y4), some (.int y5), some (.int y6), none]) (st' := [.int 2, .int y5, .ref 67]) (h' := q3) (sg1 rfl rfl (sg1 rfl rfl rfl)) ?_
    refine Ex.icmp rfl rfl (fun (c0 : ¬ (y5 = 2)) => ?_) (fun (c0 : ¬ ¬ (y5 = 2)) => ?_)
    · rw [if_neg c0] at hf
      refine Ex.seg 1 (pc' := 291) (lc' := [some (.ref 67), some (.int y1), some (.int y2), none, some (.int y4), some (.int y5), some (.int y6), none]) (st' := [.int 38, .ref 67]) (h' := q3) (sg1 rfl rfl rfl) ?_
      exact Ex.weak (sm_le_n (sm_le_s (sm_le_s (sm_le_s (sm_le_n (sm_le_s (sm_le_s (sm_le_s sm_le_nil)))))))) (B_395_291 hd  hf hs)
    · rw [if_pos (Classical.not_not.mp c0)] at hf
      refine Ex.seg 2 (pc' := 291) (lc' := [some (.ref 67), some (.int y1), some (.int y2), none, some (.int y4), some (.int y5), some (.int y6), none]) (st' := [.int 37, .ref 67]) (h' := q3) (sg1 rfl rfl (sg1 rfl rfl rfl)) ?_
      exact Ex.weak (sm_le_n (sm_le_s (sm_le_s (sm_le_s (sm_le_n (sm_le_s (sm_le_s (sm_le_s sm_le_nil)))))))) (B_395_291 hd  hf hs)
  · rw [if_pos (Classical.not_not.mp c0)] at hf
    refine Ex.seg 2 (pc' := 291) (lc' := [some (.ref 67), some (.int y1), some (.int y2), none, some (.int y4), some (.int y5), some (.int y6), none]) (st' := [.int 36, .ref 67]) (h' := q3) (sg1 rfl rfl (sg1 rfl rfl rfl)) ?_
    exact Ex.weak (sm_le_n (sm_le_s (sm_le_s (sm_le_s (sm_le_n (sm_le_s (sm_le_s (sm_le_s sm_le_nil)))))))) (B_395_291 hd  hf hs)
theorem B_395_257 {L : Nat} {xs : Nat → Int32} {d : Nat} (hd : 4 ≤ d) {res : Option Value × sm_H} {y1 : Int32} {y2 : Int32} {y4 : Int32} {y5 : Int32} {y6 : Int32} {z1 : Int32}  {h : sm_H} {r : (Int32 × sm_H)} (hf : F_395_257 y1 y2 y4 y5 y6 z1 h = some r) (hs : (fun (r : Int32 × sm_H) => res = (some (.int r.1), r.2)) r) : Ex (P_G L xs) (RUN L xs d) (sm_lk P_t395) 0 257 [some (.ref 67), some (.int y1), some (.int y2), none, some (.int y4), some (.int y5), some (.int y6), none] [.int z1, .ref 67] h res := by
  unfold F_395_257 at hf
  obtain ⟨q4, e_q4, hf⟩ := bnd hf
  refine Ex.callV (a := 67) (As := [.int z1]) (r := []) (v := none) (h' := q4) rfl rfl (by decide) rfl (Nat.le_of_ble_eq_true rfl) rfl (E_309 (Nat.le_trans (by decide) hd) e_q4) rfl ?_
  exact Ex.weak (sm_le_s (sm_le_s (sm_le_s (sm_le_s (sm_le_s (sm_le_s (sm_le_s (sm_le_s sm_le_nil)))))))) (B_395_260 hd  hf hs)
theorem B_395_236 {L : Nat} {xs : Nat → Int32} {d : Nat} (hd : 4 ≤ d) {res : Option Value × sm_H} {y1 : Int32} {y2 : Int32} {y4 : Int32} {y5 : Int32} {y6 : Int32} {z1 : Int32}  {h : sm_H} {r : (Int32 × sm_H)} (hf : F_395_236 y1 y2 y4 y5 y6 z1 h = some r) (hs : (fun (r : Int32 × sm_H) => res = (some (.int r.1), r.2)) r) : Ex (P_G L xs) (RUN L xs d) (sm_lk P_t395) 0 236 [some (.ref 67), some (.int y1), some (.int y2), none, some (.int y4), some (.int y5), some (.int y6), none] [.int z1, .ref 67] h res := by
  unfold F_395_236 at hf
  obtain ⟨q5, e_q5, hf⟩ := bnd hf
  refine Ex.callV (a := 67) (As := [.int z1]) (r := []) (v := none) (h' := q5) rfl rfl (by decide) rfl (Nat.le_of_ble_eq_true rfl) rfl (E_308 (Nat.le_trans (by decide) hd) e_q5) rfl ?_
  refine Ex.seg 2 (pc' := 242) (lc' := [some (.ref 67), some (.int y1), some (.int y2), none, some (.int y4), some (.int y5), some (.int y6), none]) (st' := [.int 3, .int y5]) (h' := q5) (sg1 rfl rfl (sg1 rfl rfl rfl)) ?_
  refine Ex.icmp rfl rfl (fun (c0 : 3 ≤ y5) => ?_) (fun (c0 : ¬ (3 ≤ y5)) => ?_)
  · rw [if_pos c0] at hf
    exact Ex.weak (sm_le_s (sm_le_s (sm_le_s (sm_le_s (sm_le_s (sm_le_s (sm_le_s (sm_le_s sm_le_nil)))))))) (B_395_260 hd  hf hs)
  · rw [if_neg c0] at hf
    refine Ex.seg 3 (pc' := 249) (lc' := [some (.ref 67), some (.int y1), some (.int y2), none, some (.int y4), some (.int y5), some (.int y6), none]) (st' := [.int 1, .int y5, .ref 67]) (h' := q5) (sg1 rfl rfl (sg1 rfl rfl (sg1 rfl rfl rfl))) ?_
    refine Ex.icmp rfl rfl (fun (c0 : ¬ (y5 = 1)) => ?_) (fun (c0 : ¬ ¬ (y5 = 1)) => ?_)
    · rw [if_neg c0] at hf
      refine Ex.seg 1 (pc' := 257) (lc' := [some (.ref 67), some (.int y1), some (.int y2), none, some (.int y4), some (.int y5), some (.int y6), none]) (st' := [.int y1, .ref 67]) (h' := q5) (sg1 rfl rfl rfl) ?_
      exact Ex.weak (sm_le_s (sm_le_s (sm_le_s (sm_le_s (sm_le_s (sm_le_s (sm_le_s (sm_le_s sm_le_nil)))))))) (B_395_257 hd  hf hs)
    · rw [if_pos (Classical.not_not.mp c0)] at hf
      refine Ex.seg 2 (pc' := 257) (lc' := [some (.ref 67), some (.int y1), some (.int y2), none, some (.int y4), some (.int y5), some (.int y6), none]) (st' := [.int y2, .ref 67]) (h' := q5) (sg1 rfl rfl (sg1 rfl rfl rfl)) ?_
      exact Ex.weak (sm_le_s (sm_le_s (sm_le_s (sm_le_s (sm_le_s (sm_le_s (sm_le_s (sm_le_s sm_le_nil)))))))) (B_395_257 hd  hf hs)
theorem B_395_184 {L : Nat} {xs : Nat → Int32} {d : Nat} (hd : 4 ≤ d) {res : Option Value × sm_H} {y1 : Int32} {y2 : Int32} {y4 : Int32} {y5 : Int32} {y6 : Int32}  {h : sm_H} {r : (Int32 × sm_H)} (hf : F_395_184 y1 y2 y4 y5 y6 h = some r) (hs : (fun (r : Int32 × sm_H) => res = (some (.int r.1), r.2)) r) : Ex (P_G L xs) (RUN L xs d) (sm_lk P_t395) 0 184 [some (.ref 67), some (.int y1), some (.int y2), none, some (.int y4), some (.int y5), some (.int y6), none] [] h res := by
  unfold F_395_184 at hf
  refine Ex.seg 3 (pc' := 189) (lc' := [some (.ref 67), some (.int y1), some (.int y2), none, some (.int y4), some (.int y5), some (.int y6), none]) (st' := []) (h' := (sm_wI h 67 3 0)) (sg1 rfl rfl (sg1 rfl rfl (sg1 rfl rfl rfl))) ?_
  obtain ⟨h6, e_h6, hf⟩ := bnd hf
  rw [Option.some.inj e_h6]
  refine Ex.seg 1 (pc' := 191) (lc' := [some (.ref 67), some (.int y1), some (.int y2), none, some (.int y4), some (.int y5), some (.int y6), none]) (st' := [.int y5]) (h' := h6) (sg1 rfl rfl rfl) ?_
  refine Ex.ifc rfl rfl (fun (c0 : ¬ (y5 = 0)) => ?_) (fun (c0 : ¬ ¬ (y5 = 0)) => ?_)
  · rw [if_neg c0] at hf
    refine Ex.seg 2 (pc' := 205) (lc' := [some (.ref 67), some (.int y1), some (.int y2), none, some (.int y4), some (.int y5), some (.int y6), none]) (st' := [.int 3, .int y5]) (h' := h6) (sg1 rfl rfl (sg1 rfl rfl rfl)) ?_
    refine Ex.icmp rfl rfl (fun (c0 : y5 ≤ 3) => ?_) (fun (c0 : ¬ (y5 ≤ 3)) => ?_)
    · rw [if_pos c0] at hf
      refine Ex.seg 3 (pc' := 222) (lc' := [some (.ref 67), some (.int y1), some (.int y2), none, some (.int y4), some (.int y5), some (.int y6), none]) (st' := [.int 3, .int y5, .ref 67]) (h' := h6) (sg1 rfl rfl (sg1 rfl rfl (sg1 rfl rfl rfl))) ?_
      refine Ex.icmp rfl rfl (fun (c0 : ¬ (y5 = 3)) => ?_) (fun (c0 : ¬ ¬ (y5 = 3)) => ?_)
      · rw [if_neg c0] at hf
        refine Ex.seg 3 (pc' := 235) (lc' := [some (.ref 67), some (.int y1), some (.int y2), none, some (.int y4), some (.int y5), some (.int y6), none]) (st' := [.int y4, .ref 72, .ref 67]) (h' := h6) (sg1 rfl rfl (sg1 rfl rfl (sg1 rfl rfl rfl))) ?_
        obtain ⟨v7, e_v7, hf⟩ := bnd hf
        refine Ex.iald e_v7 rfl rfl ?_
        exact Ex.weak (sm_le_s (sm_le_s (sm_le_s (sm_le_s (sm_le_s (sm_le_s (sm_le_s (sm_le_s sm_le_nil)))))))) (B_395_236 hd  hf hs)
      · rw [if_pos (Classical.not_not.mp c0)] at hf
        refine Ex.seg 2 (pc' := 236) (lc' := [some (.ref 67), some (.int y1), some (.int y2), none, some (.int y4), some (.int y5), some (.int y6), none]) (st' := [.int y2, .ref 67]) (h' := h6) (sg1 rfl rfl (sg1 rfl rfl rfl)) ?_
        exact Ex.weak (sm_le_s (sm_le_s (sm_le_s (sm_le_s (sm_le_s (sm_le_s (sm_le_s (sm_le_s sm_le_nil)))))))) (B_395_236 hd  hf hs)
    · rw [if_neg c0] at hf
      refine Ex.seg 4 (pc' := 214) (lc' := [some (.ref 67), some (.int y1), some (.int y2), none, some (.int y4), some (.int y5), some (.int y6), none]) (st' := [.int y5, .int y2, .int y6, .ref 67]) (h' := h6) (sg1 rfl rfl (sg1 rfl rfl (sg1 rfl rfl (sg1 rfl rfl rfl)))) ?_
      obtain ⟨q8, e_q8, hf⟩ := bnd hf
      refine Ex.callV (a := 67) (As := [.int y6, .int y2, .int y5]) (r := []) (v := some (.int q8.1)) (h' := q8.2) rfl rfl (by decide) rfl (Nat.le_of_ble_eq_true rfl) rfl (E_396 (Nat.le_trans (by decide) hd) e_q8) rfl ?_
      obtain rfl := Option.some.inj hf
      exact Ex.iret rfl rfl (fun c0 => by cases c0) hs
  · rw [if_pos (Classical.not_not.mp c0)] at hf
    refine Ex.seg 3 (pc' := 200) (lc' := [some (.ref 67), some (.int y1), some (.int y2), none, some (.int y4), some (.int y5), some (.int y6), none]) (st' := [.int y6, .ref 90]) (h' := h6) (sg1 rfl rfl (sg1 rfl rfl (sg1 rfl rfl rfl))) ?_
    obtain ⟨v9, e_v9, hf⟩ := bnd hf
    refine Ex.iald e_v9 rfl rfl ?_
    obtain rfl := Option.some.inj hf
    exact Ex.iret rfl rfl (fun c0 => by cases c0) hs
theorem B_395_177 {L : Nat} {xs : Nat → Int32} {d : Nat} (hd : 4 ≤ d) {res : Option Value × sm_H}   {h : sm_H} {r : (Int32 × sm_H)} (hf : F_395_177  h = some r) (hs : (fun (r : Int32 × sm_H) => res = (some (.int r.1), r.2)) r) : Ex (P_G L xs) (RUN L xs d) (sm_lk P_t395) 0 177 [some (.ref 67), none, none, none, none, none, none, none] [] h res := by
  unfold F_395_177 at hf
  refine Ex.seg 2 (pc' := 180) (lc' := [some (.ref 67), none, none, none, none, none, none, none]) (st' := [.int 7, .ref 67]) (h' := h) (sg1 rfl rfl (sg1 rfl rfl rfl)) ?_
  obtain ⟨q10, e_q10, hf⟩ := bnd hf
  refine Ex.callV (a := 67) (As := [.int 7]) (r := []) (v := some (.int q10.1)) (h' := q10.2) rfl rfl (by decide) rfl (Nat.le_of_ble_eq_true rfl) rfl (E_388 (Nat.le_trans (by decide) hd) e_q10) rfl ?_
  obtain rfl := Option.some.inj hf
  exact Ex.iret rfl rfl (fun c0 => by cases c0) hs
theorem B_395_126 {L : Nat} {xs : Nat → Int32} {d : Nat} (hd : 4 ≤ d) {res : Option Value × sm_H} {y1 : Int32} {y2 : Int32} {y4 : Int32} {y5 : Int32} {y6 : Int32} {z0 : Int32}  {h : sm_H} {r : (Int32 × sm_H)} (hf : F_395_126 y1 y2 y4 y5 y6 z0 h = some r) (hs : (fun (r : Int32 × sm_H) => res = (some (.int r.1), r.2)) r) : Ex (P_G L xs) (RUN L xs d) (sm_lk P_t395) 0 126 [some (.ref 67), some (.int y1), some (.int y2), none, some (.int y4), some (.int y5), some (.int y6), none] [.int z0] h res := by
  unfold F_395_126 at hf
  refine Ex.seg 2 (pc' := 130) (lc' := [some (.ref 67), some (.int y1), some (.int y2), none, some (.int y4), some (.int y5), some (.int y6), some (.int z0)]) (st' := [.int z0]) (h' := h) (sg1 rfl rfl (sg1 rfl rfl rfl)) ?_
  refine Ex.ifc rfl rfl (fun (c0 : ¬ (z0 = 0)) => ?_) (fun (c0 : ¬ ¬ (z0 = 0)) => ?_)
  · rw [if_neg c0] at hf
    refine Ex.seg 2 (pc' := 142) (lc' := [some (.ref 67), some (.int y1), some (.int y2), none, some (.int y4), some (.int y5), some (.int y6), some (.int z0)]) (st' := [.int (-1), .int y6]) (h' := h) (sg1 rfl rfl (sg1 rfl rfl rfl)) ?_
    refine Ex.icmp rfl rfl (fun (c0 : ¬ (y6 = (-1))) => ?_) (fun (c0 : ¬ ¬ (y6 = (-1))) => ?_)
    · rw [if_neg c0] at hf
      refine Ex.seg 3 (pc' := 156) (lc' := [some (.ref 67), some (.int y1), some (.int y2), none, some (.int y4), some (.int y5), some (.int y6), some (.int z0)]) (st' := [.int y6, .int y1, .ref 67]) (h' := h) (sg1 rfl rfl (sg1 rfl rfl (sg1 rfl rfl rfl))) ?_
      obtain ⟨q11, e_q11, hf⟩ := bnd hf
      refine Ex.callV (a := 67) (As := [.int y1, .int y6]) (r := []) (v := some (.int q11.1)) (h' := q11.2) rfl rfl (by decide) rfl (Nat.le_of_ble_eq_true rfl) rfl (E_392 (Nat.le_trans (by decide) hd) e_q11) rfl ?_
      refine Ex.ifc rfl rfl (fun (c0 : q11.1 = 0) => ?_) (fun (c0 : ¬ (q11.1 = 0)) => ?_)
      · rw [if_pos c0] at hf
        exact Ex.weak (sm_le_s (sm_le_n (sm_le_n (sm_le_s (sm_le_n (sm_le_n (sm_le_n (sm_le_n sm_le_nil)))))))) (B_395_177 hd  hf hs)
      · rw [if_neg c0] at hf
        refine Ex.seg 2 (pc' := 165) (lc' := [some (.ref 67), some (.int y1), some (.int y2), none, some (.int y4), some (.int y5), some (.int y6), some (.int z0)]) (st' := [.int 2, .int y5]) (h' := q11.2) (sg1 rfl rfl (sg1 rfl rfl rfl)) ?_
        refine Ex.icmp rfl rfl (fun (c0 : ¬ (y5 = 2)) => ?_) (fun (c0 : ¬ ¬ (y5 = 2)) => ?_)
        · rw [if_neg c0] at hf
          exact Ex.weak (sm_le_s (sm_le_s (sm_le_s (sm_le_s (sm_le_s (sm_le_s (sm_le_s (sm_le_n sm_le_nil)))))))) (B_395_184 hd  hf hs)
        · rw [if_pos (Classical.not_not.mp c0)] at hf
          refine Ex.seg 3 (pc' := 171) (lc' := [some (.ref 67), some (.int y1), some (.int y2), none, some (.int y4), some (.int y5), some (.int y6), some (.int z0)]) (st' := [.int y2, .int y1, .ref 67]) (h' := q11.2) (sg1 rfl rfl (sg1 rfl rfl (sg1 rfl rfl rfl))) ?_
          obtain ⟨q12, e_q12, hf⟩ := bnd hf
          refine Ex.callV (a := 67) (As := [.int y1, .int y2]) (r := []) (v := some (.int q12.1)) (h' := q12.2) rfl rfl (by decide) rfl (Nat.le_of_ble_eq_true rfl) rfl (E_295 (Nat.le_trans (by decide) hd) e_q12) rfl ?_
          refine Ex.ifc rfl rfl (fun (c0 : ¬ (q12.1 = 0)) => ?_) (fun (c0 : ¬ ¬ (q12.1 = 0)) => ?_)
          · rw [if_neg c0] at hf
            exact Ex.weak (sm_le_s (sm_le_s (sm_le_s (sm_le_s (sm_le_s (sm_le_s (sm_le_s (sm_le_n sm_le_nil)))))))) (B_395_184 hd  hf hs)
          · rw [if_pos (Classical.not_not.mp c0)] at hf
            exact Ex.weak (sm_le_s (sm_le_n (sm_le_n (sm_le_s (sm_le_n (sm_le_n (sm_le_n (sm_le_n sm_le_nil)))))))) (B_395_177 hd  hf hs)
    · rw [if_pos (Classical.not_not.mp c0)] at hf
      refine Ex.seg 2 (pc' := 148) (lc' := [some (.ref 67), some (.int y1), some (.int y2), none, some (.int y4), some (.int y5), some (.int y6), some (.int z0)]) (st' := [.int 6, .ref 67]) (h' := h) (sg1 rfl rfl (sg1 rfl rfl rfl)) ?_
      obtain ⟨q13, e_q13, hf⟩ := bnd hf
      refine Ex.callV (a := 67) (As := [.int 6]) (r := []) (v := some (.int q13.1)) (h' := q13.2) rfl rfl (by decide) rfl (Nat.le_of_ble_eq_true rfl) rfl (E_388 (Nat.le_trans (by decide) hd) e_q13) rfl ?_
      obtain rfl := Option.some.inj hf
      exact Ex.iret rfl rfl (fun c0 => by cases c0) hs
  · rw [if_pos (Classical.not_not.mp c0)] at hf
    refine Ex.seg 2 (pc' := 135) (lc' := [some (.ref 67), some (.int y1), some (.int y2), none, some (.int y4), some (.int y5), some (.int y6), some (.int z0)]) (st' := [.int 3, .ref 67]) (h' := h) (sg1 rfl rfl (sg1 rfl rfl rfl)) ?_
    obtain ⟨q14, e_q14, hf⟩ := bnd hf
    refine Ex.callV (a := 67) (As := [.int 3]) (r := []) (v := some (.int q14.1)) (h' := q14.2) rfl rfl (by decide) rfl (Nat.le_of_ble_eq_true rfl) rfl (E_388 (Nat.le_trans (by decide) hd) e_q14) rfl ?_
    obtain rfl := Option.some.inj hf
    exact Ex.iret rfl rfl (fun c0 => by cases c0) hs
theorem B_395_125 {L : Nat} {xs : Nat → Int32} {d : Nat} (hd : 4 ≤ d) {res : Option Value × sm_H} {y1 : Int32} {y2 : Int32} {y4 : Int32} {y5 : Int32} {y6 : Int32}  {h : sm_H} {r : (Int32 × sm_H)} (hf : F_395_125 y1 y2 y4 y5 y6 h = some r) (hs : (fun (r : Int32 × sm_H) => res = (some (.int r.1), r.2)) r) : Ex (P_G L xs) (RUN L xs d) (sm_lk P_t395) 0 125 [some (.ref 67), some (.int y1), some (.int y2), none, some (.int y4), some (.int y5), some (.int y6), none] [] h res := by
  unfold F_395_125 at hf
  refine Ex.seg 1 (pc' := 126) (lc' := [some (.ref 67), some (.int y1), some (.int y2), none, some (.int y4), some (.int y5), some (.int y6), none]) (st' := [.int 0]) (h' := h) (sg1 rfl rfl rfl) ?_
  exact Ex.weak (sm_le_s (sm_le_s (sm_le_s (sm_le_s (sm_le_s (sm_le_s (sm_le_s (sm_le_s sm_le_nil)))))))) (B_395_126 hd  hf hs)
theorem B_395_121 {L : Nat} {xs : Nat → Int32} {d : Nat} (hd : 4 ≤ d) {res : Option Value × sm_H} {y1 : Int32} {y2 : Int32} {y4 : Int32} {y5 : Int32} {y6 : Int32}  {h : sm_H} {r : (Int32 × sm_H)} (hf : F_395_121 y1 y2 y4 y5 y6 h = some r) (hs : (fun (r : Int32 × sm_H) => res = (some (.int r.1), r.2)) r) : Ex (P_G L xs) (RUN L xs d) (sm_lk P_t395) 0 121 [some (.ref 67), some (.int y1), some (.int y2), none, some (.int y4), some (.int y5), some (.int y6), none] [] h res := by
  unfold F_395_121 at hf
  refine Ex.seg 2 (pc' := 126) (lc' := [some (.ref 67), some (.int y1), some (.int y2), none, some (.int y4), some (.int y5), some (.int y6), none]) (st' := [.int 1]) (h' := h) (sg1 rfl rfl (sg1 rfl rfl rfl)) ?_
  exact Ex.weak (sm_le_s (sm_le_s (sm_le_s (sm_le_s (sm_le_s (sm_le_s (sm_le_s (sm_le_s sm_le_nil)))))))) (B_395_126 hd  hf hs)
theorem B_395_36 {L : Nat} {xs : Nat → Int32} {d : Nat} (hd : 4 ≤ d) {res : Option Value × sm_H} {y1 : Int32} {y2 : Int32} {y3 : Int32} {y4 : Int32} {y5 : Int32}  {h : sm_H} {r : (Int32 × sm_H)} (hf : F_395_36 y1 y2 y3 y4 y5 h = some r) (hs : (fun (r : Int32 × sm_H) => res = (some (.int r.1), r.2)) r) : Ex (P_G L xs) (RUN L xs d) (sm_lk P_t395) 0 36 [some (.ref 67), some (.int y1), some (.int y2), some (.int y3), some (.int y4), some (.int y5), none, none] [] h res := by
  unfold F_395_36 at hf
  refine Ex.seg 4 (pc' := 43) (lc' := [some (.ref 67), some (.int y1), some (.int y2), some (.int y3), some (.int y4), some (.int y5), none, none]) (st' := [.long 8, .long 0, .long (Int32.toInt64 y5)]) (h' := h) (sg1 rfl rfl (sg1 rfl rfl (sg1 rfl rfl (sg1 rfl rfl rfl)))) ?_
  obtain ⟨q15, e_q15, hf⟩ := bnd hf
  refine Ex.callS (As := [.long (Int32.toInt64 y5), .long 0, .long 8]) (r := []) (v := some (.int q15.1)) (h' := q15.2) rfl rfl rfl rfl (Nat.le_of_ble_eq_true rfl) (E_315 (Nat.le_trans (by decide) hd) e_q15) rfl ?_
  refine Ex.ifc rfl rfl (fun (c0 : q15.1 = 0) => ?_) (fun (c0 : ¬ (q15.1 = 0)) => ?_)
  · rw [if_pos c0] at hf
    refine Ex.seg 4 (pc' := 61) (lc' := [some (.ref 67), some (.int y1), some (.int y2), some (.int y3), some (.int y4), some (.int y5), none, none]) (st' := [.long 99, .long 0, .long (Int32.toInt64 y3)]) (h' := q15.2) (sg1 rfl rfl (sg1 rfl rfl (sg1 rfl rfl (sg1 rfl rfl rfl)))) ?_
    obtain ⟨q16, e_q16, hf⟩ := bnd hf
    refine Ex.callS (As := [.long (Int32.toInt64 y3), .long 0, .long 99]) (r := []) (v := some (.int q16.1)) (h' := q16.2) rfl rfl rfl rfl (Nat.le_of_ble_eq_true rfl) (E_315 (Nat.le_trans (by decide) hd) e_q16) rfl ?_
    refine Ex.ifc rfl rfl (fun (c0 : q16.1 = 0) => ?_) (fun (c0 : ¬ (q16.1 = 0)) => ?_)
    · rw [if_pos c0] at hf
      refine Ex.seg 5 (pc' := 80) (lc' := [some (.ref 67), some (.int y1), some (.int y2), some (.int y3), some (.int y4), some (.int y5), none, none]) (st' := [.int y5, .int y4, .int y3, .int y2, .ref 67]) (h' := q16.2) (sg1 rfl rfl (sg1 rfl rfl (sg1 rfl rfl (sg1 rfl rfl (sg1 rfl rfl rfl))))) ?_
      obtain ⟨q17, e_q17, hf⟩ := bnd hf
      refine Ex.callV (a := 67) (As := [.int y2, .int y3, .int y4, .int y5]) (r := []) (v := some (.int q17.1)) (h' := q17.2) rfl rfl (by decide) rfl (Nat.le_of_ble_eq_true rfl) rfl (E_394 (Nat.le_trans (by decide) hd) e_q17) rfl ?_
      refine Ex.seg 3 (pc' := 88) (lc' := [some (.ref 67), some (.int y1), some (.int y2), some (.int y3), some (.int y4), some (.int y5), some (.int q17.1), none]) (st' := [.int (-1), .int q17.1]) (h' := q17.2) (sg1 rfl rfl (sg1 rfl rfl (sg1 rfl rfl rfl))) ?_
      refine Ex.icmp rfl rfl (fun (c0 : q17.1 = (-1)) => ?_) (fun (c0 : ¬ (q17.1 = (-1))) => ?_)
      · rw [if_pos c0] at hf
        exact Ex.weak (sm_le_s (sm_le_s (sm_le_s (sm_le_n (sm_le_s (sm_le_s (sm_le_s (sm_le_s sm_le_nil)))))))) (B_395_121 hd  hf hs)
      · rw [if_neg c0] at hf
        refine Ex.seg 2 (pc' := 95) (lc' := [some (.ref 67), some (.int y1), some (.int y2), some (.int y3), some (.int y4), some (.int y5), some (.int q17.1), none]) (st' := [.int 8, .int y5]) (h' := q17.2) (sg1 rfl rfl (sg1 rfl rfl rfl)) ?_
        refine Ex.icmp rfl rfl (fun (c0 : ¬ (y5 = 8)) => ?_) (fun (c0 : ¬ ¬ (y5 = 8)) => ?_)
        · rw [if_neg c0] at hf
          exact Ex.weak (sm_le_s (sm_le_s (sm_le_s (sm_le_n (sm_le_s (sm_le_s (sm_le_s (sm_le_s sm_le_nil)))))))) (B_395_121 hd  hf hs)
        · rw [if_pos (Classical.not_not.mp c0)] at hf
          refine Ex.seg 3 (pc' := 104) (lc' := [some (.ref 67), some (.int y1), some (.int y2), some (.int y3), some (.int y4), some (.int y5), some (.int q17.1), none]) (st' := [.int q17.1, .ref 88]) (h' := q17.2) (sg1 rfl rfl (sg1 rfl rfl (sg1 rfl rfl rfl))) ?_
          obtain ⟨v18, e_v18, hf⟩ := bnd hf
          refine Ex.iald e_v18 rfl rfl ?_
          refine Ex.seg 1 (pc' := 106) (lc' := [some (.ref 67), some (.int y1), some (.int y2), some (.int y3), some (.int y4), some (.int y5), some (.int q17.1), none]) (st' := [.int 2, .int v18]) (h' := q17.2) (sg1 rfl rfl rfl) ?_
          refine Ex.icmp rfl rfl (fun (c0 : v18 < 2) => ?_) (fun (c0 : ¬ (v18 < 2)) => ?_)
          · rw [if_pos c0] at hf
            exact Ex.weak (sm_le_s (sm_le_s (sm_le_s (sm_le_n (sm_le_s (sm_le_s (sm_le_s (sm_le_s sm_le_nil)))))))) (B_395_125 hd  hf hs)
          · rw [if_neg c0] at hf
            refine Ex.seg 3 (pc' := 115) (lc' := [some (.ref 67), some (.int y1), some (.int y2), some (.int y3), some (.int y4), some (.int y5), some (.int q17.1), none]) (st' := [.int q17.1, .ref 88]) (h' := q17.2) (sg1 rfl rfl (sg1 rfl rfl (sg1 rfl rfl rfl))) ?_
            obtain ⟨v19, e_v19, hf⟩ := bnd hf
            refine Ex.iald e_v19 rfl rfl ?_
            refine Ex.seg 1 (pc' := 118) (lc' := [some (.ref 67), some (.int y1), some (.int y2), some (.int y3), some (.int y4), some (.int y5), some (.int q17.1), none]) (st' := [.int 6, .int v19]) (h' := q17.2) (sg1 rfl rfl rfl) ?_
            refine Ex.icmp rfl rfl (fun (c0 : 6 < v19) => ?_) (fun (c0 : ¬ (6 < v19)) => ?_)
            · rw [if_pos c0] at hf
              exact Ex.weak (sm_le_s (sm_le_s (sm_le_s (sm_le_n (sm_le_s (sm_le_s (sm_le_s (sm_le_s sm_le_nil)))))))) (B_395_125 hd  hf hs)
            · rw [if_neg c0] at hf
              exact Ex.weak (sm_le_s (sm_le_s (sm_le_s (sm_le_n (sm_le_s (sm_le_s (sm_le_s (sm_le_s sm_le_nil)))))))) (B_395_121 hd  hf hs)
    · rw [if_neg c0] at hf
      refine Ex.seg 2 (pc' := 69) (lc' := [some (.ref 67), some (.int y1), some (.int y2), some (.int y3), some (.int y4), some (.int y5), none, none]) (st' := [.int 2, .ref 67]) (h' := q16.2) (sg1 rfl rfl (sg1 rfl rfl rfl)) ?_
      obtain ⟨q20, e_q20, hf⟩ := bnd hf
      refine Ex.callV (a := 67) (As := [.int 2]) (r := []) (v := some (.int q20.1)) (h' := q20.2) rfl rfl (by decide) rfl (Nat.le_of_ble_eq_true rfl) rfl (E_388 (Nat.le_trans (by decide) hd) e_q20) rfl ?_
      obtain rfl := Option.some.inj hf
      exact Ex.iret rfl rfl (fun c0 => by cases c0) hs
  · rw [if_neg c0] at hf
    exact Ex.weak (sm_le_s (sm_le_n (sm_le_n (sm_le_n (sm_le_n (sm_le_n (sm_le_s (sm_le_s sm_le_nil)))))))) (B_395_49 hd  hf hs)
theorem B_395_0 {L : Nat} {xs : Nat → Int32} {d : Nat} (hd : 4 ≤ d) {res : Option Value × sm_H} {x1 : Int32} {x2 : Int32} {x3 : Int32} {x4 : Int32} {x5 : Int32}  {h : sm_H} {r : (Int32 × sm_H)} (hf : F_395_0 x1 x2 x3 x4 x5 h = some r) (hs : (fun (r : Int32 × sm_H) => res = (some (.int r.1), r.2)) r) : Ex (P_G L xs) (RUN L xs d) (sm_lk P_t395) 0 0 [some (.ref 67), some (.int x1), some (.int x2), some (.int x3), some (.int x4), some (.int x5), none, none] [] h res := by
  unfold F_395_0 at hf
  refine Ex.seg 3 (pc' := 5) (lc' := [some (.ref 67), some (.int x1), some (.int x2), some (.int x3), some (.int x4), some (.int x5), none, none]) (st' := []) (h' := (sm_wI h 67 19 0)) (sg1 rfl rfl (sg1 rfl rfl (sg1 rfl rfl rfl))) ?_
  obtain ⟨h21, e_h21, hf⟩ := bnd hf
  rw [Option.some.inj e_h21]
  refine Ex.seg 2 (pc' := 7) (lc' := [some (.ref 67), some (.int x1), some (.int x2), some (.int x3), some (.int x4), some (.int x5), none, none]) (st' := [.int x1, .ref 67]) (h' := h21) (sg1 rfl rfl (sg1 rfl rfl rfl)) ?_
  obtain ⟨q22, e_q22, hf⟩ := bnd hf
  refine Ex.callV (a := 67) (As := [.int x1]) (r := []) (v := some (.int q22.1)) (h' := q22.2) rfl rfl (by decide) rfl (Nat.le_of_ble_eq_true rfl) rfl (E_387 (Nat.le_trans (by decide) hd) e_q22) rfl ?_
  refine Ex.ifc rfl rfl (fun (c0 : q22.1 = 0) => ?_) (fun (c0 : ¬ (q22.1 = 0)) => ?_)
  · rw [if_pos c0] at hf
    exact Ex.weak (sm_le_s (sm_le_n (sm_le_n (sm_le_n (sm_le_n (sm_le_n (sm_le_s (sm_le_s sm_le_nil)))))))) (B_395_49 hd  hf hs)
  · rw [if_neg c0] at hf
    refine Ex.seg 2 (pc' := 15) (lc' := [some (.ref 67), some (.int x1), some (.int x2), some (.int x3), some (.int x4), some (.int x5), none, none]) (st' := [.int x2, .ref 67]) (h' := q22.2) (sg1 rfl rfl (sg1 rfl rfl rfl)) ?_
    obtain ⟨q23, e_q23, hf⟩ := bnd hf
    refine Ex.callV (a := 67) (As := [.int x2]) (r := []) (v := some (.int q23.1)) (h' := q23.2) rfl rfl (by decide) rfl (Nat.le_of_ble_eq_true rfl) rfl (E_387 (Nat.le_trans (by decide) hd) e_q23) rfl ?_
    refine Ex.ifc rfl rfl (fun (c0 : q23.1 = 0) => ?_) (fun (c0 : ¬ (q23.1 = 0)) => ?_)
    · rw [if_pos c0] at hf
      exact Ex.weak (sm_le_s (sm_le_n (sm_le_n (sm_le_n (sm_le_n (sm_le_n (sm_le_s (sm_le_s sm_le_nil)))))))) (B_395_49 hd  hf hs)
    · rw [if_neg c0] at hf
      refine Ex.seg 2 (pc' := 24) (lc' := [some (.ref 67), some (.int x1), some (.int x2), some (.int x3), some (.int x4), some (.int x5), none, none]) (st' := [.int 4, .int x5]) (h' := q23.2) (sg1 rfl rfl (sg1 rfl rfl rfl)) ?_
      refine Ex.icmp rfl rfl (fun (c0 : 4 ≤ x5) => ?_) (fun (c0 : ¬ (4 ≤ x5)) => ?_)
      · rw [if_pos c0] at hf
        exact Ex.weak (sm_le_s (sm_le_s (sm_le_s (sm_le_s (sm_le_s (sm_le_s (sm_le_s (sm_le_s sm_le_nil)))))))) (B_395_36 hd  hf hs)
      · rw [if_neg c0] at hf
        refine Ex.seg 2 (pc' := 30) (lc' := [some (.ref 67), some (.int x1), some (.int x2), some (.int x3), some (.int x4), some (.int x5), none, none]) (st' := [.int x4, .ref 67]) (h' := q23.2) (sg1 rfl rfl (sg1 rfl rfl rfl)) ?_
        obtain ⟨q24, e_q24, hf⟩ := bnd hf
        refine Ex.callV (a := 67) (As := [.int x4]) (r := []) (v := some (.int q24.1)) (h' := q24.2) rfl rfl (by decide) rfl (Nat.le_of_ble_eq_true rfl) rfl (E_303 (Nat.le_trans (by decide) hd) e_q24) rfl ?_
        refine Ex.ifc rfl rfl (fun (c0 : q24.1 = 0) => ?_) (fun (c0 : ¬ (q24.1 = 0)) => ?_)
        · rw [if_pos c0] at hf
          exact Ex.weak (sm_le_s (sm_le_n (sm_le_n (sm_le_n (sm_le_n (sm_le_n (sm_le_s (sm_le_s sm_le_nil)))))))) (B_395_49 hd  hf hs)
        · rw [if_neg c0] at hf
          exact Ex.weak (sm_le_s (sm_le_s (sm_le_s (sm_le_s (sm_le_s (sm_le_s (sm_le_s (sm_le_s sm_le_nil)))))))) (B_395_36 hd  hf hs)
theorem E_395 {L : Nat} {xs : Nat → Int32} {d : Nat} (hd : 5 ≤ d) {x1 : Int32} {x2 : Int32} {x3 : Int32} {x4 : Int32} {x5 : Int32} {h : sm_H} {r : Int32 × sm_H} (hf : F_395 x1 x2 x3 x4 x5 h = some r) : RUN L xs d 395 [.ref 67, .int x1, .int x2, .int x3, .int x4, .int x5] h (some (.int r.1), r.2) := by
  obtain ⟨d, rfl⟩ : ∃ e, d = e + 1 := ⟨d - 1, by omega⟩
  exact ⟨Nat.le_of_ble_eq_true rfl, B_395_0 (by omega) hf rfl⟩
theorem B_418_315 {L : Nat} {xs : Nat → Int32} {d : Nat} (hd : 2 ≤ d) {res : Option Value × sm_H}   {h : sm_H} {r : (Int32 × sm_H)} (hf : F_418_315  h = some r) (hs : (fun (r : Int32 × sm_H) => res = (some (.int r.1), r.2)) r) : Ex (P_G L xs) (RUN L xs d) (sm_lk P_t418) 3 315 [none, none, none] [] h res := by
  unfold F_418_315 at hf
  refine Ex.seg 1 (pc' := 316) (lc' := [none, none, none]) (st' := [.int 1]) (h' := h) (sg1 rfl rfl rfl) ?_
  obtain rfl := Option.some.inj hf
  exact Ex.iret rfl rfl (fun _ => by decide) hs
theorem B_418_238B {L : Nat} {xs : Nat → Int32} {d : Nat} (hd : 2 ≤ d) {res : Option Value × sm_H} {S1 : (Int32 × sm_H) → Prop} (hS1 : ∀ s, S1 s → Ex (P_G L xs) (RUN L xs d) (sm_lk P_t418) 3 238 [some (.ref 67), none, some (.int s.1)] [] s.2 res) {s : (Int32 × sm_H)}  {r : ((Int32 × sm_H) ⊕ (Int32 × sm_H))} (hf : F_418_238B s = some r) (hs : (Sum.elim S1 (fun (r : Int32 × sm_H) => res = (some (.int r.1), r.2))) r) : Ex (P_G L xs) (RUN L xs d) (sm_lk P_t418) 3 238 [some (.ref 67), none, some (.int s.1)] [] s.2 res := by
  unfold F_418_238B at hf
  refine Ex.seg 3 (pc' := 243) (lc' := [some (.ref 67), none, some (.int s.1)]) (st' := [.int (s.2.1 67 82), .int s.1]) (h' := s.2) (sg1 rfl rfl (sg1 rfl rfl (sg1 rfl rfl rfl))) ?_
  refine Ex.icmp rfl rfl (fun (c0 : (s.2.1 67 82) ≤ s.1) => ?_) (fun (c0 : ¬ ((s.2.1 67 82) ≤ s.1)) => ?_)
  · rw [if_pos c0] at hf
    refine Ex.seg 1 (pc' := 315) (lc' := [some (.ref 67), none, some (.int s.1)]) (st' := []) (h' := s.2) (sg1 rfl rfl rfl) ?_
    obtain ⟨r0, hf0, rfl⟩ := Option.map_eq_some_iff.mp hf
    exact Ex.weak (sm_le_n (sm_le_s (sm_le_n sm_le_nil))) (B_418_315 hd  hf0 hs)
  · rw [if_neg c0] at hf
    refine Ex.seg 8 (pc' := 259) (lc' := [some (.ref 67), none, some (.int s.1)]) (st' := [.int s.1, .ref 112, .long ((s.2.2.1 67 83) <<< (Int32.toInt64 8 &&& 63)), .ref 67]) (h' := s.2) (sg1 rfl rfl (sg1 rfl rfl (sg1 rfl rfl (sg1 rfl rfl (sg1 rfl rfl (sg1 rfl rfl (sg1 rfl rfl (sg1 rfl rfl rfl)))))))) ?_
    obtain ⟨v1, e_v1, hf⟩ := bnd hf
    refine Ex.iald e_v1 rfl rfl ?_
    refine Ex.seg 3 (pc' := 265) (lc' := [some (.ref 67), none, some (.int s.1)]) (st' := []) (h' := (sm_wJ s.2 67 83 (((s.2.2.1 67 83) <<< (Int32.toInt64 8 &&& 63)) ||| (Int32.toInt64 v1)))) (sg1 rfl rfl (sg1 rfl rfl (sg1 rfl rfl rfl))) ?_
    obtain ⟨h2, e_h2, hf⟩ := bnd hf
    rw [Option.some.inj e_h2]
    refine Ex.seg 1 (pc' := 268) (lc' := [some (.ref 67), none, some (.int (s.1 + 1))]) (st' := []) (h' := h2) (sg1 rfl rfl rfl) ?_
    obtain ⟨v3, e_v3, hf⟩ := bnd hf
    rw [Option.some.inj e_v3]
    refine Ex.seg 1 (pc' := 238) (lc' := [some (.ref 67), none, some (.int v3)]) (st' := []) (h' := h2) (sg1 rfl rfl rfl) ?_
    obtain rfl := Option.some.inj hf
    exact Ex.weak (sm_le_s (sm_le_s (sm_le_s sm_le_nil))) (hS1 _ hs)
theorem B_418_238 {L : Nat} {xs : Nat → Int32} {d : Nat} (hd : 2 ≤ d) {res : Option Value × sm_H} {y2 : Int32}  {h : sm_H} {r : (Int32 × sm_H)} (hf : F_418_238 y2 h = some r) (hs : (fun (r : Int32 × sm_H) => res = (some (.int r.1), r.2)) r) : Ex (P_G L xs) (RUN L xs d) (sm_lk P_t418) 3 238 [some (.ref 67), none, some (.int y2)] [] h res := by
  unfold F_418_238 at hf
  exact lp_ok (P := fun (s : (Int32 × sm_H)) => Ex (P_G L xs) (RUN L xs d) (sm_lk P_t418) 3 238 [some (.ref 67), none, some (.int s.1)] [] s.2 res) (S := (fun (r : Int32 × sm_H) => res = (some (.int r.1), r.2))) (fun s x hx hsx => by
    intros
    exact B_418_238B hd  (fun _ q => q) hx hsx) 1000000 _ r hf hs
theorem B_418_186 {L : Nat} {xs : Nat → Int32} {d : Nat} (hd : 2 ≤ d) {res : Option Value × sm_H} {S1 : (sm_H) → Prop} (hS1 : ∀ s, S1 s → Ex (P_G L xs) (RUN L xs d) (sm_lk P_t418) 3 158 [some (.ref 67), none, none] [] s res)   {h : sm_H} {r : ((sm_H) ⊕ (Int32 × sm_H))} (hf : F_418_186  h = some r) (hs : (Sum.elim S1 (fun (r : Int32 × sm_H) => res = (some (.int r.1), r.2))) r) : Ex (P_G L xs) (RUN L xs d) (sm_lk P_t418) 3 186 [some (.ref 67), none, none] [] h res := by
  unfold F_418_186 at hf
  refine Ex.seg 6 (pc' := 196) (lc' := [some (.ref 67), none, none]) (st' := []) (h' := (sm_wI h 67 82 ((h.1 67 82) + 1))) (sg1 rfl rfl (sg1 rfl rfl (sg1 rfl rfl (sg1 rfl rfl (sg1 rfl rfl (sg1 rfl rfl rfl)))))) ?_
  obtain ⟨h4, e_h4, hf⟩ := bnd hf
  rw [Option.some.inj e_h4]
  refine Ex.seg 1 (pc' := 158) (lc' := [some (.ref 67), none, none]) (st' := []) (h' := h4) (sg1 rfl rfl rfl) ?_
  obtain rfl := Option.some.inj hf
  exact Ex.weak (sm_le_s (sm_le_s (sm_le_s sm_le_nil))) (hS1 _ hs)
theorem B_418_158B {L : Nat} {xs : Nat → Int32} {d : Nat} (hd : 2 ≤ d) {res : Option Value × sm_H} {S1 : (sm_H) → Prop} (hS1 : ∀ s, S1 s → Ex (P_G L xs) (RUN L xs d) (sm_lk P_t418) 3 158 [some (.ref 67), none, none] [] s res) {s : (sm_H)}  {r : ((sm_H) ⊕ (Int32 × sm_H))} (hf : F_418_158B s = some r) (hs : (Sum.elim S1 (fun (r : Int32 × sm_H) => res = (some (.int r.1), r.2))) r) : Ex (P_G L xs) (RUN L xs d) (sm_lk P_t418) 3 158 [some (.ref 67), none, none] [] s res := by
  unfold F_418_158B at hf
  refine Ex.seg 3 (pc' := 163) (lc' := [some (.ref 67), none, none]) (st' := [.int (s.1 67 82), .ref 67]) (h' := s) (sg1 rfl rfl (sg1 rfl rfl (sg1 rfl rfl rfl))) ?_
  obtain ⟨q5, e_q5, hf⟩ := bnd hf
  refine Ex.callV (a := 67) (As := [.int (s.1 67 82)]) (r := []) (v := some (.int q5.1)) (h' := q5.2) rfl rfl (by decide) rfl (Nat.le_of_ble_eq_true rfl) rfl (E_414 (Nat.le_trans (by decide) hd) e_q5) rfl ?_
  obtain ⟨q6, e_q6, hf⟩ := bnd hf
  refine Ex.callS (As := [.int q5.1]) (r := []) (v := some (.int q6.1)) (h' := q6.2) rfl rfl rfl rfl (Nat.le_of_ble_eq_true rfl) (E_415 (Nat.le_trans (by decide) hd) e_q6) rfl ?_
  refine Ex.ifc rfl rfl (fun (c0 : ¬ (q6.1 = 0)) => ?_) (fun (c0 : ¬ ¬ (q6.1 = 0)) => ?_)
  · rw [if_neg c0] at hf
    exact Ex.weak (sm_le_s (sm_le_s (sm_le_s sm_le_nil))) (B_418_186 hd hS1 hf hs)
  · rw [if_pos (Classical.not_not.mp c0)] at hf
    refine Ex.seg 3 (pc' := 177) (lc' := [some (.ref 67), none, none]) (st' := [.int (q6.2.1 67 82), .ref 67]) (h' := q6.2) (sg1 rfl rfl (sg1 rfl rfl (sg1 rfl rfl rfl))) ?_
    obtain ⟨q7, e_q7, hf⟩ := bnd hf
    refine Ex.callV (a := 67) (As := [.int (q6.2.1 67 82)]) (r := []) (v := some (.int q7.1)) (h' := q7.2) rfl rfl (by decide) rfl (Nat.le_of_ble_eq_true rfl) rfl (E_414 (Nat.le_trans (by decide) hd) e_q7) rfl ?_
    obtain ⟨q8, e_q8, hf⟩ := bnd hf
    refine Ex.callS (As := [.int q7.1]) (r := []) (v := some (.int q8.1)) (h' := q8.2) rfl rfl rfl rfl (Nat.le_of_ble_eq_true rfl) (E_416 (Nat.le_trans (by decide) hd) e_q8) rfl ?_
    refine Ex.ifc rfl rfl (fun (c0 : q8.1 = 0) => ?_) (fun (c0 : ¬ (q8.1 = 0)) => ?_)
    · rw [if_pos c0] at hf
      refine Ex.seg 3 (pc' := 204) (lc' := [some (.ref 67), none, none]) (st' := []) (h' := (sm_wI q8.2 67 80 1)) (sg1 rfl rfl (sg1 rfl rfl (sg1 rfl rfl rfl))) ?_
      obtain ⟨h9, e_h9, hf⟩ := bnd hf
      rw [Option.some.inj e_h9]
      refine Ex.seg 6 (pc' := 215) (lc' := [some (.ref 67), none, none]) (st' := [.int 8, .int ((h9.1 67 82) - (h9.1 67 81))]) (h' := h9) (sg1 rfl rfl (sg1 rfl rfl (sg1 rfl rfl (sg1 rfl rfl (sg1 rfl rfl (sg1 rfl rfl rfl)))))) ?_
      refine Ex.icmp rfl rfl (fun (c0 : ((h9.1 67 82) - (h9.1 67 81)) ≤ 8) => ?_) (fun (c0 : ¬ (((h9.1 67 82) - (h9.1 67 81)) ≤ 8)) => ?_)
      · rw [if_pos c0] at hf
        refine Ex.seg 3 (pc' := 233) (lc' := [some (.ref 67), none, none]) (st' := []) (h' := (sm_wJ h9 67 83 0)) (sg1 rfl rfl (sg1 rfl rfl (sg1 rfl rfl rfl))) ?_
        obtain ⟨h10, e_h10, hf⟩ := bnd hf
        rw [Option.some.inj e_h10]
        refine Ex.seg 3 (pc' := 238) (lc' := [some (.ref 67), none, some (.int (h10.1 67 81))]) (st' := []) (h' := h10) (sg1 rfl rfl (sg1 rfl rfl (sg1 rfl rfl rfl))) ?_
        obtain ⟨v11, e_v11, hf⟩ := bnd hf
        rw [Option.some.inj e_v11]
        obtain ⟨r0, hf0, rfl⟩ := Option.map_eq_some_iff.mp hf
        exact Ex.weak (sm_le_s (sm_le_s (sm_le_s sm_le_nil))) (B_418_238 hd  hf0 hs)
      · rw [if_neg c0] at hf
        refine Ex.seg 4 (pc' := 224) (lc' := [some (.ref 67), none, none]) (st' := [.int (h9.1 67 81), .int 2, .ref 67]) (h' := h9) (sg1 rfl rfl (sg1 rfl rfl (sg1 rfl rfl (sg1 rfl rfl rfl)))) ?_
        obtain ⟨q12, e_q12, hf⟩ := bnd hf
        refine Ex.callV (a := 67) (As := [.int 2, .int (h9.1 67 81)]) (r := []) (v := some (.int q12.1)) (h' := q12.2) rfl rfl (by decide) rfl (Nat.le_of_ble_eq_true rfl) rfl (E_413 (Nat.le_trans (by decide) hd) e_q12) rfl ?_
        rcases Classical.em (q12.1 = 0 ∨ q12.1 = 1) with c0 | c0
        · rw [if_pos c0] at hf
          obtain rfl := Option.some.inj hf
          exact Ex.iret rfl rfl (fun _ => c0) hs
        · rw [if_neg c0] at hf
          cases hf
    · rw [if_neg c0] at hf
      exact Ex.weak (sm_le_s (sm_le_s (sm_le_s sm_le_nil))) (B_418_186 hd hS1 hf hs)
theorem B_418_158 {L : Nat} {xs : Nat → Int32} {d : Nat} (hd : 2 ≤ d) {res : Option Value × sm_H}   {h : sm_H} {r : (Int32 × sm_H)} (hf : F_418_158  h = some r) (hs : (fun (r : Int32 × sm_H) => res = (some (.int r.1), r.2)) r) : Ex (P_G L xs) (RUN L xs d) (sm_lk P_t418) 3 158 [some (.ref 67), none, none] [] h res := by
  unfold F_418_158 at hf
  exact lp_ok (P := fun (s : (sm_H)) => Ex (P_G L xs) (RUN L xs d) (sm_lk P_t418) 3 158 [some (.ref 67), none, none] [] s res) (S := (fun (r : Int32 × sm_H) => res = (some (.int r.1), r.2))) (fun s x hx hsx => by
    intros
    exact B_418_158B hd  (fun _ q => q) hx hsx) 1000000 _ r hf hs
theorem B_418_151 {L : Nat} {xs : Nat → Int32} {d : Nat} (hd : 2 ≤ d) {res : Option Value × sm_H} {y1 : Int32}  {h : sm_H} {r : (Int32 × sm_H)} (hf : F_418_151 y1 h = some r) (hs : (fun (r : Int32 × sm_H) => res = (some (.int r.1), r.2)) r) : Ex (P_G L xs) (RUN L xs d) (sm_lk P_t418) 3 151 [some (.ref 67), some (.int y1), none] [] h res := by
  unfold F_418_151 at hf
  refine Ex.seg 1 (pc' := 152) (lc' := [some (.ref 67), some (.int y1), none]) (st' := [.int y1]) (h' := h) (sg1 rfl rfl rfl) ?_
  obtain ⟨q13, e_q13, hf⟩ := bnd hf
  refine Ex.callS (As := [.int y1]) (r := []) (v := some (.int q13.1)) (h' := q13.2) rfl rfl rfl rfl (Nat.le_of_ble_eq_true rfl) (E_415 (Nat.le_trans (by decide) hd) e_q13) rfl ?_
  refine Ex.ifc rfl rfl (fun (c0 : q13.1 = 0) => ?_) (fun (c0 : ¬ (q13.1 = 0)) => ?_)
  · rw [if_pos c0] at hf
    refine Ex.seg 1 (pc' := 275) (lc' := [some (.ref 67), some (.int y1), none]) (st' := [.int y1]) (h' := q13.2) (sg1 rfl rfl rfl) ?_
    obtain ⟨q14, e_q14, hf⟩ := bnd hf
    refine Ex.callS (As := [.int y1]) (r := []) (v := some (.int q14.1)) (h' := q14.2) rfl rfl rfl rfl (Nat.le_of_ble_eq_true rfl) (E_417 (Nat.le_trans (by decide) hd) e_q14) rfl ?_
    refine Ex.ifc rfl rfl (fun (c0 : q14.1 = 0) => ?_) (fun (c0 : ¬ (q14.1 = 0)) => ?_)
    · rw [if_pos c0] at hf
      refine Ex.seg 4 (pc' := 311) (lc' := [some (.ref 67), some (.int y1), none]) (st' := [.int (q14.2.1 67 81), .int 1, .ref 67]) (h' := q14.2) (sg1 rfl rfl (sg1 rfl rfl (sg1 rfl rfl (sg1 rfl rfl rfl)))) ?_
      obtain ⟨q15, e_q15, hf⟩ := bnd hf
      refine Ex.callV (a := 67) (As := [.int 1, .int (q14.2.1 67 81)]) (r := []) (v := some (.int q15.1)) (h' := q15.2) rfl rfl (by decide) rfl (Nat.le_of_ble_eq_true rfl) rfl (E_413 (Nat.le_trans (by decide) hd) e_q15) rfl ?_
      rcases Classical.em (q15.1 = 0 ∨ q15.1 = 1) with c0 | c0
      · rw [if_pos c0] at hf
        obtain rfl := Option.some.inj hf
        exact Ex.iret rfl rfl (fun _ => c0) hs
      · rw [if_neg c0] at hf
        cases hf
    · rw [if_neg c0] at hf
      refine Ex.seg 3 (pc' := 286) (lc' := [some (.ref 67), some (.int y1), none]) (st' := []) (h' := (sm_wI q14.2 67 80 5)) (sg1 rfl rfl (sg1 rfl rfl (sg1 rfl rfl rfl))) ?_
      obtain ⟨h16, e_h16, hf⟩ := bnd hf
      rw [Option.some.inj e_h16]
      refine Ex.seg 6 (pc' := 296) (lc' := [some (.ref 67), some (.int y1), none]) (st' := []) (h' := (sm_wI h16 67 82 ((h16.1 67 79) + 1))) (sg1 rfl rfl (sg1 rfl rfl (sg1 rfl rfl (sg1 rfl rfl (sg1 rfl rfl (sg1 rfl rfl rfl)))))) ?_
      obtain ⟨h17, e_h17, hf⟩ := bnd hf
      rw [Option.some.inj e_h17]
      refine Ex.seg 4 (pc' := 302) (lc' := [some (.ref 67), some (.int y1), none]) (st' := []) (h' := (sm_wJ h17 67 83 (Int32.toInt64 y1))) (sg1 rfl rfl (sg1 rfl rfl (sg1 rfl rfl (sg1 rfl rfl rfl)))) ?_
      obtain ⟨h18, e_h18, hf⟩ := bnd hf
      rw [Option.some.inj e_h18]
      refine Ex.seg 1 (pc' := 315) (lc' := [some (.ref 67), some (.int y1), none]) (st' := []) (h' := h18) (sg1 rfl rfl rfl) ?_
      exact Ex.weak (sm_le_n (sm_le_n (sm_le_s sm_le_nil))) (B_418_315 hd  hf hs)
  · rw [if_neg c0] at hf
    exact Ex.weak (sm_le_s (sm_le_n (sm_le_s sm_le_nil))) (B_418_158 hd  hf hs)
theorem B_418_146 {L : Nat} {xs : Nat → Int32} {d : Nat} (hd : 2 ≤ d) {res : Option Value × sm_H}   {h : sm_H} {r : (Int32 × sm_H)} (hf : F_418_146  h = some r) (hs : (fun (r : Int32 × sm_H) => res = (some (.int r.1), r.2)) r) : Ex (P_G L xs) (RUN L xs d) (sm_lk P_t418) 3 146 [some (.ref 67), none, none] [] h res := by
  unfold F_418_146 at hf
  refine Ex.seg 1 (pc' := 147) (lc' := [some (.ref 67), none, none]) (st' := [.ref 67]) (h' := h) (sg1 rfl rfl rfl) ?_
  obtain ⟨q19, e_q19, hf⟩ := bnd hf
  refine Ex.callV (a := 67) (As := []) (r := []) (v := some (.int q19.1)) (h' := q19.2) rfl rfl (by decide) rfl (Nat.le_of_ble_eq_true rfl) rfl (E_419 (Nat.le_trans (by decide) hd) e_q19) rfl ?_
  rcases Classical.em (q19.1 = 0 ∨ q19.1 = 1) with c0 | c0
  · rw [if_pos c0] at hf
    obtain rfl := Option.some.inj hf
    exact Ex.iret rfl rfl (fun _ => c0) hs
  · rw [if_neg c0] at hf
    cases hf
theorem B_418_101 {L : Nat} {xs : Nat → Int32} {d : Nat} (hd : 2 ≤ d) {res : Option Value × sm_H} {z1 : Int32}  {h : sm_H} {r : (Int32 × sm_H)} (hf : F_418_101 z1 h = some r) (hs : (fun (r : Int32 × sm_H) => res = (some (.int r.1), r.2)) r) : Ex (P_G L xs) (RUN L xs d) (sm_lk P_t418) 3 101 [some (.ref 67), none, none] [.int z1, .ref 67] h res := by
  unfold F_418_101 at hf
  refine Ex.seg 1 (pc' := 104) (lc' := [some (.ref 67), none, none]) (st' := []) (h' := (sm_wI h 67 80 z1)) (sg1 rfl rfl rfl) ?_
  obtain ⟨h20, e_h20, hf⟩ := bnd hf
  rw [Option.some.inj e_h20]
  refine Ex.seg 6 (pc' := 114) (lc' := [some (.ref 67), none, none]) (st' := []) (h' := (sm_wI h20 67 82 ((h20.1 67 79) + 1))) (sg1 rfl rfl (sg1 rfl rfl (sg1 rfl rfl (sg1 rfl rfl (sg1 rfl rfl (sg1 rfl rfl rfl)))))) ?_
  obtain ⟨h21, e_h21, hf⟩ := bnd hf
  rw [Option.some.inj e_h21]
  refine Ex.seg 1 (pc' := 315) (lc' := [some (.ref 67), none, none]) (st' := []) (h' := h21) (sg1 rfl rfl rfl) ?_
  exact Ex.weak (sm_le_n (sm_le_s (sm_le_s sm_le_nil))) (B_418_315 hd  hf hs)
theorem B_418_89 {L : Nat} {xs : Nat → Int32} {d : Nat} (hd : 2 ≤ d) {res : Option Value × sm_H} {y1 : Int32}  {h : sm_H} {r : (Int32 × sm_H)} (hf : F_418_89 y1 h = some r) (hs : (fun (r : Int32 × sm_H) => res = (some (.int r.1), r.2)) r) : Ex (P_G L xs) (RUN L xs d) (sm_lk P_t418) 3 89 [some (.ref 67), some (.int y1), none] [] h res := by
  unfold F_418_89 at hf
  refine Ex.seg 3 (pc' := 93) (lc' := [some (.ref 67), some (.int y1), none]) (st' := [.int 40, .int y1, .ref 67]) (h' := h) (sg1 rfl rfl (sg1 rfl rfl (sg1 rfl rfl rfl))) ?_
  refine Ex.icmp rfl rfl (fun (c0 : ¬ (y1 = 40)) => ?_) (fun (c0 : ¬ ¬ (y1 = 40)) => ?_)
  · rw [if_neg c0] at hf
    refine Ex.seg 1 (pc' := 101) (lc' := [some (.ref 67), some (.int y1), none]) (st' := [.int 4, .ref 67]) (h' := h) (sg1 rfl rfl rfl) ?_
    exact Ex.weak (sm_le_s (sm_le_n (sm_le_s sm_le_nil))) (B_418_101 hd  hf hs)
  · rw [if_pos (Classical.not_not.mp c0)] at hf
    refine Ex.seg 2 (pc' := 101) (lc' := [some (.ref 67), some (.int y1), none]) (st' := [.int 3, .ref 67]) (h' := h) (sg1 rfl rfl (sg1 rfl rfl rfl)) ?_
    exact Ex.weak (sm_le_s (sm_le_n (sm_le_s sm_le_nil))) (B_418_101 hd  hf hs)
theorem B_418_26 {L : Nat} {xs : Nat → Int32} {d : Nat} (hd : 2 ≤ d) {res : Option Value × sm_H} {S1 : (sm_H) → Prop} (hS1 : ∀ s, S1 s → Ex (P_G L xs) (RUN L xs d) (sm_lk P_t418) 3 0 [some (.ref 67), none, none] [] s res)   {h : sm_H} {r : ((sm_H) ⊕ (Int32 × sm_H))} (hf : F_418_26  h = some r) (hs : (Sum.elim S1 (fun (r : Int32 × sm_H) => res = (some (.int r.1), r.2))) r) : Ex (P_G L xs) (RUN L xs d) (sm_lk P_t418) 3 26 [some (.ref 67), none, none] [] h res := by
  unfold F_418_26 at hf
  refine Ex.seg 6 (pc' := 36) (lc' := [some (.ref 67), none, none]) (st' := []) (h' := (sm_wI h 67 79 ((h.1 67 79) + 1))) (sg1 rfl rfl (sg1 rfl rfl (sg1 rfl rfl (sg1 rfl rfl (sg1 rfl rfl (sg1 rfl rfl rfl)))))) ?_
  obtain ⟨h22, e_h22, hf⟩ := bnd hf
  rw [Option.some.inj e_h22]
  refine Ex.seg 1 (pc' := 0) (lc' := [some (.ref 67), none, none]) (st' := []) (h' := h22) (sg1 rfl rfl rfl) ?_
  obtain rfl := Option.some.inj hf
  exact Ex.weak (sm_le_s (sm_le_s (sm_le_s sm_le_nil))) (hS1 _ hs)
theorem B_418_0B {L : Nat} {xs : Nat → Int32} {d : Nat} (hd : 2 ≤ d) {res : Option Value × sm_H} {S1 : (sm_H) → Prop} (hS1 : ∀ s, S1 s → Ex (P_G L xs) (RUN L xs d) (sm_lk P_t418) 3 0 [some (.ref 67), none, none] [] s res) {s : (sm_H)}  {r : ((sm_H) ⊕ (Int32 × sm_H))} (hf : F_418_0B s = some r) (hs : (Sum.elim S1 (fun (r : Int32 × sm_H) => res = (some (.int r.1), r.2))) r) : Ex (P_G L xs) (RUN L xs d) (sm_lk P_t418) 3 0 [some (.ref 67), none, none] [] s res := by
  unfold F_418_0B at hf
  refine Ex.seg 3 (pc' := 5) (lc' := [some (.ref 67), none, none]) (st' := [.int (s.1 67 79), .ref 67]) (h' := s) (sg1 rfl rfl (sg1 rfl rfl (sg1 rfl rfl rfl))) ?_
  obtain ⟨q23, e_q23, hf⟩ := bnd hf
  refine Ex.callV (a := 67) (As := [.int (s.1 67 79)]) (r := []) (v := some (.int q23.1)) (h' := q23.2) rfl rfl (by decide) rfl (Nat.le_of_ble_eq_true rfl) rfl (E_414 (Nat.le_trans (by decide) hd) e_q23) rfl ?_
  refine Ex.seg 1 (pc' := 10) (lc' := [some (.ref 67), none, none]) (st' := [.int 32, .int q23.1]) (h' := q23.2) (sg1 rfl rfl rfl) ?_
  refine Ex.icmp rfl rfl (fun (c0 : q23.1 = 32) => ?_) (fun (c0 : ¬ (q23.1 = 32)) => ?_)
  · rw [if_pos c0] at hf
    exact Ex.weak (sm_le_s (sm_le_s (sm_le_s sm_le_nil))) (B_418_26 hd hS1 hf hs)
  · rw [if_neg c0] at hf
    refine Ex.seg 3 (pc' := 18) (lc' := [some (.ref 67), none, none]) (st' := [.int (q23.2.1 67 79), .ref 67]) (h' := q23.2) (sg1 rfl rfl (sg1 rfl rfl (sg1 rfl rfl rfl))) ?_
    obtain ⟨q24, e_q24, hf⟩ := bnd hf
    refine Ex.callV (a := 67) (As := [.int (q23.2.1 67 79)]) (r := []) (v := some (.int q24.1)) (h' := q24.2) rfl rfl (by decide) rfl (Nat.le_of_ble_eq_true rfl) rfl (E_414 (Nat.le_trans (by decide) hd) e_q24) rfl ?_
    refine Ex.seg 1 (pc' := 23) (lc' := [some (.ref 67), none, none]) (st' := [.int 10, .int q24.1]) (h' := q24.2) (sg1 rfl rfl rfl) ?_
    refine Ex.icmp rfl rfl (fun (c0 : ¬ (q24.1 = 10)) => ?_) (fun (c0 : ¬ ¬ (q24.1 = 10)) => ?_)
    · rw [if_neg c0] at hf
      refine Ex.seg 4 (pc' := 47) (lc' := [some (.ref 67), none, none]) (st' := []) (h' := (sm_wI q24.2 67 81 (q24.2.1 67 79))) (sg1 rfl rfl (sg1 rfl rfl (sg1 rfl rfl (sg1 rfl rfl rfl)))) ?_
      obtain ⟨h25, e_h25, hf⟩ := bnd hf
      rw [Option.some.inj e_h25]
      refine Ex.seg 4 (pc' := 55) (lc' := [some (.ref 67), none, none]) (st' := []) (h' := (sm_wI h25 67 82 (h25.1 67 79))) (sg1 rfl rfl (sg1 rfl rfl (sg1 rfl rfl (sg1 rfl rfl rfl)))) ?_
      obtain ⟨h26, e_h26, hf⟩ := bnd hf
      rw [Option.some.inj e_h26]
      refine Ex.seg 3 (pc' := 60) (lc' := [some (.ref 67), none, none]) (st' := [.int (h26.1 67 79), .ref 67]) (h' := h26) (sg1 rfl rfl (sg1 rfl rfl (sg1 rfl rfl rfl))) ?_
      obtain ⟨q27, e_q27, hf⟩ := bnd hf
      refine Ex.callV (a := 67) (As := [.int (h26.1 67 79)]) (r := []) (v := some (.int q27.1)) (h' := q27.2) rfl rfl (by decide) rfl (Nat.le_of_ble_eq_true rfl) rfl (E_414 (Nat.le_trans (by decide) hd) e_q27) rfl ?_
      refine Ex.seg 3 (pc' := 66) (lc' := [some (.ref 67), some (.int q27.1), none]) (st' := [.int (-1), .int q27.1]) (h' := q27.2) (sg1 rfl rfl (sg1 rfl rfl (sg1 rfl rfl rfl))) ?_
      refine Ex.icmp rfl rfl (fun (c0 : ¬ (q27.1 = (-1))) => ?_) (fun (c0 : ¬ ¬ (q27.1 = (-1))) => ?_)
      · rw [if_neg c0] at hf
        refine Ex.seg 2 (pc' := 80) (lc' := [some (.ref 67), some (.int q27.1), none]) (st' := [.int 40, .int q27.1]) (h' := q27.2) (sg1 rfl rfl (sg1 rfl rfl rfl)) ?_
        refine Ex.icmp rfl rfl (fun (c0 : q27.1 = 40) => ?_) (fun (c0 : ¬ (q27.1 = 40)) => ?_)
        · rw [if_pos c0] at hf
          obtain ⟨r0, hf0, rfl⟩ := Option.map_eq_some_iff.mp hf
          exact Ex.weak (sm_le_s (sm_le_s (sm_le_s sm_le_nil))) (B_418_89 hd  hf0 hs)
        · rw [if_neg c0] at hf
          refine Ex.seg 2 (pc' := 86) (lc' := [some (.ref 67), some (.int q27.1), none]) (st' := [.int 41, .int q27.1]) (h' := q27.2) (sg1 rfl rfl (sg1 rfl rfl rfl)) ?_
          refine Ex.icmp rfl rfl (fun (c0 : ¬ (q27.1 = 41)) => ?_) (fun (c0 : ¬ ¬ (q27.1 = 41)) => ?_)
          · rw [if_neg c0] at hf
            refine Ex.seg 1 (pc' := 118) (lc' := [some (.ref 67), some (.int q27.1), none]) (st' := [.int q27.1]) (h' := q27.2) (sg1 rfl rfl rfl) ?_
            obtain ⟨q28, e_q28, hf⟩ := bnd hf
            refine Ex.callS (As := [.int q27.1]) (r := []) (v := some (.int q28.1)) (h' := q28.2) rfl rfl rfl rfl (Nat.le_of_ble_eq_true rfl) (E_416 (Nat.le_trans (by decide) hd) e_q28) rfl ?_
            refine Ex.ifc rfl rfl (fun (c0 : ¬ (q28.1 = 0)) => ?_) (fun (c0 : ¬ ¬ (q28.1 = 0)) => ?_)
            · rw [if_neg c0] at hf
              obtain ⟨r0, hf0, rfl⟩ := Option.map_eq_some_iff.mp hf
              exact Ex.weak (sm_le_s (sm_le_n (sm_le_s sm_le_nil))) (B_418_146 hd  hf0 hs)
            · rw [if_pos (Classical.not_not.mp c0)] at hf
              refine Ex.seg 2 (pc' := 127) (lc' := [some (.ref 67), some (.int q27.1), none]) (st' := [.int 45, .int q27.1]) (h' := q28.2) (sg1 rfl rfl (sg1 rfl rfl rfl)) ?_
              refine Ex.icmp rfl rfl (fun (c0 : ¬ (q27.1 = 45)) => ?_) (fun (c0 : ¬ ¬ (q27.1 = 45)) => ?_)
              · rw [if_neg c0] at hf
                obtain ⟨r0, hf0, rfl⟩ := Option.map_eq_some_iff.mp hf
                exact Ex.weak (sm_le_s (sm_le_s (sm_le_s sm_le_nil))) (B_418_151 hd  hf0 hs)
              · rw [if_pos (Classical.not_not.mp c0)] at hf
                refine Ex.seg 5 (pc' := 137) (lc' := [some (.ref 67), some (.int q27.1), none]) (st' := [.int ((q28.2.1 67 79) + 1), .ref 67]) (h' := q28.2) (sg1 rfl rfl (sg1 rfl rfl (sg1 rfl rfl (sg1 rfl rfl (sg1 rfl rfl rfl))))) ?_
                obtain ⟨q29, e_q29, hf⟩ := bnd hf
                refine Ex.callV (a := 67) (As := [.int ((q28.2.1 67 79) + 1)]) (r := []) (v := some (.int q29.1)) (h' := q29.2) rfl rfl (by decide) rfl (Nat.le_of_ble_eq_true rfl) rfl (E_414 (Nat.le_trans (by decide) hd) e_q29) rfl ?_
                obtain ⟨q30, e_q30, hf⟩ := bnd hf
                refine Ex.callS (As := [.int q29.1]) (r := []) (v := some (.int q30.1)) (h' := q30.2) rfl rfl rfl rfl (Nat.le_of_ble_eq_true rfl) (E_416 (Nat.le_trans (by decide) hd) e_q30) rfl ?_
                refine Ex.ifc rfl rfl (fun (c0 : q30.1 = 0) => ?_) (fun (c0 : ¬ (q30.1 = 0)) => ?_)
                · rw [if_pos c0] at hf
                  obtain ⟨r0, hf0, rfl⟩ := Option.map_eq_some_iff.mp hf
                  exact Ex.weak (sm_le_s (sm_le_s (sm_le_s sm_le_nil))) (B_418_151 hd  hf0 hs)
                · rw [if_neg c0] at hf
                  obtain ⟨r0, hf0, rfl⟩ := Option.map_eq_some_iff.mp hf
                  exact Ex.weak (sm_le_s (sm_le_n (sm_le_s sm_le_nil))) (B_418_146 hd  hf0 hs)
          · rw [if_pos (Classical.not_not.mp c0)] at hf
            obtain ⟨r0, hf0, rfl⟩ := Option.map_eq_some_iff.mp hf
            exact Ex.weak (sm_le_s (sm_le_s (sm_le_s sm_le_nil))) (B_418_89 hd  hf0 hs)
      · rw [if_pos (Classical.not_not.mp c0)] at hf
        refine Ex.seg 3 (pc' := 74) (lc' := [some (.ref 67), some (.int q27.1), none]) (st' := []) (h' := (sm_wI q27.2 67 80 0)) (sg1 rfl rfl (sg1 rfl rfl (sg1 rfl rfl rfl))) ?_
        obtain ⟨h31, e_h31, hf⟩ := bnd hf
        rw [Option.some.inj e_h31]
        refine Ex.seg 1 (pc' := 315) (lc' := [some (.ref 67), some (.int q27.1), none]) (st' := []) (h' := h31) (sg1 rfl rfl rfl) ?_
        obtain ⟨r0, hf0, rfl⟩ := Option.map_eq_some_iff.mp hf
        exact Ex.weak (sm_le_n (sm_le_n (sm_le_s sm_le_nil))) (B_418_315 hd  hf0 hs)
    · rw [if_pos (Classical.not_not.mp c0)] at hf
      exact Ex.weak (sm_le_s (sm_le_s (sm_le_s sm_le_nil))) (B_418_26 hd hS1 hf hs)
theorem B_418_0 {L : Nat} {xs : Nat → Int32} {d : Nat} (hd : 2 ≤ d) {res : Option Value × sm_H}   {h : sm_H} {r : (Int32 × sm_H)} (hf : F_418_0  h = some r) (hs : (fun (r : Int32 × sm_H) => res = (some (.int r.1), r.2)) r) : Ex (P_G L xs) (RUN L xs d) (sm_lk P_t418) 3 0 [some (.ref 67), none, none] [] h res := by
  unfold F_418_0 at hf
  exact lp_ok (P := fun (s : (sm_H)) => Ex (P_G L xs) (RUN L xs d) (sm_lk P_t418) 3 0 [some (.ref 67), none, none] [] s res) (S := (fun (r : Int32 × sm_H) => res = (some (.int r.1), r.2))) (fun s x hx hsx => by
    intros
    exact B_418_0B hd  (fun _ q => q) hx hsx) 1000000 _ r hf hs
theorem E_418 {L : Nat} {xs : Nat → Int32} {d : Nat} (hd : 3 ≤ d)  {h : sm_H} {r : Int32 × sm_H} (hf : F_418  h = some r) : RUN L xs d 418 [.ref 67] h (some (.int r.1), r.2) := by
  obtain ⟨d, rfl⟩ : ∃ e, d = e + 1 := ⟨d - 1, by omega⟩
  exact ⟨Nat.le_of_ble_eq_true rfl, Ex.weak (sm_le_s (sm_le_s (sm_le_s sm_le_nil))) (B_418_0 (by omega) hf rfl)⟩
