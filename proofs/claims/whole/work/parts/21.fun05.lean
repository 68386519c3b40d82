theorem B_372_54 {L : Nat} {xs : Nat → Int32} {d : Nat} (hd : 2 ≤ d) {res : Option Value × sm_H} {S1 : (Int32 × Int32 × Int32 × Int32 × sm_H) → Prop} (hS1 : ∀ s, S1 s → Ex (P_G L xs) (RUN L xs d) (sm_lk P_t372) 0 5 [some (.ref 67), some (.int s.1), some (.int s.2.1), some (.int s.2.2.1), some (.int s.2.2.2.1)] [] s.2.2.2.2 res) {y1 : Int32} {y2 : Int32} {y4 : Int32} {z0 : Int32} {z1 : Int32}  {h : sm_H} {r : ((Int32 × Int32 × Int32 × Int32 × sm_H) ⊕ (Int32 × sm_H))} (hf : F_372_54 y1 y2 y4 z0 z1 h = some r) (hs : (Sum.elim S1 (fun (r : Int32 × sm_H) => res = (some (.int r.1), r.2))) r) : Ex (P_G L xs) (RUN L xs d) (sm_lk P_t372) 0 54 [some (.ref 67), some (.int y1), some (.int y2), none, some (.int y4)] [.int z1, .int z0] h res := by
  unfold F_372_54 at hf
  refine Ex.seg 2 (pc' := 56) (lc' := [some (.ref 67), some (.int y1), some (.int y2), some (.int (z0 + z1)), some (.int y4)]) (st' := []) (h' := h) (sg1 rfl rfl (sg1 rfl rfl rfl)) ?_
  obtain ⟨v1, e_v1, hf⟩ := bnd hf
  rw [Option.some.inj e_v1]
  refine Ex.seg 1 (pc' := 59) (lc' := [some (.ref 67), some (.int y1), some (.int y2), some (.int v1), some (.int (y4 + 1))]) (st' := []) (h' := h) (sg1 rfl rfl rfl) ?_
  obtain ⟨v2, e_v2, hf⟩ := bnd hf
  rw [Option.some.inj e_v2]
  refine Ex.seg 1 (pc' := 5) (lc' := [some (.ref 67), some (.int y1), some (.int y2), some (.int v1), some (.int v2)]) (st' := []) (h' := h) (sg1 rfl rfl rfl) ?_
  obtain rfl := Option.some.inj hf
  exact Ex.weak (sm_le_s (sm_le_s (sm_le_s (sm_le_s (sm_le_s sm_le_nil))))) (hS1 _ hs)
theorem B_372_5B {L : Nat} {xs : Nat → Int32} {d : Nat} (hd : 2 ≤ d) {res : Option Value × sm_H} {S1 : (Int32 × Int32 × Int32 × Int32 × sm_H) → Prop} (hS1 : ∀ s, S1 s → Ex (P_G L xs) (RUN L xs d) (sm_lk P_t372) 0 5 [some (.ref 67), some (.int s.1), some (.int s.2.1), some (.int s.2.2.1), some (.int s.2.2.2.1)] [] s.2.2.2.2 res) {s : (Int32 × Int32 × Int32 × Int32 × sm_H)}  {r : ((Int32 × Int32 × Int32 × Int32 × sm_H) ⊕ (Int32 × sm_H))} (hf : F_372_5B s = some r) (hs : (Sum.elim S1 (fun (r : Int32 × sm_H) => res = (some (.int r.1), r.2))) r) : Ex (P_G L xs) (RUN L xs d) (sm_lk P_t372) 0 5 [some (.ref 67), some (.int s.1), some (.int s.2.1), some (.int s.2.2.1), some (.int s.2.2.2.1)] [] s.2.2.2.2 res := by
  unfold F_372_5B at hf
  refine Ex.seg 2 (pc' := 8) (lc' := [some (.ref 67), some (.int s.1), some (.int s.2.1), some (.int s.2.2.1), some (.int s.2.2.2.1)]) (st' := [.int s.2.1, .int s.2.2.2.1]) (h' := s.2.2.2.2) (sg1 rfl rfl (sg1 rfl rfl rfl)) ?_
  refine Ex.icmp rfl rfl (fun (c0 : s.2.1 ≤ s.2.2.2.1) => ?_) (fun (c0 : ¬ (s.2.1 ≤ s.2.2.2.1)) => ?_)
  · rw [if_pos c0] at hf
    refine Ex.seg 1 (pc' := 63) (lc' := [some (.ref 67), some (.int s.1), some (.int s.2.1), some (.int s.2.2.1), some (.int s.2.2.2.1)]) (st' := [.int s.2.2.1]) (h' := s.2.2.2.2) (sg1 rfl rfl rfl) ?_
    obtain rfl := Option.some.inj hf
    exact Ex.iret rfl rfl (fun c0 => by cases c0) hs
  · rw [if_neg c0] at hf
    refine Ex.seg 11 (pc' := 26) (lc' := [some (.ref 67), some (.int s.1), some (.int s.2.1), some (.int s.2.2.1), some (.int s.2.2.2.1)]) (st' := [.int ((24 * s.1) + (4 * s.2.2.2.1)), .ref 81, .ref 67, .int s.2.2.1]) (h' := s.2.2.2.2) (sg1 rfl rfl (sg1 rfl rfl (sg1 rfl rfl (sg1 rfl rfl (sg1 rfl rfl (sg1 rfl rfl (sg1 rfl rfl (sg1 rfl rfl (sg1 rfl rfl (sg1 rfl rfl (sg1 rfl rfl rfl))))))))))) ?_
    obtain ⟨v3, e_v3, hf⟩ := bnd hf
    refine Ex.iald e_v3 rfl rfl ?_
    refine Ex.seg 11 (pc' := 42) (lc' := [some (.ref 67), some (.int s.1), some (.int s.2.1), some (.int s.2.2.1), some (.int s.2.2.2.1)]) (st' := [.int (((24 * s.1) + (4 * s.2.2.2.1)) + 1), .ref 81, .int v3, .ref 67, .int s.2.2.1]) (h' := s.2.2.2.2) (sg1 rfl rfl (sg1 rfl rfl (sg1 rfl rfl (sg1 rfl rfl (sg1 rfl rfl (sg1 rfl rfl (sg1 rfl rfl (sg1 rfl rfl (sg1 rfl rfl (sg1 rfl rfl (sg1 rfl rfl rfl))))))))))) ?_
    obtain ⟨v4, e_v4, hf⟩ := bnd hf
    refine Ex.iald e_v4 rfl rfl ?_
    obtain ⟨q5, e_q5, hf⟩ := bnd hf
    refine Ex.callV (a := 67) (As := [.int v3, .int v4]) (r := [.int s.2.2.1]) (v := some (.int q5.1)) (h' := q5.2) rfl rfl (by decide) rfl (Nat.le_of_ble_eq_true rfl) rfl (E_332 (Nat.le_trans (by decide) hd) e_q5) rfl ?_
    refine Ex.ifc rfl rfl (fun (c0 : q5.1 = 0) => ?_) (fun (c0 : ¬ (q5.1 = 0)) => ?_)
    · rw [if_pos c0] at hf
      refine Ex.seg 1 (pc' := 54) (lc' := [some (.ref 67), some (.int s.1), some (.int s.2.1), some (.int s.2.2.1), some (.int s.2.2.2.1)]) (st' := [.int 0, .int s.2.2.1]) (h' := q5.2) (sg1 rfl rfl rfl) ?_
      exact Ex.weak (sm_le_s (sm_le_s (sm_le_s (sm_le_n (sm_le_s sm_le_nil))))) (B_372_54 hd hS1 hf hs)
    · rw [if_neg c0] at hf
      refine Ex.seg 2 (pc' := 54) (lc' := [some (.ref 67), some (.int s.1), some (.int s.2.1), some (.int s.2.2.1), some (.int s.2.2.2.1)]) (st' := [.int 1, .int s.2.2.1]) (h' := q5.2) (sg1 rfl rfl (sg1 rfl rfl rfl)) ?_
      exact Ex.weak (sm_le_s (sm_le_s (sm_le_s (sm_le_n (sm_le_s sm_le_nil))))) (B_372_54 hd hS1 hf hs)
theorem B_372_5 {L : Nat} {xs : Nat → Int32} {d : Nat} (hd : 2 ≤ d) {res : Option Value × sm_H} {y1 : Int32} {y2 : Int32} {y3 : Int32} {y4 : Int32}  {h : sm_H} {r : (Int32 × sm_H)} (hf : F_372_5 y1 y2 y3 y4 h = some r) (hs : (fun (r : Int32 × sm_H) => res = (some (.int r.1), r.2)) r) : Ex (P_G L xs) (RUN L xs d) (sm_lk P_t372) 0 5 [some (.ref 67), some (.int y1), some (.int y2), some (.int y3), some (.int y4)] [] h res := by
  unfold F_372_5 at hf
  exact lp_ok (P := fun (s : (Int32 × Int32 × Int32 × Int32 × sm_H)) => Ex (P_G L xs) (RUN L xs d) (sm_lk P_t372) 0 5 [some (.ref 67), some (.int s.1), some (.int s.2.1), some (.int s.2.2.1), some (.int s.2.2.2.1)] [] s.2.2.2.2 res) (S := (fun (r : Int32 × sm_H) => res = (some (.int r.1), r.2))) (fun s x hx hsx => by
    intros
    exact B_372_5B hd  (fun _ q => q) hx hsx) 1000000 _ r hf hs
theorem B_372_0 {L : Nat} {xs : Nat → Int32} {d : Nat} (hd : 2 ≤ d) {res : Option Value × sm_H} {x1 : Int32} {x2 : Int32}  {h : sm_H} {r : (Int32 × sm_H)} (hf : F_372_0 x1 x2 h = some r) (hs : (fun (r : Int32 × sm_H) => res = (some (.int r.1), r.2)) r) : Ex (P_G L xs) (RUN L xs d) (sm_lk P_t372) 0 0 [some (.ref 67), some (.int x1), some (.int x2), none, none] [] h res := by
  unfold F_372_0 at hf
  refine Ex.seg 4 (pc' := 5) (lc' := [some (.ref 67), some (.int x1), some (.int x2), some (.int 0), some (.int 0)]) (st' := []) (h' := h) (sg1 rfl rfl (sg1 rfl rfl (sg1 rfl rfl (sg1 rfl rfl rfl)))) ?_
  exact Ex.weak (sm_le_s (sm_le_s (sm_le_s (sm_le_s (sm_le_s sm_le_nil))))) (B_372_5 hd  hf hs)
theorem E_372 {L : Nat} {xs : Nat → Int32} {d : Nat} (hd : 3 ≤ d) {x1 : Int32} {x2 : Int32} {h : sm_H} {r : Int32 × sm_H} (hf : F_372 x1 x2 h = some r) : RUN L xs d 372 [.ref 67, .int x1, .int x2] h (some (.int r.1), r.2) := by
  obtain ⟨d, rfl⟩ : ∃ e, d = e + 1 := ⟨d - 1, by omega⟩
  exact ⟨Nat.le_of_ble_eq_true rfl, B_372_0 (by omega) hf rfl⟩
theorem B_373_54 {L : Nat} {xs : Nat → Int32} {d : Nat} (hd : 2 ≤ d) {res : Option Value × sm_H} {y2 : Int32} {y3 : Int32} {y4 : Int32} {z0 : Int32}  {h : sm_H} {r : (sm_H)} (hf : F_373_54 y2 y3 y4 z0 h = some r) (hs : (fun (r : sm_H) => res = (none, r)) r) : Ex (P_G L xs) (RUN L xs d) (sm_lk P_t373) 0 54 [some (.ref 67), none, some (.int y2), some (.int y3), some (.int y4), none] [.int z0] h res := by
  unfold F_373_54 at hf
  refine Ex.seg 6 (pc' := 62) (lc' := [some (.ref 67), none, some (.int y2), some (.int y3), some (.int y4), some (.int z0)]) (st' := [.int (y3 + z0), .int y3, .ref 67]) (h' := h) (sg1 rfl rfl (sg1 rfl rfl (sg1 rfl rfl (sg1 rfl rfl (sg1 rfl rfl (sg1 rfl rfl rfl)))))) ?_
  obtain ⟨q1, e_q1, hf⟩ := bnd hf
  refine Ex.callV (a := 67) (As := [.int y3, .int (y3 + z0)]) (r := []) (v := none) (h' := q1) rfl rfl (by decide) rfl (Nat.le_of_ble_eq_true rfl) rfl (E_343 (Nat.le_trans (by decide) hd) e_q1) rfl ?_
  refine Ex.seg 4 (pc' := 71) (lc' := [some (.ref 67), none, some (.int y2), some (.int y3), some (.int y4), some (.int z0)]) (st' := [.int y2, .ref 105, .ref 67]) (h' := q1) (sg1 rfl rfl (sg1 rfl rfl (sg1 rfl rfl (sg1 rfl rfl rfl)))) ?_
  obtain ⟨v2, e_v2, hf⟩ := bnd hf
  refine Ex.iald e_v2 rfl rfl ?_
  refine Ex.seg 3 (pc' := 77) (lc' := [some (.ref 67), none, some (.int y2), some (.int y3), some (.int y4), some (.int z0)]) (st' := [.int y2, .ref 105, .int v2, .ref 67]) (h' := q1) (sg1 rfl rfl (sg1 rfl rfl (sg1 rfl rfl rfl))) ?_
  obtain ⟨v3, e_v3, hf⟩ := bnd hf
  refine Ex.iald e_v3 rfl rfl ?_
  refine Ex.seg 4 (pc' := 84) (lc' := [some (.ref 67), none, some (.int y2), some (.int y3), some (.int y4), some (.int z0)]) (st' := [.int ((v3 + y4) - z0), .int v2, .ref 67]) (h' := q1) (sg1 rfl rfl (sg1 rfl rfl (sg1 rfl rfl (sg1 rfl rfl rfl)))) ?_
  obtain ⟨q4, e_q4, hf⟩ := bnd hf
  refine Ex.callV (a := 67) (As := [.int v2, .int ((v3 + y4) - z0)]) (r := []) (v := none) (h' := q4) rfl rfl (by decide) rfl (Nat.le_of_ble_eq_true rfl) rfl (E_343 (Nat.le_trans (by decide) hd) e_q4) rfl ?_
  obtain rfl := Option.some.inj hf
  exact Ex.vret rfl rfl hs
theorem B_373_0 {L : Nat} {xs : Nat → Int32} {d : Nat} (hd : 2 ≤ d) {res : Option Value × sm_H} {x1 : Int32}  {h : sm_H} {r : (sm_H)} (hf : F_373_0 x1 h = some r) (hs : (fun (r : sm_H) => res = (none, r)) r) : Ex (P_G L xs) (RUN L xs d) (sm_lk P_t373) 0 0 [some (.ref 67), some (.int x1), none, none, none, none] [] h res := by
  unfold F_373_0 at hf
  refine Ex.seg 5 (pc' := 7) (lc' := [some (.ref 67), some (.int x1), some (.int ((h.1 67 56) - 1)), none, none, none]) (st' := []) (h' := h) (sg1 rfl rfl (sg1 rfl rfl (sg1 rfl rfl (sg1 rfl rfl (sg1 rfl rfl rfl))))) ?_
  obtain ⟨v5, e_v5, hf⟩ := bnd hf
  rw [Option.some.inj e_v5]
  refine Ex.seg 3 (pc' := 12) (lc' := [some (.ref 67), some (.int x1), some (.int v5), none, none, none]) (st' := [.int v5, .ref 105]) (h' := h) (sg1 rfl rfl (sg1 rfl rfl (sg1 rfl rfl rfl))) ?_
  obtain ⟨v6, e_v6, hf⟩ := bnd hf
  refine Ex.iald e_v6 rfl rfl ?_
  refine Ex.seg 4 (pc' := 19) (lc' := [some (.ref 67), some (.int x1), some (.int v5), none, none, none]) (st' := [.int v5, .ref 103, .ref 67, .int v6]) (h' := h) (sg1 rfl rfl (sg1 rfl rfl (sg1 rfl rfl (sg1 rfl rfl rfl)))) ?_
  obtain ⟨v7, e_v7, hf⟩ := bnd hf
  refine Ex.iald e_v7 rfl rfl ?_
  obtain ⟨q8, e_q8, hf⟩ := bnd hf
  refine Ex.callV (a := 67) (As := [.int v7]) (r := [.int v6]) (v := some (.int q8.1)) (h' := q8.2) rfl rfl (by decide) rfl (Nat.le_of_ble_eq_true rfl) rfl (E_305 (Nat.le_trans (by decide) hd) e_q8) rfl ?_
  refine Ex.seg 2 (pc' := 25) (lc' := [some (.ref 67), some (.int x1), some (.int v5), some (.int (v6 + q8.1)), none, none]) (st' := []) (h' := q8.2) (sg1 rfl rfl (sg1 rfl rfl rfl)) ?_
  obtain ⟨v9, e_v9, hf⟩ := bnd hf
  rw [Option.some.inj e_v9]
  refine Ex.seg 2 (pc' := 27) (lc' := [some (.ref 67), some (.int x1), some (.int v5), some (.int v9), none, none]) (st' := [.int x1, .ref 67]) (h' := q8.2) (sg1 rfl rfl (sg1 rfl rfl rfl)) ?_
  obtain ⟨q10, e_q10, hf⟩ := bnd hf
  refine Ex.callV (a := 67) (As := [.int x1]) (r := []) (v := some (.int q10.1)) (h' := q10.2) rfl rfl (by decide) rfl (Nat.le_of_ble_eq_true rfl) rfl (E_305 (Nat.le_trans (by decide) hd) e_q10) rfl ?_
  refine Ex.seg 5 (pc' := 39) (lc' := [some (.ref 67), some (.int x1), some (.int v5), some (.int v9), some (.int q10.1), none]) (st' := [.int v5, .ref 106, .int q10.1]) (h' := q10.2) (sg1 rfl rfl (sg1 rfl rfl (sg1 rfl rfl (sg1 rfl rfl (sg1 rfl rfl rfl))))) ?_
  obtain ⟨v11, e_v11, hf⟩ := bnd hf
  refine Ex.iald e_v11 rfl rfl ?_
  refine Ex.icmp rfl rfl (fun (c0 : v11 ≤ q10.1) => ?_) (fun (c0 : ¬ (v11 ≤ q10.1)) => ?_)
  · rw [if_pos c0] at hf
    refine Ex.seg 3 (pc' := 53) (lc' := [some (.ref 67), some (.int x1), some (.int v5), some (.int v9), some (.int q10.1), none]) (st' := [.int v5, .ref 106]) (h' := q10.2) (sg1 rfl rfl (sg1 rfl rfl (sg1 rfl rfl rfl))) ?_
    obtain ⟨v12, e_v12, hf⟩ := bnd hf
    refine Ex.iald e_v12 rfl rfl ?_
    exact Ex.weak (sm_le_s (sm_le_n (sm_le_s (sm_le_s (sm_le_s (sm_le_s sm_le_nil)))))) (B_373_54 hd  hf hs)
  · rw [if_neg c0] at hf
    refine Ex.seg 2 (pc' := 54) (lc' := [some (.ref 67), some (.int x1), some (.int v5), some (.int v9), some (.int q10.1), none]) (st' := [.int q10.1]) (h' := q10.2) (sg1 rfl rfl (sg1 rfl rfl rfl)) ?_
    exact Ex.weak (sm_le_s (sm_le_n (sm_le_s (sm_le_s (sm_le_s (sm_le_s sm_le_nil)))))) (B_373_54 hd  hf hs)
theorem E_373 {L : Nat} {xs : Nat → Int32} {d : Nat} (hd : 3 ≤ d) {x1 : Int32} {h : sm_H} {r : sm_H} (hf : F_373 x1 h = some r) : RUN L xs d 373 [.ref 67, .int x1] h (none, r) := by
  obtain ⟨d, rfl⟩ : ∃ e, d = e + 1 := ⟨d - 1, by omega⟩
  exact ⟨Nat.le_of_ble_eq_true rfl, B_373_0 (by omega) hf rfl⟩
theorem B_375_36 {L : Nat} {xs : Nat → Int32} {d : Nat} (hd : 0 ≤ d) {res : Option Value × sm_H} {z1 : Int32} {z2 : Int32}  {h : sm_H} {r : (sm_H)} (hf : F_375_36 z1 z2 h = some r) (hs : (fun (r : sm_H) => res = (none, r)) r) : Ex (P_G L xs) (RUN L xs d) (sm_lk P_t375) 0 36 [none, none, none] [.int z2, .int z1, .ref 107] h res := by
  unfold F_375_36 at hf
  obtain ⟨h1, e_h1, hf⟩ := bnd hf
  refine Ex.iast e_h1 rfl rfl ?_
  obtain rfl := Option.some.inj hf
  exact Ex.vret rfl rfl hs
theorem B_375_0 {L : Nat} {xs : Nat → Int32} {d : Nat} (hd : 0 ≤ d) {res : Option Value × sm_H} {x1 : Int32} {x2 : Int32}  {h : sm_H} {r : (sm_H)} (hf : F_375_0 x1 x2 h = some r) (hs : (fun (r : sm_H) => res = (none, r)) r) : Ex (P_G L xs) (RUN L xs d) (sm_lk P_t375) 0 0 [some (.ref 67), some (.int x1), some (.int x2)] [] h res := by
  unfold F_375_0 at hf
  refine Ex.seg 6 (pc' := 10) (lc' := [some (.ref 67), some (.int x1), some (.int x2)]) (st' := [.int x1, .ref 107, .int x1, .ref 107]) (h' := h) (sg1 rfl rfl (sg1 rfl rfl (sg1 rfl rfl (sg1 rfl rfl (sg1 rfl rfl (sg1 rfl rfl rfl)))))) ?_
  obtain ⟨v2, e_v2, hf⟩ := bnd hf
  refine Ex.iald e_v2 rfl rfl ?_
  refine Ex.seg 5 (pc' := 18) (lc' := [some (.ref 67), some (.int x1), some (.int x2)]) (st' := [.int x2, .ref 80, .int (v2 + 1), .int x1, .ref 107]) (h' := h) (sg1 rfl rfl (sg1 rfl rfl (sg1 rfl rfl (sg1 rfl rfl (sg1 rfl rfl rfl))))) ?_
  obtain ⟨v3, e_v3, hf⟩ := bnd hf
  refine Ex.iald e_v3 rfl rfl ?_
  refine Ex.seg 1 (pc' := 20) (lc' := [some (.ref 67), some (.int x1), some (.int x2)]) (st' := [.int 4, .int v3, .int (v2 + 1), .int x1, .ref 107]) (h' := h) (sg1 rfl rfl rfl) ?_
  rcases Classical.em ((4 : Int32) = 0) with c0 | c0
  · rw [if_pos c0] at hf
    cases hf
  rw [if_neg c0] at hf
  refine Ex.idiv c0 rfl rfl ?_
  refine Ex.icmp rfl rfl (fun (c0 : ¬ ((v2 + 1) = (v3 / 4))) => ?_) (fun (c0 : ¬ ¬ ((v2 + 1) = (v3 / 4))) => ?_)
  · rw [if_neg c0] at hf
    refine Ex.seg 3 (pc' := 33) (lc' := [some (.ref 67), some (.int x1), some (.int x2)]) (st' := [.int x1, .ref 107, .int x1, .ref 107]) (h' := h) (sg1 rfl rfl (sg1 rfl rfl (sg1 rfl rfl rfl))) ?_
    obtain ⟨v4, e_v4, hf⟩ := bnd hf
    refine Ex.iald e_v4 rfl rfl ?_
    refine Ex.seg 2 (pc' := 36) (lc' := [some (.ref 67), some (.int x1), some (.int x2)]) (st' := [.int (v4 + 1), .int x1, .ref 107]) (h' := h) (sg1 rfl rfl (sg1 rfl rfl rfl)) ?_
    exact Ex.weak (sm_le_n (sm_le_n (sm_le_n sm_le_nil))) (B_375_36 hd  hf hs)
  · rw [if_pos (Classical.not_not.mp c0)] at hf
    refine Ex.seg 2 (pc' := 36) (lc' := [some (.ref 67), some (.int x1), some (.int x2)]) (st' := [.int 0, .int x1, .ref 107]) (h' := h) (sg1 rfl rfl (sg1 rfl rfl rfl)) ?_
    exact Ex.weak (sm_le_n (sm_le_n (sm_le_n sm_le_nil))) (B_375_36 hd  hf hs)
theorem E_375 {L : Nat} {xs : Nat → Int32} {d : Nat} (hd : 1 ≤ d) {x1 : Int32} {x2 : Int32} {h : sm_H} {r : sm_H} (hf : F_375 x1 x2 h = some r) : RUN L xs d 375 [.ref 67, .int x1, .int x2] h (none, r) := by
  obtain ⟨d, rfl⟩ : ∃ e, d = e + 1 := ⟨d - 1, by omega⟩
  exact ⟨Nat.le_of_ble_eq_true rfl, B_375_0 (by omega) hf rfl⟩
theorem B_378_199 {L : Nat} {xs : Nat → Int32} {d : Nat} (hd : 3 ≤ d) {res : Option Value × sm_H}   {h : sm_H} {r : (sm_H)} (hf : F_378_199  h = some r) (hs : (fun (r : sm_H) => res = (none, r)) r) : Ex (P_G L xs) (RUN L xs d) (sm_lk P_t378) 0 199 [none, none, none, none, none, none, none, none, none, none] [] h res := by
  unfold F_378_199 at hf
  obtain rfl := Option.some.inj hf
  exact Ex.vret rfl rfl hs
theorem B_378_191 {L : Nat} {xs : Nat → Int32} {d : Nat} (hd : 3 ≤ d) {res : Option Value × sm_H} {y5 : Int32} {y6 : Int64}  {h : sm_H} {r : (sm_H)} (hf : F_378_191 y5 y6 h = some r) (hs : (fun (r : sm_H) => res = (none, r)) r) : Ex (P_G L xs) (RUN L xs d) (sm_lk P_t378) 0 191 [some (.ref 67), none, none, none, none, some (.int y5), some (.long y6), none, none, none] [] h res := by
  unfold F_378_191 at hf
  refine Ex.seg 3 (pc' := 196) (lc' := [some (.ref 67), none, none, none, none, some (.int y5), some (.long y6), none, none, none]) (st' := [.long y6, .int y5, .ref 67]) (h' := h) (sg1 rfl rfl (sg1 rfl rfl (sg1 rfl rfl rfl))) ?_
  obtain ⟨q1, e_q1, hf⟩ := bnd hf
  refine Ex.callV (a := 67) (As := [.int y5, .long y6]) (r := []) (v := none) (h' := q1) rfl rfl (by decide) rfl (Nat.le_of_ble_eq_true rfl) rfl (E_347 (Nat.le_trans (by decide) hd) e_q1) rfl ?_
  exact Ex.weak (sm_le_n (sm_le_s (sm_le_s (sm_le_s (sm_le_s (sm_le_n (sm_le_n (sm_le_s (sm_le_s (sm_le_s sm_le_nil)))))))))) (B_378_199 hd  hf hs)
theorem B_378_165 {L : Nat} {xs : Nat → Int32} {d : Nat} (hd : 3 ≤ d) {res : Option Value × sm_H} {y3 : Int32} {y8 : Int32} {y9 : Int32}  {h : sm_H} {r : (sm_H)} (hf : F_378_165 y3 y8 y9 h = some r) (hs : (fun (r : sm_H) => res = (none, r)) r) : Ex (P_G L xs) (RUN L xs d) (sm_lk P_t378) 0 165 [some (.ref 67), none, none, some (.int y3), none, none, none, none, some (.int y8), some (.int y9)] [] h res := by
  unfold F_378_165 at hf
  refine Ex.seg 5 (pc' := 171) (lc' := [some (.ref 67), none, none, some (.int y3), none, none, none, none, some (.int y8), some (.int y9)]) (st' := [.int y8, .ref 67, .int y3, .int y3, .ref 67]) (h' := h) (sg1 rfl rfl (sg1 rfl rfl (sg1 rfl rfl (sg1 rfl rfl (sg1 rfl rfl rfl))))) ?_
  obtain ⟨q2, e_q2, hf⟩ := bnd hf
  refine Ex.callV (a := 67) (As := [.int y8]) (r := [.int y3, .int y3, .ref 67]) (v := some (.int q2.1)) (h' := q2.2) rfl rfl (by decide) rfl (Nat.le_of_ble_eq_true rfl) rfl (E_305 (Nat.le_trans (by decide) hd) e_q2) rfl ?_
  refine Ex.seg 3 (pc' := 178) (lc' := [some (.ref 67), none, none, some (.int y3), none, none, none, none, some (.int y8), some (.int y9)]) (st' := [.int ((y3 + q2.1) - y9), .int y3, .ref 67]) (h' := q2.2) (sg1 rfl rfl (sg1 rfl rfl (sg1 rfl rfl rfl))) ?_
  obtain ⟨q3, e_q3, hf⟩ := bnd hf
  refine Ex.callV (a := 67) (As := [.int y3, .int ((y3 + q2.1) - y9)]) (r := []) (v := none) (h' := q3) rfl rfl (by decide) rfl (Nat.le_of_ble_eq_true rfl) rfl (E_343 (Nat.le_trans (by decide) hd) e_q3) rfl ?_
  refine Ex.seg 3 (pc' := 185) (lc' := [some (.ref 67), none, none, some (.int y3), none, none, none, none, some (.int y8), some (.int y9)]) (st' := [.int 2, .int y8, .ref 67]) (h' := q3) (sg1 rfl rfl (sg1 rfl rfl (sg1 rfl rfl rfl))) ?_
  obtain ⟨q4, e_q4, hf⟩ := bnd hf
  refine Ex.callV (a := 67) (As := [.int y8, .int 2]) (r := []) (v := none) (h' := q4) rfl rfl (by decide) rfl (Nat.le_of_ble_eq_true rfl) rfl (E_350 (Nat.le_trans (by decide) hd) e_q4) rfl ?_
  refine Ex.seg 1 (pc' := 199) (lc' := [some (.ref 67), none, none, some (.int y3), none, none, none, none, some (.int y8), some (.int y9)]) (st' := []) (h' := q4) (sg1 rfl rfl rfl) ?_
  exact Ex.weak (sm_le_n (sm_le_s (sm_le_s (sm_le_n (sm_le_s (sm_le_s (sm_le_s (sm_le_s (sm_le_n (sm_le_n sm_le_nil)))))))))) (B_378_199 hd  hf hs)
theorem B_378_93 {L : Nat} {xs : Nat → Int32} {d : Nat} (hd : 3 ≤ d) {res : Option Value × sm_H} {y1 : Int32} {y2 : Int32} {y3 : Int32} {y5 : Int32} {y6 : Int64} {y8 : Int32}  {h : sm_H} {r : (sm_H)} (hf : F_378_93 y1 y2 y3 y5 y6 y8 h = some r) (hs : (fun (r : sm_H) => res = (none, r)) r) : Ex (P_G L xs) (RUN L xs d) (sm_lk P_t378) 0 93 [some (.ref 67), some (.int y1), some (.int y2), some (.int y3), none, some (.int y5), some (.long y6), none, some (.int y8), none] [] h res := by
  unfold F_378_93 at hf
  refine Ex.seg 3 (pc' := 98) (lc' := [some (.ref 67), some (.int y1), some (.int y2), some (.int y3), none, some (.int y5), some (.long y6), none, some (.int y8), none]) (st' := [.int y2, .ref 75]) (h' := h) (sg1 rfl rfl (sg1 rfl rfl (sg1 rfl rfl rfl))) ?_
  obtain ⟨v5, e_v5, hf⟩ := bnd hf
  refine Ex.iald e_v5 rfl rfl ?_
  refine Ex.seg 1 (pc' := 101) (lc' := [some (.ref 67), some (.int y1), some (.int y2), some (.int y3), none, some (.int y5), some (.long y6), none, some (.int y8), none]) (st' := [.int 16, .int v5]) (h' := h) (sg1 rfl rfl rfl) ?_
  refine Ex.icmp rfl rfl (fun (c0 : ¬ (v5 = 16)) => ?_) (fun (c0 : ¬ ¬ (v5 = 16)) => ?_)
  · rw [if_neg c0] at hf
    exact Ex.weak (sm_le_s (sm_le_n (sm_le_n (sm_le_n (sm_le_s (sm_le_s (sm_le_s (sm_le_s (sm_le_n (sm_le_s sm_le_nil)))))))))) (B_378_191 hd  hf hs)
  · rw [if_pos (Classical.not_not.mp c0)] at hf
    refine Ex.seg 3 (pc' := 109) (lc' := [some (.ref 67), some (.int y1), some (.int y2), some (.int y3), none, some (.int y5), some (.long y6), none, some (.int y8), none]) (st' := [.int y1, .ref 104]) (h' := h) (sg1 rfl rfl (sg1 rfl rfl (sg1 rfl rfl rfl))) ?_
    obtain ⟨v6, e_v6, hf⟩ := bnd hf
    refine Ex.iald e_v6 rfl rfl ?_
    refine Ex.seg 1 (pc' := 111) (lc' := [some (.ref 67), some (.int y1), some (.int y2), some (.int y3), none, some (.int y5), some (.long y6), none, some (.int y8), none]) (st' := [.int 1, .int v6]) (h' := h) (sg1 rfl rfl rfl) ?_
    refine Ex.icmp rfl rfl (fun (c0 : ¬ (v6 = 1)) => ?_) (fun (c0 : ¬ ¬ (v6 = 1)) => ?_)
    · rw [if_neg c0] at hf
      exact Ex.weak (sm_le_s (sm_le_n (sm_le_n (sm_le_n (sm_le_s (sm_le_s (sm_le_s (sm_le_s (sm_le_n (sm_le_s sm_le_nil)))))))))) (B_378_191 hd  hf hs)
    · rw [if_pos (Classical.not_not.mp c0)] at hf
      refine Ex.seg 3 (pc' := 119) (lc' := [some (.ref 67), some (.int y1), some (.int y2), some (.int y3), none, some (.int y5), some (.long y6), none, some (.int y8), none]) (st' := [.long y6, .int y5, .ref 67]) (h' := h) (sg1 rfl rfl (sg1 rfl rfl (sg1 rfl rfl rfl))) ?_
      obtain ⟨q7, e_q7, hf⟩ := bnd hf
      refine Ex.callV (a := 67) (As := [.int y5, .long y6]) (r := []) (v := none) (h' := q7) rfl rfl (by decide) rfl (Nat.le_of_ble_eq_true rfl) rfl (E_342 (Nat.le_trans (by decide) hd) e_q7) rfl ?_
      refine Ex.seg 3 (pc' := 127) (lc' := [some (.ref 67), some (.int y1), some (.int y2), some (.int y3), none, some (.int y5), some (.long y6), none, some (.int y8), none]) (st' := [.long y6, .int y5, .ref 67]) (h' := q7) (sg1 rfl rfl (sg1 rfl rfl (sg1 rfl rfl rfl))) ?_
      obtain ⟨q8, e_q8, hf⟩ := bnd hf
      refine Ex.callV (a := 67) (As := [.int y5, .long y6]) (r := []) (v := none) (h' := q8) rfl rfl (by decide) rfl (Nat.le_of_ble_eq_true rfl) rfl (E_342 (Nat.le_trans (by decide) hd) e_q8) rfl ?_
      refine Ex.seg 4 (pc' := 135) (lc' := [some (.ref 67), some (.int y1), some (.int y2), some (.int y3), none, some (.int y5), some (.long y6), none, some (.int y8), some (.int 1)]) (st' := [.int y2, .ref 67]) (h' := q8) (sg1 rfl rfl (sg1 rfl rfl (sg1 rfl rfl (sg1 rfl rfl rfl)))) ?_
      obtain ⟨q9, e_q9, hf⟩ := bnd hf
      refine Ex.callV (a := 67) (As := [.int y2]) (r := []) (v := some (.int q9.1)) (h' := q9.2) rfl rfl (by decide) rfl (Nat.le_of_ble_eq_true rfl) rfl (E_307 (Nat.le_trans (by decide) hd) e_q9) rfl ?_
      refine Ex.ifc rfl rfl (fun (c0 : q9.1 = 0) => ?_) (fun (c0 : ¬ (q9.1 = 0)) => ?_)
      · rw [if_pos c0] at hf
        exact Ex.weak (sm_le_s (sm_le_n (sm_le_n (sm_le_s (sm_le_s (sm_le_n (sm_le_n (sm_le_s (sm_le_s (sm_le_s sm_le_nil)))))))))) (B_378_165 hd  hf hs)
      · rw [if_neg c0] at hf
        refine Ex.seg 3 (pc' := 144) (lc' := [some (.ref 67), some (.int y1), some (.int y2), some (.int y3), none, some (.int y5), some (.long y6), none, some (.int y8), some (.int 1)]) (st' := [.int y2, .ref 67, .ref 67]) (h' := q9.2) (sg1 rfl rfl (sg1 rfl rfl (sg1 rfl rfl rfl))) ?_
        obtain ⟨q10, e_q10, hf⟩ := bnd hf
        refine Ex.callV (a := 67) (As := [.int y2]) (r := [.ref 67]) (v := some (.int q10.1)) (h' := q10.2) rfl rfl (by decide) rfl (Nat.le_of_ble_eq_true rfl) rfl (E_307 (Nat.le_trans (by decide) hd) e_q10) rfl ?_
        obtain ⟨q11, e_q11, hf⟩ := bnd hf
        refine Ex.callV (a := 67) (As := [.int q10.1]) (r := []) (v := none) (h' := q11) rfl rfl (by decide) rfl (Nat.le_of_ble_eq_true rfl) rfl (E_299 (Nat.le_trans (by decide) hd) e_q11) rfl ?_
        refine Ex.seg 5 (pc' := 159) (lc' := [some (.ref 67), some (.int y1), some (.int y2), some (.int y3), none, some (.int y5), some (.long y6), none, some (.int y8), some (.int 1)]) (st' := [.long (q11.2.1 67 49), .int (q11.1 67 48), .ref 67]) (h' := q11) (sg1 rfl rfl (sg1 rfl rfl (sg1 rfl rfl (sg1 rfl rfl (sg1 rfl rfl rfl))))) ?_
        obtain ⟨q12, e_q12, hf⟩ := bnd hf
        refine Ex.callV (a := 67) (As := [.int (q11.1 67 48), .long (q11.2.1 67 49)]) (r := []) (v := none) (h' := q12) rfl rfl (by decide) rfl (Nat.le_of_ble_eq_true rfl) rfl (E_342 (Nat.le_trans (by decide) hd) e_q12) rfl ?_
        refine Ex.seg 2 (pc' := 165) (lc' := [some (.ref 67), some (.int y1), some (.int y2), some (.int y3), none, some (.int y5), some (.long y6), none, some (.int y8), some (.int 2)]) (st' := []) (h' := q12) (sg1 rfl rfl (sg1 rfl rfl rfl)) ?_
        exact Ex.weak (sm_le_s (sm_le_n (sm_le_n (sm_le_s (sm_le_s (sm_le_n (sm_le_n (sm_le_s (sm_le_s (sm_le_s sm_le_nil)))))))))) (B_378_165 hd  hf hs)
theorem B_378_0 {L : Nat} {xs : Nat → Int32} {d : Nat} (hd : 3 ≤ d) {res : Option Value × sm_H} {x1 : Int32} {x2 : Int32} {x3 : Int32} {x4 : Int32}  {h : sm_H} {r : (sm_H)} (hf : F_378_0 x1 x2 x3 x4 h = some r) (hs : (fun (r : sm_H) => res = (none, r)) r) : Ex (P_G L xs) (RUN L xs d) (sm_lk P_t378) 0 0 [some (.ref 67), some (.int x1), some (.int x2), some (.int x3), some (.int x4), none, none, none, none, none] [] h res := by
  unfold F_378_0 at hf
  refine Ex.seg 3 (pc' := 6) (lc' := [some (.ref 67), some (.int x1), some (.int x2), some (.int x3), some (.int x4), some (.int (h.1 67 60)), none, none, none, none]) (st' := []) (h' := h) (sg1 rfl rfl (sg1 rfl rfl (sg1 rfl rfl rfl))) ?_
  obtain ⟨v13, e_v13, hf⟩ := bnd hf
  rw [Option.some.inj e_v13]
  refine Ex.seg 3 (pc' := 12) (lc' := [some (.ref 67), some (.int x1), some (.int x2), some (.int x3), some (.int x4), some (.int v13), some (.long (h.2.1 67 61)), none, none, none]) (st' := []) (h' := h) (sg1 rfl rfl (sg1 rfl rfl (sg1 rfl rfl rfl))) ?_
  obtain ⟨v14, e_v14, hf⟩ := bnd hf
  rw [Option.some.inj e_v14]
  refine Ex.seg 7 (pc' := 22) (lc' := [some (.ref 67), some (.int x1), some (.int x2), some (.int x3), some (.int x4), some (.int v13), some (.long v14), none, none, none]) (st' := [.int ((24 * x2) + 1), .ref 81]) (h' := h) (sg1 rfl rfl (sg1 rfl rfl (sg1 rfl rfl (sg1 rfl rfl (sg1 rfl rfl (sg1 rfl rfl (sg1 rfl rfl rfl))))))) ?_
  obtain ⟨v15, e_v15, hf⟩ := bnd hf
  refine Ex.iald e_v15 rfl rfl ?_
  refine Ex.seg 4 (pc' := 30) (lc' := [some (.ref 67), some (.int x1), some (.int x2), some (.int x3), some (.int x4), some (.int v13), some (.long v14), none, some (.int v15), none]) (st' := [.int x2, .ref 75]) (h' := h) (sg1 rfl rfl (sg1 rfl rfl (sg1 rfl rfl (sg1 rfl rfl rfl)))) ?_
  obtain ⟨v16, e_v16, hf⟩ := bnd hf
  refine Ex.iald e_v16 rfl rfl ?_
  refine Ex.seg 1 (pc' := 33) (lc' := [some (.ref 67), some (.int x1), some (.int x2), some (.int x3), some (.int x4), some (.int v13), some (.long v14), none, some (.int v15), none]) (st' := [.int 15, .int v16]) (h' := h) (sg1 rfl rfl rfl) ?_
  refine Ex.icmp rfl rfl (fun (c0 : ¬ (v16 = 15)) => ?_) (fun (c0 : ¬ ¬ (v16 = 15)) => ?_)
  · rw [if_neg c0] at hf
    exact Ex.weak (sm_le_s (sm_le_s (sm_le_s (sm_le_s (sm_le_n (sm_le_s (sm_le_s (sm_le_s (sm_le_s (sm_le_s sm_le_nil)))))))))) (B_378_93 hd  hf hs)
  · rw [if_pos (Classical.not_not.mp c0)] at hf
    refine Ex.seg 3 (pc' := 41) (lc' := [some (.ref 67), some (.int x1), some (.int x2), some (.int x3), some (.int x4), some (.int v13), some (.long v14), none, some (.int v15), none]) (st' := [.int x1, .ref 104]) (h' := h) (sg1 rfl rfl (sg1 rfl rfl (sg1 rfl rfl rfl))) ?_
    obtain ⟨v17, e_v17, hf⟩ := bnd hf
    refine Ex.iald e_v17 rfl rfl ?_
    refine Ex.seg 1 (pc' := 43) (lc' := [some (.ref 67), some (.int x1), some (.int x2), some (.int x3), some (.int x4), some (.int v13), some (.long v14), none, some (.int v15), none]) (st' := [.int 1, .int v17]) (h' := h) (sg1 rfl rfl rfl) ?_
    refine Ex.icmp rfl rfl (fun (c0 : ¬ (v17 = 1)) => ?_) (fun (c0 : ¬ ¬ (v17 = 1)) => ?_)
    · rw [if_neg c0] at hf
      exact Ex.weak (sm_le_s (sm_le_s (sm_le_s (sm_le_s (sm_le_n (sm_le_s (sm_le_s (sm_le_s (sm_le_s (sm_le_s sm_le_nil)))))))))) (B_378_93 hd  hf hs)
    · rw [if_pos (Classical.not_not.mp c0)] at hf
      refine Ex.seg 5 (pc' := 54) (lc' := [some (.ref 67), some (.int x1), some (.int x2), some (.int x3), some (.int x4), some (.int v13), some (.long v14), none, some (.int v15), none]) (st' := [.int x2, .ref 77, .int v13, .ref 67]) (h' := h) (sg1 rfl rfl (sg1 rfl rfl (sg1 rfl rfl (sg1 rfl rfl (sg1 rfl rfl rfl))))) ?_
      obtain ⟨v18, e_v18, hf⟩ := bnd hf
      refine Ex.iald e_v18 rfl rfl ?_
      obtain ⟨q19, e_q19, hf⟩ := bnd hf
      refine Ex.callV (a := 67) (As := [.int v13, .int v18]) (r := []) (v := some (.int q19.1)) (h' := q19.2) rfl rfl (by decide) rfl (Nat.le_of_ble_eq_true rfl) rfl (E_295 (Nat.le_trans (by decide) hd) e_q19) rfl ?_
      refine Ex.ifc rfl rfl (fun (c0 : q19.1 = 0) => ?_) (fun (c0 : ¬ (q19.1 = 0)) => ?_)
      · rw [if_pos c0] at hf
        exact Ex.weak (sm_le_s (sm_le_s (sm_le_s (sm_le_s (sm_le_n (sm_le_s (sm_le_s (sm_le_s (sm_le_s (sm_le_s sm_le_nil)))))))))) (B_378_93 hd  hf hs)
      · rw [if_neg c0] at hf
        refine Ex.seg 3 (pc' := 66) (lc' := [some (.ref 67), some (.int x1), some (.int x2), some (.int x3), some (.int x4), some (.int v13), some (.long v14), none, some (.int v15), none]) (st' := [.long v14, .int v13, .ref 67]) (h' := q19.2) (sg1 rfl rfl (sg1 rfl rfl (sg1 rfl rfl rfl))) ?_
        obtain ⟨q20, e_q20, hf⟩ := bnd hf
        refine Ex.callV (a := 67) (As := [.int v13, .long v14]) (r := []) (v := none) (h' := q20) rfl rfl (by decide) rfl (Nat.le_of_ble_eq_true rfl) rfl (E_342 (Nat.le_trans (by decide) hd) e_q20) rfl ?_
        refine Ex.seg 5 (pc' := 75) (lc' := [some (.ref 67), some (.int x1), some (.int x2), some (.int x3), some (.int x4), some (.int v13), some (.long v14), none, some (.int v15), none]) (st' := [.int v15, .ref 67, .int x3, .int x3, .ref 67]) (h' := q20) (sg1 rfl rfl (sg1 rfl rfl (sg1 rfl rfl (sg1 rfl rfl (sg1 rfl rfl rfl))))) ?_
        obtain ⟨q21, e_q21, hf⟩ := bnd hf
        refine Ex.callV (a := 67) (As := [.int v15]) (r := [.int x3, .int x3, .ref 67]) (v := some (.int q21.1)) (h' := q21.2) rfl rfl (by decide) rfl (Nat.le_of_ble_eq_true rfl) rfl (E_305 (Nat.le_trans (by decide) hd) e_q21) rfl ?_
        refine Ex.seg 3 (pc' := 81) (lc' := [some (.ref 67), some (.int x1), some (.int x2), some (.int x3), some (.int x4), some (.int v13), some (.long v14), none, some (.int v15), none]) (st' := [.int ((x3 + q21.1) - 1), .int x3, .ref 67]) (h' := q21.2) (sg1 rfl rfl (sg1 rfl rfl (sg1 rfl rfl rfl))) ?_
        obtain ⟨q22, e_q22, hf⟩ := bnd hf
        refine Ex.callV (a := 67) (As := [.int x3, .int ((x3 + q21.1) - 1)]) (r := []) (v := none) (h' := q22) rfl rfl (by decide) rfl (Nat.le_of_ble_eq_true rfl) rfl (E_343 (Nat.le_trans (by decide) hd) e_q22) rfl ?_
        refine Ex.seg 2 (pc' := 87) (lc' := [some (.ref 67), some (.int x1), some (.int x2), some (.int x3), some (.int x4), some (.int v13), some (.long v14), none, some (.int v15), none]) (st' := [.int v15, .ref 67]) (h' := q22) (sg1 rfl rfl (sg1 rfl rfl rfl)) ?_
        obtain ⟨q23, e_q23, hf⟩ := bnd hf
        refine Ex.callV (a := 67) (As := [.int v15]) (r := []) (v := none) (h' := q23) rfl rfl (by decide) rfl (Nat.le_of_ble_eq_true rfl) rfl (E_349 (Nat.le_trans (by decide) hd) e_q23) rfl ?_
        refine Ex.seg 1 (pc' := 199) (lc' := [some (.ref 67), some (.int x1), some (.int x2), some (.int x3), some (.int x4), some (.int v13), some (.long v14), none, some (.int v15), none]) (st' := []) (h' := q23) (sg1 rfl rfl rfl) ?_
        exact Ex.weak (sm_le_n (sm_le_n (sm_le_n (sm_le_n (sm_le_n (sm_le_n (sm_le_n (sm_le_s (sm_le_n (sm_le_s sm_le_nil)))))))))) (B_378_199 hd  hf hs)
theorem E_378 {L : Nat} {xs : Nat → Int32} {d : Nat} (hd : 4 ≤ d) {x1 : Int32} {x2 : Int32} {x3 : Int32} {x4 : Int32} {h : sm_H} {r : sm_H} (hf : F_378 x1 x2 x3 x4 h = some r) : RUN L xs d 378 [.ref 67, .int x1, .int x2, .int x3, .int x4] h (none, r) := by
  obtain ⟨d, rfl⟩ : ∃ e, d = e + 1 := ⟨d - 1, by omega⟩
  exact ⟨Nat.le_of_ble_eq_true rfl, B_378_0 (by omega) hf rfl⟩
theorem B_380_0 {L : Nat} {xs : Nat → Int32} {d : Nat} (hd : 0 ≤ d) {res : Option Value × sm_H} {x1 : Int32}  {h : sm_H} {r : (Int32 × sm_H)} (hf : F_380_0 x1 h = some r) (hs : (fun (r : Int32 × sm_H) => res = (some (.int r.1), r.2)) r) : Ex (P_G L xs) (RUN L xs d) (sm_lk P_t380) 3 0 [some (.ref 67), some (.int x1)] [] h res := by
  unfold F_380_0 at hf
  refine Ex.seg 3 (pc' := 6) (lc' := [some (.ref 67), some (.int x1)]) (st' := [.int 20, .int (h.1 67 1)]) (h' := h) (sg1 rfl rfl (sg1 rfl rfl (sg1 rfl rfl rfl))) ?_
  refine Ex.icmp rfl rfl (fun (c0 : ¬ ((h.1 67 1) = 20)) => ?_) (fun (c0 : ¬ ¬ ((h.1 67 1) = 20)) => ?_)
  · rw [if_neg c0] at hf
    refine Ex.seg 5 (pc' := 20) (lc' := [some (.ref 67), some (.int x1)]) (st' := [.int x1, .int (h.1 67 1), .ref 68]) (h' := h) (sg1 rfl rfl (sg1 rfl rfl (sg1 rfl rfl (sg1 rfl rfl (sg1 rfl rfl rfl))))) ?_
    obtain ⟨h1, e_h1, hf⟩ := bnd hf
    refine Ex.iast e_h1 rfl rfl ?_
    refine Ex.seg 6 (pc' := 31) (lc' := [some (.ref 67), some (.int x1)]) (st' := []) (h' := (sm_wI h1 67 1 ((h1.1 67 1) + 1))) (sg1 rfl rfl (sg1 rfl rfl (sg1 rfl rfl (sg1 rfl rfl (sg1 rfl rfl (sg1 rfl rfl rfl)))))) ?_
    obtain ⟨h2, e_h2, hf⟩ := bnd hf
    rw [Option.some.inj e_h2]
    refine Ex.seg 1 (pc' := 32) (lc' := [some (.ref 67), some (.int x1)]) (st' := [.int 1]) (h' := h2) (sg1 rfl rfl rfl) ?_
    obtain rfl := Option.some.inj hf
    exact Ex.iret rfl rfl (fun _ => by decide) hs
  · rw [if_pos (Classical.not_not.mp c0)] at hf
    refine Ex.seg 1 (pc' := 10) (lc' := [some (.ref 67), some (.int x1)]) (st' := [.int 0]) (h' := h) (sg1 rfl rfl rfl) ?_
    obtain rfl := Option.some.inj hf
    exact Ex.iret rfl rfl (fun _ => by decide) hs
theorem E_380 {L : Nat} {xs : Nat → Int32} {d : Nat} (hd : 1 ≤ d) {x1 : Int32} {h : sm_H} {r : Int32 × sm_H} (hf : F_380 x1 h = some r) : RUN L xs d 380 [.ref 67, .int x1] h (some (.int r.1), r.2) := by
  obtain ⟨d, rfl⟩ : ∃ e, d = e + 1 := ⟨d - 1, by omega⟩
  exact ⟨Nat.le_of_ble_eq_true rfl, B_380_0 (by omega) hf rfl⟩
theorem B_382_93B {L : Nat} {xs : Nat → Int32} {d : Nat} (hd : 2 ≤ d) {res : Option Value × sm_H} {S1 : (Int32 × Int32 × sm_H) → Prop} (hS1 : ∀ s, S1 s → Ex (P_G L xs) (RUN L xs d) (sm_lk P_t382) 0 93 [some (.ref 67), none, some (.int s.1), none, some (.int s.2.1)] [] s.2.2 res) {s : (Int32 × Int32 × sm_H)}  {r : ((Int32 × Int32 × sm_H) ⊕ (Int32 × sm_H))} (hf : F_382_93B s = some r) (hs : (Sum.elim S1 (fun (r : Int32 × sm_H) => res = (some (.int r.1), r.2))) r) : Ex (P_G L xs) (RUN L xs d) (sm_lk P_t382) 0 93 [some (.ref 67), none, some (.int s.1), none, some (.int s.2.1)] [] s.2.2 res := by
  unfold F_382_93B at hf
  refine Ex.seg 2 (pc' := 96) (lc' := [some (.ref 67), none, some (.int s.1), none, some (.int s.2.1)]) (st' := [.int s.1, .int s.2.1]) (h' := s.2.2) (sg1 rfl rfl (sg1 rfl rfl rfl)) ?_
  refine Ex.icmp rfl rfl (fun (c0 : s.1 ≤ s.2.1) => ?_) (fun (c0 : ¬ (s.1 ≤ s.2.1)) => ?_)
  · rw [if_pos c0] at hf
    refine Ex.seg 1 (pc' := 117) (lc' := [some (.ref 67), none, some (.int s.1), none, some (.int s.2.1)]) (st' := [.ref 67]) (h' := s.2.2) (sg1 rfl rfl rfl) ?_
    obtain ⟨q1, e_q1, hf⟩ := bnd hf
    refine Ex.callV (a := 67) (As := []) (r := []) (v := some (.int q1.1)) (h' := q1.2) rfl rfl (by decide) rfl (Nat.le_of_ble_eq_true rfl) rfl (E_302 (Nat.le_trans (by decide) hd) e_q1) rfl ?_
    obtain rfl := Option.some.inj hf
    exact Ex.iret rfl rfl (fun c0 => by cases c0) hs
  · rw [if_neg c0] at hf
    refine Ex.seg 4 (pc' := 106) (lc' := [some (.ref 67), none, some (.int s.1), none, some (.int s.2.1)]) (st' := [.int s.2.1, .ref 68, .ref 67]) (h' := s.2.2) (sg1 rfl rfl (sg1 rfl rfl (sg1 rfl rfl (sg1 rfl rfl rfl)))) ?_
    obtain ⟨v2, e_v2, hf⟩ := bnd hf
    refine Ex.iald e_v2 rfl rfl ?_
    obtain ⟨q3, e_q3, hf⟩ := bnd hf
    refine Ex.callV (a := 67) (As := [.int v2]) (r := []) (v := none) (h' := q3) rfl rfl (by decide) rfl (Nat.le_of_ble_eq_true rfl) rfl (E_309 (Nat.le_trans (by decide) hd) e_q3) rfl ?_
    refine Ex.seg 1 (pc' := 113) (lc' := [some (.ref 67), none, some (.int s.1), none, some (.int (s.2.1 + 1))]) (st' := []) (h' := q3) (sg1 rfl rfl rfl) ?_
    obtain ⟨v4, e_v4, hf⟩ := bnd hf
    rw [Option.some.inj e_v4]
    refine Ex.seg 1 (pc' := 93) (lc' := [some (.ref 67), none, some (.int s.1), none, some (.int v4)]) (st' := []) (h' := q3) (sg1 rfl rfl rfl) ?_
    obtain rfl := Option.some.inj hf
    exact Ex.weak (sm_le_s (sm_le_s (sm_le_s (sm_le_s (sm_le_s sm_le_nil))))) (hS1 _ hs)
theorem B_382_93 {L : Nat} {xs : Nat → Int32} {d : Nat} (hd : 2 ≤ d) {res : Option Value × sm_H} {y2 : Int32} {y4 : Int32}  {h : sm_H} {r : (Int32 × sm_H)} (hf : F_382_93 y2 y4 h = some r) (hs : (fun (r : Int32 × sm_H) => res = (some (.int r.1), r.2)) r) : Ex (P_G L xs) (RUN L xs d) (sm_lk P_t382) 0 93 [some (.ref 67), none, some (.int y2), none, some (.int y4)] [] h res := by
  unfold F_382_93 at hf
  exact lp_ok (P := fun (s : (Int32 × Int32 × sm_H)) => Ex (P_G L xs) (RUN L xs d) (sm_lk P_t382) 0 93 [some (.ref 67), none, some (.int s.1), none, some (.int s.2.1)] [] s.2.2 res) (S := (fun (r : Int32 × sm_H) => res = (some (.int r.1), r.2))) (fun s x hx hsx => by
    intros
    exact B_382_93B hd  (fun _ q => q) hx hsx) 1000000 _ r hf hs
theorem B_382_79 {L : Nat} {xs : Nat → Int32} {d : Nat} (hd : 2 ≤ d) {res : Option Value × sm_H} {y1 : Int32} {y2 : Int32} {y3 : Int32}  {h : sm_H} {r : (Int32 × sm_H)} (hf : F_382_79 y1 y2 y3 h = some r) (hs : (fun (r : Int32 × sm_H) => res = (some (.int r.1), r.2)) r) : Ex (P_G L xs) (RUN L xs d) (sm_lk P_t382) 0 79 [some (.ref 67), some (.int y1), some (.int y2), some (.int y3), none] [] h res := by
  unfold F_382_79 at hf
  refine Ex.seg 1 (pc' := 80) (lc' := [some (.ref 67), some (.int y1), some (.int y2), some (.int y3), none]) (st' := [.int y3]) (h' := h) (sg1 rfl rfl rfl) ?_
  refine Ex.ifc rfl rfl (fun (c0 : ¬ (y3 = 0)) => ?_) (fun (c0 : ¬ ¬ (y3 = 0)) => ?_)
  · rw [if_neg c0] at hf
    refine Ex.seg 2 (pc' := 87) (lc' := [some (.ref 67), some (.int y1), some (.int y2), some (.int y3), none]) (st' := [.int y1, .ref 67]) (h' := h) (sg1 rfl rfl (sg1 rfl rfl rfl)) ?_
    obtain ⟨q5, e_q5, hf⟩ := bnd hf
    refine Ex.callV (a := 67) (As := [.int y1]) (r := []) (v := none) (h' := q5) rfl rfl (by decide) rfl (Nat.le_of_ble_eq_true rfl) rfl (E_308 (Nat.le_trans (by decide) hd) e_q5) rfl ?_
    refine Ex.seg 2 (pc' := 93) (lc' := [some (.ref 67), some (.int y1), some (.int y2), some (.int y3), some (.int 0)]) (st' := []) (h' := q5) (sg1 rfl rfl (sg1 rfl rfl rfl)) ?_
    exact Ex.weak (sm_le_s (sm_le_n (sm_le_s (sm_le_n (sm_le_s sm_le_nil))))) (B_382_93 hd  hf hs)
  · rw [if_pos (Classical.not_not.mp c0)] at hf
    refine Ex.seg 1 (pc' := 84) (lc' := [some (.ref 67), some (.int y1), some (.int y2), some (.int y3), none]) (st' := [.int (-1)]) (h' := h) (sg1 rfl rfl rfl) ?_
    obtain rfl := Option.some.inj hf
    exact Ex.iret rfl rfl (fun c0 => by cases c0) hs
theorem B_382_72 {L : Nat} {xs : Nat → Int32} {d : Nat} (hd : 2 ≤ d) {res : Option Value × sm_H} {S1 : (Int32 × Int32 × Int32 × Int32 × sm_H) → Prop} (hS1 : ∀ s, S1 s → Ex (P_G L xs) (RUN L xs d) (sm_lk P_t382) 0 33 [some (.ref 67), some (.int s.1), some (.int s.2.1), some (.int s.2.2.1), some (.int s.2.2.2.1)] [] s.2.2.2.2 res) {y1 : Int32} {y2 : Int32} {y4 : Int32} {z0 : Int32}  {h : sm_H} {r : ((Int32 × Int32 × Int32 × Int32 × sm_H) ⊕ (Int32 × sm_H))} (hf : F_382_72 y1 y2 y4 z0 h = some r) (hs : (Sum.elim S1 (fun (r : Int32 × sm_H) => res = (some (.int r.1), r.2))) r) : Ex (P_G L xs) (RUN L xs d) (sm_lk P_t382) 0 72 [some (.ref 67), some (.int y1), some (.int y2), none, some (.int y4)] [.int z0] h res := by
  unfold F_382_72 at hf
  refine Ex.seg 2 (pc' := 76) (lc' := [some (.ref 67), some (.int y1), some (.int y2), some (.int z0), some (.int (y4 + 1))]) (st' := []) (h' := h) (sg1 rfl rfl (sg1 rfl rfl rfl)) ?_
  obtain ⟨v6, e_v6, hf⟩ := bnd hf
  rw [Option.some.inj e_v6]
  refine Ex.seg 1 (pc' := 33) (lc' := [some (.ref 67), some (.int y1), some (.int y2), some (.int z0), some (.int v6)]) (st' := []) (h' := h) (sg1 rfl rfl rfl) ?_
  obtain rfl := Option.some.inj hf
  exact Ex.weak (sm_le_s (sm_le_s (sm_le_s (sm_le_s (sm_le_s sm_le_nil))))) (hS1 _ hs)
theorem B_382_71 {L : Nat} {xs : Nat → Int32} {d : Nat} (hd : 2 ≤ d) {res : Option Value × sm_H} {S1 : (Int32 × Int32 × Int32 × Int32 × sm_H) → Prop} (hS1 : ∀ s, S1 s → Ex (P_G L xs) (RUN L xs d) (sm_lk P_t382) 0 33 [some (.ref 67), some (.int s.1), some (.int s.2.1), some (.int s.2.2.1), some (.int s.2.2.2.1)] [] s.2.2.2.2 res) {y1 : Int32} {y2 : Int32} {y4 : Int32}  {h : sm_H} {r : ((Int32 × Int32 × Int32 × Int32 × sm_H) ⊕ (Int32 × sm_H))} (hf : F_382_71 y1 y2 y4 h = some r) (hs : (Sum.elim S1 (fun (r : Int32 × sm_H) => res = (some (.int r.1), r.2))) r) : Ex (P_G L xs) (RUN L xs d) (sm_lk P_t382) 0 71 [some (.ref 67), some (.int y1), some (.int y2), none, some (.int y4)] [] h res := by
  unfold F_382_71 at hf
  refine Ex.seg 1 (pc' := 72) (lc' := [some (.ref 67), some (.int y1), some (.int y2), none, some (.int y4)]) (st' := [.int 0]) (h' := h) (sg1 rfl rfl rfl) ?_
  exact Ex.weak (sm_le_s (sm_le_s (sm_le_s (sm_le_s (sm_le_s sm_le_nil))))) (B_382_72 hd hS1 hf hs)
theorem B_382_33B {L : Nat} {xs : Nat → Int32} {d : Nat} (hd : 2 ≤ d) {res : Option Value × sm_H} {S1 : (Int32 × Int32 × Int32 × Int32 × sm_H) → Prop} (hS1 : ∀ s, S1 s → Ex (P_G L xs) (RUN L xs d) (sm_lk P_t382) 0 33 [some (.ref 67), some (.int s.1), some (.int s.2.1), some (.int s.2.2.1), some (.int s.2.2.2.1)] [] s.2.2.2.2 res) {s : (Int32 × Int32 × Int32 × Int32 × sm_H)}  {r : ((Int32 × Int32 × Int32 × Int32 × sm_H) ⊕ (Int32 × sm_H))} (hf : F_382_33B s = some r) (hs : (Sum.elim S1 (fun (r : Int32 × sm_H) => res = (some (.int r.1), r.2))) r) : Ex (P_G L xs) (RUN L xs d) (sm_lk P_t382) 0 33 [some (.ref 67), some (.int s.1), some (.int s.2.1), some (.int s.2.2.1), some (.int s.2.2.2.1)] [] s.2.2.2.2 res := by
  unfold F_382_33B at hf
  refine Ex.seg 2 (pc' := 36) (lc' := [some (.ref 67), some (.int s.1), some (.int s.2.1), some (.int s.2.2.1), some (.int s.2.2.2.1)]) (st' := [.int s.2.1, .int s.2.2.2.1]) (h' := s.2.2.2.2) (sg1 rfl rfl (sg1 rfl rfl rfl)) ?_
  refine Ex.icmp rfl rfl (fun (c0 : s.2.1 ≤ s.2.2.2.1) => ?_) (fun (c0 : ¬ (s.2.1 ≤ s.2.2.2.1)) => ?_)
  · rw [if_pos c0] at hf
    obtain ⟨r0, hf0, rfl⟩ := Option.map_eq_some_iff.mp hf
    exact Ex.weak (sm_le_s (sm_le_s (sm_le_s (sm_le_s (sm_le_n sm_le_nil))))) (B_382_79 hd  hf0 hs)
  · rw [if_neg c0] at hf
    refine Ex.seg 1 (pc' := 40) (lc' := [some (.ref 67), some (.int s.1), some (.int s.2.1), some (.int s.2.2.1), some (.int s.2.2.2.1)]) (st' := [.int s.2.2.1]) (h' := s.2.2.2.2) (sg1 rfl rfl rfl) ?_
    refine Ex.ifc rfl rfl (fun (c0 : s.2.2.1 = 0) => ?_) (fun (c0 : ¬ (s.2.2.1 = 0)) => ?_)
    · rw [if_pos c0] at hf
      obtain ⟨r0, hf0, rfl⟩ := Option.map_eq_some_iff.mp hf
      exact Ex.weak (sm_le_s (sm_le_s (sm_le_s (sm_le_s (sm_le_n sm_le_nil))))) (B_382_79 hd  hf0 hs)
    · rw [if_neg c0] at hf
      refine Ex.seg 4 (pc' := 50) (lc' := [some (.ref 67), some (.int s.1), some (.int s.2.1), some (.int s.2.2.1), some (.int s.2.2.2.1)]) (st' := [.int s.2.2.2.1, .ref 68, .ref 67]) (h' := s.2.2.2.2) (sg1 rfl rfl (sg1 rfl rfl (sg1 rfl rfl (sg1 rfl rfl rfl)))) ?_
      obtain ⟨v7, e_v7, hf⟩ := bnd hf
      refine Ex.iald e_v7 rfl rfl ?_
      obtain ⟨q8, e_q8, hf⟩ := bnd hf
      refine Ex.callV (a := 67) (As := [.int v7]) (r := []) (v := some (.int q8.1)) (h' := q8.2) rfl rfl (by decide) rfl (Nat.le_of_ble_eq_true rfl) rfl (E_289 (Nat.le_trans (by decide) hd) e_q8) rfl ?_
      refine Ex.ifc rfl rfl (fun (c0 : q8.1 = 0) => ?_) (fun (c0 : ¬ (q8.1 = 0)) => ?_)
      · rw [if_pos c0] at hf
        exact Ex.weak (sm_le_s (sm_le_s (sm_le_s (sm_le_n (sm_le_s sm_le_nil))))) (B_382_71 hd hS1 hf hs)
      · rw [if_neg c0] at hf
        refine Ex.seg 3 (pc' := 63) (lc' := [some (.ref 67), some (.int s.1), some (.int s.2.1), some (.int s.2.2.1), some (.int s.2.2.2.1)]) (st' := [.int s.2.2.2.1, .ref 68]) (h' := q8.2) (sg1 rfl rfl (sg1 rfl rfl (sg1 rfl rfl rfl))) ?_
        obtain ⟨v9, e_v9, hf⟩ := bnd hf
        refine Ex.iald e_v9 rfl rfl ?_
        refine Ex.ifc rfl rfl (fun (c0 : v9 = 0) => ?_) (fun (c0 : ¬ (v9 = 0)) => ?_)
        · rw [if_pos c0] at hf
          exact Ex.weak (sm_le_s (sm_le_s (sm_le_s (sm_le_n (sm_le_s sm_le_nil))))) (B_382_71 hd hS1 hf hs)
        · rw [if_neg c0] at hf
          refine Ex.seg 2 (pc' := 72) (lc' := [some (.ref 67), some (.int s.1), some (.int s.2.1), some (.int s.2.2.1), some (.int s.2.2.2.1)]) (st' := [.int 1]) (h' := q8.2) (sg1 rfl rfl (sg1 rfl rfl rfl)) ?_
          exact Ex.weak (sm_le_s (sm_le_s (sm_le_s (sm_le_n (sm_le_s sm_le_nil))))) (B_382_72 hd hS1 hf hs)
theorem B_382_33 {L : Nat} {xs : Nat → Int32} {d : Nat} (hd : 2 ≤ d) {res : Option Value × sm_H} {y1 : Int32} {y2 : Int32} {y3 : Int32} {y4 : Int32}  {h : sm_H} {r : (Int32 × sm_H)} (hf : F_382_33 y1 y2 y3 y4 h = some r) (hs : (fun (r : Int32 × sm_H) => res = (some (.int r.1), r.2)) r) : Ex (P_G L xs) (RUN L xs d) (sm_lk P_t382) 0 33 [some (.ref 67), some (.int y1), some (.int y2), some (.int y3), some (.int y4)] [] h res := by
  unfold F_382_33 at hf
  exact lp_ok (P := fun (s : (Int32 × Int32 × Int32 × Int32 × sm_H)) => Ex (P_G L xs) (RUN L xs d) (sm_lk P_t382) 0 33 [some (.ref 67), some (.int s.1), some (.int s.2.1), some (.int s.2.2.1), some (.int s.2.2.2.1)] [] s.2.2.2.2 res) (S := (fun (r : Int32 × sm_H) => res = (some (.int r.1), r.2))) (fun s x hx hsx => by
    intros
    exact B_382_33B hd  (fun _ q => q) hx hsx) 1000000 _ r hf hs
theorem B_382_29 {L : Nat} {xs : Nat → Int32} {d : Nat} (hd : 2 ≤ d) {res : Option Value × sm_H} {y1 : Int32} {y2 : Int32} {z0 : Int32}  {h : sm_H} {r : (Int32 × sm_H)} (hf : F_382_29 y1 y2 z0 h = some r) (hs : (fun (r : Int32 × sm_H) => res = (some (.int r.1), r.2)) r) : Ex (P_G L xs) (RUN L xs d) (sm_lk P_t382) 0 29 [some (.ref 67), some (.int y1), some (.int y2), none, none] [.int z0] h res := by
  unfold F_382_29 at hf
  refine Ex.seg 3 (pc' := 33) (lc' := [some (.ref 67), some (.int y1), some (.int y2), some (.int z0), some (.int 0)]) (st' := []) (h' := h) (sg1 rfl rfl (sg1 rfl rfl (sg1 rfl rfl rfl))) ?_
  exact Ex.weak (sm_le_s (sm_le_s (sm_le_s (sm_le_s (sm_le_s sm_le_nil))))) (B_382_33 hd  hf hs)
theorem B_382_28 {L : Nat} {xs : Nat → Int32} {d : Nat} (hd : 2 ≤ d) {res : Option Value × sm_H} {y1 : Int32} {y2 : Int32}  {h : sm_H} {r : (Int32 × sm_H)} (hf : F_382_28 y1 y2 h = some r) (hs : (fun (r : Int32 × sm_H) => res = (some (.int r.1), r.2)) r) : Ex (P_G L xs) (RUN L xs d) (sm_lk P_t382) 0 28 [some (.ref 67), some (.int y1), some (.int y2), none, none] [] h res := by
  unfold F_382_28 at hf
  refine Ex.seg 1 (pc' := 29) (lc' := [some (.ref 67), some (.int y1), some (.int y2), none, none]) (st' := [.int 0]) (h' := h) (sg1 rfl rfl rfl) ?_
  exact Ex.weak (sm_le_s (sm_le_s (sm_le_s (sm_le_s (sm_le_s sm_le_nil))))) (B_382_29 hd  hf hs)
theorem B_382_0 {L : Nat} {xs : Nat → Int32} {d : Nat} (hd : 2 ≤ d) {res : Option Value × sm_H} {x1 : Int32}  {h : sm_H} {r : (Int32 × sm_H)} (hf : F_382_0 x1 h = some r) (hs : (fun (r : Int32 × sm_H) => res = (some (.int r.1), r.2)) r) : Ex (P_G L xs) (RUN L xs d) (sm_lk P_t382) 0 0 [some (.ref 67), some (.int x1), none, none, none] [] h res := by
  unfold F_382_0 at hf
  refine Ex.seg 3 (pc' := 5) (lc' := [some (.ref 67), some (.int x1), some (.int (h.1 67 1)), none, none]) (st' := []) (h' := h) (sg1 rfl rfl (sg1 rfl rfl (sg1 rfl rfl rfl))) ?_
  obtain ⟨v10, e_v10, hf⟩ := bnd hf
  rw [Option.some.inj e_v10]
  refine Ex.seg 3 (pc' := 10) (lc' := [some (.ref 67), some (.int x1), some (.int v10), none, none]) (st' := []) (h' := (sm_wI h 67 1 0)) (sg1 rfl rfl (sg1 rfl rfl (sg1 rfl rfl rfl))) ?_
  obtain ⟨h11, e_h11, hf⟩ := bnd hf
  rw [Option.some.inj e_h11]
  refine Ex.seg 2 (pc' := 12) (lc' := [some (.ref 67), some (.int x1), some (.int v10), none, none]) (st' := [.int x1, .ref 67]) (h' := h11) (sg1 rfl rfl (sg1 rfl rfl rfl)) ?_
  obtain ⟨q12, e_q12, hf⟩ := bnd hf
  refine Ex.callV (a := 67) (As := [.int x1]) (r := []) (v := some (.int q12.1)) (h' := q12.2) rfl rfl (by decide) rfl (Nat.le_of_ble_eq_true rfl) rfl (E_289 (Nat.le_trans (by decide) hd) e_q12) rfl ?_
  refine Ex.ifc rfl rfl (fun (c0 : q12.1 = 0) => ?_) (fun (c0 : ¬ (q12.1 = 0)) => ?_)
  · rw [if_pos c0] at hf
    exact Ex.weak (sm_le_s (sm_le_s (sm_le_s (sm_le_s (sm_le_s sm_le_nil))))) (B_382_28 hd  hf hs)
  · rw [if_neg c0] at hf
    refine Ex.seg 2 (pc' := 21) (lc' := [some (.ref 67), some (.int x1), some (.int v10), none, none]) (st' := [.int 10, .int v10]) (h' := q12.2) (sg1 rfl rfl (sg1 rfl rfl rfl)) ?_
    refine Ex.icmp rfl rfl (fun (c0 : 10 < v10) => ?_) (fun (c0 : ¬ (10 < v10)) => ?_)
    · rw [if_pos c0] at hf
      exact Ex.weak (sm_le_s (sm_le_s (sm_le_s (sm_le_s (sm_le_s sm_le_nil))))) (B_382_28 hd  hf hs)
    · rw [if_neg c0] at hf
      refine Ex.seg 2 (pc' := 29) (lc' := [some (.ref 67), some (.int x1), some (.int v10), none, none]) (st' := [.int 1]) (h' := q12.2) (sg1 rfl rfl (sg1 rfl rfl rfl)) ?_
      exact Ex.weak (sm_le_s (sm_le_s (sm_le_s (sm_le_s (sm_le_s sm_le_nil))))) (B_382_29 hd  hf hs)
theorem E_382 {L : Nat} {xs : Nat → Int32} {d : Nat} (hd : 3 ≤ d) {x1 : Int32} {h : sm_H} {r : Int32 × sm_H} (hf : F_382 x1 h = some r) : RUN L xs d 382 [.ref 67, .int x1] h (some (.int r.1), r.2) := by
  obtain ⟨d, rfl⟩ : ∃ e, d = e + 1 := ⟨d - 1, by omega⟩
  exact ⟨Nat.le_of_ble_eq_true rfl, B_382_0 (by omega) hf rfl⟩
theorem B_383_64 {L : Nat} {xs : Nat → Int32} {d : Nat} (hd : 1 ≤ d) {res : Option Value × sm_H} {z0 : Int32}  {h : sm_H} {r : (Int32 × sm_H)} (hf : F_383_64 z0 h = some r) (hs : (fun (r : Int32 × sm_H) => res = (some (.int r.1), r.2)) r) : Ex (P_G L xs) (RUN L xs d) (sm_lk P_t383) 0 64 [none, none, none] [.int z0] h res := by
  unfold F_383_64 at hf
  obtain rfl := Option.some.inj hf
  exact Ex.iret rfl rfl (fun c0 => by cases c0) hs
theorem B_383_63 {L : Nat} {xs : Nat → Int32} {d : Nat} (hd : 1 ≤ d) {res : Option Value × sm_H}   {h : sm_H} {r : (Int32 × sm_H)} (hf : F_383_63  h = some r) (hs : (fun (r : Int32 × sm_H) => res = (some (.int r.1), r.2)) r) : Ex (P_G L xs) (RUN L xs d) (sm_lk P_t383) 0 63 [none, none, none] [] h res := by
  unfold F_383_63 at hf
  refine Ex.seg 1 (pc' := 64) (lc' := [none, none, none]) (st' := [.int (-1)]) (h' := h) (sg1 rfl rfl rfl) ?_
  exact Ex.weak (sm_le_s (sm_le_s (sm_le_s sm_le_nil))) (B_383_64 hd  hf hs)
theorem B_383_0 {L : Nat} {xs : Nat → Int32} {d : Nat} (hd : 1 ≤ d) {res : Option Value × sm_H} {x1 : Int32} {x2 : Int32}  {h : sm_H} {r : (Int32 × sm_H)} (hf : F_383_0 x1 x2 h = some r) (hs : (fun (r : Int32 × sm_H) => res = (some (.int r.1), r.2)) r) : Ex (P_G L xs) (RUN L xs d) (sm_lk P_t383) 0 0 [some (.ref 67), some (.int x1), some (.int x2)] [] h res := by
  unfold F_383_0 at hf
  refine Ex.seg 2 (pc' := 2) (lc' := [some (.ref 67), some (.int x1), some (.int x2)]) (st' := [.int x1, .ref 67]) (h' := h) (sg1 rfl rfl (sg1 rfl rfl rfl)) ?_
  obtain ⟨q1, e_q1, hf⟩ := bnd hf
  refine Ex.callV (a := 67) (As := [.int x1]) (r := []) (v := some (.int q1.1)) (h' := q1.2) rfl rfl (by decide) rfl (Nat.le_of_ble_eq_true rfl) rfl (E_303 (Nat.le_trans (by decide) hd) e_q1) rfl ?_
  refine Ex.ifc rfl rfl (fun (c0 : ¬ (q1.1 = 0)) => ?_) (fun (c0 : ¬ ¬ (q1.1 = 0)) => ?_)
  · rw [if_neg c0] at hf
    refine Ex.seg 2 (pc' := 12) (lc' := [some (.ref 67), some (.int x1), some (.int x2)]) (st' := [.int (-1), .int x2]) (h' := q1.2) (sg1 rfl rfl (sg1 rfl rfl rfl)) ?_
    refine Ex.icmp rfl rfl (fun (c0 : ¬ (x2 = (-1))) => ?_) (fun (c0 : ¬ ¬ (x2 = (-1))) => ?_)
    · rw [if_neg c0] at hf
      refine Ex.seg 2 (pc' := 25) (lc' := [some (.ref 67), some (.int x1), some (.int x2)]) (st' := [.int (-2), .int x2]) (h' := q1.2) (sg1 rfl rfl (sg1 rfl rfl rfl)) ?_
      refine Ex.icmp rfl rfl (fun (c0 : ¬ (x2 = (-2))) => ?_) (fun (c0 : ¬ ¬ (x2 = (-2))) => ?_)
      · rw [if_neg c0] at hf
        refine Ex.seg 1 (pc' := 36) (lc' := [some (.ref 67), some (.int x1), some (.int x2)]) (st' := [.int x2]) (h' := q1.2) (sg1 rfl rfl rfl) ?_
        refine Ex.ifc rfl rfl (fun (c0 : x2 < 0) => ?_) (fun (c0 : ¬ (x2 < 0)) => ?_)
        · rw [if_pos c0] at hf
          exact Ex.weak (sm_le_n (sm_le_n (sm_le_n sm_le_nil))) (B_383_63 hd  hf hs)
        · rw [if_neg c0] at hf
          refine Ex.seg 4 (pc' := 45) (lc' := [some (.ref 67), some (.int x1), some (.int x2)]) (st' := [.int x1, .ref 73, .int x2]) (h' := q1.2) (sg1 rfl rfl (sg1 rfl rfl (sg1 rfl rfl (sg1 rfl rfl rfl)))) ?_
          obtain ⟨v2, e_v2, hf⟩ := bnd hf
          refine Ex.iald e_v2 rfl rfl ?_
          refine Ex.icmp rfl rfl (fun (c0 : v2 ≤ x2) => ?_) (fun (c0 : ¬ (v2 ≤ x2)) => ?_)
          · rw [if_pos c0] at hf
            exact Ex.weak (sm_le_n (sm_le_n (sm_le_n sm_le_nil))) (B_383_63 hd  hf hs)
          · rw [if_neg c0] at hf
            refine Ex.seg 7 (pc' := 59) (lc' := [some (.ref 67), some (.int x1), some (.int x2)]) (st' := [.int ((10 * x1) + x2), .ref 74]) (h' := q1.2) (sg1 rfl rfl (sg1 rfl rfl (sg1 rfl rfl (sg1 rfl rfl (sg1 rfl rfl (sg1 rfl rfl (sg1 rfl rfl rfl))))))) ?_
            obtain ⟨v3, e_v3, hf⟩ := bnd hf
            refine Ex.iald e_v3 rfl rfl ?_
            refine Ex.seg 1 (pc' := 64) (lc' := [some (.ref 67), some (.int x1), some (.int x2)]) (st' := [.int v3]) (h' := q1.2) (sg1 rfl rfl rfl) ?_
            exact Ex.weak (sm_le_n (sm_le_n (sm_le_n sm_le_nil))) (B_383_64 hd  hf hs)
      · rw [if_pos (Classical.not_not.mp c0)] at hf
        refine Ex.seg 3 (pc' := 33) (lc' := [some (.ref 67), some (.int x1), some (.int x2)]) (st' := [.int x1, .ref 73]) (h' := q1.2) (sg1 rfl rfl (sg1 rfl rfl (sg1 rfl rfl rfl))) ?_
        obtain ⟨v4, e_v4, hf⟩ := bnd hf
        refine Ex.iald e_v4 rfl rfl ?_
        obtain rfl := Option.some.inj hf
        exact Ex.iret rfl rfl (fun c0 => by cases c0) hs
    · rw [if_pos (Classical.not_not.mp c0)] at hf
      refine Ex.seg 3 (pc' := 20) (lc' := [some (.ref 67), some (.int x1), some (.int x2)]) (st' := [.int x1, .ref 72]) (h' := q1.2) (sg1 rfl rfl (sg1 rfl rfl (sg1 rfl rfl rfl))) ?_
      obtain ⟨v5, e_v5, hf⟩ := bnd hf
      refine Ex.iald e_v5 rfl rfl ?_
      obtain rfl := Option.some.inj hf
      exact Ex.iret rfl rfl (fun c0 => by cases c0) hs
  · rw [if_pos (Classical.not_not.mp c0)] at hf
    refine Ex.seg 1 (pc' := 9) (lc' := [some (.ref 67), some (.int x1), some (.int x2)]) (st' := [.int (-1)]) (h' := q1.2) (sg1 rfl rfl rfl) ?_
    obtain rfl := Option.some.inj hf
    exact Ex.iret rfl rfl (fun c0 => by cases c0) hs
theorem E_383 {L : Nat} {xs : Nat → Int32} {d : Nat} (hd : 2 ≤ d) {x1 : Int32} {x2 : Int32} {h : sm_H} {r : Int32 × sm_H} (hf : F_383 x1 x2 h = some r) : RUN L xs d 383 [.ref 67, .int x1, .int x2] h (some (.int r.1), r.2) := by
  obtain ⟨d, rfl⟩ : ∃ e, d = e + 1 := ⟨d - 1, by omega⟩
  exact ⟨Nat.le_of_ble_eq_true rfl, B_383_0 (by omega) hf rfl⟩
theorem B_384_11B {L : Nat} {xs : Nat → Int32} {d : Nat} (hd : 7 ≤ d) {res : Option Value × sm_H} {S1 : (Int32 × Int32 × Int32 × Int64 × Int32 × sm_H) → Prop} (hS1 : ∀ s, S1 s → Ex (P_G L xs) (RUN L xs d) (sm_lk P_t384) 0 11 [some (.ref 67), some (.int s.1), some (.int s.2.1), some (.int s.2.2.1), some (.long s.2.2.2.1), none, some (.int s.2.2.2.2.1)] [] s.2.2.2.2.2 res) {s : (Int32 × Int32 × Int32 × Int64 × Int32 × sm_H)}  {r : ((Int32 × Int32 × Int32 × Int64 × Int32 × sm_H) ⊕ (Int32 × sm_H))} (hf : F_384_11B s = some r) (hs : (Sum.elim S1 (fun (r : Int32 × sm_H) => res = (some (.int r.1), r.2))) r) : Ex (P_G L xs) (RUN L xs d) (sm_lk P_t384) 0 11 [some (.ref 67), some (.int s.1), some (.int s.2.1), some (.int s.2.2.1), some (.long s.2.2.2.1), none, some (.int s.2.2.2.2.1)] [] s.2.2.2.2.2 res := by
  unfold F_384_11B at hf
  refine Ex.seg 3 (pc' := 17) (lc' := [some (.ref 67), some (.int s.1), some (.int s.2.1), some (.int s.2.2.1), some (.long s.2.2.2.1), none, some (.int s.2.2.2.2.1)]) (st' := [.int (s.2.2.2.2.2.1 67 3), .int s.2.2.2.2.1]) (h' := s.2.2.2.2.2) (sg1 rfl rfl (sg1 rfl rfl (sg1 rfl rfl rfl))) ?_
  refine Ex.icmp rfl rfl (fun (c0 : (s.2.2.2.2.2.1 67 3) ≤ s.2.2.2.2.1) => ?_) (fun (c0 : ¬ ((s.2.2.2.2.2.1 67 3) ≤ s.2.2.2.2.1)) => ?_)
  · rw [if_pos c0] at hf
    refine Ex.seg 3 (pc' := 45) (lc' := [some (.ref 67), some (.int s.1), some (.int s.2.1), some (.int s.2.2.1), some (.long s.2.2.2.1), none, some (.int s.2.2.2.2.1)]) (st' := []) (h' := (sm_wI s.2.2.2.2.2 67 1 0)) (sg1 rfl rfl (sg1 rfl rfl (sg1 rfl rfl rfl))) ?_
    obtain ⟨h1, e_h1, hf⟩ := bnd hf
    rw [Option.some.inj e_h1]
    refine Ex.seg 5 (pc' := 51) (lc' := [some (.ref 67), some (.int s.1), some (.int s.2.1), some (.int s.2.2.1), some (.long s.2.2.2.1), none, some (.int s.2.2.2.2.1)]) (st' := [.long s.2.2.2.1, .int s.2.2.1, .int s.2.1, .int s.1, .ref 67]) (h' := h1) (sg1 rfl rfl (sg1 rfl rfl (sg1 rfl rfl (sg1 rfl rfl (sg1 rfl rfl rfl))))) ?_
    obtain ⟨q2, e_q2, hf⟩ := bnd hf
    refine Ex.callV (a := 67) (As := [.int s.1, .int s.2.1, .int s.2.2.1, .long s.2.2.2.1]) (r := []) (v := some (.int q2.1)) (h' := q2.2) rfl rfl (by decide) rfl (Nat.le_of_ble_eq_true rfl) rfl (E_341 (Nat.le_trans (by decide) hd) e_q2) rfl ?_
    obtain rfl := Option.some.inj hf
    exact Ex.iret rfl rfl (fun c0 => by cases c0) hs
  · rw [if_neg c0] at hf
    refine Ex.seg 6 (pc' := 32) (lc' := [some (.ref 67), some (.int s.1), some (.int s.2.1), some (.int s.2.2.1), some (.long s.2.2.2.1), none, some (.int s.2.2.2.2.1)]) (st' := [.int s.2.2.2.2.1, .ref 68, .int s.2.2.2.2.1, .ref 69]) (h' := s.2.2.2.2.2) (sg1 rfl rfl (sg1 rfl rfl (sg1 rfl rfl (sg1 rfl rfl (sg1 rfl rfl (sg1 rfl rfl rfl)))))) ?_
    obtain ⟨v3, e_v3, hf⟩ := bnd hf
    refine Ex.iald e_v3 rfl rfl ?_
    obtain ⟨h4, e_h4, hf⟩ := bnd hf
    refine Ex.iast e_h4 rfl rfl ?_
    refine Ex.seg 1 (pc' := 37) (lc' := [some (.ref 67), some (.int s.1), some (.int s.2.1), some (.int s.2.2.1), some (.long s.2.2.2.1), none, some (.int (s.2.2.2.2.1 + 1))]) (st' := []) (h' := h4) (sg1 rfl rfl rfl) ?_
    obtain ⟨v5, e_v5, hf⟩ := bnd hf
    rw [Option.some.inj e_v5]
    refine Ex.seg 1 (pc' := 11) (lc' := [some (.ref 67), some (.int s.1), some (.int s.2.1), some (.int s.2.2.1), some (.long s.2.2.2.1), none, some (.int v5)]) (st' := []) (h' := h4) (sg1 rfl rfl rfl) ?_
    obtain rfl := Option.some.inj hf
    exact Ex.weak (sm_le_s (sm_le_s (sm_le_s (sm_le_s (sm_le_s (sm_le_s (sm_le_s sm_le_nil))))))) (hS1 _ hs)
theorem B_384_11 {L : Nat} {xs : Nat → Int32} {d : Nat} (hd : 7 ≤ d) {res : Option Value × sm_H} {y1 : Int32} {y2 : Int32} {y3 : Int32} {y4 : Int64} {y6 : Int32}  {h : sm_H} {r : (Int32 × sm_H)} (hf : F_384_11 y1 y2 y3 y4 y6 h = some r) (hs : (fun (r : Int32 × sm_H) => res = (some (.int r.1), r.2)) r) : Ex (P_G L xs) (RUN L xs d) (sm_lk P_t384) 0 11 [some (.ref 67), some (.int y1), some (.int y2), some (.int y3), some (.long y4), none, some (.int y6)] [] h res := by
  unfold F_384_11 at hf
  exact lp_ok (P := fun (s : (Int32 × Int32 × Int32 × Int64 × Int32 × sm_H)) => Ex (P_G L xs) (RUN L xs d) (sm_lk P_t384) 0 11 [some (.ref 67), some (.int s.1), some (.int s.2.1), some (.int s.2.2.1), some (.long s.2.2.2.1), none, some (.int s.2.2.2.2.1)] [] s.2.2.2.2.2 res) (S := (fun (r : Int32 × sm_H) => res = (some (.int r.1), r.2))) (fun s x hx hsx => by
    intros
    exact B_384_11B hd  (fun _ q => q) hx hsx) 1000000 _ r hf hs
theorem B_384_0 {L : Nat} {xs : Nat → Int32} {d : Nat} (hd : 7 ≤ d) {res : Option Value × sm_H} {x1 : Int32} {x2 : Int32} {x3 : Int32} {x4 : Int64}  {h : sm_H} {r : (Int32 × sm_H)} (hf : F_384_0 x1 x2 x3 x4 h = some r) (hs : (fun (r : Int32 × sm_H) => res = (some (.int r.1), r.2)) r) : Ex (P_G L xs) (RUN L xs d) (sm_lk P_t384) 0 0 [some (.ref 67), some (.int x1), some (.int x2), some (.int x3), some (.long x4), none, none] [] h res := by
  unfold F_384_0 at hf
  refine Ex.seg 4 (pc' := 8) (lc' := [some (.ref 67), some (.int x1), some (.int x2), some (.int x3), some (.long x4), none, none]) (st' := []) (h' := (sm_wI h 67 3 (h.1 67 1))) (sg1 rfl rfl (sg1 rfl rfl (sg1 rfl rfl (sg1 rfl rfl rfl)))) ?_
  obtain ⟨h6, e_h6, hf⟩ := bnd hf
  rw [Option.some.inj e_h6]
  refine Ex.seg 2 (pc' := 11) (lc' := [some (.ref 67), some (.int x1), some (.int x2), some (.int x3), some (.long x4), none, some (.int 0)]) (st' := []) (h' := h6) (sg1 rfl rfl (sg1 rfl rfl rfl)) ?_
  exact Ex.weak (sm_le_s (sm_le_s (sm_le_s (sm_le_s (sm_le_s (sm_le_s (sm_le_s sm_le_nil))))))) (B_384_11 hd  hf hs)
theorem E_384 {L : Nat} {xs : Nat → Int32} {d : Nat} (hd : 8 ≤ d) {x1 : Int32} {x2 : Int32} {x3 : Int32} {x4 : Int64} {h : sm_H} {r : Int32 × sm_H} (hf : F_384 x1 x2 x3 x4 h = some r) : RUN L xs d 384 [.ref 67, .int x1, .int x2, .int x3, .long x4] h (some (.int r.1), r.2) := by
  obtain ⟨d, rfl⟩ : ∃ e, d = e + 1 := ⟨d - 1, by omega⟩
  exact ⟨Nat.le_of_ble_eq_true rfl, B_384_0 (by omega) hf rfl⟩
theorem B_385_113 {L : Nat} {xs : Nat → Int32} {d : Nat} (hd : 1 ≤ d) {res : Option Value × sm_H} {z0 : Int32}  {h : sm_H} {r : (Int32 × sm_H)} (hf : F_385_113 z0 h = some r) (hs : (fun (r : Int32 × sm_H) => res = (some (.int r.1), r.2)) r) : Ex (P_G L xs) (RUN L xs d) (sm_lk P_t385) 0 113 [none, none, none] [.int z0] h res := by
  unfold F_385_113 at hf
  obtain rfl := Option.some.inj hf
  exact Ex.iret rfl rfl (fun c0 => by cases c0) hs
theorem B_385_112 {L : Nat} {xs : Nat → Int32} {d : Nat} (hd : 1 ≤ d) {res : Option Value × sm_H}   {h : sm_H} {r : (Int32 × sm_H)} (hf : F_385_112  h = some r) (hs : (fun (r : Int32 × sm_H) => res = (some (.int r.1), r.2)) r) : Ex (P_G L xs) (RUN L xs d) (sm_lk P_t385) 0 112 [none, none, none] [] h res := by
  unfold F_385_112 at hf
  refine Ex.seg 1 (pc' := 113) (lc' := [none, none, none]) (st' := [.int (-1)]) (h' := h) (sg1 rfl rfl rfl) ?_
  exact Ex.weak (sm_le_s (sm_le_s (sm_le_s sm_le_nil))) (B_385_113 hd  hf hs)
theorem B_385_0 {L : Nat} {xs : Nat → Int32} {d : Nat} (hd : 1 ≤ d) {res : Option Value × sm_H} {x1 : Int32} {x2 : Int32}  {h : sm_H} {r : (Int32 × sm_H)} (hf : F_385_0 x1 x2 h = some r) (hs : (fun (r : Int32 × sm_H) => res = (some (.int r.1), r.2)) r) : Ex (P_G L xs) (RUN L xs d) (sm_lk P_t385) 0 0 [some (.ref 67), some (.int x1), some (.int x2)] [] h res := by
  unfold F_385_0 at hf
  refine Ex.seg 2 (pc' := 2) (lc' := [some (.ref 67), some (.int x1), some (.int x2)]) (st' := [.int x1, .ref 67]) (h' := h) (sg1 rfl rfl (sg1 rfl rfl rfl)) ?_
  obtain ⟨q1, e_q1, hf⟩ := bnd hf
  refine Ex.callV (a := 67) (As := [.int x1]) (r := []) (v := some (.int q1.1)) (h' := q1.2) rfl rfl (by decide) rfl (Nat.le_of_ble_eq_true rfl) rfl (E_304 (Nat.le_trans (by decide) hd) e_q1) rfl ?_
  refine Ex.ifc rfl rfl (fun (c0 : ¬ (q1.1 = 0)) => ?_) (fun (c0 : ¬ ¬ (q1.1 = 0)) => ?_)
  · rw [if_neg c0] at hf
    refine Ex.seg 1 (pc' := 11) (lc' := [some (.ref 67), some (.int x1), some (.int x2)]) (st' := [.int x2]) (h' := q1.2) (sg1 rfl rfl rfl) ?_
    rcases Classical.em (x2 = 0) with n1 | n1
    · rw [if_pos n1] at hf
      refine Ex.swt (t := 44) rfl rfl (by rw [n1]; exact Or.inr ⟨by decide, by decide, _, rfl, by decide⟩) ?_
      refine Ex.seg 3 (pc' := 49) (lc' := [some (.ref 67), some (.int x1), some (.int x2)]) (st' := [.int x1, .ref 76]) (h' := q1.2) (sg1 rfl rfl (sg1 rfl rfl (sg1 rfl rfl rfl))) ?_
      obtain ⟨v2, e_v2, hf⟩ := bnd hf
      refine Ex.iald e_v2 rfl rfl ?_
      obtain rfl := Option.some.inj hf
      exact Ex.iret rfl rfl (fun c0 => by cases c0) hs
    rw [if_neg n1] at hf
    rcases Classical.em (x2 = 1) with n2 | n2
    · rw [if_pos n2] at hf
      refine Ex.swt (t := 51) rfl rfl (by rw [n2]; exact Or.inr ⟨by decide, by decide, _, rfl, by decide⟩) ?_
      refine Ex.seg 3 (pc' := 56) (lc' := [some (.ref 67), some (.int x1), some (.int x2)]) (st' := [.int x1, .ref 75]) (h' := q1.2) (sg1 rfl rfl (sg1 rfl rfl (sg1 rfl rfl rfl))) ?_
      obtain ⟨v3, e_v3, hf⟩ := bnd hf
      refine Ex.iald e_v3 rfl rfl ?_
      obtain rfl := Option.some.inj hf
      exact Ex.iret rfl rfl (fun c0 => by cases c0) hs
    rw [if_neg n2] at hf
    rcases Classical.em (x2 = 2) with n3 | n3
    · rw [if_pos n3] at hf
      refine Ex.swt (t := 58) rfl rfl (by rw [n3]; exact Or.inr ⟨by decide, by decide, _, rfl, by decide⟩) ?_
      refine Ex.seg 3 (pc' := 63) (lc' := [some (.ref 67), some (.int x1), some (.int x2)]) (st' := [.int x1, .ref 77]) (h' := q1.2) (sg1 rfl rfl (sg1 rfl rfl (sg1 rfl rfl rfl))) ?_
      obtain ⟨v4, e_v4, hf⟩ := bnd hf
      refine Ex.iald e_v4 rfl rfl ?_
      obtain rfl := Option.some.inj hf
      exact Ex.iret rfl rfl (fun c0 => by cases c0) hs
    rw [if_neg n3] at hf
    rcases Classical.em (x2 = 3) with n4 | n4
    · rw [if_pos n4] at hf
      refine Ex.swt (t := 65) rfl rfl (by rw [n4]; exact Or.inr ⟨by decide, by decide, _, rfl, by decide⟩) ?_
      refine Ex.seg 3 (pc' := 70) (lc' := [some (.ref 67), some (.int x1), some (.int x2)]) (st' := [.int x1, .ref 78]) (h' := q1.2) (sg1 rfl rfl (sg1 rfl rfl (sg1 rfl rfl rfl))) ?_
      obtain ⟨v5, e_v5, hf⟩ := bnd hf
      refine Ex.iald e_v5 rfl rfl ?_
      obtain rfl := Option.some.inj hf
      exact Ex.iret rfl rfl (fun c0 => by cases c0) hs
    rw [if_neg n4] at hf
    rcases Classical.em (x2 = 4) with n5 | n5
    · rw [if_pos n5] at hf
      refine Ex.swt (t := 72) rfl rfl (by rw [n5]; exact Or.inr ⟨by decide, by decide, _, rfl, by decide⟩) ?_
      refine Ex.seg 3 (pc' := 77) (lc' := [some (.ref 67), some (.int x1), some (.int x2)]) (st' := [.int x1, .ref 80]) (h' := q1.2) (sg1 rfl rfl (sg1 rfl rfl (sg1 rfl rfl rfl))) ?_
      obtain ⟨v6, e_v6, hf⟩ := bnd hf
      refine Ex.iald e_v6 rfl rfl ?_
      obtain rfl := Option.some.inj hf
      exact Ex.iret rfl rfl (fun c0 => by cases c0) hs
    rw [if_neg n5] at hf
    refine Ex.swt (t := 79) rfl rfl (sw_dflt (by decide) (by decide) (fun k hk he => ?_)) ?_
    · have hk : k < 5 := hk
      rcases (show k = 0 ∨ k = 1 ∨ k = 2 ∨ k = 3 ∨ k = 4 by omega) with rfl | rfl | rfl | rfl | rfl
      · exact absurd (Int32.toInt_inj.mp (he.symm.trans (by decide : (_ : Int) = Int32.toInt 0))) n1
      · exact absurd (Int32.toInt_inj.mp (he.symm.trans (by decide : (_ : Int) = Int32.toInt 1))) n2
      · exact absurd (Int32.toInt_inj.mp (he.symm.trans (by decide : (_ : Int) = Int32.toInt 2))) n3
      · exact absurd (Int32.toInt_inj.mp (he.symm.trans (by decide : (_ : Int) = Int32.toInt 3))) n4
      · exact absurd (Int32.toInt_inj.mp (he.symm.trans (by decide : (_ : Int) = Int32.toInt 4))) n5
    refine Ex.seg 2 (pc' := 81) (lc' := [some (.ref 67), some (.int x1), some (.int x2)]) (st' := [.int 5, .int x2]) (h' := q1.2) (sg1 rfl rfl (sg1 rfl rfl rfl)) ?_
    refine Ex.icmp rfl rfl (fun (c0 : x2 < 5) => ?_) (fun (c0 : ¬ (x2 < 5)) => ?_)
    · rw [if_pos c0] at hf
      exact Ex.weak (sm_le_n (sm_le_n (sm_le_n sm_le_nil))) (B_385_112 hd  hf hs)
    · rw [if_neg c0] at hf
      refine Ex.seg 6 (pc' := 92) (lc' := [some (.ref 67), some (.int x1), some (.int x2)]) (st' := [.int x1, .ref 80, .int (x2 - 5)]) (h' := q1.2) (sg1 rfl rfl (sg1 rfl rfl (sg1 rfl rfl (sg1 rfl rfl (sg1 rfl rfl (sg1 rfl rfl rfl)))))) ?_
      obtain ⟨v7, e_v7, hf⟩ := bnd hf
      refine Ex.iald e_v7 rfl rfl ?_
      refine Ex.icmp rfl rfl (fun (c0 : v7 ≤ (x2 - 5)) => ?_) (fun (c0 : ¬ (v7 ≤ (x2 - 5))) => ?_)
      · rw [if_pos c0] at hf
        exact Ex.weak (sm_le_n (sm_le_n (sm_le_n sm_le_nil))) (B_385_112 hd  hf hs)
      · rw [if_neg c0] at hf
        refine Ex.seg 9 (pc' := 108) (lc' := [some (.ref 67), some (.int x1), some (.int x2)]) (st' := [.int (((24 * x1) + x2) - 5), .ref 81]) (h' := q1.2) (sg1 rfl rfl (sg1 rfl rfl (sg1 rfl rfl (sg1 rfl rfl (sg1 rfl rfl (sg1 rfl rfl (sg1 rfl rfl (sg1 rfl rfl (sg1 rfl rfl rfl))))))))) ?_
        obtain ⟨v8, e_v8, hf⟩ := bnd hf
        refine Ex.iald e_v8 rfl rfl ?_
        refine Ex.seg 1 (pc' := 113) (lc' := [some (.ref 67), some (.int x1), some (.int x2)]) (st' := [.int v8]) (h' := q1.2) (sg1 rfl rfl rfl) ?_
        exact Ex.weak (sm_le_n (sm_le_n (sm_le_n sm_le_nil))) (B_385_113 hd  hf hs)
  · rw [if_pos (Classical.not_not.mp c0)] at hf
    refine Ex.seg 1 (pc' := 9) (lc' := [some (.ref 67), some (.int x1), some (.int x2)]) (st' := [.int (-1)]) (h' := q1.2) (sg1 rfl rfl rfl) ?_
    obtain rfl := Option.some.inj hf
    exact Ex.iret rfl rfl (fun c0 => by cases c0) hs
theorem E_385 {L : Nat} {xs : Nat → Int32} {d : Nat} (hd : 2 ≤ d) {x1 : Int32} {x2 : Int32} {h : sm_H} {r : Int32 × sm_H} (hf : F_385 x1 x2 h = some r) : RUN L xs d 385 [.ref 67, .int x1, .int x2] h (some (.int r.1), r.2) := by
  obtain ⟨d, rfl⟩ : ∃ e, d = e + 1 := ⟨d - 1, by omega⟩
  exact ⟨Nat.le_of_ble_eq_true rfl, B_385_0 (by omega) hf rfl⟩
theorem B_386_18 {L : Nat} {xs : Nat → Int32} {d : Nat} (hd : 1 ≤ d) {res : Option Value × sm_H} {z0 : Int64}  {h : sm_H} {r : (Int64 × sm_H)} (hf : F_386_18 z0 h = some r) (hs : (fun (r : Int64 × sm_H) => res = (some (.long r.1), r.2)) r) : Ex (P_G L xs) (RUN L xs d) (sm_lk P_t386) 0 18 [none, none] [.long z0] h res := by
  unfold F_386_18 at hf
  obtain rfl := Option.some.inj hf
  exact Ex.lret rfl rfl hs
theorem B_386_0 {L : Nat} {xs : Nat → Int32} {d : Nat} (hd : 1 ≤ d) {res : Option Value × sm_H} {x1 : Int32}  {h : sm_H} {r : (Int64 × sm_H)} (hf : F_386_0 x1 h = some r) (hs : (fun (r : Int64 × sm_H) => res = (some (.long r.1), r.2)) r) : Ex (P_G L xs) (RUN L xs d) (sm_lk P_t386) 0 0 [some (.ref 67), some (.int x1)] [] h res := by
  unfold F_386_0 at hf
  refine Ex.seg 2 (pc' := 2) (lc' := [some (.ref 67), some (.int x1)]) (st' := [.int x1, .ref 67]) (h' := h) (sg1 rfl rfl (sg1 rfl rfl rfl)) ?_
  obtain ⟨q1, e_q1, hf⟩ := bnd hf
  refine Ex.callV (a := 67) (As := [.int x1]) (r := []) (v := some (.int q1.1)) (h' := q1.2) rfl rfl (by decide) rfl (Nat.le_of_ble_eq_true rfl) rfl (E_304 (Nat.le_trans (by decide) hd) e_q1) rfl ?_
  refine Ex.ifc rfl rfl (fun (c0 : q1.1 = 0) => ?_) (fun (c0 : ¬ (q1.1 = 0)) => ?_)
  · rw [if_pos c0] at hf
    refine Ex.seg 1 (pc' := 18) (lc' := [some (.ref 67), some (.int x1)]) (st' := [.long 0]) (h' := q1.2) (sg1 rfl rfl rfl) ?_
    exact Ex.weak (sm_le_n (sm_le_n sm_le_nil)) (B_386_18 hd  hf hs)
  · rw [if_neg c0] at hf
    refine Ex.seg 3 (pc' := 13) (lc' := [some (.ref 67), some (.int x1)]) (st' := [.int x1, .ref 79]) (h' := q1.2) (sg1 rfl rfl (sg1 rfl rfl (sg1 rfl rfl rfl))) ?_
    obtain ⟨v2, e_v2, hf⟩ := bnd hf
    refine Ex.lald e_v2 rfl rfl ?_
    refine Ex.seg 1 (pc' := 18) (lc' := [some (.ref 67), some (.int x1)]) (st' := [.long v2]) (h' := q1.2) (sg1 rfl rfl rfl) ?_
    exact Ex.weak (sm_le_n (sm_le_n sm_le_nil)) (B_386_18 hd  hf hs)
theorem E_386 {L : Nat} {xs : Nat → Int32} {d : Nat} (hd : 2 ≤ d) {x1 : Int32} {h : sm_H} {r : Int64 × sm_H} (hf : F_386 x1 h = some r) : RUN L xs d 386 [.ref 67, .int x1] h (some (.long r.1), r.2) := by
  obtain ⟨d, rfl⟩ : ∃ e, d = e + 1 := ⟨d - 1, by omega⟩
  exact ⟨Nat.le_of_ble_eq_true rfl, B_386_0 (by omega) hf rfl⟩
theorem B_387_19 {L : Nat} {xs : Nat → Int32} {d : Nat} (hd : 1 ≤ d) {res : Option Value × sm_H} {z0 : Int32}  {h : sm_H} {r : (Int32 × sm_H)} (hf : F_387_19 z0 h = some r) (hs : (fun (r : Int32 × sm_H) => res = (some (.int r.1), r.2)) r) : Ex (P_G L xs) (RUN L xs d) (sm_lk P_t387) 3 19 [none, none] [.int z0] h res := by
  unfold F_387_19 at hf
  rcases Classical.em (z0 = 0 ∨ z0 = 1) with c0 | c0
  · rw [if_pos c0] at hf
    obtain rfl := Option.some.inj hf
    exact Ex.iret rfl rfl (fun _ => c0) hs
  · rw [if_neg c0] at hf
    cases hf
theorem B_387_18 {L : Nat} {xs : Nat → Int32} {d : Nat} (hd : 1 ≤ d) {res : Option Value × sm_H}   {h : sm_H} {r : (Int32 × sm_H)} (hf : F_387_18  h = some r) (hs : (fun (r : Int32 × sm_H) => res = (some (.int r.1), r.2)) r) : Ex (P_G L xs) (RUN L xs d) (sm_lk P_t387) 3 18 [none, none] [] h res := by
  unfold F_387_18 at hf
  refine Ex.seg 1 (pc' := 19) (lc' := [none, none]) (st' := [.int 0]) (h' := h) (sg1 rfl rfl rfl) ?_
  exact Ex.weak (sm_le_s (sm_le_s sm_le_nil)) (B_387_19 hd  hf hs)
theorem B_387_0 {L : Nat} {xs : Nat → Int32} {d : Nat} (hd : 1 ≤ d) {res : Option Value × sm_H} {x1 : Int32}  {h : sm_H} {r : (Int32 × sm_H)} (hf : F_387_0 x1 h = some r) (hs : (fun (r : Int32 × sm_H) => res = (some (.int r.1), r.2)) r) : Ex (P_G L xs) (RUN L xs d) (sm_lk P_t387) 3 0 [some (.ref 67), some (.int x1)] [] h res := by
  unfold F_387_0 at hf
  refine Ex.seg 2 (pc' := 3) (lc' := [some (.ref 67), some (.int x1)]) (st' := [.int 20, .int x1]) (h' := h) (sg1 rfl rfl (sg1 rfl rfl rfl)) ?_
  refine Ex.icmp rfl rfl (fun (c0 : x1 < 20) => ?_) (fun (c0 : ¬ (x1 < 20)) => ?_)
  · rw [if_pos c0] at hf
    exact Ex.weak (sm_le_n (sm_le_n sm_le_nil)) (B_387_18 hd  hf hs)
  · rw [if_neg c0] at hf
    refine Ex.seg 2 (pc' := 8) (lc' := [some (.ref 67), some (.int x1)]) (st' := [.int x1, .ref 67]) (h' := h) (sg1 rfl rfl (sg1 rfl rfl rfl)) ?_
    obtain ⟨q1, e_q1, hf⟩ := bnd hf
    refine Ex.callV (a := 67) (As := [.int x1]) (r := []) (v := some (.int q1.1)) (h' := q1.2) rfl rfl (by decide) rfl (Nat.le_of_ble_eq_true rfl) rfl (E_289 (Nat.le_trans (by decide) hd) e_q1) rfl ?_
    refine Ex.ifc rfl rfl (fun (c0 : q1.1 = 0) => ?_) (fun (c0 : ¬ (q1.1 = 0)) => ?_)
    · rw [if_pos c0] at hf
      exact Ex.weak (sm_le_n (sm_le_n sm_le_nil)) (B_387_18 hd  hf hs)
    · rw [if_neg c0] at hf
      refine Ex.seg 2 (pc' := 19) (lc' := [some (.ref 67), some (.int x1)]) (st' := [.int 1]) (h' := q1.2) (sg1 rfl rfl (sg1 rfl rfl rfl)) ?_
      exact Ex.weak (sm_le_n (sm_le_n sm_le_nil)) (B_387_19 hd  hf hs)
theorem E_387 {L : Nat} {xs : Nat → Int32} {d : Nat} (hd : 2 ≤ d) {x1 : Int32} {h : sm_H} {r : Int32 × sm_H} (hf : F_387 x1 h = some r) : RUN L xs d 387 [.ref 67, .int x1] h (some (.int r.1), r.2) := by
  obtain ⟨d, rfl⟩ : ∃ e, d = e + 1 := ⟨d - 1, by omega⟩
  exact ⟨Nat.le_of_ble_eq_true rfl, B_387_0 (by omega) hf rfl⟩
theorem B_388_0 {L : Nat} {xs : Nat → Int32} {d : Nat} (hd : 0 ≤ d) {res : Option Value × sm_H} {x1 : Int32}  {h : sm_H} {r : (Int32 × sm_H)} (hf : F_388_0 x1 h = some r) (hs : (fun (r : Int32 × sm_H) => res = (some (.int r.1), r.2)) r) : Ex (P_G L xs) (RUN L xs d) (sm_lk P_t388) 0 0 [some (.ref 67), some (.int x1)] [] h res := by
  unfold F_388_0 at hf
  refine Ex.seg 3 (pc' := 5) (lc' := [some (.ref 67), some (.int x1)]) (st' := []) (h' := (sm_wI h 67 19 x1)) (sg1 rfl rfl (sg1 rfl rfl (sg1 rfl rfl rfl))) ?_
  obtain ⟨h1, e_h1, hf⟩ := bnd hf
  rw [Option.some.inj e_h1]
  refine Ex.seg 1 (pc' := 6) (lc' := [some (.ref 67), some (.int x1)]) (st' := [.int (-1)]) (h' := h1) (sg1 rfl rfl rfl) ?_
  obtain rfl := Option.some.inj hf
  exact Ex.iret rfl rfl (fun c0 => by cases c0) hs
theorem E_388 {L : Nat} {xs : Nat → Int32} {d : Nat} (hd : 1 ≤ d) {x1 : Int32} {h : sm_H} {r : Int32 × sm_H} (hf : F_388 x1 h = some r) : RUN L xs d 388 [.ref 67, .int x1] h (some (.int r.1), r.2) := by
  obtain ⟨d, rfl⟩ : ∃ e, d = e + 1 := ⟨d - 1, by omega⟩
  exact ⟨Nat.le_of_ble_eq_true rfl, B_388_0 (by omega) hf rfl⟩
theorem B_389_0 {L : Nat} {xs : Nat → Int32} {d : Nat} (hd : 0 ≤ d) {res : Option Value × sm_H} {x1 : Int32} {x2 : Int32} {x3 : Int32} {x4 : Int32}  {h : sm_H} {r : (sm_H)} (hf : F_389_0 x1 x2 x3 x4 h = some r) (hs : (fun (r : sm_H) => res = (none, r)) r) : Ex (P_G L xs) (RUN L xs d) (sm_lk P_t389) 0 0 [some (.ref 67), some (.int x1), some (.int x2), some (.int x3), some (.int x4)] [] h res := by
  unfold F_389_0 at hf
  refine Ex.seg 5 (pc' := 9) (lc' := [some (.ref 67), some (.int x1), some (.int x2), some (.int x3), some (.int x4)]) (st' := [.int x1, .int (h.1 67 32), .ref 83]) (h' := h) (sg1 rfl rfl (sg1 rfl rfl (sg1 rfl rfl (sg1 rfl rfl (sg1 rfl rfl rfl))))) ?_
  obtain ⟨h1, e_h1, hf⟩ := bnd hf
  refine Ex.iast e_h1 rfl rfl ?_
  refine Ex.seg 5 (pc' := 19) (lc' := [some (.ref 67), some (.int x1), some (.int x2), some (.int x3), some (.int x4)]) (st' := [.int x2, .int (h1.1 67 32), .ref 84]) (h' := h1) (sg1 rfl rfl (sg1 rfl rfl (sg1 rfl rfl (sg1 rfl rfl (sg1 rfl rfl rfl))))) ?_
  obtain ⟨h2, e_h2, hf⟩ := bnd hf
  refine Ex.iast e_h2 rfl rfl ?_
  refine Ex.seg 5 (pc' := 29) (lc' := [some (.ref 67), some (.int x1), some (.int x2), some (.int x3), some (.int x4)]) (st' := [.int x3, .int (h2.1 67 32), .ref 85]) (h' := h2) (sg1 rfl rfl (sg1 rfl rfl (sg1 rfl rfl (sg1 rfl rfl (sg1 rfl rfl rfl))))) ?_
  obtain ⟨h3, e_h3, hf⟩ := bnd hf
  refine Ex.iast e_h3 rfl rfl ?_
  refine Ex.seg 5 (pc' := 40) (lc' := [some (.ref 67), some (.int x1), some (.int x2), some (.int x3), some (.int x4)]) (st' := [.int x4, .int (h3.1 67 32), .ref 86]) (h' := h3) (sg1 rfl rfl (sg1 rfl rfl (sg1 rfl rfl (sg1 rfl rfl (sg1 rfl rfl rfl))))) ?_
  obtain ⟨h4, e_h4, hf⟩ := bnd hf
  refine Ex.zast e_h4 rfl rfl ?_
  obtain rfl := Option.some.inj hf
  exact Ex.vret rfl rfl hs
theorem E_389 {L : Nat} {xs : Nat → Int32} {d : Nat} (hd : 1 ≤ d) {x1 : Int32} {x2 : Int32} {x3 : Int32} {x4 : Int32} {h : sm_H} {r : sm_H} (hf : F_389 x1 x2 x3 x4 h = some r) : RUN L xs d 389 [.ref 67, .int x1, .int x2, .int x3, .int x4] h (none, r) := by
  obtain ⟨d, rfl⟩ : ∃ e, d = e + 1 := ⟨d - 1, by omega⟩
  exact ⟨Nat.le_of_ble_eq_true rfl, B_389_0 (by omega) hf rfl⟩
theorem B_390_251 {L : Nat} {xs : Nat → Int32} {d : Nat} (hd : 2 ≤ d) {res : Option Value × sm_H}   {h : sm_H} {r : (Int32 × sm_H)} (hf : F_390_251  h = some r) (hs : (fun (r : Int32 × sm_H) => res = (some (.int r.1), r.2)) r) : Ex (P_G L xs) (RUN L xs d) (sm_lk P_t390) 0 251 [some (.ref 67), none, none, none, none, none, none] [] h res := by
  unfold F_390_251 at hf
  refine Ex.seg 6 (pc' := 261) (lc' := [some (.ref 67), none, none, none, none, none, none]) (st' := []) (h' := (sm_wI h 67 32 ((h.1 67 32) + 1))) (sg1 rfl rfl (sg1 rfl rfl (sg1 rfl rfl (sg1 rfl rfl (sg1 rfl rfl (sg1 rfl rfl rfl)))))) ?_
  obtain ⟨h1, e_h1, hf⟩ := bnd hf
  rw [Option.some.inj e_h1]
  refine Ex.seg 4 (pc' := 267) (lc' := [some (.ref 67), none, none, none, none, none, none]) (st' := [.int ((h1.1 67 32) - 1)]) (h' := h1) (sg1 rfl rfl (sg1 rfl rfl (sg1 rfl rfl (sg1 rfl rfl rfl)))) ?_
  obtain rfl := Option.some.inj hf
  exact Ex.iret rfl rfl (fun c0 => by cases c0) hs
theorem B_390_235 {L : Nat} {xs : Nat → Int32} {d : Nat} (hd : 2 ≤ d) {res : Option Value × sm_H} {S1 : (Int32 × sm_H) → Prop} (hS1 : ∀ s, S1 s → Ex (P_G L xs) (RUN L xs d) (sm_lk P_t390) 0 173 [some (.ref 67), none, none, none, none, none, some (.int s.1)] [] s.2 res) {y6 : Int32}  {h : sm_H} {r : ((Int32 × sm_H) ⊕ (Int32 × sm_H))} (hf : F_390_235 y6 h = some r) (hs : (Sum.elim S1 (fun (r : Int32 × sm_H) => res = (some (.int r.1), r.2))) r) : Ex (P_G L xs) (RUN L xs d) (sm_lk P_t390) 0 235 [some (.ref 67), none, none, none, none, none, some (.int y6)] [] h res := by
  unfold F_390_235 at hf
  refine Ex.seg 1 (pc' := 238) (lc' := [some (.ref 67), none, none, none, none, none, some (.int (y6 + 1))]) (st' := []) (h' := h) (sg1 rfl rfl rfl) ?_
  obtain ⟨v2, e_v2, hf⟩ := bnd hf
  rw [Option.some.inj e_v2]
  refine Ex.seg 1 (pc' := 173) (lc' := [some (.ref 67), none, none, none, none, none, some (.int v2)]) (st' := []) (h' := h) (sg1 rfl rfl rfl) ?_
  obtain rfl := Option.some.inj hf
  exact Ex.weak (sm_le_s (sm_le_s (sm_le_s (sm_le_s (sm_le_s (sm_le_s (sm_le_s sm_le_nil))))))) (hS1 _ hs)
theorem B_390_173B {L : Nat} {xs : Nat → Int32} {d : Nat} (hd : 2 ≤ d) {res : Option Value × sm_H} {S1 : (Int32 × sm_H) → Prop} (hS1 : ∀ s, S1 s → Ex (P_G L xs) (RUN L xs d) (sm_lk P_t390) 0 173 [some (.ref 67), none, none, none, none, none, some (.int s.1)] [] s.2 res) {s : (Int32 × sm_H)}  {r : ((Int32 × sm_H) ⊕ (Int32 × sm_H))} (hf : F_390_173B s = some r) (hs : (Sum.elim S1 (fun (r : Int32 × sm_H) => res = (some (.int r.1), r.2))) r) : Ex (P_G L xs) (RUN L xs d) (sm_lk P_t390) 0 173 [some (.ref 67), none, none, none, none, none, some (.int s.1)] [] s.2 res := by
  unfold F_390_173B at hf
  refine Ex.seg 3 (pc' := 179) (lc' := [some (.ref 67), none, none, none, none, none, some (.int s.1)]) (st' := [.int (s.2.1 67 45), .int s.1]) (h' := s.2) (sg1 rfl rfl (sg1 rfl rfl (sg1 rfl rfl rfl))) ?_
  refine Ex.icmp rfl rfl (fun (c0 : (s.2.1 67 45) ≤ s.1) => ?_) (fun (c0 : ¬ ((s.2.1 67 45) ≤ s.1)) => ?_)
  · rw [if_pos c0] at hf
    refine Ex.seg 6 (pc' := 251) (lc' := [some (.ref 67), none, none, none, none, none, some (.int s.1)]) (st' := []) (h' := (sm_wI s.2 67 33 ((s.2.1 67 33) + 1))) (sg1 rfl rfl (sg1 rfl rfl (sg1 rfl rfl (sg1 rfl rfl (sg1 rfl rfl (sg1 rfl rfl rfl)))))) ?_
    obtain ⟨h3, e_h3, hf⟩ := bnd hf
    rw [Option.some.inj e_h3]
    obtain ⟨r0, hf0, rfl⟩ := Option.map_eq_some_iff.mp hf
    exact Ex.weak (sm_le_s (sm_le_s (sm_le_s (sm_le_s (sm_le_s (sm_le_s (sm_le_n sm_le_nil))))))) (B_390_251 hd  hf0 hs)
  · rw [if_neg c0] at hf
    refine Ex.seg 3 (pc' := 188) (lc' := [some (.ref 67), none, none, none, none, none, some (.int s.1)]) (st' := [.int s.1, .ref 96]) (h' := s.2) (sg1 rfl rfl (sg1 rfl rfl (sg1 rfl rfl rfl))) ?_
    obtain ⟨v4, e_v4, hf⟩ := bnd hf
    refine Ex.iald e_v4 rfl rfl ?_
    refine Ex.seg 1 (pc' := 191) (lc' := [some (.ref 67), none, none, none, none, none, some (.int s.1)]) (st' := [.int 20, .int v4]) (h' := s.2) (sg1 rfl rfl rfl) ?_
    refine Ex.icmp rfl rfl (fun (c0 : 20 ≤ v4) => ?_) (fun (c0 : ¬ (20 ≤ v4)) => ?_)
    · rw [if_pos c0] at hf
      refine Ex.seg 10 (pc' := 215) (lc' := [some (.ref 67), none, none, none, none, none, some (.int s.1)]) (st' := [.int (s.2.1 67 48), .int ((100 * s.1) + (s.2.1 67 33)), .ref 98]) (h' := s.2) (sg1 rfl rfl (sg1 rfl rfl (sg1 rfl rfl (sg1 rfl rfl (sg1 rfl rfl (sg1 rfl rfl (sg1 rfl rfl (sg1 rfl rfl (sg1 rfl rfl (sg1 rfl rfl rfl)))))))))) ?_
      obtain ⟨h5, e_h5, hf⟩ := bnd hf
      refine Ex.iast e_h5 rfl rfl ?_
      refine Ex.seg 10 (pc' := 234) (lc' := [some (.ref 67), none, none, none, none, none, some (.int s.1)]) (st' := [.long (h5.2.1 67 49), .int ((100 * s.1) + (h5.1 67 33)), .ref 99]) (h' := h5) (sg1 rfl rfl (sg1 rfl rfl (sg1 rfl rfl (sg1 rfl rfl (sg1 rfl rfl (sg1 rfl rfl (sg1 rfl rfl (sg1 rfl rfl (sg1 rfl rfl (sg1 rfl rfl rfl)))))))))) ?_
      obtain ⟨h6, e_h6, hf⟩ := bnd hf
      refine Ex.last e_h6 rfl rfl ?_
      exact Ex.weak (sm_le_s (sm_le_s (sm_le_s (sm_le_s (sm_le_s (sm_le_s (sm_le_s sm_le_nil))))))) (B_390_235 hd hS1 hf hs)
    · rw [if_neg c0] at hf
      refine Ex.seg 1 (pc' := 235) (lc' := [some (.ref 67), none, none, none, none, none, some (.int s.1)]) (st' := []) (h' := s.2) (sg1 rfl rfl rfl) ?_
      exact Ex.weak (sm_le_s (sm_le_s (sm_le_s (sm_le_s (sm_le_s (sm_le_s (sm_le_s sm_le_nil))))))) (B_390_235 hd hS1 hf hs)
theorem B_390_173 {L : Nat} {xs : Nat → Int32} {d : Nat} (hd : 2 ≤ d) {res : Option Value × sm_H} {y6 : Int32}  {h : sm_H} {r : (Int32 × sm_H)} (hf : F_390_173 y6 h = some r) (hs : (fun (r : Int32 × sm_H) => res = (some (.int r.1), r.2)) r) : Ex (P_G L xs) (RUN L xs d) (sm_lk P_t390) 0 173 [some (.ref 67), none, none, none, none, none, some (.int y6)] [] h res := by
  unfold F_390_173 at hf
  exact lp_ok (P := fun (s : (Int32 × sm_H)) => Ex (P_G L xs) (RUN L xs d) (sm_lk P_t390) 0 173 [some (.ref 67), none, none, none, none, none, some (.int s.1)] [] s.2 res) (S := (fun (r : Int32 × sm_H) => res = (some (.int r.1), r.2))) (fun s x hx hsx => by
    intros
    exact B_390_173B hd  (fun _ q => q) hx hsx) 1000000 _ r hf hs
theorem B_390_91 {L : Nat} {xs : Nat → Int32} {d : Nat} (hd : 2 ≤ d) {res : Option Value × sm_H} {y1 : Int32} {y2 : Int32} {y3 : Int32} {y4 : Int32} {y5 : Int32}  {h : sm_H} {r : (Int32 × sm_H)} (hf : F_390_91 y1 y2 y3 y4 y5 h = some r) (hs : (fun (r : Int32 × sm_H) => res = (some (.int r.1), r.2)) r) : Ex (P_G L xs) (RUN L xs d) (sm_lk P_t390) 0 91 [some (.ref 67), some (.int y1), some (.int y2), some (.int y3), some (.int y4), some (.int y5), none] [] h res := by
  unfold F_390_91 at hf
  refine Ex.seg 5 (pc' := 98) (lc' := [some (.ref 67), some (.int y1), some (.int y2), some (.int y3), some (.int y4), some (.int y5), none]) (st' := [.int y4, .int y5, .int y2, .int y1, .ref 67]) (h' := h) (sg1 rfl rfl (sg1 rfl rfl (sg1 rfl rfl (sg1 rfl rfl (sg1 rfl rfl rfl))))) ?_
  obtain ⟨q7, e_q7, hf⟩ := bnd hf
  refine Ex.callV (a := 67) (As := [.int y1, .int y2, .int y5, .int y4]) (r := []) (v := none) (h' := q7) rfl rfl (by decide) rfl (Nat.le_of_ble_eq_true rfl) rfl (E_389 (Nat.le_trans (by decide) hd) e_q7) rfl ?_
  refine Ex.seg 5 (pc' := 110) (lc' := [some (.ref 67), some (.int y1), some (.int y2), some (.int y3), some (.int y4), some (.int y5), none]) (st' := [.int 1, .int (q7.1 67 32), .ref 87]) (h' := q7) (sg1 rfl rfl (sg1 rfl rfl (sg1 rfl rfl (sg1 rfl rfl (sg1 rfl rfl rfl))))) ?_
  obtain ⟨h8, e_h8, hf⟩ := bnd hf
  refine Ex.zast e_h8 rfl rfl ?_
  refine Ex.seg 5 (pc' := 120) (lc' := [some (.ref 67), some (.int y1), some (.int y2), some (.int y3), some (.int y4), some (.int y5), none]) (st' := [.int y3, .int (h8.1 67 32), .ref 88]) (h' := h8) (sg1 rfl rfl (sg1 rfl rfl (sg1 rfl rfl (sg1 rfl rfl (sg1 rfl rfl rfl))))) ?_
  obtain ⟨h9, e_h9, hf⟩ := bnd hf
  refine Ex.iast e_h9 rfl rfl ?_
  refine Ex.seg 2 (pc' := 123) (lc' := [some (.ref 67), some (.int y1), some (.int y2), some (.int y3), some (.int y4), some (.int y5), none]) (st' := [.int y3, .ref 67]) (h' := h9) (sg1 rfl rfl (sg1 rfl rfl rfl)) ?_
  obtain ⟨q10, e_q10, hf⟩ := bnd hf
  refine Ex.callV (a := 67) (As := [.int y3]) (r := []) (v := none) (h' := q10) rfl rfl (by decide) rfl (Nat.le_of_ble_eq_true rfl) rfl (E_299 (Nat.le_trans (by decide) hd) e_q10) rfl ?_
  refine Ex.seg 6 (pc' := 138) (lc' := [some (.ref 67), some (.int y1), some (.int y2), some (.int y3), some (.int y4), some (.int y5), none]) (st' := [.int (q10.1 67 48), .int (q10.1 67 32), .ref 100]) (h' := q10) (sg1 rfl rfl (sg1 rfl rfl (sg1 rfl rfl (sg1 rfl rfl (sg1 rfl rfl (sg1 rfl rfl rfl)))))) ?_
  obtain ⟨h11, e_h11, hf⟩ := bnd hf
  refine Ex.iast e_h11 rfl rfl ?_
  refine Ex.seg 6 (pc' := 151) (lc' := [some (.ref 67), some (.int y1), some (.int y2), some (.int y3), some (.int y4), some (.int y5), none]) (st' := [.long (h11.2.1 67 49), .int (h11.1 67 32), .ref 101]) (h' := h11) (sg1 rfl rfl (sg1 rfl rfl (sg1 rfl rfl (sg1 rfl rfl (sg1 rfl rfl (sg1 rfl rfl rfl)))))) ?_
  obtain ⟨h12, e_h12, hf⟩ := bnd hf
  refine Ex.last e_h12 rfl rfl ?_
  refine Ex.seg 1 (pc' := 154) (lc' := [some (.ref 67), some (.int y1), some (.int y2), some (.int y3), some (.int y4), some (.int y5), none]) (st' := [.int y4]) (h' := h12) (sg1 rfl rfl rfl) ?_
  refine Ex.ifc rfl rfl (fun (c0 : ¬ (y4 = 0)) => ?_) (fun (c0 : ¬ ¬ (y4 = 0)) => ?_)
  · rw [if_neg c0] at hf
    exact Ex.weak (sm_le_s (sm_le_n (sm_le_n (sm_le_n (sm_le_n (sm_le_n (sm_le_s sm_le_nil))))))) (B_390_251 hd  hf hs)
  · rw [if_pos (Classical.not_not.mp c0)] at hf
    refine Ex.seg 6 (pc' := 169) (lc' := [some (.ref 67), some (.int y1), some (.int y2), some (.int y3), some (.int y4), some (.int y5), none]) (st' := [.int (h12.1 67 33), .int (h12.1 67 32), .ref 91]) (h' := h12) (sg1 rfl rfl (sg1 rfl rfl (sg1 rfl rfl (sg1 rfl rfl (sg1 rfl rfl (sg1 rfl rfl rfl)))))) ?_
    obtain ⟨h13, e_h13, hf⟩ := bnd hf
    refine Ex.iast e_h13 rfl rfl ?_
    refine Ex.seg 2 (pc' := 173) (lc' := [some (.ref 67), some (.int y1), some (.int y2), some (.int y3), some (.int y4), some (.int y5), some (.int 0)]) (st' := []) (h' := h13) (sg1 rfl rfl (sg1 rfl rfl rfl)) ?_
    exact Ex.weak (sm_le_s (sm_le_n (sm_le_n (sm_le_n (sm_le_n (sm_le_n (sm_le_s sm_le_nil))))))) (B_390_173 hd  hf hs)
theorem B_390_85 {L : Nat} {xs : Nat → Int32} {d : Nat} (hd : 2 ≤ d) {res : Option Value × sm_H}   {h : sm_H} {r : (Int32 × sm_H)} (hf : F_390_85  h = some r) (hs : (fun (r : Int32 × sm_H) => res = (some (.int r.1), r.2)) r) : Ex (P_G L xs) (RUN L xs d) (sm_lk P_t390) 0 85 [some (.ref 67), none, none, none, none, none, none] [] h res := by
  unfold F_390_85 at hf
  refine Ex.seg 2 (pc' := 87) (lc' := [some (.ref 67), none, none, none, none, none, none]) (st' := [.int 5, .ref 67]) (h' := h) (sg1 rfl rfl (sg1 rfl rfl rfl)) ?_
  obtain ⟨q14, e_q14, hf⟩ := bnd hf
  refine Ex.callV (a := 67) (As := [.int 5]) (r := []) (v := some (.int q14.1)) (h' := q14.2) rfl rfl (by decide) rfl (Nat.le_of_ble_eq_true rfl) rfl (E_388 (Nat.le_trans (by decide) hd) e_q14) rfl ?_
  obtain rfl := Option.some.inj hf
  exact Ex.iret rfl rfl (fun c0 => by cases c0) hs
theorem B_390_56 {L : Nat} {xs : Nat → Int32} {d : Nat} (hd : 2 ≤ d) {res : Option Value × sm_H}   {h : sm_H} {r : (Int32 × sm_H)} (hf : F_390_56  h = some r) (hs : (fun (r : Int32 × sm_H) => res = (some (.int r.1), r.2)) r) : Ex (P_G L xs) (RUN L xs d) (sm_lk P_t390) 0 56 [some (.ref 67), none, none, none, none, none, none] [] h res := by
  unfold F_390_56 at hf
  refine Ex.seg 2 (pc' := 58) (lc' := [some (.ref 67), none, none, none, none, none, none]) (st' := [.int 2, .ref 67]) (h' := h) (sg1 rfl rfl (sg1 rfl rfl rfl)) ?_
  obtain ⟨q15, e_q15, hf⟩ := bnd hf
  refine Ex.callV (a := 67) (As := [.int 2]) (r := []) (v := some (.int q15.1)) (h' := q15.2) rfl rfl (by decide) rfl (Nat.le_of_ble_eq_true rfl) rfl (E_388 (Nat.le_trans (by decide) hd) e_q15) rfl ?_
  obtain rfl := Option.some.inj hf
  exact Ex.iret rfl rfl (fun c0 => by cases c0) hs
theorem B_390_25 {L : Nat} {xs : Nat → Int32} {d : Nat} (hd : 2 ≤ d) {res : Option Value × sm_H}   {h : sm_H} {r : (Int32 × sm_H)} (hf : F_390_25  h = some r) (hs : (fun (r : Int32 × sm_H) => res = (some (.int r.1), r.2)) r) : Ex (P_G L xs) (RUN L xs d) (sm_lk P_t390) 0 25 [some (.ref 67), none, none, none, none, none, none] [] h res := by
  unfold F_390_25 at hf
  refine Ex.seg 2 (pc' := 27) (lc' := [some (.ref 67), none, none, none, none, none, none]) (st' := [.int 1, .ref 67]) (h' := h) (sg1 rfl rfl (sg1 rfl rfl rfl)) ?_
  obtain ⟨q16, e_q16, hf⟩ := bnd hf
  refine Ex.callV (a := 67) (As := [.int 1]) (r := []) (v := some (.int q16.1)) (h' := q16.2) rfl rfl (by decide) rfl (Nat.le_of_ble_eq_true rfl) rfl (E_388 (Nat.le_trans (by decide) hd) e_q16) rfl ?_
  obtain rfl := Option.some.inj hf
  exact Ex.iret rfl rfl (fun c0 => by cases c0) hs
theorem B_390_0 {L : Nat} {xs : Nat → Int32} {d : Nat} (hd : 2 ≤ d) {res : Option Value × sm_H} {x1 : Int32} {x2 : Int32} {x3 : Int32} {x4 : Int32} {x5 : Int32}  {h : sm_H} {r : (Int32 × sm_H)} (hf : F_390_0 x1 x2 x3 x4 x5 h = some r) (hs : (fun (r : Int32 × sm_H) => res = (some (.int r.1), r.2)) r) : Ex (P_G L xs) (RUN L xs d) (sm_lk P_t390) 0 0 [some (.ref 67), some (.int x1), some (.int x2), some (.int x3), some (.int x4), some (.int x5), none] [] h res := by
  unfold F_390_0 at hf
  refine Ex.seg 3 (pc' := 5) (lc' := [some (.ref 67), some (.int x1), some (.int x2), some (.int x3), some (.int x4), some (.int x5), none]) (st' := []) (h' := (sm_wI h 67 19 0)) (sg1 rfl rfl (sg1 rfl rfl (sg1 rfl rfl rfl))) ?_
  obtain ⟨h17, e_h17, hf⟩ := bnd hf
  rw [Option.some.inj e_h17]
  refine Ex.seg 2 (pc' := 7) (lc' := [some (.ref 67), some (.int x1), some (.int x2), some (.int x3), some (.int x4), some (.int x5), none]) (st' := [.int x1, .ref 67]) (h' := h17) (sg1 rfl rfl (sg1 rfl rfl rfl)) ?_
  obtain ⟨q18, e_q18, hf⟩ := bnd hf
  refine Ex.callV (a := 67) (As := [.int x1]) (r := []) (v := some (.int q18.1)) (h' := q18.2) rfl rfl (by decide) rfl (Nat.le_of_ble_eq_true rfl) rfl (E_387 (Nat.le_trans (by decide) hd) e_q18) rfl ?_
  refine Ex.ifc rfl rfl (fun (c0 : q18.1 = 0) => ?_) (fun (c0 : ¬ (q18.1 = 0)) => ?_)
  · rw [if_pos c0] at hf
    exact Ex.weak (sm_le_s (sm_le_n (sm_le_n (sm_le_n (sm_le_n (sm_le_n (sm_le_s sm_le_nil))))))) (B_390_25 hd  hf hs)
  · rw [if_neg c0] at hf
    refine Ex.seg 2 (pc' := 15) (lc' := [some (.ref 67), some (.int x1), some (.int x2), some (.int x3), some (.int x4), some (.int x5), none]) (st' := [.int x3, .ref 67]) (h' := q18.2) (sg1 rfl rfl (sg1 rfl rfl rfl)) ?_
    obtain ⟨q19, e_q19, hf⟩ := bnd hf
    refine Ex.callV (a := 67) (As := [.int x3]) (r := []) (v := some (.int q19.1)) (h' := q19.2) rfl rfl (by decide) rfl (Nat.le_of_ble_eq_true rfl) rfl (E_289 (Nat.le_trans (by decide) hd) e_q19) rfl ?_
    refine Ex.ifc rfl rfl (fun (c0 : q19.1 = 0) => ?_) (fun (c0 : ¬ (q19.1 = 0)) => ?_)
    · rw [if_pos c0] at hf
      exact Ex.weak (sm_le_s (sm_le_n (sm_le_n (sm_le_n (sm_le_n (sm_le_n (sm_le_s sm_le_nil))))))) (B_390_25 hd  hf hs)
    · rw [if_neg c0] at hf
      refine Ex.seg 1 (pc' := 22) (lc' := [some (.ref 67), some (.int x1), some (.int x2), some (.int x3), some (.int x4), some (.int x5), none]) (st' := [.int x3]) (h' := q19.2) (sg1 rfl rfl rfl) ?_
      refine Ex.ifc rfl rfl (fun (c0 : ¬ (x3 = 0)) => ?_) (fun (c0 : ¬ ¬ (x3 = 0)) => ?_)
      · rw [if_neg c0] at hf
        refine Ex.seg 4 (pc' := 37) (lc' := [some (.ref 67), some (.int x1), some (.int x2), some (.int x3), some (.int x4), some (.int x5), none]) (st' := [.long 99, .long 0, .long (Int32.toInt64 x2)]) (h' := q19.2) (sg1 rfl rfl (sg1 rfl rfl (sg1 rfl rfl (sg1 rfl rfl rfl)))) ?_
        obtain ⟨q20, e_q20, hf⟩ := bnd hf
        refine Ex.callS (As := [.long (Int32.toInt64 x2), .long 0, .long 99]) (r := []) (v := some (.int q20.1)) (h' := q20.2) rfl rfl rfl rfl (Nat.le_of_ble_eq_true rfl) (E_315 (Nat.le_trans (by decide) hd) e_q20) rfl ?_
        refine Ex.ifc rfl rfl (fun (c0 : ¬ (q20.1 = 0)) => ?_) (fun (c0 : ¬ ¬ (q20.1 = 0)) => ?_)
        · rw [if_neg c0] at hf
          exact Ex.weak (sm_le_s (sm_le_n (sm_le_n (sm_le_n (sm_le_n (sm_le_n (sm_le_s sm_le_nil))))))) (B_390_56 hd  hf hs)
        · rw [if_pos (Classical.not_not.mp c0)] at hf
          refine Ex.seg 4 (pc' := 50) (lc' := [some (.ref 67), some (.int x1), some (.int x2), some (.int x3), some (.int x4), some (.int x5), none]) (st' := [.long 3, .long 0, .long (Int32.toInt64 x5)]) (h' := q20.2) (sg1 rfl rfl (sg1 rfl rfl (sg1 rfl rfl (sg1 rfl rfl rfl)))) ?_
          obtain ⟨q21, e_q21, hf⟩ := bnd hf
          refine Ex.callS (As := [.long (Int32.toInt64 x5), .long 0, .long 3]) (r := []) (v := some (.int q21.1)) (h' := q21.2) rfl rfl rfl rfl (Nat.le_of_ble_eq_true rfl) (E_315 (Nat.le_trans (by decide) hd) e_q21) rfl ?_
          refine Ex.ifc rfl rfl (fun (c0 : q21.1 = 0) => ?_) (fun (c0 : ¬ (q21.1 = 0)) => ?_)
          · rw [if_pos c0] at hf
            refine Ex.seg 3 (pc' := 68) (lc' := [some (.ref 67), some (.int x1), some (.int x2), some (.int x3), some (.int x4), some (.int x5), none]) (st' := [.int 100, .int (q21.2.1 67 32)]) (h' := q21.2) (sg1 rfl rfl (sg1 rfl rfl (sg1 rfl rfl rfl))) ?_
            refine Ex.icmp rfl rfl (fun (c0 : (q21.2.1 67 32) = 100) => ?_) (fun (c0 : ¬ ((q21.2.1 67 32) = 100)) => ?_)
            · rw [if_pos c0] at hf
              exact Ex.weak (sm_le_s (sm_le_n (sm_le_n (sm_le_n (sm_le_n (sm_le_n (sm_le_s sm_le_nil))))))) (B_390_85 hd  hf hs)
            · rw [if_neg c0] at hf
              refine Ex.seg 1 (pc' := 73) (lc' := [some (.ref 67), some (.int x1), some (.int x2), some (.int x3), some (.int x4), some (.int x5), none]) (st' := [.int x4]) (h' := q21.2) (sg1 rfl rfl rfl) ?_
              refine Ex.ifc rfl rfl (fun (c0 : ¬ (x4 = 0)) => ?_) (fun (c0 : ¬ ¬ (x4 = 0)) => ?_)
              · rw [if_neg c0] at hf
                exact Ex.weak (sm_le_s (sm_le_s (sm_le_s (sm_le_s (sm_le_s (sm_le_s (sm_le_s sm_le_nil))))))) (B_390_91 hd  hf hs)
              · rw [if_pos (Classical.not_not.mp c0)] at hf
                refine Ex.seg 3 (pc' := 82) (lc' := [some (.ref 67), some (.int x1), some (.int x2), some (.int x3), some (.int x4), some (.int x5), none]) (st' := [.int 24, .int (q21.2.1 67 33)]) (h' := q21.2) (sg1 rfl rfl (sg1 rfl rfl (sg1 rfl rfl rfl))) ?_
                refine Ex.icmp rfl rfl (fun (c0 : ¬ ((q21.2.1 67 33) = 24)) => ?_) (fun (c0 : ¬ ¬ ((q21.2.1 67 33) = 24)) => ?_)
                · rw [if_neg c0] at hf
                  exact Ex.weak (sm_le_s (sm_le_s (sm_le_s (sm_le_s (sm_le_s (sm_le_s (sm_le_s sm_le_nil))))))) (B_390_91 hd  hf hs)
                · rw [if_pos (Classical.not_not.mp c0)] at hf
                  exact Ex.weak (sm_le_s (sm_le_n (sm_le_n (sm_le_n (sm_le_n (sm_le_n (sm_le_s sm_le_nil))))))) (B_390_85 hd  hf hs)
          · rw [if_neg c0] at hf
            exact Ex.weak (sm_le_s (sm_le_n (sm_le_n (sm_le_n (sm_le_n (sm_le_n (sm_le_s sm_le_nil))))))) (B_390_56 hd  hf hs)
      · rw [if_pos (Classical.not_not.mp c0)] at hf
        exact Ex.weak (sm_le_s (sm_le_n (sm_le_n (sm_le_n (sm_le_n (sm_le_n (sm_le_s sm_le_nil))))))) (B_390_25 hd  hf hs)
theorem E_390 {L : Nat} {xs : Nat → Int32} {d : Nat} (hd : 3 ≤ d) {x1 : Int32} {x2 : Int32} {x3 : Int32} {x4 : Int32} {x5 : Int32} {h : sm_H} {r : Int32 × sm_H} (hf : F_390 x1 x2 x3 x4 x5 h = some r) : RUN L xs d 390 [.ref 67, .int x1, .int x2, .int x3, .int x4, .int x5] h (some (.int r.1), r.2) := by
  obtain ⟨d, rfl⟩ : ∃ e, d = e + 1 := ⟨d - 1, by omega⟩
  exact ⟨Nat.le_of_ble_eq_true rfl, B_390_0 (by omega) hf rfl⟩
theorem B_391_148 {L : Nat} {xs : Nat → Int32} {d : Nat} (hd : 2 ≤ d) {res : Option Value × sm_H} {y1 : Int32} {y2 : Int32} {y3 : Int32} {y4 : Int32} {y5 : Int32}  {h : sm_H} {r : (Int32 × sm_H)} (hf : F_391_148 y1 y2 y3 y4 y5 h = some r) (hs : (fun (r : Int32 × sm_H) => res = (some (.int r.1), r.2)) r) : Ex (P_G L xs) (RUN L xs d) (sm_lk P_t391) 0 148 [some (.ref 67), some (.int y1), some (.int y2), some (.int y3), some (.int y4), some (.int y5)] [] h res := by
  unfold F_391_148 at hf
  refine Ex.seg 3 (pc' := 154) (lc' := [some (.ref 67), some (.int y1), some (.int y2), some (.int y3), some (.int y4), some (.int y5)]) (st' := [.int 100, .int (h.1 67 32)]) (h' := h) (sg1 rfl rfl (sg1 rfl rfl (sg1 rfl rfl rfl))) ?_
  refine Ex.icmp rfl rfl (fun (c0 : ¬ ((h.1 67 32) = 100)) => ?_) (fun (c0 : ¬ ¬ ((h.1 67 32) = 100)) => ?_)
  · rw [if_neg c0] at hf
    refine Ex.seg 5 (pc' := 170) (lc' := [some (.ref 67), some (.int y1), some (.int y2), some (.int y3), some (.int y4), some (.int y5)]) (st' := [.int y4, .int y5, .int y2, .int y1, .ref 67]) (h' := h) (sg1 rfl rfl (sg1 rfl rfl (sg1 rfl rfl (sg1 rfl rfl (sg1 rfl rfl rfl))))) ?_
    obtain ⟨q1, e_q1, hf⟩ := bnd hf
    refine Ex.callV (a := 67) (As := [.int y1, .int y2, .int y5, .int y4]) (r := []) (v := none) (h' := q1) rfl rfl (by decide) rfl (Nat.le_of_ble_eq_true rfl) rfl (E_389 (Nat.le_trans (by decide) hd) e_q1) rfl ?_
    refine Ex.seg 5 (pc' := 182) (lc' := [some (.ref 67), some (.int y1), some (.int y2), some (.int y3), some (.int y4), some (.int y5)]) (st' := [.int 0, .int (q1.1 67 32), .ref 87]) (h' := q1) (sg1 rfl rfl (sg1 rfl rfl (sg1 rfl rfl (sg1 rfl rfl (sg1 rfl rfl rfl))))) ?_
    obtain ⟨h2, e_h2, hf⟩ := bnd hf
    refine Ex.zast e_h2 rfl rfl ?_
    refine Ex.seg 5 (pc' := 192) (lc' := [some (.ref 67), some (.int y1), some (.int y2), some (.int y3), some (.int y4), some (.int y5)]) (st' := [.int y3, .int (h2.1 67 32), .ref 90]) (h' := h2) (sg1 rfl rfl (sg1 rfl rfl (sg1 rfl rfl (sg1 rfl rfl (sg1 rfl rfl rfl))))) ?_
    obtain ⟨h3, e_h3, hf⟩ := bnd hf
    refine Ex.iast e_h3 rfl rfl ?_
    refine Ex.seg 5 (pc' := 202) (lc' := [some (.ref 67), some (.int y1), some (.int y2), some (.int y3), some (.int y4), some (.int y5)]) (st' := [.ref 67, .int (h3.1 67 32), .ref 89]) (h' := h3) (sg1 rfl rfl (sg1 rfl rfl (sg1 rfl rfl (sg1 rfl rfl (sg1 rfl rfl rfl))))) ?_
    obtain ⟨q4, e_q4, hf⟩ := bnd hf
    refine Ex.callV (a := 67) (As := []) (r := [.int (h3.1 67 32), .ref 89]) (v := some (.int q4.1)) (h' := q4.2) rfl rfl (by decide) rfl (Nat.le_of_ble_eq_true rfl) rfl (E_302 (Nat.le_trans (by decide) hd) e_q4) rfl ?_
    obtain ⟨h5, e_h5, hf⟩ := bnd hf
    refine Ex.iast e_h5 rfl rfl ?_
    refine Ex.seg 6 (pc' := 216) (lc' := [some (.ref 67), some (.int y1), some (.int y2), some (.int y3), some (.int y4), some (.int y5)]) (st' := []) (h' := (sm_wI h5 67 32 ((h5.1 67 32) + 1))) (sg1 rfl rfl (sg1 rfl rfl (sg1 rfl rfl (sg1 rfl rfl (sg1 rfl rfl (sg1 rfl rfl rfl)))))) ?_
    obtain ⟨h6, e_h6, hf⟩ := bnd hf
    rw [Option.some.inj e_h6]
    refine Ex.seg 4 (pc' := 222) (lc' := [some (.ref 67), some (.int y1), some (.int y2), some (.int y3), some (.int y4), some (.int y5)]) (st' := [.int ((h6.1 67 32) - 1)]) (h' := h6) (sg1 rfl rfl (sg1 rfl rfl (sg1 rfl rfl (sg1 rfl rfl rfl)))) ?_
    obtain rfl := Option.some.inj hf
    exact Ex.iret rfl rfl (fun c0 => by cases c0) hs
  · rw [if_pos (Classical.not_not.mp c0)] at hf
    refine Ex.seg 2 (pc' := 159) (lc' := [some (.ref 67), some (.int y1), some (.int y2), some (.int y3), some (.int y4), some (.int y5)]) (st' := [.int 5, .ref 67]) (h' := h) (sg1 rfl rfl (sg1 rfl rfl rfl)) ?_
    obtain ⟨q7, e_q7, hf⟩ := bnd hf
    refine Ex.callV (a := 67) (As := [.int 5]) (r := []) (v := some (.int q7.1)) (h' := q7.2) rfl rfl (by decide) rfl (Nat.le_of_ble_eq_true rfl) rfl (E_388 (Nat.le_trans (by decide) hd) e_q7) rfl ?_
    obtain rfl := Option.some.inj hf
    exact Ex.iret rfl rfl (fun c0 => by cases c0) hs
theorem B_391_108 {L : Nat} {xs : Nat → Int32} {d : Nat} (hd : 2 ≤ d) {res : Option Value × sm_H} {y1 : Int32} {y2 : Int32} {y3 : Int32} {y4 : Int32} {y5 : Int32} {z1 : Int32} {z2 : Int32}  {h : sm_H} {r : (Int32 × sm_H)} (hf : F_391_108 y1 y2 y3 y4 y5 z1 z2 h = some r) (hs : (fun (r : Int32 × sm_H) => res = (some (.int r.1), r.2)) r) : Ex (P_G L xs) (RUN L xs d) (sm_lk P_t391) 0 108 [some (.ref 67), some (.int y1), some (.int y2), some (.int y3), some (.int y4), some (.int y5)] [.int z2, .int z1, .ref 67] h res := by
  unfold F_391_108 at hf
  refine Ex.seg 2 (pc' := 110) (lc' := [some (.ref 67), some (.int y1), some (.int y2), some (.int y3), some (.int y4), some (.int y5)]) (st' := [.int y3, .ref 67, .int z2, .int z1, .ref 67]) (h' := h) (sg1 rfl rfl (sg1 rfl rfl rfl)) ?_
  obtain ⟨q8, e_q8, hf⟩ := bnd hf
  refine Ex.callV (a := 67) (As := [.int y3]) (r := [.int z2, .int z1, .ref 67]) (v := some (.int q8.1)) (h' := q8.2) rfl rfl (by decide) rfl (Nat.le_of_ble_eq_true rfl) rfl (E_305 (Nat.le_trans (by decide) hd) e_q8) rfl ?_
  obtain ⟨q9, e_q9, hf⟩ := bnd hf
  refine Ex.callV (a := 67) (As := [.int z1, .int z2, .int q8.1]) (r := []) (v := none) (h' := q9) rfl rfl (by decide) rfl (Nat.le_of_ble_eq_true rfl) rfl (E_310 (Nat.le_trans (by decide) hd) e_q9) rfl ?_
  refine Ex.seg 5 (pc' := 125) (lc' := [some (.ref 67), some (.int y1), some (.int y2), some (.int y3), some (.int y4), some (.int y5)]) (st' := [.int (q9.1 67 21), .int (q9.1 67 20), .ref 67]) (h' := q9) (sg1 rfl rfl (sg1 rfl rfl (sg1 rfl rfl (sg1 rfl rfl (sg1 rfl rfl rfl))))) ?_
  obtain ⟨q10, e_q10, hf⟩ := bnd hf
  refine Ex.callV (a := 67) (As := [.int (q9.1 67 20), .int (q9.1 67 21)]) (r := []) (v := some (.int q10.1)) (h' := q10.2) rfl rfl (by decide) rfl (Nat.le_of_ble_eq_true rfl) rfl (E_301 (Nat.le_trans (by decide) hd) e_q10) rfl ?_
  refine Ex.seg 1 (pc' := 129) (lc' := [some (.ref 67), some (.int y1), some (.int y2), some (.int y3), some (.int y4), some (.int y5)]) (st' := [.int (-1), .int q10.1]) (h' := q10.2) (sg1 rfl rfl rfl) ?_
  refine Ex.icmp rfl rfl (fun (c0 : ¬ (q10.1 = (-1))) => ?_) (fun (c0 : ¬ ¬ (q10.1 = (-1))) => ?_)
  · rw [if_neg c0] at hf
    exact Ex.weak (sm_le_s (sm_le_s (sm_le_s (sm_le_s (sm_le_s (sm_le_s sm_le_nil)))))) (B_391_148 hd  hf hs)
  · rw [if_pos (Classical.not_not.mp c0)] at hf
    refine Ex.seg 3 (pc' := 139) (lc' := [some (.ref 67), some (.int y1), some (.int y2), some (.int y3), some (.int y4), some (.int y5)]) (st' := [.int 300, .int (q10.2.1 67 10)]) (h' := q10.2) (sg1 rfl rfl (sg1 rfl rfl (sg1 rfl rfl rfl))) ?_
    refine Ex.icmp rfl rfl (fun (c0 : ¬ ((q10.2.1 67 10) = 300)) => ?_) (fun (c0 : ¬ ¬ ((q10.2.1 67 10) = 300)) => ?_)
    · rw [if_neg c0] at hf
      exact Ex.weak (sm_le_s (sm_le_s (sm_le_s (sm_le_s (sm_le_s (sm_le_s sm_le_nil)))))) (B_391_148 hd  hf hs)
    · rw [if_pos (Classical.not_not.mp c0)] at hf
      refine Ex.seg 2 (pc' := 144) (lc' := [some (.ref 67), some (.int y1), some (.int y2), some (.int y3), some (.int y4), some (.int y5)]) (st' := [.int 4, .ref 67]) (h' := q10.2) (sg1 rfl rfl (sg1 rfl rfl rfl)) ?_
      obtain ⟨q11, e_q11, hf⟩ := bnd hf
      refine Ex.callV (a := 67) (As := [.int 4]) (r := []) (v := some (.int q11.1)) (h' := q11.2) rfl rfl (by decide) rfl (Nat.le_of_ble_eq_true rfl) rfl (E_388 (Nat.le_trans (by decide) hd) e_q11) rfl ?_
      obtain rfl := Option.some.inj hf
      exact Ex.iret rfl rfl (fun c0 => by cases c0) hs
theorem B_391_87 {L : Nat} {xs : Nat → Int32} {d : Nat} (hd : 2 ≤ d) {res : Option Value × sm_H} {y1 : Int32} {y2 : Int32} {y3 : Int32} {y4 : Int32} {y5 : Int32}  {h : sm_H} {r : (Int32 × sm_H)} (hf : F_391_87 y1 y2 y3 y4 y5 h = some r) (hs : (fun (r : Int32 × sm_H) => res = (some (.int r.1), r.2)) r) : Ex (P_G L xs) (RUN L xs d) (sm_lk P_t391) 0 87 [some (.ref 67), some (.int y1), some (.int y2), some (.int y3), some (.int y4), some (.int y5)] [] h res := by
  unfold F_391_87 at hf
  refine Ex.seg 3 (pc' := 90) (lc' := [some (.ref 67), some (.int y1), some (.int y2), some (.int y3), some (.int y4), some (.int y5)]) (st' := [.int y3, .ref 67, .ref 67]) (h' := h) (sg1 rfl rfl (sg1 rfl rfl (sg1 rfl rfl rfl))) ?_
  obtain ⟨q12, e_q12, hf⟩ := bnd hf
  refine Ex.callV (a := 67) (As := [.int y3]) (r := [.ref 67]) (v := some (.int q12.1)) (h' := q12.2) rfl rfl (by decide) rfl (Nat.le_of_ble_eq_true rfl) rfl (E_307 (Nat.le_trans (by decide) hd) e_q12) rfl ?_
  obtain ⟨q13, e_q13, hf⟩ := bnd hf
  refine Ex.callV (a := 67) (As := [.int q12.1]) (r := []) (v := none) (h' := q13) rfl rfl (by decide) rfl (Nat.le_of_ble_eq_true rfl) rfl (E_308 (Nat.le_trans (by decide) hd) e_q13) rfl ?_
  refine Ex.seg 3 (pc' := 100) (lc' := [some (.ref 67), some (.int y1), some (.int y2), some (.int y3), some (.int y4), some (.int y5)]) (st' := [.int y4, .int y3, .ref 67]) (h' := q13) (sg1 rfl rfl (sg1 rfl rfl (sg1 rfl rfl rfl))) ?_
  refine Ex.ifc rfl rfl (fun (c0 : y4 = 0) => ?_) (fun (c0 : ¬ (y4 = 0)) => ?_)
  · rw [if_pos c0] at hf
    refine Ex.seg 1 (pc' := 108) (lc' := [some (.ref 67), some (.int y1), some (.int y2), some (.int y3), some (.int y4), some (.int y5)]) (st' := [.int 1, .int y3, .ref 67]) (h' := q13) (sg1 rfl rfl rfl) ?_
    exact Ex.weak (sm_le_s (sm_le_s (sm_le_s (sm_le_s (sm_le_s (sm_le_s sm_le_nil)))))) (B_391_108 hd  hf hs)
  · rw [if_neg c0] at hf
    refine Ex.seg 2 (pc' := 108) (lc' := [some (.ref 67), some (.int y1), some (.int y2), some (.int y3), some (.int y4), some (.int y5)]) (st' := [.int 0, .int y3, .ref 67]) (h' := q13) (sg1 rfl rfl (sg1 rfl rfl rfl)) ?_
    exact Ex.weak (sm_le_s (sm_le_s (sm_le_s (sm_le_s (sm_le_s (sm_le_s sm_le_nil)))))) (B_391_108 hd  hf hs)
theorem B_391_81 {L : Nat} {xs : Nat → Int32} {d : Nat} (hd : 2 ≤ d) {res : Option Value × sm_H}   {h : sm_H} {r : (Int32 × sm_H)} (hf : F_391_81  h = some r) (hs : (fun (r : Int32 × sm_H) => res = (some (.int r.1), r.2)) r) : Ex (P_G L xs) (RUN L xs d) (sm_lk P_t391) 0 81 [some (.ref 67), none, none, none, none, none] [] h res := by
  unfold F_391_81 at hf
  refine Ex.seg 2 (pc' := 83) (lc' := [some (.ref 67), none, none, none, none, none]) (st' := [.int 3, .ref 67]) (h' := h) (sg1 rfl rfl (sg1 rfl rfl rfl)) ?_
  obtain ⟨q14, e_q14, hf⟩ := bnd hf
  refine Ex.callV (a := 67) (As := [.int 3]) (r := []) (v := some (.int q14.1)) (h' := q14.2) rfl rfl (by decide) rfl (Nat.le_of_ble_eq_true rfl) rfl (E_388 (Nat.le_trans (by decide) hd) e_q14) rfl ?_
  obtain rfl := Option.some.inj hf
  exact Ex.iret rfl rfl (fun c0 => by cases c0) hs
theorem B_391_52 {L : Nat} {xs : Nat → Int32} {d : Nat} (hd : 2 ≤ d) {res : Option Value × sm_H}   {h : sm_H} {r : (Int32 × sm_H)} (hf : F_391_52  h = some r) (hs : (fun (r : Int32 × sm_H) => res = (some (.int r.1), r.2)) r) : Ex (P_G L xs) (RUN L xs d) (sm_lk P_t391) 0 52 [some (.ref 67), none, none, none, none, none] [] h res := by
  unfold F_391_52 at hf
  refine Ex.seg 2 (pc' := 54) (lc' := [some (.ref 67), none, none, none, none, none]) (st' := [.int 2, .ref 67]) (h' := h) (sg1 rfl rfl (sg1 rfl rfl rfl)) ?_
  obtain ⟨q15, e_q15, hf⟩ := bnd hf
  refine Ex.callV (a := 67) (As := [.int 2]) (r := []) (v := some (.int q15.1)) (h' := q15.2) rfl rfl (by decide) rfl (Nat.le_of_ble_eq_true rfl) rfl (E_388 (Nat.le_trans (by decide) hd) e_q15) rfl ?_
  obtain rfl := Option.some.inj hf
  exact Ex.iret rfl rfl (fun c0 => by cases c0) hs
theorem B_391_21 {L : Nat} {xs : Nat → Int32} {d : Nat} (hd : 2 ≤ d) {res : Option Value × sm_H}   {h : sm_H} {r : (Int32 × sm_H)} (hf : F_391_21  h = some r) (hs : (fun (r : Int32 × sm_H) => res = (some (.int r.1), r.2)) r) : Ex (P_G L xs) (RUN L xs d) (sm_lk P_t391) 0 21 [some (.ref 67), none, none, none, none, none] [] h res := by
  unfold F_391_21 at hf
  refine Ex.seg 2 (pc' := 23) (lc' := [some (.ref 67), none, none, none, none, none]) (st' := [.int 1, .ref 67]) (h' := h) (sg1 rfl rfl (sg1 rfl rfl rfl)) ?_
  obtain ⟨q16, e_q16, hf⟩ := bnd hf
  refine Ex.callV (a := 67) (As := [.int 1]) (r := []) (v := some (.int q16.1)) (h' := q16.2) rfl rfl (by decide) rfl (Nat.le_of_ble_eq_true rfl) rfl (E_388 (Nat.le_trans (by decide) hd) e_q16) rfl ?_
  obtain rfl := Option.some.inj hf
  exact Ex.iret rfl rfl (fun c0 => by cases c0) hs
theorem B_391_0 {L : Nat} {xs : Nat → Int32} {d : Nat} (hd : 2 ≤ d) {res : Option Value × sm_H} {x1 : Int32} {x2 : Int32} {x3 : Int32} {x4 : Int32} {x5 : Int32}  {h : sm_H} {r : (Int32 × sm_H)} (hf : F_391_0 x1 x2 x3 x4 x5 h = some r) (hs : (fun (r : Int32 × sm_H) => res = (some (.int r.1), r.2)) r) : Ex (P_G L xs) (RUN L xs d) (sm_lk P_t391) 0 0 [some (.ref 67), some (.int x1), some (.int x2), some (.int x3), some (.int x4), some (.int x5)] [] h res := by
  unfold F_391_0 at hf
  refine Ex.seg 3 (pc' := 5) (lc' := [some (.ref 67), some (.int x1), some (.int x2), some (.int x3), some (.int x4), some (.int x5)]) (st' := []) (h' := (sm_wI h 67 19 0)) (sg1 rfl rfl (sg1 rfl rfl (sg1 rfl rfl rfl))) ?_
  obtain ⟨h17, e_h17, hf⟩ := bnd hf
  rw [Option.some.inj e_h17]
  refine Ex.seg 2 (pc' := 7) (lc' := [some (.ref 67), some (.int x1), some (.int x2), some (.int x3), some (.int x4), some (.int x5)]) (st' := [.int x1, .ref 67]) (h' := h17) (sg1 rfl rfl (sg1 rfl rfl rfl)) ?_
  obtain ⟨q18, e_q18, hf⟩ := bnd hf
  refine Ex.callV (a := 67) (As := [.int x1]) (r := []) (v := some (.int q18.1)) (h' := q18.2) rfl rfl (by decide) rfl (Nat.le_of_ble_eq_true rfl) rfl (E_387 (Nat.le_trans (by decide) hd) e_q18) rfl ?_
  refine Ex.ifc rfl rfl (fun (c0 : q18.1 = 0) => ?_) (fun (c0 : ¬ (q18.1 = 0)) => ?_)
  · rw [if_pos c0] at hf
    exact Ex.weak (sm_le_s (sm_le_n (sm_le_n (sm_le_n (sm_le_n (sm_le_n sm_le_nil)))))) (B_391_21 hd  hf hs)
  · rw [if_neg c0] at hf
    refine Ex.seg 2 (pc' := 15) (lc' := [some (.ref 67), some (.int x1), some (.int x2), some (.int x3), some (.int x4), some (.int x5)]) (st' := [.int x3, .ref 67]) (h' := q18.2) (sg1 rfl rfl (sg1 rfl rfl rfl)) ?_
    obtain ⟨q19, e_q19, hf⟩ := bnd hf
    refine Ex.callV (a := 67) (As := [.int x3]) (r := []) (v := some (.int q19.1)) (h' := q19.2) rfl rfl (by decide) rfl (Nat.le_of_ble_eq_true rfl) rfl (E_304 (Nat.le_trans (by decide) hd) e_q19) rfl ?_
    refine Ex.ifc rfl rfl (fun (c0 : ¬ (q19.1 = 0)) => ?_) (fun (c0 : ¬ ¬ (q19.1 = 0)) => ?_)
    · rw [if_neg c0] at hf
      refine Ex.seg 4 (pc' := 33) (lc' := [some (.ref 67), some (.int x1), some (.int x2), some (.int x3), some (.int x4), some (.int x5)]) (st' := [.long 99, .long 0, .long (Int32.toInt64 x2)]) (h' := q19.2) (sg1 rfl rfl (sg1 rfl rfl (sg1 rfl rfl (sg1 rfl rfl rfl)))) ?_
      obtain ⟨q20, e_q20, hf⟩ := bnd hf
      refine Ex.callS (As := [.long (Int32.toInt64 x2), .long 0, .long 99]) (r := []) (v := some (.int q20.1)) (h' := q20.2) rfl rfl rfl rfl (Nat.le_of_ble_eq_true rfl) (E_315 (Nat.le_trans (by decide) hd) e_q20) rfl ?_
      refine Ex.ifc rfl rfl (fun (c0 : ¬ (q20.1 = 0)) => ?_) (fun (c0 : ¬ ¬ (q20.1 = 0)) => ?_)
      · rw [if_neg c0] at hf
        exact Ex.weak (sm_le_s (sm_le_n (sm_le_n (sm_le_n (sm_le_n (sm_le_n sm_le_nil)))))) (B_391_52 hd  hf hs)
      · rw [if_pos (Classical.not_not.mp c0)] at hf
        refine Ex.seg 4 (pc' := 46) (lc' := [some (.ref 67), some (.int x1), some (.int x2), some (.int x3), some (.int x4), some (.int x5)]) (st' := [.long 3, .long 0, .long (Int32.toInt64 x5)]) (h' := q20.2) (sg1 rfl rfl (sg1 rfl rfl (sg1 rfl rfl (sg1 rfl rfl rfl)))) ?_
        obtain ⟨q21, e_q21, hf⟩ := bnd hf
        refine Ex.callS (As := [.long (Int32.toInt64 x5), .long 0, .long 3]) (r := []) (v := some (.int q21.1)) (h' := q21.2) rfl rfl rfl rfl (Nat.le_of_ble_eq_true rfl) (E_315 (Nat.le_trans (by decide) hd) e_q21) rfl ?_
        refine Ex.ifc rfl rfl (fun (c0 : q21.1 = 0) => ?_) (fun (c0 : ¬ (q21.1 = 0)) => ?_)
        · rw [if_pos c0] at hf
          refine Ex.seg 1 (pc' := 60) (lc' := [some (.ref 67), some (.int x1), some (.int x2), some (.int x3), some (.int x4), some (.int x5)]) (st' := [.int x4]) (h' := q21.2) (sg1 rfl rfl rfl) ?_
          refine Ex.ifc rfl rfl (fun (c0 : ¬ (x4 = 0)) => ?_) (fun (c0 : ¬ ¬ (x4 = 0)) => ?_)
          · rw [if_neg c0] at hf
            exact Ex.weak (sm_le_s (sm_le_s (sm_le_s (sm_le_s (sm_le_s (sm_le_s sm_le_nil)))))) (B_391_87 hd  hf hs)
          · rw [if_pos (Classical.not_not.mp c0)] at hf
            refine Ex.seg 2 (pc' := 65) (lc' := [some (.ref 67), some (.int x1), some (.int x2), some (.int x3), some (.int x4), some (.int x5)]) (st' := [.int x3, .ref 67]) (h' := q21.2) (sg1 rfl rfl (sg1 rfl rfl rfl)) ?_
            obtain ⟨q22, e_q22, hf⟩ := bnd hf
            refine Ex.callV (a := 67) (As := [.int x3]) (r := []) (v := some (.int q22.1)) (h' := q22.2) rfl rfl (by decide) rfl (Nat.le_of_ble_eq_true rfl) rfl (E_305 (Nat.le_trans (by decide) hd) e_q22) rfl ?_
            refine Ex.ifc rfl rfl (fun (c0 : q22.1 = 0) => ?_) (fun (c0 : ¬ (q22.1 = 0)) => ?_)
            · rw [if_pos c0] at hf
              exact Ex.weak (sm_le_s (sm_le_n (sm_le_n (sm_le_n (sm_le_n (sm_le_n sm_le_nil)))))) (B_391_81 hd  hf hs)
            · rw [if_neg c0] at hf
              refine Ex.seg 3 (pc' := 74) (lc' := [some (.ref 67), some (.int x1), some (.int x2), some (.int x3), some (.int x4), some (.int x5)]) (st' := [.int 0, .int x3, .ref 67]) (h' := q22.2) (sg1 rfl rfl (sg1 rfl rfl (sg1 rfl rfl rfl))) ?_
              obtain ⟨q23, e_q23, hf⟩ := bnd hf
              refine Ex.callV (a := 67) (As := [.int x3, .int 0]) (r := []) (v := some (.int q23.1)) (h' := q23.2) rfl rfl (by decide) rfl (Nat.le_of_ble_eq_true rfl) rfl (E_306 (Nat.le_trans (by decide) hd) e_q23) rfl ?_
              refine Ex.seg 1 (pc' := 78) (lc' := [some (.ref 67), some (.int x1), some (.int x2), some (.int x3), some (.int x4), some (.int x5)]) (st' := [.int x1, .int q23.1]) (h' := q23.2) (sg1 rfl rfl rfl) ?_
              refine Ex.icmp rfl rfl (fun (c0 : q23.1 = x1) => ?_) (fun (c0 : ¬ (q23.1 = x1)) => ?_)
              · rw [if_pos c0] at hf
                exact Ex.weak (sm_le_s (sm_le_s (sm_le_s (sm_le_s (sm_le_s (sm_le_s sm_le_nil)))))) (B_391_87 hd  hf hs)
              · rw [if_neg c0] at hf
                exact Ex.weak (sm_le_s (sm_le_n (sm_le_n (sm_le_n (sm_le_n (sm_le_n sm_le_nil)))))) (B_391_81 hd  hf hs)
        · rw [if_neg c0] at hf
          exact Ex.weak (sm_le_s (sm_le_n (sm_le_n (sm_le_n (sm_le_n (sm_le_n sm_le_nil)))))) (B_391_52 hd  hf hs)
    · rw [if_pos (Classical.not_not.mp c0)] at hf
      exact Ex.weak (sm_le_s (sm_le_n (sm_le_n (sm_le_n (sm_le_n (sm_le_n sm_le_nil)))))) (B_391_21 hd  hf hs)
theorem E_391 {L : Nat} {xs : Nat → Int32} {d : Nat} (hd : 3 ≤ d) {x1 : Int32} {x2 : Int32} {x3 : Int32} {x4 : Int32} {x5 : Int32} {h : sm_H} {r : Int32 × sm_H} (hf : F_391 x1 x2 x3 x4 x5 h = some r) : RUN L xs d 391 [.ref 67, .int x1, .int x2, .int x3, .int x4, .int x5] h (some (.int r.1), r.2) := by
  obtain ⟨d, rfl⟩ : ∃ e, d = e + 1 := ⟨d - 1, by omega⟩
  exact ⟨Nat.le_of_ble_eq_true rfl, B_391_0 (by omega) hf rfl⟩
theorem B_392_101 {L : Nat} {xs : Nat → Int32} {d : Nat} (hd : 2 ≤ d) {res : Option Value × sm_H} {z0 : Int32}  {h : sm_H} {r : (Int32 × sm_H)} (hf : F_392_101 z0 h = some r) (hs : (fun (r : Int32 × sm_H) => res = (some (.int r.1), r.2)) r) : Ex (P_G L xs) (RUN L xs d) (sm_lk P_t392) 3 101 [none, none, none, none, none] [.int z0] h res := by
  unfold F_392_101 at hf
  rcases Classical.em (z0 = 0 ∨ z0 = 1) with c0 | c0
  · rw [if_pos c0] at hf
    obtain rfl := Option.some.inj hf
    exact Ex.iret rfl rfl (fun _ => c0) hs
  · rw [if_neg c0] at hf
    cases hf
theorem B_392_96 {L : Nat} {xs : Nat → Int32} {d : Nat} (hd : 2 ≤ d) {res : Option Value × sm_H}   {h : sm_H} {r : (Int32 × sm_H)} (hf : F_392_96  h = some r) (hs : (fun (r : Int32 × sm_H) => res = (some (.int r.1), r.2)) r) : Ex (P_G L xs) (RUN L xs d) (sm_lk P_t392) 3 96 [none, none, none, none, none] [] h res := by
  unfold F_392_96 at hf
  refine Ex.seg 2 (pc' := 101) (lc' := [none, none, none, none, none]) (st' := [.int 1]) (h' := h) (sg1 rfl rfl (sg1 rfl rfl rfl)) ?_
  exact Ex.weak (sm_le_s (sm_le_s (sm_le_s (sm_le_s (sm_le_s sm_le_nil))))) (B_392_101 hd  hf hs)
theorem B_392_78 {L : Nat} {xs : Nat → Int32} {d : Nat} (hd : 2 ≤ d) {res : Option Value × sm_H} {z0 : Int32}  {h : sm_H} {r : (Int32 × sm_H)} (hf : F_392_78 z0 h = some r) (hs : (fun (r : Int32 × sm_H) => res = (some (.int r.1), r.2)) r) : Ex (P_G L xs) (RUN L xs d) (sm_lk P_t392) 3 78 [none, none, none, none, none] [.int z0] h res := by
  unfold F_392_78 at hf
  rcases Classical.em (z0 = 0 ∨ z0 = 1) with c0 | c0
  · rw [if_pos c0] at hf
    obtain rfl := Option.some.inj hf
    exact Ex.iret rfl rfl (fun _ => c0) hs
  · rw [if_neg c0] at hf
    cases hf
theorem B_392_33 {L : Nat} {xs : Nat → Int32} {d : Nat} (hd : 2 ≤ d) {res : Option Value × sm_H} {y1 : Int32} {y2 : Int32} {y3 : Int32} {z0 : Int32}  {h : sm_H} {r : (Int32 × sm_H)} (hf : F_392_33 y1 y2 y3 z0 h = some r) (hs : (fun (r : Int32 × sm_H) => res = (some (.int r.1), r.2)) r) : Ex (P_G L xs) (RUN L xs d) (sm_lk P_t392) 3 33 [some (.ref 67), some (.int y1), some (.int y2), some (.int y3), none] [.int z0] h res := by
  unfold F_392_33 at hf
  refine Ex.seg 4 (pc' := 40) (lc' := [some (.ref 67), some (.int y1), some (.int y2), some (.int y3), some (.int z0)]) (st' := [.int y2, .ref 85]) (h' := h) (sg1 rfl rfl (sg1 rfl rfl (sg1 rfl rfl (sg1 rfl rfl rfl)))) ?_
  obtain ⟨v1, e_v1, hf⟩ := bnd hf
  refine Ex.iald e_v1 rfl rfl ?_
  rcases Classical.em (v1 = 0) with n1 | n1
  · rw [if_pos n1] at hf
    refine Ex.swt (t := 68) rfl rfl (by rw [n1]; exact Or.inr ⟨by decide, by decide, _, rfl, by decide⟩) ?_
    refine Ex.seg 2 (pc' := 70) (lc' := [some (.ref 67), some (.int y1), some (.int y2), some (.int y3), some (.int z0)]) (st' := [.int y3, .int y1]) (h' := h) (sg1 rfl rfl (sg1 rfl rfl rfl)) ?_
    refine Ex.icmp rfl rfl (fun (c0 : ¬ (y1 = y3)) => ?_) (fun (c0 : ¬ ¬ (y1 = y3)) => ?_)
    · rw [if_neg c0] at hf
      refine Ex.seg 1 (pc' := 78) (lc' := [some (.ref 67), some (.int y1), some (.int y2), some (.int y3), some (.int z0)]) (st' := [.int 0]) (h' := h) (sg1 rfl rfl rfl) ?_
      exact Ex.weak (sm_le_n (sm_le_n (sm_le_n (sm_le_n (sm_le_n sm_le_nil))))) (B_392_78 hd  hf hs)
    · rw [if_pos (Classical.not_not.mp c0)] at hf
      refine Ex.seg 2 (pc' := 78) (lc' := [some (.ref 67), some (.int y1), some (.int y2), some (.int y3), some (.int z0)]) (st' := [.int 1]) (h' := h) (sg1 rfl rfl (sg1 rfl rfl rfl)) ?_
      exact Ex.weak (sm_le_n (sm_le_n (sm_le_n (sm_le_n (sm_le_n sm_le_nil))))) (B_392_78 hd  hf hs)
  rw [if_neg n1] at hf
  rcases Classical.em (v1 = 1) with n2 | n2
  · rw [if_pos n2] at hf
    refine Ex.swt (t := 79) rfl rfl (by rw [n2]; exact Or.inr ⟨by decide, by decide, _, rfl, by decide⟩) ?_
    refine Ex.seg 1 (pc' := 81) (lc' := [some (.ref 67), some (.int y1), some (.int y2), some (.int y3), some (.int z0)]) (st' := [.int z0]) (h' := h) (sg1 rfl rfl rfl) ?_
    rcases Classical.em (z0 = 0 ∨ z0 = 1) with c0 | c0
    · rw [if_pos c0] at hf
      obtain rfl := Option.some.inj hf
      exact Ex.iret rfl rfl (fun _ => c0) hs
    · rw [if_neg c0] at hf
      cases hf
  rw [if_neg n2] at hf
  rcases Classical.em (v1 = 2) with n3 | n3
  · rw [if_pos n3] at hf
    refine Ex.swt (t := 82) rfl rfl (by rw [n3]; exact Or.inr ⟨by decide, by decide, _, rfl, by decide⟩) ?_
    refine Ex.seg 1 (pc' := 84) (lc' := [some (.ref 67), some (.int y1), some (.int y2), some (.int y3), some (.int z0)]) (st' := [.int z0]) (h' := h) (sg1 rfl rfl rfl) ?_
    refine Ex.ifc rfl rfl (fun (c0 : ¬ (z0 = 0)) => ?_) (fun (c0 : ¬ ¬ (z0 = 0)) => ?_)
    · rw [if_neg c0] at hf
      exact Ex.weak (sm_le_n (sm_le_n (sm_le_n (sm_le_n (sm_le_n sm_le_nil))))) (B_392_96 hd  hf hs)
    · rw [if_pos (Classical.not_not.mp c0)] at hf
      refine Ex.seg 3 (pc' := 90) (lc' := [some (.ref 67), some (.int y1), some (.int y2), some (.int y3), some (.int z0)]) (st' := [.int y3, .int y1, .ref 67]) (h' := h) (sg1 rfl rfl (sg1 rfl rfl (sg1 rfl rfl rfl))) ?_
      obtain ⟨q2, e_q2, hf⟩ := bnd hf
      refine Ex.callV (a := 67) (As := [.int y1, .int y3]) (r := []) (v := some (.int q2.1)) (h' := q2.2) rfl rfl (by decide) rfl (Nat.le_of_ble_eq_true rfl) rfl (E_295 (Nat.le_trans (by decide) hd) e_q2) rfl ?_
      refine Ex.ifc rfl rfl (fun (c0 : q2.1 = 0) => ?_) (fun (c0 : ¬ (q2.1 = 0)) => ?_)
      · rw [if_pos c0] at hf
        refine Ex.seg 1 (pc' := 101) (lc' := [some (.ref 67), some (.int y1), some (.int y2), some (.int y3), some (.int z0)]) (st' := [.int 0]) (h' := q2.2) (sg1 rfl rfl rfl) ?_
        exact Ex.weak (sm_le_n (sm_le_n (sm_le_n (sm_le_n (sm_le_n sm_le_nil))))) (B_392_101 hd  hf hs)
      · rw [if_neg c0] at hf
        exact Ex.weak (sm_le_n (sm_le_n (sm_le_n (sm_le_n (sm_le_n sm_le_nil))))) (B_392_96 hd  hf hs)
  rw [if_neg n3] at hf
  refine Ex.swt (t := 102) rfl rfl (sw_dflt (by decide) (by decide) (fun k hk he => ?_)) ?_
  · have hk : k < 3 := hk
    rcases (show k = 0 ∨ k = 1 ∨ k = 2 by omega) with rfl | rfl | rfl
    · exact absurd (Int32.toInt_inj.mp (he.symm.trans (by decide : (_ : Int) = Int32.toInt 0))) n1
    · exact absurd (Int32.toInt_inj.mp (he.symm.trans (by decide : (_ : Int) = Int32.toInt 1))) n2
    · exact absurd (Int32.toInt_inj.mp (he.symm.trans (by decide : (_ : Int) = Int32.toInt 2))) n3
  refine Ex.seg 1 (pc' := 103) (lc' := [some (.ref 67), some (.int y1), some (.int y2), some (.int y3), some (.int z0)]) (st' := [.int 1]) (h' := h) (sg1 rfl rfl rfl) ?_
  obtain rfl := Option.some.inj hf
  exact Ex.iret rfl rfl (fun _ => by decide) hs
theorem B_392_0 {L : Nat} {xs : Nat → Int32} {d : Nat} (hd : 2 ≤ d) {res : Option Value × sm_H} {x1 : Int32} {x2 : Int32}  {h : sm_H} {r : (Int32 × sm_H)} (hf : F_392_0 x1 x2 h = some r) (hs : (fun (r : Int32 × sm_H) => res = (some (.int r.1), r.2)) r) : Ex (P_G L xs) (RUN L xs d) (sm_lk P_t392) 3 0 [some (.ref 67), some (.int x1), some (.int x2), none, none] [] h res := by
  unfold F_392_0 at hf
  refine Ex.seg 3 (pc' := 5) (lc' := [some (.ref 67), some (.int x1), some (.int x2), none, none]) (st' := [.int x2, .ref 83]) (h' := h) (sg1 rfl rfl (sg1 rfl rfl (sg1 rfl rfl rfl))) ?_
  obtain ⟨v3, e_v3, hf⟩ := bnd hf
  refine Ex.iald e_v3 rfl rfl ?_
  refine Ex.seg 6 (pc' := 15) (lc' := [some (.ref 67), some (.int x1), some (.int x2), some (.int v3), none]) (st' := [.int (x1 - 20), .ref 71]) (h' := h) (sg1 rfl rfl (sg1 rfl rfl (sg1 rfl rfl (sg1 rfl rfl (sg1 rfl rfl (sg1 rfl rfl rfl)))))) ?_
  obtain ⟨v4, e_v4, hf⟩ := bnd hf
  refine Ex.iald e_v4 rfl rfl ?_
  refine Ex.seg 5 (pc' := 24) (lc' := [some (.ref 67), some (.int x1), some (.int x2), some (.int v3), none]) (st' := [.int (v3 - 20), .ref 71, .int v4]) (h' := h) (sg1 rfl rfl (sg1 rfl rfl (sg1 rfl rfl (sg1 rfl rfl (sg1 rfl rfl rfl))))) ?_
  obtain ⟨v5, e_v5, hf⟩ := bnd hf
  refine Ex.iald e_v5 rfl rfl ?_
  refine Ex.icmp rfl rfl (fun (c0 : ¬ (v4 = v5)) => ?_) (fun (c0 : ¬ ¬ (v4 = v5)) => ?_)
  · rw [if_neg c0] at hf
    refine Ex.seg 1 (pc' := 33) (lc' := [some (.ref 67), some (.int x1), some (.int x2), some (.int v3), none]) (st' := [.int 0]) (h' := h) (sg1 rfl rfl rfl) ?_
    exact Ex.weak (sm_le_s (sm_le_s (sm_le_s (sm_le_s (sm_le_s sm_le_nil))))) (B_392_33 hd  hf hs)
  · rw [if_pos (Classical.not_not.mp c0)] at hf
    refine Ex.seg 2 (pc' := 33) (lc' := [some (.ref 67), some (.int x1), some (.int x2), some (.int v3), none]) (st' := [.int 1]) (h' := h) (sg1 rfl rfl (sg1 rfl rfl rfl)) ?_
    exact Ex.weak (sm_le_s (sm_le_s (sm_le_s (sm_le_s (sm_le_s sm_le_nil))))) (B_392_33 hd  hf hs)
theorem E_392 {L : Nat} {xs : Nat → Int32} {d : Nat} (hd : 3 ≤ d) {x1 : Int32} {x2 : Int32} {h : sm_H} {r : Int32 × sm_H} (hf : F_392 x1 x2 h = some r) : RUN L xs d 392 [.ref 67, .int x1, .int x2] h (some (.int r.1), r.2) := by
  obtain ⟨d, rfl⟩ : ∃ e, d = e + 1 := ⟨d - 1, by omega⟩
  exact ⟨Nat.le_of_ble_eq_true rfl, B_392_0 (by omega) hf rfl⟩
theorem B_393_93 {L : Nat} {xs : Nat → Int32} {d : Nat} (hd : 1 ≤ d) {res : Option Value × sm_H} {z0 : Int32}  {h : sm_H} {r : (Int32 × sm_H)} (hf : F_393_93 z0 h = some r) (hs : (fun (r : Int32 × sm_H) => res = (some (.int r.1), r.2)) r) : Ex (P_G L xs) (RUN L xs d) (sm_lk P_t393) 3 93 [none, none, none, none, none] [.int z0] h res := by
  unfold F_393_93 at hf
  rcases Classical.em (z0 = 0 ∨ z0 = 1) with c0 | c0
  · rw [if_pos c0] at hf
    obtain rfl := Option.some.inj hf
    exact Ex.iret rfl rfl (fun _ => c0) hs
  · rw [if_neg c0] at hf
    cases hf
theorem B_393_92 {L : Nat} {xs : Nat → Int32} {d : Nat} (hd : 1 ≤ d) {res : Option Value × sm_H}   {h : sm_H} {r : (Int32 × sm_H)} (hf : F_393_92  h = some r) (hs : (fun (r : Int32 × sm_H) => res = (some (.int r.1), r.2)) r) : Ex (P_G L xs) (RUN L xs d) (sm_lk P_t393) 3 92 [none, none, none, none, none] [] h res := by
  unfold F_393_92 at hf
  refine Ex.seg 1 (pc' := 93) (lc' := [none, none, none, none, none]) (st' := [.int 0]) (h' := h) (sg1 rfl rfl rfl) ?_
  exact Ex.weak (sm_le_s (sm_le_s (sm_le_s (sm_le_s (sm_le_s sm_le_nil))))) (B_393_93 hd  hf hs)
theorem B_393_85 {L : Nat} {xs : Nat → Int32} {d : Nat} (hd : 1 ≤ d) {res : Option Value × sm_H} {z0 : Int32} {z1 : Int32}  {h : sm_H} {r : (Int32 × sm_H)} (hf : F_393_85 z0 z1 h = some r) (hs : (fun (r : Int32 × sm_H) => res = (some (.int r.1), r.2)) r) : Ex (P_G L xs) (RUN L xs d) (sm_lk P_t393) 3 85 [none, none, none, none, none] [.int z1, .int z0] h res := by
  unfold F_393_85 at hf
  refine Ex.icmp rfl rfl (fun (c0 : ¬ (z0 = z1)) => ?_) (fun (c0 : ¬ ¬ (z0 = z1)) => ?_)
  · rw [if_neg c0] at hf
    exact Ex.weak (sm_le_s (sm_le_s (sm_le_s (sm_le_s (sm_le_s sm_le_nil))))) (B_393_92 hd  hf hs)
  · rw [if_pos (Classical.not_not.mp c0)] at hf
    refine Ex.seg 2 (pc' := 93) (lc' := [none, none, none, none, none]) (st' := [.int 1]) (h' := h) (sg1 rfl rfl (sg1 rfl rfl rfl)) ?_
    exact Ex.weak (sm_le_s (sm_le_s (sm_le_s (sm_le_s (sm_le_s sm_le_nil))))) (B_393_93 hd  hf hs)
theorem B_393_44 {L : Nat} {xs : Nat → Int32} {d : Nat} (hd : 1 ≤ d) {res : Option Value × sm_H}   {h : sm_H} {r : (Int32 × sm_H)} (hf : F_393_44  h = some r) (hs : (fun (r : Int32 × sm_H) => res = (some (.int r.1), r.2)) r) : Ex (P_G L xs) (RUN L xs d) (sm_lk P_t393) 3 44 [none, none, none, none, none] [] h res := by
  unfold F_393_44 at hf
  refine Ex.seg 1 (pc' := 45) (lc' := [none, none, none, none, none]) (st' := [.int 0]) (h' := h) (sg1 rfl rfl rfl) ?_
  obtain rfl := Option.some.inj hf
  exact Ex.iret rfl rfl (fun _ => by decide) hs
theorem B_393_0 {L : Nat} {xs : Nat → Int32} {d : Nat} (hd : 1 ≤ d) {res : Option Value × sm_H} {x1 : Int32} {x2 : Int32} {x3 : Int32} {x4 : Int32}  {h : sm_H} {r : (Int32 × sm_H)} (hf : F_393_0 x1 x2 x3 x4 h = some r) (hs : (fun (r : Int32 × sm_H) => res = (some (.int r.1), r.2)) r) : Ex (P_G L xs) (RUN L xs d) (sm_lk P_t393) 3 0 [some (.ref 67), some (.int x1), some (.int x2), some (.int x3), some (.int x4)] [] h res := by
  unfold F_393_0 at hf
  refine Ex.seg 3 (pc' := 5) (lc' := [some (.ref 67), some (.int x1), some (.int x2), some (.int x3), some (.int x4)]) (st' := [.int x1, .ref 84]) (h' := h) (sg1 rfl rfl (sg1 rfl rfl (sg1 rfl rfl rfl))) ?_
  obtain ⟨v1, e_v1, hf⟩ := bnd hf
  refine Ex.iald e_v1 rfl rfl ?_
  refine Ex.seg 1 (pc' := 7) (lc' := [some (.ref 67), some (.int x1), some (.int x2), some (.int x3), some (.int x4)]) (st' := [.int x2, .int v1]) (h' := h) (sg1 rfl rfl rfl) ?_
  refine Ex.icmp rfl rfl (fun (c0 : v1 = x2) => ?_) (fun (c0 : ¬ (v1 = x2)) => ?_)
  · rw [if_pos c0] at hf
    refine Ex.seg 2 (pc' := 15) (lc' := [some (.ref 67), some (.int x1), some (.int x2), some (.int x3), some (.int x4)]) (st' := [.int 3, .int x4]) (h' := h) (sg1 rfl rfl (sg1 rfl rfl rfl)) ?_
    refine Ex.icmp rfl rfl (fun (c0 : x4 ≤ 3) => ?_) (fun (c0 : ¬ (x4 ≤ 3)) => ?_)
    · rw [if_pos c0] at hf
      refine Ex.seg 3 (pc' := 30) (lc' := [some (.ref 67), some (.int x1), some (.int x2), some (.int x3), some (.int x4)]) (st' := [.int x1, .ref 87]) (h' := h) (sg1 rfl rfl (sg1 rfl rfl (sg1 rfl rfl rfl))) ?_
      obtain ⟨v2, e_v2, hf⟩ := bnd hf
      refine Ex.zald e_v2 rfl rfl ?_
      refine Ex.ifc rfl rfl (fun (c0 : ¬ (v2 = 0)) => ?_) (fun (c0 : ¬ ¬ (v2 = 0)) => ?_)
      · rw [if_neg c0] at hf
        exact Ex.weak (sm_le_n (sm_le_n (sm_le_n (sm_le_n (sm_le_n sm_le_nil))))) (B_393_44 hd  hf hs)
      · rw [if_pos (Classical.not_not.mp c0)] at hf
        refine Ex.seg 3 (pc' := 39) (lc' := [some (.ref 67), some (.int x1), some (.int x2), some (.int x3), some (.int x4)]) (st' := [.int x1, .ref 89]) (h' := h) (sg1 rfl rfl (sg1 rfl rfl (sg1 rfl rfl rfl))) ?_
        obtain ⟨v3, e_v3, hf⟩ := bnd hf
        refine Ex.iald e_v3 rfl rfl ?_
        refine Ex.seg 1 (pc' := 41) (lc' := [some (.ref 67), some (.int x1), some (.int x2), some (.int x3), some (.int x4)]) (st' := [.int x3, .int v3]) (h' := h) (sg1 rfl rfl rfl) ?_
        refine Ex.icmp rfl rfl (fun (c0 : v3 = x3) => ?_) (fun (c0 : ¬ (v3 = x3)) => ?_)
        · rw [if_pos c0] at hf
          refine Ex.seg 1 (pc' := 48) (lc' := [some (.ref 67), some (.int x1), some (.int x2), some (.int x3), some (.int x4)]) (st' := [.int x4]) (h' := h) (sg1 rfl rfl rfl) ?_
          refine Ex.ifc rfl rfl (fun (c0 : ¬ (x4 = 0)) => ?_) (fun (c0 : ¬ ¬ (x4 = 0)) => ?_)
          · rw [if_neg c0] at hf
            refine Ex.seg 3 (pc' := 65) (lc' := [some (.ref 67), some (.int x1), some (.int x2), some (.int x3), some (.int x4)]) (st' := [.int x1, .ref 86]) (h' := h) (sg1 rfl rfl (sg1 rfl rfl (sg1 rfl rfl rfl))) ?_
            obtain ⟨v4, e_v4, hf⟩ := bnd hf
            refine Ex.zald e_v4 rfl rfl ?_
            refine Ex.ifc rfl rfl (fun (c0 : ¬ (v4 = 0)) => ?_) (fun (c0 : ¬ ¬ (v4 = 0)) => ?_)
            · rw [if_neg c0] at hf
              exact Ex.weak (sm_le_n (sm_le_n (sm_le_n (sm_le_n (sm_le_n sm_le_nil))))) (B_393_92 hd  hf hs)
            · rw [if_pos (Classical.not_not.mp c0)] at hf
              refine Ex.seg 2 (pc' := 71) (lc' := [some (.ref 67), some (.int x1), some (.int x2), some (.int x3), some (.int x4)]) (st' := [.int x1, .ref 67]) (h' := h) (sg1 rfl rfl (sg1 rfl rfl rfl)) ?_
              obtain ⟨q5, e_q5, hf⟩ := bnd hf
              refine Ex.callV (a := 67) (As := [.int x1]) (r := []) (v := some (.int q5.1)) (h' := q5.2) rfl rfl (by decide) rfl (Nat.le_of_ble_eq_true rfl) rfl (E_364 (Nat.le_trans (by decide) hd) e_q5) rfl ?_
              refine Ex.seg 2 (pc' := 77) (lc' := [some (.ref 67), some (.int x1), some (.int x2), some (.int x3), some (.int x4)]) (st' := [.int 3, .int x4, .int q5.1]) (h' := q5.2) (sg1 rfl rfl (sg1 rfl rfl rfl)) ?_
              refine Ex.icmp rfl rfl (fun (c0 : ¬ (x4 = 3)) => ?_) (fun (c0 : ¬ ¬ (x4 = 3)) => ?_)
              · rw [if_neg c0] at hf
                refine Ex.seg 1 (pc' := 85) (lc' := [some (.ref 67), some (.int x1), some (.int x2), some (.int x3), some (.int x4)]) (st' := [.int 0, .int q5.1]) (h' := q5.2) (sg1 rfl rfl rfl) ?_
                exact Ex.weak (sm_le_n (sm_le_n (sm_le_n (sm_le_n (sm_le_n sm_le_nil))))) (B_393_85 hd  hf hs)
              · rw [if_pos (Classical.not_not.mp c0)] at hf
                refine Ex.seg 2 (pc' := 85) (lc' := [some (.ref 67), some (.int x1), some (.int x2), some (.int x3), some (.int x4)]) (st' := [.int 1, .int q5.1]) (h' := q5.2) (sg1 rfl rfl (sg1 rfl rfl rfl)) ?_
                exact Ex.weak (sm_le_n (sm_le_n (sm_le_n (sm_le_n (sm_le_n sm_le_nil))))) (B_393_85 hd  hf hs)
          · rw [if_pos (Classical.not_not.mp c0)] at hf
            refine Ex.seg 3 (pc' := 56) (lc' := [some (.ref 67), some (.int x1), some (.int x2), some (.int x3), some (.int x4)]) (st' := [.int x1, .ref 86]) (h' := h) (sg1 rfl rfl (sg1 rfl rfl (sg1 rfl rfl rfl))) ?_
            obtain ⟨v6, e_v6, hf⟩ := bnd hf
            refine Ex.zald e_v6 rfl rfl ?_
            refine Ex.seg 1 (pc' := 93) (lc' := [some (.ref 67), some (.int x1), some (.int x2), some (.int x3), some (.int x4)]) (st' := [.int v6]) (h' := h) (sg1 rfl rfl rfl) ?_
            exact Ex.weak (sm_le_n (sm_le_n (sm_le_n (sm_le_n (sm_le_n sm_le_nil))))) (B_393_93 hd  hf hs)
        · rw [if_neg c0] at hf
          exact Ex.weak (sm_le_n (sm_le_n (sm_le_n (sm_le_n (sm_le_n sm_le_nil))))) (B_393_44 hd  hf hs)
    · rw [if_neg c0] at hf
      refine Ex.seg 3 (pc' := 23) (lc' := [some (.ref 67), some (.int x1), some (.int x2), some (.int x3), some (.int x4)]) (st' := [.int x1, .ref 87]) (h' := h) (sg1 rfl rfl (sg1 rfl rfl (sg1 rfl rfl rfl))) ?_
      obtain ⟨v7, e_v7, hf⟩ := bnd hf
      refine Ex.zald e_v7 rfl rfl ?_
      rcases Classical.em (v7 = 0 ∨ v7 = 1) with c0 | c0
      · rw [if_pos c0] at hf
        obtain rfl := Option.some.inj hf
        exact Ex.iret rfl rfl (fun _ => c0) hs
      · rw [if_neg c0] at hf
        cases hf
  · rw [if_neg c0] at hf
    refine Ex.seg 1 (pc' := 11) (lc' := [some (.ref 67), some (.int x1), some (.int x2), some (.int x3), some (.int x4)]) (st' := [.int 0]) (h' := h) (sg1 rfl rfl rfl) ?_
    obtain rfl := Option.some.inj hf
    exact Ex.iret rfl rfl (fun _ => by decide) hs
theorem E_393 {L : Nat} {xs : Nat → Int32} {d : Nat} (hd : 2 ≤ d) {x1 : Int32} {x2 : Int32} {x3 : Int32} {x4 : Int32} {h : sm_H} {r : Int32 × sm_H} (hf : F_393 x1 x2 x3 x4 h = some r) : RUN L xs d 393 [.ref 67, .int x1, .int x2, .int x3, .int x4] h (some (.int r.1), r.2) := by
  obtain ⟨d, rfl⟩ : ∃ e, d = e + 1 := ⟨d - 1, by omega⟩
  exact ⟨Nat.le_of_ble_eq_true rfl, B_393_0 (by omega) hf rfl⟩
