theorem B_470_1184 {L : Nat} {xs : Nat → Int32} {d : Nat} (hd : 716 ≤ d) {res : Option Value × sm_H} {S1 : (Int32 × sm_H) → Prop} (hS1 : ∀ s, S1 s → Ex (P_G L xs) (RUN L xs d) (sm_lk P_t470) 3 18 [some (.ref 1000004), some (.ref 0), some (.ref 67), some (.int s.1)] [] s.2 res) {y3 : Int32}  {h : sm_H} {r : ((Int32 × sm_H) ⊕ (Int32 × sm_H))} (hf : F_470_1184 L xs y3 h = some r) (hs : (Sum.elim S1 (fun (r : Int32 × sm_H) => res = (some (.int r.1), r.2))) r) : Ex (P_G L xs) (RUN L xs d) (sm_lk P_t470) 3 1184 [some (.ref 1000004), some (.ref 0), some (.ref 67), some (.int y3)] [] h res := by
  unfold F_470_1184 at hf
  refine Ex.seg 1 (pc' := 1187) (lc' := [some (.ref 1000004), some (.ref 0), some (.ref 67), some (.int (y3 + 6))]) (st' := []) (h' := h) (sg1 rfl rfl rfl) ?_
  obtain ⟨v1, e_v1, hf⟩ := bnd hf
  rw [Option.some.inj e_v1]
  refine Ex.seg 1 (pc' := 18) (lc' := [some (.ref 1000004), some (.ref 0), some (.ref 67), some (.int v1)]) (st' := []) (h' := h) (sg1 rfl rfl rfl) ?_
  obtain rfl := Option.some.inj hf
  exact Ex.weak (sm_le_s (sm_le_s (sm_le_s (sm_le_s sm_le_nil)))) (hS1 _ hs)
theorem B_470_1176 {L : Nat} {xs : Nat → Int32} {d : Nat} (hd : 716 ≤ d) {res : Option Value × sm_H} {S1 : (Int32 × sm_H) → Prop} (hS1 : ∀ s, S1 s → Ex (P_G L xs) (RUN L xs d) (sm_lk P_t470) 3 18 [some (.ref 1000004), some (.ref 0), some (.ref 67), some (.int s.1)] [] s.2 res) {y3 : Int32} {z0 : Int32} {z2 : Int32} {z3 : Int32} {z4 : Int32}  {h : sm_H} {r : ((Int32 × sm_H) ⊕ (Int32 × sm_H))} (hf : F_470_1176 L xs y3 z0 z2 z3 z4 h = some r) (hs : (Sum.elim S1 (fun (r : Int32 × sm_H) => res = (some (.int r.1), r.2))) r) : Ex (P_G L xs) (RUN L xs d) (sm_lk P_t470) 3 1176 [some (.ref 1000004), some (.ref 0), some (.ref 67), some (.int y3)] [.int z4, .int z3, .int z2, .ref 67, .int z0] h res := by
  unfold F_470_1176 at hf
  obtain ⟨q2, e_q2, hf⟩ := bnd hf
  refine Ex.callV (a := 67) (As := [.int z2, .int z3, .int z4]) (r := [.int z0]) (v := some (.int q2.1)) (h' := q2.2) rfl rfl (by decide) rfl (Nat.le_of_ble_eq_true rfl) rfl (E_469 (Nat.le_trans (by decide) hd) e_q2) rfl ?_
  refine Ex.icmp rfl rfl (fun (c0 : z0 = q2.1) => ?_) (fun (c0 : ¬ (z0 = q2.1)) => ?_)
  · rw [if_pos c0] at hf
    exact Ex.weak (sm_le_s (sm_le_s (sm_le_s (sm_le_s sm_le_nil)))) (B_470_1184 hd hS1 hf hs)
  · rw [if_neg c0] at hf
    refine Ex.seg 1 (pc' := 1183) (lc' := [some (.ref 1000004), some (.ref 0), some (.ref 67), some (.int y3)]) (st' := [.int 0]) (h' := q2.2) (sg1 rfl rfl rfl) ?_
    obtain rfl := Option.some.inj hf
    exact Ex.iret rfl rfl (fun _ => by decide) hs
theorem B_470_1149 {L : Nat} {xs : Nat → Int32} {d : Nat} (hd : 716 ≤ d) {res : Option Value × sm_H} {S1 : (Int32 × sm_H) → Prop} (hS1 : ∀ s, S1 s → Ex (P_G L xs) (RUN L xs d) (sm_lk P_t470) 3 18 [some (.ref 1000004), some (.ref 0), some (.ref 67), some (.int s.1)] [] s.2 res) {y3 : Int32} {z1 : Int32} {z2 : Int32} {z3 : Int32}  {h : sm_H} {r : ((Int32 × sm_H) ⊕ (Int32 × sm_H))} (hf : F_470_1149 L xs y3 z1 z2 z3 h = some r) (hs : (Sum.elim S1 (fun (r : Int32 × sm_H) => res = (some (.int r.1), r.2))) r) : Ex (P_G L xs) (RUN L xs d) (sm_lk P_t470) 3 1149 [some (.ref 1000004), some (.ref 0), some (.ref 67), some (.int y3)] [.int z3, .int z2, .int z1, .ref 0] h res := by
  unfold F_470_1149 at hf
  obtain ⟨q3, e_q3, hf⟩ := bnd hf
  refine Ex.callV (a := 0) (As := [.int z1, .int z2, .int z3]) (r := []) (v := some (.int q3.1)) (h' := q3.2) rfl rfl (by decide) rfl (Nat.le_of_ble_eq_true rfl) rfl (E_287 (Nat.le_trans (by decide) hd) e_q3) rfl ?_
  refine Ex.seg 5 (pc' := 1157) (lc' := [some (.ref 1000004), some (.ref 0), some (.ref 67), some (.int y3)]) (st' := [.int (y3 + 1), .ref 1000004, .ref 67, .int q3.1]) (h' := q3.2) (sg1 rfl rfl (sg1 rfl rfl (sg1 rfl rfl (sg1 rfl rfl (sg1 rfl rfl rfl))))) ?_
  obtain ⟨v4, e_v4, hf⟩ := bnd hf
  refine Ex.iald e_v4 rfl rfl ?_
  refine Ex.seg 4 (pc' := 1162) (lc' := [some (.ref 1000004), some (.ref 0), some (.ref 67), some (.int y3)]) (st' := [.int (y3 + 2), .ref 1000004, .int v4, .ref 67, .int q3.1]) (h' := q3.2) (sg1 rfl rfl (sg1 rfl rfl (sg1 rfl rfl (sg1 rfl rfl rfl)))) ?_
  obtain ⟨v5, e_v5, hf⟩ := bnd hf
  refine Ex.iald e_v5 rfl rfl ?_
  refine Ex.seg 4 (pc' := 1167) (lc' := [some (.ref 1000004), some (.ref 0), some (.ref 67), some (.int y3)]) (st' := [.int (y3 + 3), .ref 1000004, .int v5, .int v4, .ref 67, .int q3.1]) (h' := q3.2) (sg1 rfl rfl (sg1 rfl rfl (sg1 rfl rfl (sg1 rfl rfl rfl)))) ?_
  obtain ⟨v6, e_v6, hf⟩ := bnd hf
  refine Ex.iald e_v6 rfl rfl ?_
  refine Ex.ifc rfl rfl (fun (c0 : v6 = 0) => ?_) (fun (c0 : ¬ (v6 = 0)) => ?_)
  · rw [if_pos c0] at hf
    refine Ex.seg 1 (pc' := 1176) (lc' := [some (.ref 1000004), some (.ref 0), some (.ref 67), some (.int y3)]) (st' := [.int 0, .int v5, .int v4, .ref 67, .int q3.1]) (h' := q3.2) (sg1 rfl rfl rfl) ?_
    exact Ex.weak (sm_le_s (sm_le_s (sm_le_s (sm_le_s sm_le_nil)))) (B_470_1176 hd hS1 hf hs)
  · rw [if_neg c0] at hf
    refine Ex.seg 2 (pc' := 1176) (lc' := [some (.ref 1000004), some (.ref 0), some (.ref 67), some (.int y3)]) (st' := [.int 1, .int v5, .int v4, .ref 67, .int q3.1]) (h' := q3.2) (sg1 rfl rfl (sg1 rfl rfl rfl)) ?_
    exact Ex.weak (sm_le_s (sm_le_s (sm_le_s (sm_le_s sm_le_nil)))) (B_470_1176 hd hS1 hf hs)
theorem B_470_557 {L : Nat} {xs : Nat → Int32} {d : Nat} (hd : 716 ≤ d) {res : Option Value × sm_H} {S1 : (Int32 × sm_H) → Prop} (hS1 : ∀ s, S1 s → Ex (P_G L xs) (RUN L xs d) (sm_lk P_t470) 3 18 [some (.ref 1000004), some (.ref 0), some (.ref 67), some (.int s.1)] [] s.2 res) {y3 : Int32} {z0 : Int32} {z2 : Int32} {z3 : Int32} {z4 : Int32} {z5 : Int32}  {h : sm_H} {r : ((Int32 × sm_H) ⊕ (Int32 × sm_H))} (hf : F_470_557 L xs y3 z0 z2 z3 z4 z5 h = some r) (hs : (Sum.elim S1 (fun (r : Int32 × sm_H) => res = (some (.int r.1), r.2))) r) : Ex (P_G L xs) (RUN L xs d) (sm_lk P_t470) 3 557 [some (.ref 1000004), some (.ref 0), some (.ref 67), some (.int y3)] [.int z5, .int z4, .int z3, .int z2, .ref 67, .int z0] h res := by
  unfold F_470_557 at hf
  refine Ex.seg 4 (pc' := 561) (lc' := [some (.ref 1000004), some (.ref 0), some (.ref 67), some (.int y3)]) (st' := [.int (y3 + 5), .ref 1000004, .int z5, .int z4, .int z3, .int z2, .ref 67, .int z0]) (h' := h) (sg1 rfl rfl (sg1 rfl rfl (sg1 rfl rfl (sg1 rfl rfl rfl)))) ?_
  obtain ⟨v7, e_v7, hf⟩ := bnd hf
  refine Ex.iald e_v7 rfl rfl ?_
  obtain ⟨q8, e_q8, hf⟩ := bnd hf
  refine Ex.callV (a := 67) (As := [.int z2, .int z3, .int z4, .int z5, .int v7]) (r := [.int z0]) (v := some (.int q8.1)) (h' := q8.2) rfl rfl (by decide) rfl (Nat.le_of_ble_eq_true rfl) rfl (E_391 (Nat.le_trans (by decide) hd) e_q8) rfl ?_
  refine Ex.icmp rfl rfl (fun (c0 : z0 = q8.1) => ?_) (fun (c0 : ¬ (z0 = q8.1)) => ?_)
  · rw [if_pos c0] at hf
    exact Ex.weak (sm_le_s (sm_le_s (sm_le_s (sm_le_s sm_le_nil)))) (B_470_1184 hd hS1 hf hs)
  · rw [if_neg c0] at hf
    refine Ex.seg 1 (pc' := 569) (lc' := [some (.ref 1000004), some (.ref 0), some (.ref 67), some (.int y3)]) (st' := [.int 0]) (h' := q8.2) (sg1 rfl rfl rfl) ?_
    obtain rfl := Option.some.inj hf
    exact Ex.iret rfl rfl (fun _ => by decide) hs
theorem B_470_520 {L : Nat} {xs : Nat → Int32} {d : Nat} (hd : 716 ≤ d) {res : Option Value × sm_H} {S1 : (Int32 × sm_H) → Prop} (hS1 : ∀ s, S1 s → Ex (P_G L xs) (RUN L xs d) (sm_lk P_t470) 3 18 [some (.ref 1000004), some (.ref 0), some (.ref 67), some (.int s.1)] [] s.2 res) {y3 : Int32} {z1 : Int32} {z2 : Int32} {z3 : Int32} {z4 : Int32}  {h : sm_H} {r : ((Int32 × sm_H) ⊕ (Int32 × sm_H))} (hf : F_470_520 L xs y3 z1 z2 z3 z4 h = some r) (hs : (Sum.elim S1 (fun (r : Int32 × sm_H) => res = (some (.int r.1), r.2))) r) : Ex (P_G L xs) (RUN L xs d) (sm_lk P_t470) 3 520 [some (.ref 1000004), some (.ref 0), some (.ref 67), some (.int y3)] [.int z4, .int z3, .int z2, .int z1, .ref 0] h res := by
  unfold F_470_520 at hf
  refine Ex.seg 4 (pc' := 524) (lc' := [some (.ref 1000004), some (.ref 0), some (.ref 67), some (.int y3)]) (st' := [.int (y3 + 5), .ref 1000004, .int z4, .int z3, .int z2, .int z1, .ref 0]) (h' := h) (sg1 rfl rfl (sg1 rfl rfl (sg1 rfl rfl (sg1 rfl rfl rfl)))) ?_
  obtain ⟨v9, e_v9, hf⟩ := bnd hf
  refine Ex.iald e_v9 rfl rfl ?_
  obtain ⟨q10, e_q10, hf⟩ := bnd hf
  refine Ex.callV (a := 0) (As := [.int z1, .int z2, .int z3, .int z4, .int v9]) (r := []) (v := some (.int q10.1)) (h' := q10.2) rfl rfl (by decide) rfl (Nat.le_of_ble_eq_true rfl) rfl (E_268 (Nat.le_trans (by decide) hd) e_q10) rfl ?_
  refine Ex.seg 5 (pc' := 533) (lc' := [some (.ref 1000004), some (.ref 0), some (.ref 67), some (.int y3)]) (st' := [.int (y3 + 1), .ref 1000004, .ref 67, .int q10.1]) (h' := q10.2) (sg1 rfl rfl (sg1 rfl rfl (sg1 rfl rfl (sg1 rfl rfl (sg1 rfl rfl rfl))))) ?_
  obtain ⟨v11, e_v11, hf⟩ := bnd hf
  refine Ex.iald e_v11 rfl rfl ?_
  refine Ex.seg 4 (pc' := 538) (lc' := [some (.ref 1000004), some (.ref 0), some (.ref 67), some (.int y3)]) (st' := [.int (y3 + 2), .ref 1000004, .int v11, .ref 67, .int q10.1]) (h' := q10.2) (sg1 rfl rfl (sg1 rfl rfl (sg1 rfl rfl (sg1 rfl rfl rfl)))) ?_
  obtain ⟨v12, e_v12, hf⟩ := bnd hf
  refine Ex.iald e_v12 rfl rfl ?_
  refine Ex.seg 4 (pc' := 543) (lc' := [some (.ref 1000004), some (.ref 0), some (.ref 67), some (.int y3)]) (st' := [.int (y3 + 3), .ref 1000004, .int v12, .int v11, .ref 67, .int q10.1]) (h' := q10.2) (sg1 rfl rfl (sg1 rfl rfl (sg1 rfl rfl (sg1 rfl rfl rfl)))) ?_
  obtain ⟨v13, e_v13, hf⟩ := bnd hf
  refine Ex.iald e_v13 rfl rfl ?_
  refine Ex.seg 4 (pc' := 548) (lc' := [some (.ref 1000004), some (.ref 0), some (.ref 67), some (.int y3)]) (st' := [.int (y3 + 4), .ref 1000004, .int v13, .int v12, .int v11, .ref 67, .int q10.1]) (h' := q10.2) (sg1 rfl rfl (sg1 rfl rfl (sg1 rfl rfl (sg1 rfl rfl rfl)))) ?_
  obtain ⟨v14, e_v14, hf⟩ := bnd hf
  refine Ex.iald e_v14 rfl rfl ?_
  refine Ex.ifc rfl rfl (fun (c0 : v14 = 0) => ?_) (fun (c0 : ¬ (v14 = 0)) => ?_)
  · rw [if_pos c0] at hf
    refine Ex.seg 1 (pc' := 557) (lc' := [some (.ref 1000004), some (.ref 0), some (.ref 67), some (.int y3)]) (st' := [.int 0, .int v13, .int v12, .int v11, .ref 67, .int q10.1]) (h' := q10.2) (sg1 rfl rfl rfl) ?_
    exact Ex.weak (sm_le_s (sm_le_s (sm_le_s (sm_le_s sm_le_nil)))) (B_470_557 hd hS1 hf hs)
  · rw [if_neg c0] at hf
    refine Ex.seg 2 (pc' := 557) (lc' := [some (.ref 1000004), some (.ref 0), some (.ref 67), some (.int y3)]) (st' := [.int 1, .int v13, .int v12, .int v11, .ref 67, .int q10.1]) (h' := q10.2) (sg1 rfl rfl (sg1 rfl rfl rfl)) ?_
    exact Ex.weak (sm_le_s (sm_le_s (sm_le_s (sm_le_s sm_le_nil)))) (B_470_557 hd hS1 hf hs)
theorem B_470_478 {L : Nat} {xs : Nat → Int32} {d : Nat} (hd : 716 ≤ d) {res : Option Value × sm_H} {S1 : (Int32 × sm_H) → Prop} (hS1 : ∀ s, S1 s → Ex (P_G L xs) (RUN L xs d) (sm_lk P_t470) 3 18 [some (.ref 1000004), some (.ref 0), some (.ref 67), some (.int s.1)] [] s.2 res) {y3 : Int32} {z0 : Int32} {z2 : Int32} {z3 : Int32} {z4 : Int32} {z5 : Int32}  {h : sm_H} {r : ((Int32 × sm_H) ⊕ (Int32 × sm_H))} (hf : F_470_478 L xs y3 z0 z2 z3 z4 z5 h = some r) (hs : (Sum.elim S1 (fun (r : Int32 × sm_H) => res = (some (.int r.1), r.2))) r) : Ex (P_G L xs) (RUN L xs d) (sm_lk P_t470) 3 478 [some (.ref 1000004), some (.ref 0), some (.ref 67), some (.int y3)] [.int z5, .int z4, .int z3, .int z2, .ref 67, .int z0] h res := by
  unfold F_470_478 at hf
  refine Ex.seg 4 (pc' := 482) (lc' := [some (.ref 1000004), some (.ref 0), some (.ref 67), some (.int y3)]) (st' := [.int (y3 + 5), .ref 1000004, .int z5, .int z4, .int z3, .int z2, .ref 67, .int z0]) (h' := h) (sg1 rfl rfl (sg1 rfl rfl (sg1 rfl rfl (sg1 rfl rfl rfl)))) ?_
  obtain ⟨v15, e_v15, hf⟩ := bnd hf
  refine Ex.iald e_v15 rfl rfl ?_
  obtain ⟨q16, e_q16, hf⟩ := bnd hf
  refine Ex.callV (a := 67) (As := [.int z2, .int z3, .int z4, .int z5, .int v15]) (r := [.int z0]) (v := some (.int q16.1)) (h' := q16.2) rfl rfl (by decide) rfl (Nat.le_of_ble_eq_true rfl) rfl (E_390 (Nat.le_trans (by decide) hd) e_q16) rfl ?_
  refine Ex.icmp rfl rfl (fun (c0 : z0 = q16.1) => ?_) (fun (c0 : ¬ (z0 = q16.1)) => ?_)
  · rw [if_pos c0] at hf
    exact Ex.weak (sm_le_s (sm_le_s (sm_le_s (sm_le_s sm_le_nil)))) (B_470_1184 hd hS1 hf hs)
  · rw [if_neg c0] at hf
    refine Ex.seg 1 (pc' := 490) (lc' := [some (.ref 1000004), some (.ref 0), some (.ref 67), some (.int y3)]) (st' := [.int 0]) (h' := q16.2) (sg1 rfl rfl rfl) ?_
    obtain rfl := Option.some.inj hf
    exact Ex.iret rfl rfl (fun _ => by decide) hs
theorem B_470_441 {L : Nat} {xs : Nat → Int32} {d : Nat} (hd : 716 ≤ d) {res : Option Value × sm_H} {S1 : (Int32 × sm_H) → Prop} (hS1 : ∀ s, S1 s → Ex (P_G L xs) (RUN L xs d) (sm_lk P_t470) 3 18 [some (.ref 1000004), some (.ref 0), some (.ref 67), some (.int s.1)] [] s.2 res) {y3 : Int32} {z1 : Int32} {z2 : Int32} {z3 : Int32} {z4 : Int32}  {h : sm_H} {r : ((Int32 × sm_H) ⊕ (Int32 × sm_H))} (hf : F_470_441 L xs y3 z1 z2 z3 z4 h = some r) (hs : (Sum.elim S1 (fun (r : Int32 × sm_H) => res = (some (.int r.1), r.2))) r) : Ex (P_G L xs) (RUN L xs d) (sm_lk P_t470) 3 441 [some (.ref 1000004), some (.ref 0), some (.ref 67), some (.int y3)] [.int z4, .int z3, .int z2, .int z1, .ref 0] h res := by
  unfold F_470_441 at hf
  refine Ex.seg 4 (pc' := 445) (lc' := [some (.ref 1000004), some (.ref 0), some (.ref 67), some (.int y3)]) (st' := [.int (y3 + 5), .ref 1000004, .int z4, .int z3, .int z2, .int z1, .ref 0]) (h' := h) (sg1 rfl rfl (sg1 rfl rfl (sg1 rfl rfl (sg1 rfl rfl rfl)))) ?_
  obtain ⟨v17, e_v17, hf⟩ := bnd hf
  refine Ex.iald e_v17 rfl rfl ?_
  obtain ⟨q18, e_q18, hf⟩ := bnd hf
  refine Ex.callV (a := 0) (As := [.int z1, .int z2, .int z3, .int z4, .int v17]) (r := []) (v := some (.int q18.1)) (h' := q18.2) rfl rfl (by decide) rfl (Nat.le_of_ble_eq_true rfl) rfl (E_267 (Nat.le_trans (by decide) hd) e_q18) rfl ?_
  refine Ex.seg 5 (pc' := 454) (lc' := [some (.ref 1000004), some (.ref 0), some (.ref 67), some (.int y3)]) (st' := [.int (y3 + 1), .ref 1000004, .ref 67, .int q18.1]) (h' := q18.2) (sg1 rfl rfl (sg1 rfl rfl (sg1 rfl rfl (sg1 rfl rfl (sg1 rfl rfl rfl))))) ?_
  obtain ⟨v19, e_v19, hf⟩ := bnd hf
  refine Ex.iald e_v19 rfl rfl ?_
  refine Ex.seg 4 (pc' := 459) (lc' := [some (.ref 1000004), some (.ref 0), some (.ref 67), some (.int y3)]) (st' := [.int (y3 + 2), .ref 1000004, .int v19, .ref 67, .int q18.1]) (h' := q18.2) (sg1 rfl rfl (sg1 rfl rfl (sg1 rfl rfl (sg1 rfl rfl rfl)))) ?_
  obtain ⟨v20, e_v20, hf⟩ := bnd hf
  refine Ex.iald e_v20 rfl rfl ?_
  refine Ex.seg 4 (pc' := 464) (lc' := [some (.ref 1000004), some (.ref 0), some (.ref 67), some (.int y3)]) (st' := [.int (y3 + 3), .ref 1000004, .int v20, .int v19, .ref 67, .int q18.1]) (h' := q18.2) (sg1 rfl rfl (sg1 rfl rfl (sg1 rfl rfl (sg1 rfl rfl rfl)))) ?_
  obtain ⟨v21, e_v21, hf⟩ := bnd hf
  refine Ex.iald e_v21 rfl rfl ?_
  refine Ex.seg 4 (pc' := 469) (lc' := [some (.ref 1000004), some (.ref 0), some (.ref 67), some (.int y3)]) (st' := [.int (y3 + 4), .ref 1000004, .int v21, .int v20, .int v19, .ref 67, .int q18.1]) (h' := q18.2) (sg1 rfl rfl (sg1 rfl rfl (sg1 rfl rfl (sg1 rfl rfl rfl)))) ?_
  obtain ⟨v22, e_v22, hf⟩ := bnd hf
  refine Ex.iald e_v22 rfl rfl ?_
  refine Ex.ifc rfl rfl (fun (c0 : v22 = 0) => ?_) (fun (c0 : ¬ (v22 = 0)) => ?_)
  · rw [if_pos c0] at hf
    refine Ex.seg 1 (pc' := 478) (lc' := [some (.ref 1000004), some (.ref 0), some (.ref 67), some (.int y3)]) (st' := [.int 0, .int v21, .int v20, .int v19, .ref 67, .int q18.1]) (h' := q18.2) (sg1 rfl rfl rfl) ?_
    exact Ex.weak (sm_le_s (sm_le_s (sm_le_s (sm_le_s sm_le_nil)))) (B_470_478 hd hS1 hf hs)
  · rw [if_neg c0] at hf
    refine Ex.seg 2 (pc' := 478) (lc' := [some (.ref 1000004), some (.ref 0), some (.ref 67), some (.int y3)]) (st' := [.int 1, .int v21, .int v20, .int v19, .ref 67, .int q18.1]) (h' := q18.2) (sg1 rfl rfl (sg1 rfl rfl rfl)) ?_
    exact Ex.weak (sm_le_s (sm_le_s (sm_le_s (sm_le_s sm_le_nil)))) (B_470_478 hd hS1 hf hs)
theorem B_470_18B {L : Nat} {xs : Nat → Int32} {d : Nat} (hd : 716 ≤ d) {res : Option Value × sm_H} {S1 : (Int32 × sm_H) → Prop} (hS1 : ∀ s, S1 s → Ex (P_G L xs) (RUN L xs d) (sm_lk P_t470) 3 18 [some (.ref 1000004), some (.ref 0), some (.ref 67), some (.int s.1)] [] s.2 res) {s : (Int32 × sm_H)}  {r : ((Int32 × sm_H) ⊕ (Int32 × sm_H))} (hf : F_470_18B L xs s = some r) (hs : (Sum.elim S1 (fun (r : Int32 × sm_H) => res = (some (.int r.1), r.2))) r) : Ex (P_G L xs) (RUN L xs d) (sm_lk P_t470) 3 18 [some (.ref 1000004), some (.ref 0), some (.ref 67), some (.int s.1)] [] s.2 res := by
  unfold F_470_18B at hf
  refine Ex.seg 2 (pc' := 20) (lc' := [some (.ref 1000004), some (.ref 0), some (.ref 67), some (.int s.1)]) (st' := [.ref 1000004, .int s.1]) (h' := s.2) (sg1 rfl rfl (sg1 rfl rfl rfl)) ?_
  obtain ⟨v23, e_v23, hf⟩ := bnd hf
  refine Ex.alen e_v23 rfl rfl ?_
  refine Ex.seg 2 (pc' := 24) (lc' := [some (.ref 1000004), some (.ref 0), some (.ref 67), some (.int s.1)]) (st' := [.int (v23 - 6), .int s.1]) (h' := s.2) (sg1 rfl rfl (sg1 rfl rfl rfl)) ?_
  refine Ex.icmp rfl rfl (fun (c0 : (v23 - 6) < s.1) => ?_) (fun (c0 : ¬ ((v23 - 6) < s.1)) => ?_)
  · rw [if_pos c0] at hf
    refine Ex.seg 1 (pc' := 1191) (lc' := [some (.ref 1000004), some (.ref 0), some (.ref 67), some (.int s.1)]) (st' := [.int 1]) (h' := s.2) (sg1 rfl rfl rfl) ?_
    obtain rfl := Option.some.inj hf
    exact Ex.iret rfl rfl (fun _ => by decide) hs
  · rw [if_neg c0] at hf
    refine Ex.seg 2 (pc' := 29) (lc' := [some (.ref 1000004), some (.ref 0), some (.ref 67), some (.int s.1)]) (st' := [.int s.1, .ref 1000004]) (h' := s.2) (sg1 rfl rfl (sg1 rfl rfl rfl)) ?_
    obtain ⟨v24, e_v24, hf⟩ := bnd hf
    refine Ex.iald e_v24 rfl rfl ?_
    refine Ex.seg 2 (pc' := 33) (lc' := [some (.ref 1000004), some (.ref 0), some (.ref 67), some (.int s.1)]) (st' := [.int (v24 &&& 31)]) (h' := s.2) (sg1 rfl rfl (sg1 rfl rfl rfl)) ?_
    rcases Classical.em ((v24 &&& 31) = 0) with n1 | n1
    · rw [if_pos n1] at hf
      refine Ex.swt (t := 160) rfl rfl (by rw [n1]; exact Or.inr ⟨by decide, by decide, _, rfl, by decide⟩) ?_
      refine Ex.seg 5 (pc' := 165) (lc' := [some (.ref 1000004), some (.ref 0), some (.ref 67), some (.int s.1)]) (st' := [.int (s.1 + 1), .ref 1000004, .ref 0]) (h' := s.2) (sg1 rfl rfl (sg1 rfl rfl (sg1 rfl rfl (sg1 rfl rfl (sg1 rfl rfl rfl))))) ?_
      obtain ⟨v25, e_v25, hf⟩ := bnd hf
      refine Ex.iald e_v25 rfl rfl ?_
      obtain ⟨q26, e_q26, hf⟩ := bnd hf
      refine Ex.callV (a := 0) (As := [.int v25]) (r := []) (v := some (.int q26.1)) (h' := q26.2) rfl rfl (by decide) rfl (Nat.le_of_ble_eq_true rfl) rfl (E_258 (Nat.le_trans (by decide) hd) e_q26) rfl ?_
      refine Ex.seg 5 (pc' := 174) (lc' := [some (.ref 1000004), some (.ref 0), some (.ref 67), some (.int s.1)]) (st' := [.int (s.1 + 1), .ref 1000004, .ref 67, .int q26.1]) (h' := q26.2) (sg1 rfl rfl (sg1 rfl rfl (sg1 rfl rfl (sg1 rfl rfl (sg1 rfl rfl rfl))))) ?_
      obtain ⟨v27, e_v27, hf⟩ := bnd hf
      refine Ex.iald e_v27 rfl rfl ?_
      obtain ⟨q28, e_q28, hf⟩ := bnd hf
      refine Ex.callV (a := 67) (As := [.int v27]) (r := [.int q26.1]) (v := some (.int q28.1)) (h' := q28.2) rfl rfl (by decide) rfl (Nat.le_of_ble_eq_true rfl) rfl (E_380 (Nat.le_trans (by decide) hd) e_q28) rfl ?_
      refine Ex.icmp rfl rfl (fun (c0 : q26.1 = q28.1) => ?_) (fun (c0 : ¬ (q26.1 = q28.1)) => ?_)
      · rw [if_pos c0] at hf
        exact Ex.weak (sm_le_s (sm_le_s (sm_le_s (sm_le_s sm_le_nil)))) (B_470_1184 hd hS1 hf hs)
      · rw [if_neg c0] at hf
        refine Ex.seg 1 (pc' := 182) (lc' := [some (.ref 1000004), some (.ref 0), some (.ref 67), some (.int s.1)]) (st' := [.int 0]) (h' := q28.2) (sg1 rfl rfl rfl) ?_
        obtain rfl := Option.some.inj hf
        exact Ex.iret rfl rfl (fun _ => by decide) hs
    rw [if_neg n1] at hf
    rcases Classical.em ((v24 &&& 31) = 1) with n2 | n2
    · rw [if_pos n2] at hf
      refine Ex.swt (t := 183) rfl rfl (by rw [n2]; exact Or.inr ⟨by decide, by decide, _, rfl, by decide⟩) ?_
      refine Ex.seg 5 (pc' := 188) (lc' := [some (.ref 1000004), some (.ref 0), some (.ref 67), some (.int s.1)]) (st' := [.int (s.1 + 1), .ref 1000004, .ref 0]) (h' := s.2) (sg1 rfl rfl (sg1 rfl rfl (sg1 rfl rfl (sg1 rfl rfl (sg1 rfl rfl rfl))))) ?_
      obtain ⟨v29, e_v29, hf⟩ := bnd hf
      refine Ex.iald e_v29 rfl rfl ?_
      refine Ex.seg 4 (pc' := 193) (lc' := [some (.ref 1000004), some (.ref 0), some (.ref 67), some (.int s.1)]) (st' := [.int (s.1 + 2), .ref 1000004, .int v29, .ref 0]) (h' := s.2) (sg1 rfl rfl (sg1 rfl rfl (sg1 rfl rfl (sg1 rfl rfl rfl)))) ?_
      obtain ⟨v30, e_v30, hf⟩ := bnd hf
      refine Ex.iald e_v30 rfl rfl ?_
      obtain ⟨q31, e_q31, hf⟩ := bnd hf
      refine Ex.callV (a := 0) (As := [.int v29, .int v30]) (r := []) (v := some (.int q31.1)) (h' := q31.2) rfl rfl (by decide) rfl (Nat.le_of_ble_eq_true rfl) rfl (E_259 (Nat.le_trans (by decide) hd) e_q31) rfl ?_
      refine Ex.seg 5 (pc' := 202) (lc' := [some (.ref 1000004), some (.ref 0), some (.ref 67), some (.int s.1)]) (st' := [.int (s.1 + 1), .ref 1000004, .ref 67, .int q31.1]) (h' := q31.2) (sg1 rfl rfl (sg1 rfl rfl (sg1 rfl rfl (sg1 rfl rfl (sg1 rfl rfl rfl))))) ?_
      obtain ⟨v32, e_v32, hf⟩ := bnd hf
      refine Ex.iald e_v32 rfl rfl ?_
      refine Ex.seg 4 (pc' := 207) (lc' := [some (.ref 1000004), some (.ref 0), some (.ref 67), some (.int s.1)]) (st' := [.int (s.1 + 2), .ref 1000004, .int v32, .ref 67, .int q31.1]) (h' := q31.2) (sg1 rfl rfl (sg1 rfl rfl (sg1 rfl rfl (sg1 rfl rfl rfl)))) ?_
      obtain ⟨v33, e_v33, hf⟩ := bnd hf
      refine Ex.iald e_v33 rfl rfl ?_
      obtain ⟨q34, e_q34, hf⟩ := bnd hf
      refine Ex.callV (a := 67) (As := [.int v32, .int v33]) (r := [.int q31.1]) (v := some (.int q34.1)) (h' := q34.2) rfl rfl (by decide) rfl (Nat.le_of_ble_eq_true rfl) rfl (E_381 (Nat.le_trans (by decide) hd) e_q34) rfl ?_
      refine Ex.icmp rfl rfl (fun (c0 : q31.1 = q34.1) => ?_) (fun (c0 : ¬ (q31.1 = q34.1)) => ?_)
      · rw [if_pos c0] at hf
        exact Ex.weak (sm_le_s (sm_le_s (sm_le_s (sm_le_s sm_le_nil)))) (B_470_1184 hd hS1 hf hs)
      · rw [if_neg c0] at hf
        refine Ex.seg 1 (pc' := 215) (lc' := [some (.ref 1000004), some (.ref 0), some (.ref 67), some (.int s.1)]) (st' := [.int 0]) (h' := q34.2) (sg1 rfl rfl rfl) ?_
        obtain rfl := Option.some.inj hf
        exact Ex.iret rfl rfl (fun _ => by decide) hs
    rw [if_neg n2] at hf
    rcases Classical.em ((v24 &&& 31) = 2) with n3 | n3
    · rw [if_pos n3] at hf
      refine Ex.swt (t := 216) rfl rfl (by rw [n3]; exact Or.inr ⟨by decide, by decide, _, rfl, by decide⟩) ?_
      refine Ex.seg 5 (pc' := 221) (lc' := [some (.ref 1000004), some (.ref 0), some (.ref 67), some (.int s.1)]) (st' := [.int (s.1 + 1), .ref 1000004, .ref 0]) (h' := s.2) (sg1 rfl rfl (sg1 rfl rfl (sg1 rfl rfl (sg1 rfl rfl (sg1 rfl rfl rfl))))) ?_
      obtain ⟨v35, e_v35, hf⟩ := bnd hf
      refine Ex.iald e_v35 rfl rfl ?_
      obtain ⟨q36, e_q36, hf⟩ := bnd hf
      refine Ex.callV (a := 0) (As := [.int v35]) (r := []) (v := some (.int q36.1)) (h' := q36.2) rfl rfl (by decide) rfl (Nat.le_of_ble_eq_true rfl) rfl (E_260 (Nat.le_trans (by decide) hd) e_q36) rfl ?_
      refine Ex.seg 5 (pc' := 230) (lc' := [some (.ref 1000004), some (.ref 0), some (.ref 67), some (.int s.1)]) (st' := [.int (s.1 + 1), .ref 1000004, .ref 67, .int q36.1]) (h' := q36.2) (sg1 rfl rfl (sg1 rfl rfl (sg1 rfl rfl (sg1 rfl rfl (sg1 rfl rfl rfl))))) ?_
      obtain ⟨v37, e_v37, hf⟩ := bnd hf
      refine Ex.iald e_v37 rfl rfl ?_
      obtain ⟨q38, e_q38, hf⟩ := bnd hf
      refine Ex.callV (a := 67) (As := [.int v37]) (r := [.int q36.1]) (v := some (.int q38.1)) (h' := q38.2) rfl rfl (by decide) rfl (Nat.le_of_ble_eq_true rfl) rfl (E_382 (Nat.le_trans (by decide) hd) e_q38) rfl ?_
      refine Ex.icmp rfl rfl (fun (c0 : q36.1 = q38.1) => ?_) (fun (c0 : ¬ (q36.1 = q38.1)) => ?_)
      · rw [if_pos c0] at hf
        exact Ex.weak (sm_le_s (sm_le_s (sm_le_s (sm_le_s sm_le_nil)))) (B_470_1184 hd hS1 hf hs)
      · rw [if_neg c0] at hf
        refine Ex.seg 1 (pc' := 238) (lc' := [some (.ref 1000004), some (.ref 0), some (.ref 67), some (.int s.1)]) (st' := [.int 0]) (h' := q38.2) (sg1 rfl rfl rfl) ?_
        obtain rfl := Option.some.inj hf
        exact Ex.iret rfl rfl (fun _ => by decide) hs
    rw [if_neg n3] at hf
    rcases Classical.em ((v24 &&& 31) = 3) with n4 | n4
    · rw [if_pos n4] at hf
      refine Ex.swt (t := 239) rfl rfl (by rw [n4]; exact Or.inr ⟨by decide, by decide, _, rfl, by decide⟩) ?_
      refine Ex.seg 5 (pc' := 244) (lc' := [some (.ref 1000004), some (.ref 0), some (.ref 67), some (.int s.1)]) (st' := [.int (s.1 + 1), .ref 1000004, .ref 0]) (h' := s.2) (sg1 rfl rfl (sg1 rfl rfl (sg1 rfl rfl (sg1 rfl rfl (sg1 rfl rfl rfl))))) ?_
      obtain ⟨v39, e_v39, hf⟩ := bnd hf
      refine Ex.iald e_v39 rfl rfl ?_
      refine Ex.seg 4 (pc' := 249) (lc' := [some (.ref 1000004), some (.ref 0), some (.ref 67), some (.int s.1)]) (st' := [.int (s.1 + 2), .ref 1000004, .int v39, .ref 0]) (h' := s.2) (sg1 rfl rfl (sg1 rfl rfl (sg1 rfl rfl (sg1 rfl rfl rfl)))) ?_
      obtain ⟨v40, e_v40, hf⟩ := bnd hf
      refine Ex.iald e_v40 rfl rfl ?_
      obtain ⟨q41, e_q41, hf⟩ := bnd hf
      refine Ex.callV (a := 0) (As := [.int v39, .int v40]) (r := []) (v := some (.int q41.1)) (h' := q41.2) rfl rfl (by decide) rfl (Nat.le_of_ble_eq_true rfl) rfl (E_262 (Nat.le_trans (by decide) hd) e_q41) rfl ?_
      refine Ex.seg 5 (pc' := 258) (lc' := [some (.ref 1000004), some (.ref 0), some (.ref 67), some (.int s.1)]) (st' := [.int (s.1 + 1), .ref 1000004, .ref 67, .int q41.1]) (h' := q41.2) (sg1 rfl rfl (sg1 rfl rfl (sg1 rfl rfl (sg1 rfl rfl (sg1 rfl rfl rfl))))) ?_
      obtain ⟨v42, e_v42, hf⟩ := bnd hf
      refine Ex.iald e_v42 rfl rfl ?_
      refine Ex.seg 4 (pc' := 263) (lc' := [some (.ref 1000004), some (.ref 0), some (.ref 67), some (.int s.1)]) (st' := [.int (s.1 + 2), .ref 1000004, .int v42, .ref 67, .int q41.1]) (h' := q41.2) (sg1 rfl rfl (sg1 rfl rfl (sg1 rfl rfl (sg1 rfl rfl rfl)))) ?_
      obtain ⟨v43, e_v43, hf⟩ := bnd hf
      refine Ex.iald e_v43 rfl rfl ?_
      obtain ⟨q44, e_q44, hf⟩ := bnd hf
      refine Ex.callV (a := 67) (As := [.int v42, .int v43]) (r := [.int q41.1]) (v := some (.int q44.1)) (h' := q44.2) rfl rfl (by decide) rfl (Nat.le_of_ble_eq_true rfl) rfl (E_383 (Nat.le_trans (by decide) hd) e_q44) rfl ?_
      refine Ex.icmp rfl rfl (fun (c0 : q41.1 = q44.1) => ?_) (fun (c0 : ¬ (q41.1 = q44.1)) => ?_)
      · rw [if_pos c0] at hf
        exact Ex.weak (sm_le_s (sm_le_s (sm_le_s (sm_le_s sm_le_nil)))) (B_470_1184 hd hS1 hf hs)
      · rw [if_neg c0] at hf
        refine Ex.seg 1 (pc' := 271) (lc' := [some (.ref 1000004), some (.ref 0), some (.ref 67), some (.int s.1)]) (st' := [.int 0]) (h' := q44.2) (sg1 rfl rfl rfl) ?_
        obtain rfl := Option.some.inj hf
        exact Ex.iret rfl rfl (fun _ => by decide) hs
    rw [if_neg n4] at hf
    rcases Classical.em ((v24 &&& 31) = 4) with n5 | n5
    · rw [if_pos n5] at hf
      refine Ex.swt (t := 272) rfl rfl (by rw [n5]; exact Or.inr ⟨by decide, by decide, _, rfl, by decide⟩) ?_
      refine Ex.seg 5 (pc' := 277) (lc' := [some (.ref 1000004), some (.ref 0), some (.ref 67), some (.int s.1)]) (st' := [.int (s.1 + 1), .ref 1000004, .ref 0]) (h' := s.2) (sg1 rfl rfl (sg1 rfl rfl (sg1 rfl rfl (sg1 rfl rfl (sg1 rfl rfl rfl))))) ?_
      obtain ⟨v45, e_v45, hf⟩ := bnd hf
      refine Ex.iald e_v45 rfl rfl ?_
      refine Ex.seg 4 (pc' := 282) (lc' := [some (.ref 1000004), some (.ref 0), some (.ref 67), some (.int s.1)]) (st' := [.int (s.1 + 2), .ref 1000004, .int v45, .ref 0]) (h' := s.2) (sg1 rfl rfl (sg1 rfl rfl (sg1 rfl rfl (sg1 rfl rfl rfl)))) ?_
      obtain ⟨v46, e_v46, hf⟩ := bnd hf
      refine Ex.iald e_v46 rfl rfl ?_
      refine Ex.seg 4 (pc' := 287) (lc' := [some (.ref 1000004), some (.ref 0), some (.ref 67), some (.int s.1)]) (st' := [.int (s.1 + 3), .ref 1000004, .int v46, .int v45, .ref 0]) (h' := s.2) (sg1 rfl rfl (sg1 rfl rfl (sg1 rfl rfl (sg1 rfl rfl rfl)))) ?_
      obtain ⟨v47, e_v47, hf⟩ := bnd hf
      refine Ex.iald e_v47 rfl rfl ?_
      refine Ex.seg 4 (pc' := 292) (lc' := [some (.ref 1000004), some (.ref 0), some (.ref 67), some (.int s.1)]) (st' := [.int (s.1 + 4), .ref 1000004, .int v47, .int v46, .int v45, .ref 0]) (h' := s.2) (sg1 rfl rfl (sg1 rfl rfl (sg1 rfl rfl (sg1 rfl rfl rfl)))) ?_
      obtain ⟨v48, e_v48, hf⟩ := bnd hf
      refine Ex.iald e_v48 rfl rfl ?_
      refine Ex.seg 7 (pc' := 301) (lc' := [some (.ref 1000004), some (.ref 0), some (.ref 67), some (.int s.1)]) (st' := [.int (s.1 + 5), .ref 1000004, .long ((Int32.toInt64 v48) <<< (Int32.toInt64 32 &&& 63)), .int v47, .int v46, .int v45, .ref 0]) (h' := s.2) (sg1 rfl rfl (sg1 rfl rfl (sg1 rfl rfl (sg1 rfl rfl (sg1 rfl rfl (sg1 rfl rfl (sg1 rfl rfl rfl))))))) ?_
      obtain ⟨v49, e_v49, hf⟩ := bnd hf
      refine Ex.iald e_v49 rfl rfl ?_
      refine Ex.seg 4 (pc' := 308) (lc' := [some (.ref 1000004), some (.ref 0), some (.ref 67), some (.int s.1)]) (st' := [.long (((Int32.toInt64 v48) <<< (Int32.toInt64 32 &&& 63)) ||| ((Int32.toInt64 v49) &&& 4294967295)), .int v47, .int v46, .int v45, .ref 0]) (h' := s.2) (sg1 rfl rfl (sg1 rfl rfl (sg1 rfl rfl (sg1 rfl rfl rfl)))) ?_
      obtain ⟨q50, e_q50, hf⟩ := bnd hf
      refine Ex.callV (a := 0) (As := [.int v45, .int v46, .int v47, .long (((Int32.toInt64 v48) <<< (Int32.toInt64 32 &&& 63)) ||| ((Int32.toInt64 v49) &&& 4294967295))]) (r := []) (v := some (.int q50.1)) (h' := q50.2) rfl rfl (by decide) rfl (Nat.le_of_ble_eq_true rfl) rfl (E_263 (Nat.le_trans (by decide) hd) e_q50) rfl ?_
      refine Ex.seg 5 (pc' := 316) (lc' := [some (.ref 1000004), some (.ref 0), some (.ref 67), some (.int s.1)]) (st' := [.int (s.1 + 1), .ref 1000004, .ref 67, .int q50.1]) (h' := q50.2) (sg1 rfl rfl (sg1 rfl rfl (sg1 rfl rfl (sg1 rfl rfl (sg1 rfl rfl rfl))))) ?_
      obtain ⟨v51, e_v51, hf⟩ := bnd hf
      refine Ex.iald e_v51 rfl rfl ?_
      refine Ex.seg 4 (pc' := 321) (lc' := [some (.ref 1000004), some (.ref 0), some (.ref 67), some (.int s.1)]) (st' := [.int (s.1 + 2), .ref 1000004, .int v51, .ref 67, .int q50.1]) (h' := q50.2) (sg1 rfl rfl (sg1 rfl rfl (sg1 rfl rfl (sg1 rfl rfl rfl)))) ?_
      obtain ⟨v52, e_v52, hf⟩ := bnd hf
      refine Ex.iald e_v52 rfl rfl ?_
      refine Ex.seg 4 (pc' := 326) (lc' := [some (.ref 1000004), some (.ref 0), some (.ref 67), some (.int s.1)]) (st' := [.int (s.1 + 3), .ref 1000004, .int v52, .int v51, .ref 67, .int q50.1]) (h' := q50.2) (sg1 rfl rfl (sg1 rfl rfl (sg1 rfl rfl (sg1 rfl rfl rfl)))) ?_
      obtain ⟨v53, e_v53, hf⟩ := bnd hf
      refine Ex.iald e_v53 rfl rfl ?_
      refine Ex.seg 4 (pc' := 331) (lc' := [some (.ref 1000004), some (.ref 0), some (.ref 67), some (.int s.1)]) (st' := [.int (s.1 + 4), .ref 1000004, .int v53, .int v52, .int v51, .ref 67, .int q50.1]) (h' := q50.2) (sg1 rfl rfl (sg1 rfl rfl (sg1 rfl rfl (sg1 rfl rfl rfl)))) ?_
      obtain ⟨v54, e_v54, hf⟩ := bnd hf
      refine Ex.iald e_v54 rfl rfl ?_
      refine Ex.seg 7 (pc' := 340) (lc' := [some (.ref 1000004), some (.ref 0), some (.ref 67), some (.int s.1)]) (st' := [.int (s.1 + 5), .ref 1000004, .long ((Int32.toInt64 v54) <<< (Int32.toInt64 32 &&& 63)), .int v53, .int v52, .int v51, .ref 67, .int q50.1]) (h' := q50.2) (sg1 rfl rfl (sg1 rfl rfl (sg1 rfl rfl (sg1 rfl rfl (sg1 rfl rfl (sg1 rfl rfl (sg1 rfl rfl rfl))))))) ?_
      obtain ⟨v55, e_v55, hf⟩ := bnd hf
      refine Ex.iald e_v55 rfl rfl ?_
      refine Ex.seg 4 (pc' := 347) (lc' := [some (.ref 1000004), some (.ref 0), some (.ref 67), some (.int s.1)]) (st' := [.long (((Int32.toInt64 v54) <<< (Int32.toInt64 32 &&& 63)) ||| ((Int32.toInt64 v55) &&& 4294967295)), .int v53, .int v52, .int v51, .ref 67, .int q50.1]) (h' := q50.2) (sg1 rfl rfl (sg1 rfl rfl (sg1 rfl rfl (sg1 rfl rfl rfl)))) ?_
      obtain ⟨q56, e_q56, hf⟩ := bnd hf
      refine Ex.callV (a := 67) (As := [.int v51, .int v52, .int v53, .long (((Int32.toInt64 v54) <<< (Int32.toInt64 32 &&& 63)) ||| ((Int32.toInt64 v55) &&& 4294967295))]) (r := [.int q50.1]) (v := some (.int q56.1)) (h' := q56.2) rfl rfl (by decide) rfl (Nat.le_of_ble_eq_true rfl) rfl (E_384 (Nat.le_trans (by decide) hd) e_q56) rfl ?_
      refine Ex.icmp rfl rfl (fun (c0 : q50.1 = q56.1) => ?_) (fun (c0 : ¬ (q50.1 = q56.1)) => ?_)
      · rw [if_pos c0] at hf
        exact Ex.weak (sm_le_s (sm_le_s (sm_le_s (sm_le_s sm_le_nil)))) (B_470_1184 hd hS1 hf hs)
      · rw [if_neg c0] at hf
        refine Ex.seg 1 (pc' := 354) (lc' := [some (.ref 1000004), some (.ref 0), some (.ref 67), some (.int s.1)]) (st' := [.int 0]) (h' := q56.2) (sg1 rfl rfl rfl) ?_
        obtain rfl := Option.some.inj hf
        exact Ex.iret rfl rfl (fun _ => by decide) hs
    rw [if_neg n5] at hf
    rcases Classical.em ((v24 &&& 31) = 5) with n6 | n6
    · rw [if_pos n6] at hf
      refine Ex.swt (t := 355) rfl rfl (by rw [n6]; exact Or.inr ⟨by decide, by decide, _, rfl, by decide⟩) ?_
      refine Ex.seg 5 (pc' := 360) (lc' := [some (.ref 1000004), some (.ref 0), some (.ref 67), some (.int s.1)]) (st' := [.int (s.1 + 1), .ref 1000004, .ref 0]) (h' := s.2) (sg1 rfl rfl (sg1 rfl rfl (sg1 rfl rfl (sg1 rfl rfl (sg1 rfl rfl rfl))))) ?_
      obtain ⟨v57, e_v57, hf⟩ := bnd hf
      refine Ex.iald e_v57 rfl rfl ?_
      refine Ex.seg 4 (pc' := 365) (lc' := [some (.ref 1000004), some (.ref 0), some (.ref 67), some (.int s.1)]) (st' := [.int (s.1 + 2), .ref 1000004, .int v57, .ref 0]) (h' := s.2) (sg1 rfl rfl (sg1 rfl rfl (sg1 rfl rfl (sg1 rfl rfl rfl)))) ?_
      obtain ⟨v58, e_v58, hf⟩ := bnd hf
      refine Ex.iald e_v58 rfl rfl ?_
      obtain ⟨q59, e_q59, hf⟩ := bnd hf
      refine Ex.callV (a := 0) (As := [.int v57, .int v58]) (r := []) (v := some (.int q59.1)) (h' := q59.2) rfl rfl (by decide) rfl (Nat.le_of_ble_eq_true rfl) rfl (E_265 (Nat.le_trans (by decide) hd) e_q59) rfl ?_
      refine Ex.seg 5 (pc' := 374) (lc' := [some (.ref 1000004), some (.ref 0), some (.ref 67), some (.int s.1)]) (st' := [.int (s.1 + 1), .ref 1000004, .ref 67, .int q59.1]) (h' := q59.2) (sg1 rfl rfl (sg1 rfl rfl (sg1 rfl rfl (sg1 rfl rfl (sg1 rfl rfl rfl))))) ?_
      obtain ⟨v60, e_v60, hf⟩ := bnd hf
      refine Ex.iald e_v60 rfl rfl ?_
      refine Ex.seg 4 (pc' := 379) (lc' := [some (.ref 1000004), some (.ref 0), some (.ref 67), some (.int s.1)]) (st' := [.int (s.1 + 2), .ref 1000004, .int v60, .ref 67, .int q59.1]) (h' := q59.2) (sg1 rfl rfl (sg1 rfl rfl (sg1 rfl rfl (sg1 rfl rfl rfl)))) ?_
      obtain ⟨v61, e_v61, hf⟩ := bnd hf
      refine Ex.iald e_v61 rfl rfl ?_
      obtain ⟨q62, e_q62, hf⟩ := bnd hf
      refine Ex.callV (a := 67) (As := [.int v60, .int v61]) (r := [.int q59.1]) (v := some (.int q62.1)) (h' := q62.2) rfl rfl (by decide) rfl (Nat.le_of_ble_eq_true rfl) rfl (E_385 (Nat.le_trans (by decide) hd) e_q62) rfl ?_
      refine Ex.icmp rfl rfl (fun (c0 : q59.1 = q62.1) => ?_) (fun (c0 : ¬ (q59.1 = q62.1)) => ?_)
      · rw [if_pos c0] at hf
        exact Ex.weak (sm_le_s (sm_le_s (sm_le_s (sm_le_s sm_le_nil)))) (B_470_1184 hd hS1 hf hs)
      · rw [if_neg c0] at hf
        refine Ex.seg 1 (pc' := 387) (lc' := [some (.ref 1000004), some (.ref 0), some (.ref 67), some (.int s.1)]) (st' := [.int 0]) (h' := q62.2) (sg1 rfl rfl rfl) ?_
        obtain rfl := Option.some.inj hf
        exact Ex.iret rfl rfl (fun _ => by decide) hs
    rw [if_neg n6] at hf
    rcases Classical.em ((v24 &&& 31) = 6) with n7 | n7
    · rw [if_pos n7] at hf
      refine Ex.swt (t := 388) rfl rfl (by rw [n7]; exact Or.inr ⟨by decide, by decide, _, rfl, by decide⟩) ?_
      refine Ex.seg 5 (pc' := 393) (lc' := [some (.ref 1000004), some (.ref 0), some (.ref 67), some (.int s.1)]) (st' := [.int (s.1 + 1), .ref 1000004, .ref 0]) (h' := s.2) (sg1 rfl rfl (sg1 rfl rfl (sg1 rfl rfl (sg1 rfl rfl (sg1 rfl rfl rfl))))) ?_
      obtain ⟨v63, e_v63, hf⟩ := bnd hf
      refine Ex.iald e_v63 rfl rfl ?_
      obtain ⟨q64, e_q64, hf⟩ := bnd hf
      refine Ex.callV (a := 0) (As := [.int v63]) (r := []) (v := some (.long q64.1)) (h' := q64.2) rfl rfl (by decide) rfl (Nat.le_of_ble_eq_true rfl) rfl (E_266 (Nat.le_trans (by decide) hd) e_q64) rfl ?_
      refine Ex.seg 5 (pc' := 402) (lc' := [some (.ref 1000004), some (.ref 0), some (.ref 67), some (.int s.1)]) (st' := [.int (s.1 + 1), .ref 1000004, .ref 67, .long q64.1]) (h' := q64.2) (sg1 rfl rfl (sg1 rfl rfl (sg1 rfl rfl (sg1 rfl rfl (sg1 rfl rfl rfl))))) ?_
      obtain ⟨v65, e_v65, hf⟩ := bnd hf
      refine Ex.iald e_v65 rfl rfl ?_
      obtain ⟨q66, e_q66, hf⟩ := bnd hf
      refine Ex.callV (a := 67) (As := [.int v65]) (r := [.long q64.1]) (v := some (.long q66.1)) (h' := q66.2) rfl rfl (by decide) rfl (Nat.le_of_ble_eq_true rfl) rfl (E_386 (Nat.le_trans (by decide) hd) e_q66) rfl ?_
      refine Ex.seg 1 (pc' := 407) (lc' := [some (.ref 1000004), some (.ref 0), some (.ref 67), some (.int s.1)]) (st' := [.int (lg_cmp q64.1 q66.1)]) (h' := q66.2) (sg1 rfl rfl rfl) ?_
      refine Ex.ifc rfl rfl (fun (c0 : (lg_cmp q64.1 q66.1) = 0) => ?_) (fun (c0 : ¬ ((lg_cmp q64.1 q66.1) = 0)) => ?_)
      · rw [if_pos c0] at hf
        exact Ex.weak (sm_le_s (sm_le_s (sm_le_s (sm_le_s sm_le_nil)))) (B_470_1184 hd hS1 hf hs)
      · rw [if_neg c0] at hf
        refine Ex.seg 1 (pc' := 411) (lc' := [some (.ref 1000004), some (.ref 0), some (.ref 67), some (.int s.1)]) (st' := [.int 0]) (h' := q66.2) (sg1 rfl rfl rfl) ?_
        obtain rfl := Option.some.inj hf
        exact Ex.iret rfl rfl (fun _ => by decide) hs
    rw [if_neg n7] at hf
    rcases Classical.em ((v24 &&& 31) = 7) with n8 | n8
    · rw [if_pos n8] at hf
      refine Ex.swt (t := 412) rfl rfl (by rw [n8]; exact Or.inr ⟨by decide, by decide, _, rfl, by decide⟩) ?_
      refine Ex.seg 5 (pc' := 417) (lc' := [some (.ref 1000004), some (.ref 0), some (.ref 67), some (.int s.1)]) (st' := [.int (s.1 + 1), .ref 1000004, .ref 0]) (h' := s.2) (sg1 rfl rfl (sg1 rfl rfl (sg1 rfl rfl (sg1 rfl rfl (sg1 rfl rfl rfl))))) ?_
      obtain ⟨v67, e_v67, hf⟩ := bnd hf
      refine Ex.iald e_v67 rfl rfl ?_
      refine Ex.seg 4 (pc' := 422) (lc' := [some (.ref 1000004), some (.ref 0), some (.ref 67), some (.int s.1)]) (st' := [.int (s.1 + 2), .ref 1000004, .int v67, .ref 0]) (h' := s.2) (sg1 rfl rfl (sg1 rfl rfl (sg1 rfl rfl (sg1 rfl rfl rfl)))) ?_
      obtain ⟨v68, e_v68, hf⟩ := bnd hf
      refine Ex.iald e_v68 rfl rfl ?_
      refine Ex.seg 4 (pc' := 427) (lc' := [some (.ref 1000004), some (.ref 0), some (.ref 67), some (.int s.1)]) (st' := [.int (s.1 + 3), .ref 1000004, .int v68, .int v67, .ref 0]) (h' := s.2) (sg1 rfl rfl (sg1 rfl rfl (sg1 rfl rfl (sg1 rfl rfl rfl)))) ?_
      obtain ⟨v69, e_v69, hf⟩ := bnd hf
      refine Ex.iald e_v69 rfl rfl ?_
      refine Ex.seg 4 (pc' := 432) (lc' := [some (.ref 1000004), some (.ref 0), some (.ref 67), some (.int s.1)]) (st' := [.int (s.1 + 4), .ref 1000004, .int v69, .int v68, .int v67, .ref 0]) (h' := s.2) (sg1 rfl rfl (sg1 rfl rfl (sg1 rfl rfl (sg1 rfl rfl rfl)))) ?_
      obtain ⟨v70, e_v70, hf⟩ := bnd hf
      refine Ex.iald e_v70 rfl rfl ?_
      refine Ex.ifc rfl rfl (fun (c0 : v70 = 0) => ?_) (fun (c0 : ¬ (v70 = 0)) => ?_)
      · rw [if_pos c0] at hf
        refine Ex.seg 1 (pc' := 441) (lc' := [some (.ref 1000004), some (.ref 0), some (.ref 67), some (.int s.1)]) (st' := [.int 0, .int v69, .int v68, .int v67, .ref 0]) (h' := s.2) (sg1 rfl rfl rfl) ?_
        exact Ex.weak (sm_le_s (sm_le_s (sm_le_s (sm_le_s sm_le_nil)))) (B_470_441 hd hS1 hf hs)
      · rw [if_neg c0] at hf
        refine Ex.seg 2 (pc' := 441) (lc' := [some (.ref 1000004), some (.ref 0), some (.ref 67), some (.int s.1)]) (st' := [.int 1, .int v69, .int v68, .int v67, .ref 0]) (h' := s.2) (sg1 rfl rfl (sg1 rfl rfl rfl)) ?_
        exact Ex.weak (sm_le_s (sm_le_s (sm_le_s (sm_le_s sm_le_nil)))) (B_470_441 hd hS1 hf hs)
    rw [if_neg n8] at hf
    rcases Classical.em ((v24 &&& 31) = 8) with n9 | n9
    · rw [if_pos n9] at hf
      refine Ex.swt (t := 491) rfl rfl (by rw [n9]; exact Or.inr ⟨by decide, by decide, _, rfl, by decide⟩) ?_
      refine Ex.seg 5 (pc' := 496) (lc' := [some (.ref 1000004), some (.ref 0), some (.ref 67), some (.int s.1)]) (st' := [.int (s.1 + 1), .ref 1000004, .ref 0]) (h' := s.2) (sg1 rfl rfl (sg1 rfl rfl (sg1 rfl rfl (sg1 rfl rfl (sg1 rfl rfl rfl))))) ?_
      obtain ⟨v71, e_v71, hf⟩ := bnd hf
      refine Ex.iald e_v71 rfl rfl ?_
      refine Ex.seg 4 (pc' := 501) (lc' := [some (.ref 1000004), some (.ref 0), some (.ref 67), some (.int s.1)]) (st' := [.int (s.1 + 2), .ref 1000004, .int v71, .ref 0]) (h' := s.2) (sg1 rfl rfl (sg1 rfl rfl (sg1 rfl rfl (sg1 rfl rfl rfl)))) ?_
      obtain ⟨v72, e_v72, hf⟩ := bnd hf
      refine Ex.iald e_v72 rfl rfl ?_
      refine Ex.seg 4 (pc' := 506) (lc' := [some (.ref 1000004), some (.ref 0), some (.ref 67), some (.int s.1)]) (st' := [.int (s.1 + 3), .ref 1000004, .int v72, .int v71, .ref 0]) (h' := s.2) (sg1 rfl rfl (sg1 rfl rfl (sg1 rfl rfl (sg1 rfl rfl rfl)))) ?_
      obtain ⟨v73, e_v73, hf⟩ := bnd hf
      refine Ex.iald e_v73 rfl rfl ?_
      refine Ex.seg 4 (pc' := 511) (lc' := [some (.ref 1000004), some (.ref 0), some (.ref 67), some (.int s.1)]) (st' := [.int (s.1 + 4), .ref 1000004, .int v73, .int v72, .int v71, .ref 0]) (h' := s.2) (sg1 rfl rfl (sg1 rfl rfl (sg1 rfl rfl (sg1 rfl rfl rfl)))) ?_
      obtain ⟨v74, e_v74, hf⟩ := bnd hf
      refine Ex.iald e_v74 rfl rfl ?_
      refine Ex.ifc rfl rfl (fun (c0 : v74 = 0) => ?_) (fun (c0 : ¬ (v74 = 0)) => ?_)
      · rw [if_pos c0] at hf
        refine Ex.seg 1 (pc' := 520) (lc' := [some (.ref 1000004), some (.ref 0), some (.ref 67), some (.int s.1)]) (st' := [.int 0, .int v73, .int v72, .int v71, .ref 0]) (h' := s.2) (sg1 rfl rfl rfl) ?_
        exact Ex.weak (sm_le_s (sm_le_s (sm_le_s (sm_le_s sm_le_nil)))) (B_470_520 hd hS1 hf hs)
      · rw [if_neg c0] at hf
        refine Ex.seg 2 (pc' := 520) (lc' := [some (.ref 1000004), some (.ref 0), some (.ref 67), some (.int s.1)]) (st' := [.int 1, .int v73, .int v72, .int v71, .ref 0]) (h' := s.2) (sg1 rfl rfl (sg1 rfl rfl rfl)) ?_
        exact Ex.weak (sm_le_s (sm_le_s (sm_le_s (sm_le_s sm_le_nil)))) (B_470_520 hd hS1 hf hs)
    rw [if_neg n9] at hf
    rcases Classical.em ((v24 &&& 31) = 9) with n10 | n10
    · rw [if_pos n10] at hf
      refine Ex.swt (t := 570) rfl rfl (by rw [n10]; exact Or.inr ⟨by decide, by decide, _, rfl, by decide⟩) ?_
      refine Ex.seg 5 (pc' := 575) (lc' := [some (.ref 1000004), some (.ref 0), some (.ref 67), some (.int s.1)]) (st' := [.int (s.1 + 1), .ref 1000004, .ref 0]) (h' := s.2) (sg1 rfl rfl (sg1 rfl rfl (sg1 rfl rfl (sg1 rfl rfl (sg1 rfl rfl rfl))))) ?_
      obtain ⟨v75, e_v75, hf⟩ := bnd hf
      refine Ex.iald e_v75 rfl rfl ?_
      refine Ex.seg 4 (pc' := 580) (lc' := [some (.ref 1000004), some (.ref 0), some (.ref 67), some (.int s.1)]) (st' := [.int (s.1 + 2), .ref 1000004, .int v75, .ref 0]) (h' := s.2) (sg1 rfl rfl (sg1 rfl rfl (sg1 rfl rfl (sg1 rfl rfl rfl)))) ?_
      obtain ⟨v76, e_v76, hf⟩ := bnd hf
      refine Ex.iald e_v76 rfl rfl ?_
      refine Ex.seg 4 (pc' := 585) (lc' := [some (.ref 1000004), some (.ref 0), some (.ref 67), some (.int s.1)]) (st' := [.int (s.1 + 3), .ref 1000004, .int v76, .int v75, .ref 0]) (h' := s.2) (sg1 rfl rfl (sg1 rfl rfl (sg1 rfl rfl (sg1 rfl rfl rfl)))) ?_
      obtain ⟨v77, e_v77, hf⟩ := bnd hf
      refine Ex.iald e_v77 rfl rfl ?_
      refine Ex.seg 4 (pc' := 590) (lc' := [some (.ref 1000004), some (.ref 0), some (.ref 67), some (.int s.1)]) (st' := [.int (s.1 + 4), .ref 1000004, .int v77, .int v76, .int v75, .ref 0]) (h' := s.2) (sg1 rfl rfl (sg1 rfl rfl (sg1 rfl rfl (sg1 rfl rfl rfl)))) ?_
      obtain ⟨v78, e_v78, hf⟩ := bnd hf
      refine Ex.iald e_v78 rfl rfl ?_
      refine Ex.seg 4 (pc' := 595) (lc' := [some (.ref 1000004), some (.ref 0), some (.ref 67), some (.int s.1)]) (st' := [.int (s.1 + 5), .ref 1000004, .int v78, .int v77, .int v76, .int v75, .ref 0]) (h' := s.2) (sg1 rfl rfl (sg1 rfl rfl (sg1 rfl rfl (sg1 rfl rfl rfl)))) ?_
      obtain ⟨v79, e_v79, hf⟩ := bnd hf
      refine Ex.iald e_v79 rfl rfl ?_
      obtain ⟨q80, e_q80, hf⟩ := bnd hf
      refine Ex.callV (a := 0) (As := [.int v75, .int v76, .int v77, .int v78, .int v79]) (r := []) (v := some (.int q80.1)) (h' := q80.2) rfl rfl (by decide) rfl (Nat.le_of_ble_eq_true rfl) rfl (E_269 (Nat.le_trans (by decide) hd) e_q80) rfl ?_
      refine Ex.seg 5 (pc' := 604) (lc' := [some (.ref 1000004), some (.ref 0), some (.ref 67), some (.int s.1)]) (st' := [.int (s.1 + 1), .ref 1000004, .ref 67, .int q80.1]) (h' := q80.2) (sg1 rfl rfl (sg1 rfl rfl (sg1 rfl rfl (sg1 rfl rfl (sg1 rfl rfl rfl))))) ?_
      obtain ⟨v81, e_v81, hf⟩ := bnd hf
      refine Ex.iald e_v81 rfl rfl ?_
      refine Ex.seg 4 (pc' := 609) (lc' := [some (.ref 1000004), some (.ref 0), some (.ref 67), some (.int s.1)]) (st' := [.int (s.1 + 2), .ref 1000004, .int v81, .ref 67, .int q80.1]) (h' := q80.2) (sg1 rfl rfl (sg1 rfl rfl (sg1 rfl rfl (sg1 rfl rfl rfl)))) ?_
      obtain ⟨v82, e_v82, hf⟩ := bnd hf
      refine Ex.iald e_v82 rfl rfl ?_
      refine Ex.seg 4 (pc' := 614) (lc' := [some (.ref 1000004), some (.ref 0), some (.ref 67), some (.int s.1)]) (st' := [.int (s.1 + 3), .ref 1000004, .int v82, .int v81, .ref 67, .int q80.1]) (h' := q80.2) (sg1 rfl rfl (sg1 rfl rfl (sg1 rfl rfl (sg1 rfl rfl rfl)))) ?_
      obtain ⟨v83, e_v83, hf⟩ := bnd hf
      refine Ex.iald e_v83 rfl rfl ?_
      refine Ex.seg 4 (pc' := 619) (lc' := [some (.ref 1000004), some (.ref 0), some (.ref 67), some (.int s.1)]) (st' := [.int (s.1 + 4), .ref 1000004, .int v83, .int v82, .int v81, .ref 67, .int q80.1]) (h' := q80.2) (sg1 rfl rfl (sg1 rfl rfl (sg1 rfl rfl (sg1 rfl rfl rfl)))) ?_
      obtain ⟨v84, e_v84, hf⟩ := bnd hf
      refine Ex.iald e_v84 rfl rfl ?_
      refine Ex.seg 4 (pc' := 624) (lc' := [some (.ref 1000004), some (.ref 0), some (.ref 67), some (.int s.1)]) (st' := [.int (s.1 + 5), .ref 1000004, .int v84, .int v83, .int v82, .int v81, .ref 67, .int q80.1]) (h' := q80.2) (sg1 rfl rfl (sg1 rfl rfl (sg1 rfl rfl (sg1 rfl rfl rfl)))) ?_
      obtain ⟨v85, e_v85, hf⟩ := bnd hf
      refine Ex.iald e_v85 rfl rfl ?_
      obtain ⟨q86, e_q86, hf⟩ := bnd hf
      refine Ex.callV (a := 67) (As := [.int v81, .int v82, .int v83, .int v84, .int v85]) (r := [.int q80.1]) (v := some (.int q86.1)) (h' := q86.2) rfl rfl (by decide) rfl (Nat.le_of_ble_eq_true rfl) rfl (E_395 (Nat.le_trans (by decide) hd) e_q86) rfl ?_
      refine Ex.icmp rfl rfl (fun (c0 : q80.1 = q86.1) => ?_) (fun (c0 : ¬ (q80.1 = q86.1)) => ?_)
      · rw [if_pos c0] at hf
        exact Ex.weak (sm_le_s (sm_le_s (sm_le_s (sm_le_s sm_le_nil)))) (B_470_1184 hd hS1 hf hs)
      · rw [if_neg c0] at hf
        refine Ex.seg 1 (pc' := 632) (lc' := [some (.ref 1000004), some (.ref 0), some (.ref 67), some (.int s.1)]) (st' := [.int 0]) (h' := q86.2) (sg1 rfl rfl rfl) ?_
        obtain rfl := Option.some.inj hf
        exact Ex.iret rfl rfl (fun _ => by decide) hs
    rw [if_neg n10] at hf
    rcases Classical.em ((v24 &&& 31) = 10) with n11 | n11
    · rw [if_pos n11] at hf
      refine Ex.swt (t := 633) rfl rfl (by rw [n11]; exact Or.inr ⟨by decide, by decide, _, rfl, by decide⟩) ?_
      refine Ex.seg 1 (pc' := 634) (lc' := [some (.ref 1000004), some (.ref 0), some (.ref 67), some (.int s.1)]) (st' := [.ref 0]) (h' := s.2) (sg1 rfl rfl rfl) ?_
      obtain ⟨q87, e_q87, hf⟩ := bnd hf
      refine Ex.callV (a := 0) (As := []) (r := []) (v := some (.int q87.1)) (h' := q87.2) rfl rfl (by decide) rfl (Nat.le_of_ble_eq_true rfl) rfl (E_270 (Nat.le_trans (by decide) hd) e_q87) rfl ?_
      refine Ex.seg 1 (pc' := 638) (lc' := [some (.ref 1000004), some (.ref 0), some (.ref 67), some (.int s.1)]) (st' := [.ref 67, .int q87.1]) (h' := q87.2) (sg1 rfl rfl rfl) ?_
      obtain ⟨q88, e_q88, hf⟩ := bnd hf
      refine Ex.callV (a := 67) (As := []) (r := [.int q87.1]) (v := some (.int q88.1)) (h' := q88.2) rfl rfl (by decide) rfl (Nat.le_of_ble_eq_true rfl) rfl (E_397 (Nat.le_trans (by decide) hd) e_q88) rfl ?_
      refine Ex.icmp rfl rfl (fun (c0 : q87.1 = q88.1) => ?_) (fun (c0 : ¬ (q87.1 = q88.1)) => ?_)
      · rw [if_pos c0] at hf
        exact Ex.weak (sm_le_s (sm_le_s (sm_le_s (sm_le_s sm_le_nil)))) (B_470_1184 hd hS1 hf hs)
      · rw [if_neg c0] at hf
        refine Ex.seg 1 (pc' := 645) (lc' := [some (.ref 1000004), some (.ref 0), some (.ref 67), some (.int s.1)]) (st' := [.int 0]) (h' := q88.2) (sg1 rfl rfl rfl) ?_
        obtain rfl := Option.some.inj hf
        exact Ex.iret rfl rfl (fun _ => by decide) hs
    rw [if_neg n11] at hf
    rcases Classical.em ((v24 &&& 31) = 11) with n12 | n12
    · rw [if_pos n12] at hf
      refine Ex.swt (t := 646) rfl rfl (by rw [n12]; exact Or.inr ⟨by decide, by decide, _, rfl, by decide⟩) ?_
      refine Ex.seg 5 (pc' := 651) (lc' := [some (.ref 1000004), some (.ref 0), some (.ref 67), some (.int s.1)]) (st' := [.int (s.1 + 1), .ref 1000004, .ref 0]) (h' := s.2) (sg1 rfl rfl (sg1 rfl rfl (sg1 rfl rfl (sg1 rfl rfl (sg1 rfl rfl rfl))))) ?_
      obtain ⟨v89, e_v89, hf⟩ := bnd hf
      refine Ex.iald e_v89 rfl rfl ?_
      obtain ⟨q90, e_q90, hf⟩ := bnd hf
      refine Ex.callV (a := 0) (As := [.int v89]) (r := []) (v := some (.int q90.1)) (h' := q90.2) rfl rfl (by decide) rfl (Nat.le_of_ble_eq_true rfl) rfl (E_271 (Nat.le_trans (by decide) hd) e_q90) rfl ?_
      refine Ex.seg 5 (pc' := 660) (lc' := [some (.ref 1000004), some (.ref 0), some (.ref 67), some (.int s.1)]) (st' := [.int (s.1 + 1), .ref 1000004, .ref 67, .int q90.1]) (h' := q90.2) (sg1 rfl rfl (sg1 rfl rfl (sg1 rfl rfl (sg1 rfl rfl (sg1 rfl rfl rfl))))) ?_
      obtain ⟨v91, e_v91, hf⟩ := bnd hf
      refine Ex.iald e_v91 rfl rfl ?_
      obtain ⟨q92, e_q92, hf⟩ := bnd hf
      refine Ex.callV (a := 67) (As := [.int v91]) (r := [.int q90.1]) (v := some (.int q92.1)) (h' := q92.2) rfl rfl (by decide) rfl (Nat.le_of_ble_eq_true rfl) rfl (E_398 (Nat.le_trans (by decide) hd) e_q92) rfl ?_
      refine Ex.icmp rfl rfl (fun (c0 : q90.1 = q92.1) => ?_) (fun (c0 : ¬ (q90.1 = q92.1)) => ?_)
      · rw [if_pos c0] at hf
        exact Ex.weak (sm_le_s (sm_le_s (sm_le_s (sm_le_s sm_le_nil)))) (B_470_1184 hd hS1 hf hs)
      · rw [if_neg c0] at hf
        refine Ex.seg 1 (pc' := 668) (lc' := [some (.ref 1000004), some (.ref 0), some (.ref 67), some (.int s.1)]) (st' := [.int 0]) (h' := q92.2) (sg1 rfl rfl rfl) ?_
        obtain rfl := Option.some.inj hf
        exact Ex.iret rfl rfl (fun _ => by decide) hs
    rw [if_neg n12] at hf
    rcases Classical.em ((v24 &&& 31) = 12) with n13 | n13
    · rw [if_pos n13] at hf
      refine Ex.swt (t := 669) rfl rfl (by rw [n13]; exact Or.inr ⟨by decide, by decide, _, rfl, by decide⟩) ?_
      refine Ex.seg 5 (pc' := 674) (lc' := [some (.ref 1000004), some (.ref 0), some (.ref 67), some (.int s.1)]) (st' := [.int (s.1 + 1), .ref 1000004, .ref 0]) (h' := s.2) (sg1 rfl rfl (sg1 rfl rfl (sg1 rfl rfl (sg1 rfl rfl (sg1 rfl rfl rfl))))) ?_
      obtain ⟨v93, e_v93, hf⟩ := bnd hf
      refine Ex.iald e_v93 rfl rfl ?_
      refine Ex.seg 4 (pc' := 679) (lc' := [some (.ref 1000004), some (.ref 0), some (.ref 67), some (.int s.1)]) (st' := [.int (s.1 + 2), .ref 1000004, .int v93, .ref 0]) (h' := s.2) (sg1 rfl rfl (sg1 rfl rfl (sg1 rfl rfl (sg1 rfl rfl rfl)))) ?_
      obtain ⟨v94, e_v94, hf⟩ := bnd hf
      refine Ex.iald e_v94 rfl rfl ?_
      obtain ⟨q95, e_q95, hf⟩ := bnd hf
      refine Ex.callV (a := 0) (As := [.int v93, .int v94]) (r := []) (v := some (.int q95.1)) (h' := q95.2) rfl rfl (by decide) rfl (Nat.le_of_ble_eq_true rfl) rfl (E_272 (Nat.le_trans (by decide) hd) e_q95) rfl ?_
      refine Ex.seg 5 (pc' := 688) (lc' := [some (.ref 1000004), some (.ref 0), some (.ref 67), some (.int s.1)]) (st' := [.int (s.1 + 1), .ref 1000004, .ref 67, .int q95.1]) (h' := q95.2) (sg1 rfl rfl (sg1 rfl rfl (sg1 rfl rfl (sg1 rfl rfl (sg1 rfl rfl rfl))))) ?_
      obtain ⟨v96, e_v96, hf⟩ := bnd hf
      refine Ex.iald e_v96 rfl rfl ?_
      refine Ex.seg 4 (pc' := 693) (lc' := [some (.ref 1000004), some (.ref 0), some (.ref 67), some (.int s.1)]) (st' := [.int (s.1 + 2), .ref 1000004, .int v96, .ref 67, .int q95.1]) (h' := q95.2) (sg1 rfl rfl (sg1 rfl rfl (sg1 rfl rfl (sg1 rfl rfl rfl)))) ?_
      obtain ⟨v97, e_v97, hf⟩ := bnd hf
      refine Ex.iald e_v97 rfl rfl ?_
      obtain ⟨q98, e_q98, hf⟩ := bnd hf
      refine Ex.callV (a := 67) (As := [.int v96, .int v97]) (r := [.int q95.1]) (v := some (.int q98.1)) (h' := q98.2) rfl rfl (by decide) rfl (Nat.le_of_ble_eq_true rfl) rfl (E_399 (Nat.le_trans (by decide) hd) e_q98) rfl ?_
      refine Ex.icmp rfl rfl (fun (c0 : q95.1 = q98.1) => ?_) (fun (c0 : ¬ (q95.1 = q98.1)) => ?_)
      · rw [if_pos c0] at hf
        exact Ex.weak (sm_le_s (sm_le_s (sm_le_s (sm_le_s sm_le_nil)))) (B_470_1184 hd hS1 hf hs)
      · rw [if_neg c0] at hf
        refine Ex.seg 1 (pc' := 701) (lc' := [some (.ref 1000004), some (.ref 0), some (.ref 67), some (.int s.1)]) (st' := [.int 0]) (h' := q98.2) (sg1 rfl rfl rfl) ?_
        obtain rfl := Option.some.inj hf
        exact Ex.iret rfl rfl (fun _ => by decide) hs
    rw [if_neg n13] at hf
    rcases Classical.em ((v24 &&& 31) = 13) with n14 | n14
    · rw [if_pos n14] at hf
      refine Ex.swt (t := 702) rfl rfl (by rw [n14]; exact Or.inr ⟨by decide, by decide, _, rfl, by decide⟩) ?_
      refine Ex.seg 1 (pc' := 703) (lc' := [some (.ref 1000004), some (.ref 0), some (.ref 67), some (.int s.1)]) (st' := [.ref 0]) (h' := s.2) (sg1 rfl rfl rfl) ?_
      obtain ⟨q99, e_q99, hf⟩ := bnd hf
      refine Ex.callV (a := 0) (As := []) (r := []) (v := some (.int q99.1)) (h' := q99.2) rfl rfl (by decide) rfl (Nat.le_of_ble_eq_true rfl) rfl (E_273 (Nat.le_trans (by decide) hd) e_q99) rfl ?_
      refine Ex.seg 1 (pc' := 707) (lc' := [some (.ref 1000004), some (.ref 0), some (.ref 67), some (.int s.1)]) (st' := [.ref 67, .int q99.1]) (h' := q99.2) (sg1 rfl rfl rfl) ?_
      obtain ⟨q100, e_q100, hf⟩ := bnd hf
      refine Ex.callV (a := 67) (As := []) (r := [.int q99.1]) (v := some (.int q100.1)) (h' := q100.2) rfl rfl (by decide) rfl (Nat.le_of_ble_eq_true rfl) rfl (E_400 (Nat.le_trans (by decide) hd) e_q100) rfl ?_
      refine Ex.icmp rfl rfl (fun (c0 : q99.1 = q100.1) => ?_) (fun (c0 : ¬ (q99.1 = q100.1)) => ?_)
      · rw [if_pos c0] at hf
        exact Ex.weak (sm_le_s (sm_le_s (sm_le_s (sm_le_s sm_le_nil)))) (B_470_1184 hd hS1 hf hs)
      · rw [if_neg c0] at hf
        refine Ex.seg 1 (pc' := 714) (lc' := [some (.ref 1000004), some (.ref 0), some (.ref 67), some (.int s.1)]) (st' := [.int 0]) (h' := q100.2) (sg1 rfl rfl rfl) ?_
        obtain rfl := Option.some.inj hf
        exact Ex.iret rfl rfl (fun _ => by decide) hs
    rw [if_neg n14] at hf
    rcases Classical.em ((v24 &&& 31) = 14) with n15 | n15
    · rw [if_pos n15] at hf
      refine Ex.swt (t := 715) rfl rfl (by rw [n15]; exact Or.inr ⟨by decide, by decide, _, rfl, by decide⟩) ?_
      refine Ex.seg 5 (pc' := 720) (lc' := [some (.ref 1000004), some (.ref 0), some (.ref 67), some (.int s.1)]) (st' := [.int (s.1 + 1), .ref 1000004, .ref 0]) (h' := s.2) (sg1 rfl rfl (sg1 rfl rfl (sg1 rfl rfl (sg1 rfl rfl (sg1 rfl rfl rfl))))) ?_
      obtain ⟨v101, e_v101, hf⟩ := bnd hf
      refine Ex.iald e_v101 rfl rfl ?_
      obtain ⟨q102, e_q102, hf⟩ := bnd hf
      refine Ex.callV (a := 0) (As := [.int v101]) (r := []) (v := some (.int q102.1)) (h' := q102.2) rfl rfl (by decide) rfl (Nat.le_of_ble_eq_true rfl) rfl (E_274 (Nat.le_trans (by decide) hd) e_q102) rfl ?_
      refine Ex.seg 5 (pc' := 729) (lc' := [some (.ref 1000004), some (.ref 0), some (.ref 67), some (.int s.1)]) (st' := [.int (s.1 + 1), .ref 1000004, .ref 67, .int q102.1]) (h' := q102.2) (sg1 rfl rfl (sg1 rfl rfl (sg1 rfl rfl (sg1 rfl rfl (sg1 rfl rfl rfl))))) ?_
      obtain ⟨v103, e_v103, hf⟩ := bnd hf
      refine Ex.iald e_v103 rfl rfl ?_
      obtain ⟨q104, e_q104, hf⟩ := bnd hf
      refine Ex.callV (a := 67) (As := [.int v103]) (r := [.int q102.1]) (v := some (.int q104.1)) (h' := q104.2) rfl rfl (by decide) rfl (Nat.le_of_ble_eq_true rfl) rfl (E_401 (Nat.le_trans (by decide) hd) e_q104) rfl ?_
      refine Ex.icmp rfl rfl (fun (c0 : q102.1 = q104.1) => ?_) (fun (c0 : ¬ (q102.1 = q104.1)) => ?_)
      · rw [if_pos c0] at hf
        exact Ex.weak (sm_le_s (sm_le_s (sm_le_s (sm_le_s sm_le_nil)))) (B_470_1184 hd hS1 hf hs)
      · rw [if_neg c0] at hf
        refine Ex.seg 1 (pc' := 737) (lc' := [some (.ref 1000004), some (.ref 0), some (.ref 67), some (.int s.1)]) (st' := [.int 0]) (h' := q104.2) (sg1 rfl rfl rfl) ?_
        obtain rfl := Option.some.inj hf
        exact Ex.iret rfl rfl (fun _ => by decide) hs
    rw [if_neg n15] at hf
    rcases Classical.em ((v24 &&& 31) = 15) with n16 | n16
    · rw [if_pos n16] at hf
      refine Ex.swt (t := 738) rfl rfl (by rw [n16]; exact Or.inr ⟨by decide, by decide, _, rfl, by decide⟩) ?_
      refine Ex.seg 5 (pc' := 743) (lc' := [some (.ref 1000004), some (.ref 0), some (.ref 67), some (.int s.1)]) (st' := [.int (s.1 + 1), .ref 1000004, .ref 0]) (h' := s.2) (sg1 rfl rfl (sg1 rfl rfl (sg1 rfl rfl (sg1 rfl rfl (sg1 rfl rfl rfl))))) ?_
      obtain ⟨v105, e_v105, hf⟩ := bnd hf
      refine Ex.iald e_v105 rfl rfl ?_
      refine Ex.seg 7 (pc' := 752) (lc' := [some (.ref 1000004), some (.ref 0), some (.ref 67), some (.int s.1)]) (st' := [.int (s.1 + 2), .ref 1000004, .long ((Int32.toInt64 v105) <<< (Int32.toInt64 32 &&& 63)), .ref 0]) (h' := s.2) (sg1 rfl rfl (sg1 rfl rfl (sg1 rfl rfl (sg1 rfl rfl (sg1 rfl rfl (sg1 rfl rfl (sg1 rfl rfl rfl))))))) ?_
      obtain ⟨v106, e_v106, hf⟩ := bnd hf
      refine Ex.iald e_v106 rfl rfl ?_
      refine Ex.seg 4 (pc' := 759) (lc' := [some (.ref 1000004), some (.ref 0), some (.ref 67), some (.int s.1)]) (st' := [.long (((Int32.toInt64 v105) <<< (Int32.toInt64 32 &&& 63)) ||| ((Int32.toInt64 v106) &&& 4294967295)), .ref 0]) (h' := s.2) (sg1 rfl rfl (sg1 rfl rfl (sg1 rfl rfl (sg1 rfl rfl rfl)))) ?_
      obtain ⟨q107, e_q107, hf⟩ := bnd hf
      refine Ex.callV (a := 0) (As := [.long (((Int32.toInt64 v105) <<< (Int32.toInt64 32 &&& 63)) ||| ((Int32.toInt64 v106) &&& 4294967295))]) (r := []) (v := some (.int q107.1)) (h' := q107.2) rfl rfl (by decide) rfl (Nat.le_of_ble_eq_true rfl) rfl (E_275 (Nat.le_trans (by decide) hd) e_q107) rfl ?_
      refine Ex.seg 5 (pc' := 767) (lc' := [some (.ref 1000004), some (.ref 0), some (.ref 67), some (.int s.1)]) (st' := [.int (s.1 + 1), .ref 1000004, .ref 67, .int q107.1]) (h' := q107.2) (sg1 rfl rfl (sg1 rfl rfl (sg1 rfl rfl (sg1 rfl rfl (sg1 rfl rfl rfl))))) ?_
      obtain ⟨v108, e_v108, hf⟩ := bnd hf
      refine Ex.iald e_v108 rfl rfl ?_
      refine Ex.seg 7 (pc' := 776) (lc' := [some (.ref 1000004), some (.ref 0), some (.ref 67), some (.int s.1)]) (st' := [.int (s.1 + 2), .ref 1000004, .long ((Int32.toInt64 v108) <<< (Int32.toInt64 32 &&& 63)), .ref 67, .int q107.1]) (h' := q107.2) (sg1 rfl rfl (sg1 rfl rfl (sg1 rfl rfl (sg1 rfl rfl (sg1 rfl rfl (sg1 rfl rfl (sg1 rfl rfl rfl))))))) ?_
      obtain ⟨v109, e_v109, hf⟩ := bnd hf
      refine Ex.iald e_v109 rfl rfl ?_
      refine Ex.seg 4 (pc' := 783) (lc' := [some (.ref 1000004), some (.ref 0), some (.ref 67), some (.int s.1)]) (st' := [.long (((Int32.toInt64 v108) <<< (Int32.toInt64 32 &&& 63)) ||| ((Int32.toInt64 v109) &&& 4294967295)), .ref 67, .int q107.1]) (h' := q107.2) (sg1 rfl rfl (sg1 rfl rfl (sg1 rfl rfl (sg1 rfl rfl rfl)))) ?_
      obtain ⟨q110, e_q110, hf⟩ := bnd hf
      refine Ex.callV (a := 67) (As := [.long (((Int32.toInt64 v108) <<< (Int32.toInt64 32 &&& 63)) ||| ((Int32.toInt64 v109) &&& 4294967295))]) (r := [.int q107.1]) (v := some (.int q110.1)) (h' := q110.2) rfl rfl (by decide) rfl (Nat.le_of_ble_eq_true rfl) rfl (E_402 (Nat.le_trans (by decide) hd) e_q110) rfl ?_
      refine Ex.icmp rfl rfl (fun (c0 : q107.1 = q110.1) => ?_) (fun (c0 : ¬ (q107.1 = q110.1)) => ?_)
      · rw [if_pos c0] at hf
        exact Ex.weak (sm_le_s (sm_le_s (sm_le_s (sm_le_s sm_le_nil)))) (B_470_1184 hd hS1 hf hs)
      · rw [if_neg c0] at hf
        refine Ex.seg 1 (pc' := 790) (lc' := [some (.ref 1000004), some (.ref 0), some (.ref 67), some (.int s.1)]) (st' := [.int 0]) (h' := q110.2) (sg1 rfl rfl rfl) ?_
        obtain rfl := Option.some.inj hf
        exact Ex.iret rfl rfl (fun _ => by decide) hs
    rw [if_neg n16] at hf
    rcases Classical.em ((v24 &&& 31) = 16) with n17 | n17
    · rw [if_pos n17] at hf
      refine Ex.swt (t := 791) rfl rfl (by rw [n17]; exact Or.inr ⟨by decide, by decide, _, rfl, by decide⟩) ?_
      refine Ex.seg 5 (pc' := 796) (lc' := [some (.ref 1000004), some (.ref 0), some (.ref 67), some (.int s.1)]) (st' := [.int (s.1 + 1), .ref 1000004, .ref 0]) (h' := s.2) (sg1 rfl rfl (sg1 rfl rfl (sg1 rfl rfl (sg1 rfl rfl (sg1 rfl rfl rfl))))) ?_
      obtain ⟨v111, e_v111, hf⟩ := bnd hf
      refine Ex.iald e_v111 rfl rfl ?_
      refine Ex.seg 4 (pc' := 801) (lc' := [some (.ref 1000004), some (.ref 0), some (.ref 67), some (.int s.1)]) (st' := [.int (s.1 + 2), .ref 1000004, .int v111, .ref 0]) (h' := s.2) (sg1 rfl rfl (sg1 rfl rfl (sg1 rfl rfl (sg1 rfl rfl rfl)))) ?_
      obtain ⟨v112, e_v112, hf⟩ := bnd hf
      refine Ex.iald e_v112 rfl rfl ?_
      obtain ⟨q113, e_q113, hf⟩ := bnd hf
      refine Ex.callV (a := 0) (As := [.int v111, .int v112]) (r := []) (v := some (.int q113.1)) (h' := q113.2) rfl rfl (by decide) rfl (Nat.le_of_ble_eq_true rfl) rfl (E_276 (Nat.le_trans (by decide) hd) e_q113) rfl ?_
      refine Ex.seg 5 (pc' := 810) (lc' := [some (.ref 1000004), some (.ref 0), some (.ref 67), some (.int s.1)]) (st' := [.int (s.1 + 1), .ref 1000004, .ref 67, .int q113.1]) (h' := q113.2) (sg1 rfl rfl (sg1 rfl rfl (sg1 rfl rfl (sg1 rfl rfl (sg1 rfl rfl rfl))))) ?_
      obtain ⟨v114, e_v114, hf⟩ := bnd hf
      refine Ex.iald e_v114 rfl rfl ?_
      refine Ex.seg 4 (pc' := 815) (lc' := [some (.ref 1000004), some (.ref 0), some (.ref 67), some (.int s.1)]) (st' := [.int (s.1 + 2), .ref 1000004, .int v114, .ref 67, .int q113.1]) (h' := q113.2) (sg1 rfl rfl (sg1 rfl rfl (sg1 rfl rfl (sg1 rfl rfl rfl)))) ?_
      obtain ⟨v115, e_v115, hf⟩ := bnd hf
      refine Ex.iald e_v115 rfl rfl ?_
      obtain ⟨q116, e_q116, hf⟩ := bnd hf
      refine Ex.callV (a := 67) (As := [.int v114, .int v115]) (r := [.int q113.1]) (v := some (.int q116.1)) (h' := q116.2) rfl rfl (by decide) rfl (Nat.le_of_ble_eq_true rfl) rfl (E_404 (Nat.le_trans (by decide) hd) e_q116) rfl ?_
      refine Ex.icmp rfl rfl (fun (c0 : q113.1 = q116.1) => ?_) (fun (c0 : ¬ (q113.1 = q116.1)) => ?_)
      · rw [if_pos c0] at hf
        exact Ex.weak (sm_le_s (sm_le_s (sm_le_s (sm_le_s sm_le_nil)))) (B_470_1184 hd hS1 hf hs)
      · rw [if_neg c0] at hf
        refine Ex.seg 1 (pc' := 823) (lc' := [some (.ref 1000004), some (.ref 0), some (.ref 67), some (.int s.1)]) (st' := [.int 0]) (h' := q116.2) (sg1 rfl rfl rfl) ?_
        obtain rfl := Option.some.inj hf
        exact Ex.iret rfl rfl (fun _ => by decide) hs
    rw [if_neg n17] at hf
    rcases Classical.em ((v24 &&& 31) = 17) with n18 | n18
    · rw [if_pos n18] at hf
      refine Ex.swt (t := 824) rfl rfl (by rw [n18]; exact Or.inr ⟨by decide, by decide, _, rfl, by decide⟩) ?_
      refine Ex.seg 5 (pc' := 829) (lc' := [some (.ref 1000004), some (.ref 0), some (.ref 67), some (.int s.1)]) (st' := [.int (s.1 + 1), .ref 1000004, .ref 0]) (h' := s.2) (sg1 rfl rfl (sg1 rfl rfl (sg1 rfl rfl (sg1 rfl rfl (sg1 rfl rfl rfl))))) ?_
      obtain ⟨v117, e_v117, hf⟩ := bnd hf
      refine Ex.iald e_v117 rfl rfl ?_
      obtain ⟨q118, e_q118, hf⟩ := bnd hf
      refine Ex.callV (a := 0) (As := [.int v117]) (r := []) (v := some (.int q118.1)) (h' := q118.2) rfl rfl (by decide) rfl (Nat.le_of_ble_eq_true rfl) rfl (E_277 (Nat.le_trans (by decide) hd) e_q118) rfl ?_
      refine Ex.seg 5 (pc' := 838) (lc' := [some (.ref 1000004), some (.ref 0), some (.ref 67), some (.int s.1)]) (st' := [.int (s.1 + 1), .ref 1000004, .ref 67, .int q118.1]) (h' := q118.2) (sg1 rfl rfl (sg1 rfl rfl (sg1 rfl rfl (sg1 rfl rfl (sg1 rfl rfl rfl))))) ?_
      obtain ⟨v119, e_v119, hf⟩ := bnd hf
      refine Ex.iald e_v119 rfl rfl ?_
      obtain ⟨q120, e_q120, hf⟩ := bnd hf
      refine Ex.callV (a := 67) (As := [.int v119]) (r := [.int q118.1]) (v := some (.int q120.1)) (h' := q120.2) rfl rfl (by decide) rfl (Nat.le_of_ble_eq_true rfl) rfl (E_405 (Nat.le_trans (by decide) hd) e_q120) rfl ?_
      refine Ex.icmp rfl rfl (fun (c0 : q118.1 = q120.1) => ?_) (fun (c0 : ¬ (q118.1 = q120.1)) => ?_)
      · rw [if_pos c0] at hf
        exact Ex.weak (sm_le_s (sm_le_s (sm_le_s (sm_le_s sm_le_nil)))) (B_470_1184 hd hS1 hf hs)
      · rw [if_neg c0] at hf
        refine Ex.seg 1 (pc' := 846) (lc' := [some (.ref 1000004), some (.ref 0), some (.ref 67), some (.int s.1)]) (st' := [.int 0]) (h' := q120.2) (sg1 rfl rfl rfl) ?_
        obtain rfl := Option.some.inj hf
        exact Ex.iret rfl rfl (fun _ => by decide) hs
    rw [if_neg n18] at hf
    rcases Classical.em ((v24 &&& 31) = 18) with n19 | n19
    · rw [if_pos n19] at hf
      refine Ex.swt (t := 847) rfl rfl (by rw [n19]; exact Or.inr ⟨by decide, by decide, _, rfl, by decide⟩) ?_
      refine Ex.seg 1 (pc' := 848) (lc' := [some (.ref 1000004), some (.ref 0), some (.ref 67), some (.int s.1)]) (st' := [.ref 0]) (h' := s.2) (sg1 rfl rfl rfl) ?_
      obtain ⟨q121, e_q121, hf⟩ := bnd hf
      refine Ex.callV (a := 0) (As := []) (r := []) (v := some (.long q121.1)) (h' := q121.2) rfl rfl (by decide) rfl (Nat.le_of_ble_eq_true rfl) rfl (E_278 (Nat.le_trans (by decide) hd) e_q121) rfl ?_
      refine Ex.seg 1 (pc' := 852) (lc' := [some (.ref 1000004), some (.ref 0), some (.ref 67), some (.int s.1)]) (st' := [.ref 67, .long q121.1]) (h' := q121.2) (sg1 rfl rfl rfl) ?_
      obtain ⟨q122, e_q122, hf⟩ := bnd hf
      refine Ex.callV (a := 67) (As := []) (r := [.long q121.1]) (v := some (.long q122.1)) (h' := q122.2) rfl rfl (by decide) rfl (Nat.le_of_ble_eq_true rfl) rfl (E_407 (Nat.le_trans (by decide) hd) e_q122) rfl ?_
      refine Ex.seg 1 (pc' := 856) (lc' := [some (.ref 1000004), some (.ref 0), some (.ref 67), some (.int s.1)]) (st' := [.int (lg_cmp q121.1 q122.1)]) (h' := q122.2) (sg1 rfl rfl rfl) ?_
      refine Ex.ifc rfl rfl (fun (c0 : (lg_cmp q121.1 q122.1) = 0) => ?_) (fun (c0 : ¬ ((lg_cmp q121.1 q122.1) = 0)) => ?_)
      · rw [if_pos c0] at hf
        exact Ex.weak (sm_le_s (sm_le_s (sm_le_s (sm_le_s sm_le_nil)))) (B_470_1184 hd hS1 hf hs)
      · rw [if_neg c0] at hf
        refine Ex.seg 1 (pc' := 860) (lc' := [some (.ref 1000004), some (.ref 0), some (.ref 67), some (.int s.1)]) (st' := [.int 0]) (h' := q122.2) (sg1 rfl rfl rfl) ?_
        obtain rfl := Option.some.inj hf
        exact Ex.iret rfl rfl (fun _ => by decide) hs
    rw [if_neg n19] at hf
    rcases Classical.em ((v24 &&& 31) = 19) with n20 | n20
    · rw [if_pos n20] at hf
      refine Ex.swt (t := 861) rfl rfl (by rw [n20]; exact Or.inr ⟨by decide, by decide, _, rfl, by decide⟩) ?_
      refine Ex.seg 1 (pc' := 862) (lc' := [some (.ref 1000004), some (.ref 0), some (.ref 67), some (.int s.1)]) (st' := [.ref 0]) (h' := s.2) (sg1 rfl rfl rfl) ?_
      obtain ⟨q123, e_q123, hf⟩ := bnd hf
      refine Ex.callV (a := 0) (As := []) (r := []) (v := some (.int q123.1)) (h' := q123.2) rfl rfl (by decide) rfl (Nat.le_of_ble_eq_true rfl) rfl (E_279 (Nat.le_trans (by decide) hd) e_q123) rfl ?_
      refine Ex.seg 1 (pc' := 866) (lc' := [some (.ref 1000004), some (.ref 0), some (.ref 67), some (.int s.1)]) (st' := [.ref 67, .int q123.1]) (h' := q123.2) (sg1 rfl rfl rfl) ?_
      obtain ⟨q124, e_q124, hf⟩ := bnd hf
      refine Ex.callV (a := 67) (As := []) (r := [.int q123.1]) (v := some (.int q124.1)) (h' := q124.2) rfl rfl (by decide) rfl (Nat.le_of_ble_eq_true rfl) rfl (E_408 (Nat.le_trans (by decide) hd) e_q124) rfl ?_
      refine Ex.icmp rfl rfl (fun (c0 : q123.1 = q124.1) => ?_) (fun (c0 : ¬ (q123.1 = q124.1)) => ?_)
      · rw [if_pos c0] at hf
        exact Ex.weak (sm_le_s (sm_le_s (sm_le_s (sm_le_s sm_le_nil)))) (B_470_1184 hd hS1 hf hs)
      · rw [if_neg c0] at hf
        refine Ex.seg 1 (pc' := 873) (lc' := [some (.ref 1000004), some (.ref 0), some (.ref 67), some (.int s.1)]) (st' := [.int 0]) (h' := q124.2) (sg1 rfl rfl rfl) ?_
        obtain rfl := Option.some.inj hf
        exact Ex.iret rfl rfl (fun _ => by decide) hs
    rw [if_neg n20] at hf
    rcases Classical.em ((v24 &&& 31) = 20) with n21 | n21
    · rw [if_pos n21] at hf
      refine Ex.swt (t := 874) rfl rfl (by rw [n21]; exact Or.inr ⟨by decide, by decide, _, rfl, by decide⟩) ?_
      refine Ex.seg 5 (pc' := 879) (lc' := [some (.ref 1000004), some (.ref 0), some (.ref 67), some (.int s.1)]) (st' := [.int (s.1 + 1), .ref 1000004, .ref 0]) (h' := s.2) (sg1 rfl rfl (sg1 rfl rfl (sg1 rfl rfl (sg1 rfl rfl (sg1 rfl rfl rfl))))) ?_
      obtain ⟨v125, e_v125, hf⟩ := bnd hf
      refine Ex.iald e_v125 rfl rfl ?_
      refine Ex.seg 4 (pc' := 884) (lc' := [some (.ref 1000004), some (.ref 0), some (.ref 67), some (.int s.1)]) (st' := [.int (s.1 + 2), .ref 1000004, .int v125, .ref 0]) (h' := s.2) (sg1 rfl rfl (sg1 rfl rfl (sg1 rfl rfl (sg1 rfl rfl rfl)))) ?_
      obtain ⟨v126, e_v126, hf⟩ := bnd hf
      refine Ex.iald e_v126 rfl rfl ?_
      obtain ⟨q127, e_q127, hf⟩ := bnd hf
      refine Ex.callV (a := 0) (As := [.int v125, .int v126]) (r := []) (v := some (.long q127.1)) (h' := q127.2) rfl rfl (by decide) rfl (Nat.le_of_ble_eq_true rfl) rfl (E_280 (Nat.le_trans (by decide) hd) e_q127) rfl ?_
      refine Ex.seg 5 (pc' := 893) (lc' := [some (.ref 1000004), some (.ref 0), some (.ref 67), some (.int s.1)]) (st' := [.int (s.1 + 1), .ref 1000004, .ref 67, .long q127.1]) (h' := q127.2) (sg1 rfl rfl (sg1 rfl rfl (sg1 rfl rfl (sg1 rfl rfl (sg1 rfl rfl rfl))))) ?_
      obtain ⟨v128, e_v128, hf⟩ := bnd hf
      refine Ex.iald e_v128 rfl rfl ?_
      refine Ex.seg 4 (pc' := 898) (lc' := [some (.ref 1000004), some (.ref 0), some (.ref 67), some (.int s.1)]) (st' := [.int (s.1 + 2), .ref 1000004, .int v128, .ref 67, .long q127.1]) (h' := q127.2) (sg1 rfl rfl (sg1 rfl rfl (sg1 rfl rfl (sg1 rfl rfl rfl)))) ?_
      obtain ⟨v129, e_v129, hf⟩ := bnd hf
      refine Ex.iald e_v129 rfl rfl ?_
      obtain ⟨q130, e_q130, hf⟩ := bnd hf
      refine Ex.callV (a := 67) (As := [.int v128, .int v129]) (r := [.long q127.1]) (v := some (.long q130.1)) (h' := q130.2) rfl rfl (by decide) rfl (Nat.le_of_ble_eq_true rfl) rfl (E_409 (Nat.le_trans (by decide) hd) e_q130) rfl ?_
      refine Ex.seg 1 (pc' := 903) (lc' := [some (.ref 1000004), some (.ref 0), some (.ref 67), some (.int s.1)]) (st' := [.int (lg_cmp q127.1 q130.1)]) (h' := q130.2) (sg1 rfl rfl rfl) ?_
      refine Ex.ifc rfl rfl (fun (c0 : (lg_cmp q127.1 q130.1) = 0) => ?_) (fun (c0 : ¬ ((lg_cmp q127.1 q130.1) = 0)) => ?_)
      · rw [if_pos c0] at hf
        exact Ex.weak (sm_le_s (sm_le_s (sm_le_s (sm_le_s sm_le_nil)))) (B_470_1184 hd hS1 hf hs)
      · rw [if_neg c0] at hf
        refine Ex.seg 1 (pc' := 907) (lc' := [some (.ref 1000004), some (.ref 0), some (.ref 67), some (.int s.1)]) (st' := [.int 0]) (h' := q130.2) (sg1 rfl rfl rfl) ?_
        obtain rfl := Option.some.inj hf
        exact Ex.iret rfl rfl (fun _ => by decide) hs
    rw [if_neg n21] at hf
    rcases Classical.em ((v24 &&& 31) = 21) with n22 | n22
    · rw [if_pos n22] at hf
      refine Ex.swt (t := 908) rfl rfl (by rw [n22]; exact Or.inr ⟨by decide, by decide, _, rfl, by decide⟩) ?_
      refine Ex.seg 5 (pc' := 913) (lc' := [some (.ref 1000004), some (.ref 0), some (.ref 67), some (.int s.1)]) (st' := [.int (s.1 + 1), .ref 1000004, .ref 0]) (h' := s.2) (sg1 rfl rfl (sg1 rfl rfl (sg1 rfl rfl (sg1 rfl rfl (sg1 rfl rfl rfl))))) ?_
      obtain ⟨v131, e_v131, hf⟩ := bnd hf
      refine Ex.iald e_v131 rfl rfl ?_
      refine Ex.seg 4 (pc' := 918) (lc' := [some (.ref 1000004), some (.ref 0), some (.ref 67), some (.int s.1)]) (st' := [.int (s.1 + 2), .ref 1000004, .int v131, .ref 0]) (h' := s.2) (sg1 rfl rfl (sg1 rfl rfl (sg1 rfl rfl (sg1 rfl rfl rfl)))) ?_
      obtain ⟨v132, e_v132, hf⟩ := bnd hf
      refine Ex.iald e_v132 rfl rfl ?_
      refine Ex.seg 4 (pc' := 923) (lc' := [some (.ref 1000004), some (.ref 0), some (.ref 67), some (.int s.1)]) (st' := [.int (s.1 + 3), .ref 1000004, .int v132, .int v131, .ref 0]) (h' := s.2) (sg1 rfl rfl (sg1 rfl rfl (sg1 rfl rfl (sg1 rfl rfl rfl)))) ?_
      obtain ⟨v133, e_v133, hf⟩ := bnd hf
      refine Ex.iald e_v133 rfl rfl ?_
      obtain ⟨q134, e_q134, hf⟩ := bnd hf
      refine Ex.callV (a := 0) (As := [.int v131, .int v132, .int v133]) (r := []) (v := some (.long q134.1)) (h' := q134.2) rfl rfl (by decide) rfl (Nat.le_of_ble_eq_true rfl) rfl (E_281 (Nat.le_trans (by decide) hd) e_q134) rfl ?_
      refine Ex.seg 5 (pc' := 932) (lc' := [some (.ref 1000004), some (.ref 0), some (.ref 67), some (.int s.1)]) (st' := [.int (s.1 + 1), .ref 1000004, .ref 67, .long q134.1]) (h' := q134.2) (sg1 rfl rfl (sg1 rfl rfl (sg1 rfl rfl (sg1 rfl rfl (sg1 rfl rfl rfl))))) ?_
      obtain ⟨v135, e_v135, hf⟩ := bnd hf
      refine Ex.iald e_v135 rfl rfl ?_
      refine Ex.seg 4 (pc' := 937) (lc' := [some (.ref 1000004), some (.ref 0), some (.ref 67), some (.int s.1)]) (st' := [.int (s.1 + 2), .ref 1000004, .int v135, .ref 67, .long q134.1]) (h' := q134.2) (sg1 rfl rfl (sg1 rfl rfl (sg1 rfl rfl (sg1 rfl rfl rfl)))) ?_
      obtain ⟨v136, e_v136, hf⟩ := bnd hf
      refine Ex.iald e_v136 rfl rfl ?_
      refine Ex.seg 4 (pc' := 942) (lc' := [some (.ref 1000004), some (.ref 0), some (.ref 67), some (.int s.1)]) (st' := [.int (s.1 + 3), .ref 1000004, .int v136, .int v135, .ref 67, .long q134.1]) (h' := q134.2) (sg1 rfl rfl (sg1 rfl rfl (sg1 rfl rfl (sg1 rfl rfl rfl)))) ?_
      obtain ⟨v137, e_v137, hf⟩ := bnd hf
      refine Ex.iald e_v137 rfl rfl ?_
      obtain ⟨q138, e_q138, hf⟩ := bnd hf
      refine Ex.callV (a := 67) (As := [.int v135, .int v136, .int v137]) (r := [.long q134.1]) (v := some (.long q138.1)) (h' := q138.2) rfl rfl (by decide) rfl (Nat.le_of_ble_eq_true rfl) rfl (E_410 (Nat.le_trans (by decide) hd) e_q138) rfl ?_
      refine Ex.seg 1 (pc' := 947) (lc' := [some (.ref 1000004), some (.ref 0), some (.ref 67), some (.int s.1)]) (st' := [.int (lg_cmp q134.1 q138.1)]) (h' := q138.2) (sg1 rfl rfl rfl) ?_
      refine Ex.ifc rfl rfl (fun (c0 : (lg_cmp q134.1 q138.1) = 0) => ?_) (fun (c0 : ¬ ((lg_cmp q134.1 q138.1) = 0)) => ?_)
      · rw [if_pos c0] at hf
        exact Ex.weak (sm_le_s (sm_le_s (sm_le_s (sm_le_s sm_le_nil)))) (B_470_1184 hd hS1 hf hs)
      · rw [if_neg c0] at hf
        refine Ex.seg 1 (pc' := 951) (lc' := [some (.ref 1000004), some (.ref 0), some (.ref 67), some (.int s.1)]) (st' := [.int 0]) (h' := q138.2) (sg1 rfl rfl rfl) ?_
        obtain rfl := Option.some.inj hf
        exact Ex.iret rfl rfl (fun _ => by decide) hs
    rw [if_neg n22] at hf
    rcases Classical.em ((v24 &&& 31) = 22) with n23 | n23
    · rw [if_pos n23] at hf
      refine Ex.swt (t := 952) rfl rfl (by rw [n23]; exact Or.inr ⟨by decide, by decide, _, rfl, by decide⟩) ?_
      refine Ex.seg 5 (pc' := 957) (lc' := [some (.ref 1000004), some (.ref 0), some (.ref 67), some (.int s.1)]) (st' := [.int (s.1 + 1), .ref 1000004, .ref 0]) (h' := s.2) (sg1 rfl rfl (sg1 rfl rfl (sg1 rfl rfl (sg1 rfl rfl (sg1 rfl rfl rfl))))) ?_
      obtain ⟨v139, e_v139, hf⟩ := bnd hf
      refine Ex.iald e_v139 rfl rfl ?_
      refine Ex.seg 4 (pc' := 962) (lc' := [some (.ref 1000004), some (.ref 0), some (.ref 67), some (.int s.1)]) (st' := [.int (s.1 + 2), .ref 1000004, .int v139, .ref 0]) (h' := s.2) (sg1 rfl rfl (sg1 rfl rfl (sg1 rfl rfl (sg1 rfl rfl rfl)))) ?_
      obtain ⟨v140, e_v140, hf⟩ := bnd hf
      refine Ex.iald e_v140 rfl rfl ?_
      refine Ex.seg 4 (pc' := 967) (lc' := [some (.ref 1000004), some (.ref 0), some (.ref 67), some (.int s.1)]) (st' := [.int (s.1 + 3), .ref 1000004, .int v140, .int v139, .ref 0]) (h' := s.2) (sg1 rfl rfl (sg1 rfl rfl (sg1 rfl rfl (sg1 rfl rfl rfl)))) ?_
      obtain ⟨v141, e_v141, hf⟩ := bnd hf
      refine Ex.iald e_v141 rfl rfl ?_
      refine Ex.seg 4 (pc' := 972) (lc' := [some (.ref 1000004), some (.ref 0), some (.ref 67), some (.int s.1)]) (st' := [.int (s.1 + 4), .ref 1000004, .int v141, .int v140, .int v139, .ref 0]) (h' := s.2) (sg1 rfl rfl (sg1 rfl rfl (sg1 rfl rfl (sg1 rfl rfl rfl)))) ?_
      obtain ⟨v142, e_v142, hf⟩ := bnd hf
      refine Ex.iald e_v142 rfl rfl ?_
      refine Ex.seg 4 (pc' := 977) (lc' := [some (.ref 1000004), some (.ref 0), some (.ref 67), some (.int s.1)]) (st' := [.int (s.1 + 5), .ref 1000004, .int v142, .int v141, .int v140, .int v139, .ref 0]) (h' := s.2) (sg1 rfl rfl (sg1 rfl rfl (sg1 rfl rfl (sg1 rfl rfl rfl)))) ?_
      obtain ⟨v143, e_v143, hf⟩ := bnd hf
      refine Ex.iald e_v143 rfl rfl ?_
      obtain ⟨q144, e_q144, hf⟩ := bnd hf
      refine Ex.callV (a := 0) (As := [.int v139, .int v140, .int v141, .int v142, .int v143]) (r := []) (v := none) (h' := q144) rfl rfl (by decide) rfl (Nat.le_of_ble_eq_true rfl) rfl (E_282 (Nat.le_trans (by decide) hd) e_q144) rfl ?_
      refine Ex.seg 5 (pc' := 986) (lc' := [some (.ref 1000004), some (.ref 0), some (.ref 67), some (.int s.1)]) (st' := [.int (s.1 + 1), .ref 1000004, .ref 67]) (h' := q144) (sg1 rfl rfl (sg1 rfl rfl (sg1 rfl rfl (sg1 rfl rfl (sg1 rfl rfl rfl))))) ?_
      obtain ⟨v145, e_v145, hf⟩ := bnd hf
      refine Ex.iald e_v145 rfl rfl ?_
      refine Ex.seg 4 (pc' := 991) (lc' := [some (.ref 1000004), some (.ref 0), some (.ref 67), some (.int s.1)]) (st' := [.int (s.1 + 2), .ref 1000004, .int v145, .ref 67]) (h' := q144) (sg1 rfl rfl (sg1 rfl rfl (sg1 rfl rfl (sg1 rfl rfl rfl)))) ?_
      obtain ⟨v146, e_v146, hf⟩ := bnd hf
      refine Ex.iald e_v146 rfl rfl ?_
      refine Ex.seg 4 (pc' := 996) (lc' := [some (.ref 1000004), some (.ref 0), some (.ref 67), some (.int s.1)]) (st' := [.int (s.1 + 3), .ref 1000004, .int v146, .int v145, .ref 67]) (h' := q144) (sg1 rfl rfl (sg1 rfl rfl (sg1 rfl rfl (sg1 rfl rfl rfl)))) ?_
      obtain ⟨v147, e_v147, hf⟩ := bnd hf
      refine Ex.iald e_v147 rfl rfl ?_
      refine Ex.seg 4 (pc' := 1001) (lc' := [some (.ref 1000004), some (.ref 0), some (.ref 67), some (.int s.1)]) (st' := [.int (s.1 + 4), .ref 1000004, .int v147, .int v146, .int v145, .ref 67]) (h' := q144) (sg1 rfl rfl (sg1 rfl rfl (sg1 rfl rfl (sg1 rfl rfl rfl)))) ?_
      obtain ⟨v148, e_v148, hf⟩ := bnd hf
      refine Ex.iald e_v148 rfl rfl ?_
      refine Ex.seg 4 (pc' := 1006) (lc' := [some (.ref 1000004), some (.ref 0), some (.ref 67), some (.int s.1)]) (st' := [.int (s.1 + 5), .ref 1000004, .int v148, .int v147, .int v146, .int v145, .ref 67]) (h' := q144) (sg1 rfl rfl (sg1 rfl rfl (sg1 rfl rfl (sg1 rfl rfl rfl)))) ?_
      obtain ⟨v149, e_v149, hf⟩ := bnd hf
      refine Ex.iald e_v149 rfl rfl ?_
      obtain ⟨q150, e_q150, hf⟩ := bnd hf
      refine Ex.callV (a := 67) (As := [.int v145, .int v146, .int v147, .int v148, .int v149]) (r := []) (v := none) (h' := q150) rfl rfl (by decide) rfl (Nat.le_of_ble_eq_true rfl) rfl (E_411 (Nat.le_trans (by decide) hd) e_q150) rfl ?_
      refine Ex.seg 1 (pc' := 1184) (lc' := [some (.ref 1000004), some (.ref 0), some (.ref 67), some (.int s.1)]) (st' := []) (h' := q150) (sg1 rfl rfl rfl) ?_
      exact Ex.weak (sm_le_s (sm_le_s (sm_le_s (sm_le_s sm_le_nil)))) (B_470_1184 hd hS1 hf hs)
    rw [if_neg n23] at hf
    rcases Classical.em ((v24 &&& 31) = 23) with n24 | n24
    · rw [if_pos n24] at hf
      refine Ex.swt (t := 1013) rfl rfl (by rw [n24]; exact Or.inr ⟨by decide, by decide, _, rfl, by decide⟩) ?_
      refine Ex.seg 5 (pc' := 1018) (lc' := [some (.ref 1000004), some (.ref 0), some (.ref 67), some (.int s.1)]) (st' := [.int (s.1 + 1), .ref 1000004, .ref 0]) (h' := s.2) (sg1 rfl rfl (sg1 rfl rfl (sg1 rfl rfl (sg1 rfl rfl (sg1 rfl rfl rfl))))) ?_
      obtain ⟨v151, e_v151, hf⟩ := bnd hf
      refine Ex.iald e_v151 rfl rfl ?_
      obtain ⟨q152, e_q152, hf⟩ := bnd hf
      refine Ex.callV (a := 0) (As := [.int v151]) (r := []) (v := some (.int q152.1)) (h' := q152.2) rfl rfl (by decide) rfl (Nat.le_of_ble_eq_true rfl) rfl (E_283 (Nat.le_trans (by decide) hd) e_q152) rfl ?_
      refine Ex.seg 5 (pc' := 1027) (lc' := [some (.ref 1000004), some (.ref 0), some (.ref 67), some (.int s.1)]) (st' := [.int (s.1 + 1), .ref 1000004, .ref 67, .int q152.1]) (h' := q152.2) (sg1 rfl rfl (sg1 rfl rfl (sg1 rfl rfl (sg1 rfl rfl (sg1 rfl rfl rfl))))) ?_
      obtain ⟨v153, e_v153, hf⟩ := bnd hf
      refine Ex.iald e_v153 rfl rfl ?_
      obtain ⟨q154, e_q154, hf⟩ := bnd hf
      refine Ex.callV (a := 67) (As := [.int v153]) (r := [.int q152.1]) (v := some (.int q154.1)) (h' := q154.2) rfl rfl (by decide) rfl (Nat.le_of_ble_eq_true rfl) rfl (E_412 (Nat.le_trans (by decide) hd) e_q154) rfl ?_
      refine Ex.icmp rfl rfl (fun (c0 : q152.1 = q154.1) => ?_) (fun (c0 : ¬ (q152.1 = q154.1)) => ?_)
      · rw [if_pos c0] at hf
        exact Ex.weak (sm_le_s (sm_le_s (sm_le_s (sm_le_s sm_le_nil)))) (B_470_1184 hd hS1 hf hs)
      · rw [if_neg c0] at hf
        refine Ex.seg 1 (pc' := 1035) (lc' := [some (.ref 1000004), some (.ref 0), some (.ref 67), some (.int s.1)]) (st' := [.int 0]) (h' := q154.2) (sg1 rfl rfl rfl) ?_
        obtain rfl := Option.some.inj hf
        exact Ex.iret rfl rfl (fun _ => by decide) hs
    rw [if_neg n24] at hf
    rcases Classical.em ((v24 &&& 31) = 24) with n25 | n25
    · rw [if_pos n25] at hf
      refine Ex.swt (t := 1036) rfl rfl (by rw [n25]; exact Or.inr ⟨by decide, by decide, _, rfl, by decide⟩) ?_
      refine Ex.seg 1 (pc' := 1037) (lc' := [some (.ref 1000004), some (.ref 0), some (.ref 67), some (.int s.1)]) (st' := [.ref 0]) (h' := s.2) (sg1 rfl rfl rfl) ?_
      obtain ⟨q155, e_q155, hf⟩ := bnd hf
      refine Ex.callV (a := 0) (As := []) (r := []) (v := some (.int q155.1)) (h' := q155.2) rfl rfl (by decide) rfl (Nat.le_of_ble_eq_true rfl) rfl (E_284 (Nat.le_trans (by decide) hd) e_q155) rfl ?_
      refine Ex.seg 1 (pc' := 1041) (lc' := [some (.ref 1000004), some (.ref 0), some (.ref 67), some (.int s.1)]) (st' := [.ref 67, .int q155.1]) (h' := q155.2) (sg1 rfl rfl rfl) ?_
      obtain ⟨q156, e_q156, hf⟩ := bnd hf
      refine Ex.callV (a := 67) (As := []) (r := [.int q155.1]) (v := some (.int q156.1)) (h' := q156.2) rfl rfl (by decide) rfl (Nat.le_of_ble_eq_true rfl) rfl (E_466 (Nat.le_trans (by decide) hd) e_q156) rfl ?_
      refine Ex.icmp rfl rfl (fun (c0 : q155.1 = q156.1) => ?_) (fun (c0 : ¬ (q155.1 = q156.1)) => ?_)
      · rw [if_pos c0] at hf
        exact Ex.weak (sm_le_s (sm_le_s (sm_le_s (sm_le_s sm_le_nil)))) (B_470_1184 hd hS1 hf hs)
      · rw [if_neg c0] at hf
        refine Ex.seg 1 (pc' := 1048) (lc' := [some (.ref 1000004), some (.ref 0), some (.ref 67), some (.int s.1)]) (st' := [.int 0]) (h' := q156.2) (sg1 rfl rfl rfl) ?_
        obtain rfl := Option.some.inj hf
        exact Ex.iret rfl rfl (fun _ => by decide) hs
    rw [if_neg n25] at hf
    rcases Classical.em ((v24 &&& 31) = 25) with n26 | n26
    · rw [if_pos n26] at hf
      refine Ex.swt (t := 1049) rfl rfl (by rw [n26]; exact Or.inr ⟨by decide, by decide, _, rfl, by decide⟩) ?_
      refine Ex.seg 5 (pc' := 1054) (lc' := [some (.ref 1000004), some (.ref 0), some (.ref 67), some (.int s.1)]) (st' := [.int (s.1 + 1), .ref 1000004, .ref 0]) (h' := s.2) (sg1 rfl rfl (sg1 rfl rfl (sg1 rfl rfl (sg1 rfl rfl (sg1 rfl rfl rfl))))) ?_
      obtain ⟨v157, e_v157, hf⟩ := bnd hf
      refine Ex.iald e_v157 rfl rfl ?_
      obtain ⟨q158, e_q158, hf⟩ := bnd hf
      refine Ex.callV (a := 0) (As := [.int v157]) (r := []) (v := some (.int q158.1)) (h' := q158.2) rfl rfl (by decide) rfl (Nat.le_of_ble_eq_true rfl) rfl (E_285 (Nat.le_trans (by decide) hd) e_q158) rfl ?_
      refine Ex.seg 5 (pc' := 1063) (lc' := [some (.ref 1000004), some (.ref 0), some (.ref 67), some (.int s.1)]) (st' := [.int (s.1 + 1), .ref 1000004, .ref 67, .int q158.1]) (h' := q158.2) (sg1 rfl rfl (sg1 rfl rfl (sg1 rfl rfl (sg1 rfl rfl (sg1 rfl rfl rfl))))) ?_
      obtain ⟨v159, e_v159, hf⟩ := bnd hf
      refine Ex.iald e_v159 rfl rfl ?_
      obtain ⟨q160, e_q160, hf⟩ := bnd hf
      refine Ex.callV (a := 67) (As := [.int v159]) (r := [.int q158.1]) (v := some (.int q160.1)) (h' := q160.2) rfl rfl (by decide) rfl (Nat.le_of_ble_eq_true rfl) rfl (E_467 (Nat.le_trans (by decide) hd) e_q160) rfl ?_
      refine Ex.icmp rfl rfl (fun (c0 : q158.1 = q160.1) => ?_) (fun (c0 : ¬ (q158.1 = q160.1)) => ?_)
      · rw [if_pos c0] at hf
        exact Ex.weak (sm_le_s (sm_le_s (sm_le_s (sm_le_s sm_le_nil)))) (B_470_1184 hd hS1 hf hs)
      · rw [if_neg c0] at hf
        refine Ex.seg 1 (pc' := 1071) (lc' := [some (.ref 1000004), some (.ref 0), some (.ref 67), some (.int s.1)]) (st' := [.int 0]) (h' := q160.2) (sg1 rfl rfl rfl) ?_
        obtain rfl := Option.some.inj hf
        exact Ex.iret rfl rfl (fun _ => by decide) hs
    rw [if_neg n26] at hf
    rcases Classical.em ((v24 &&& 31) = 26) with n27 | n27
    · rw [if_pos n27] at hf
      refine Ex.swt (t := 1072) rfl rfl (by rw [n27]; exact Or.inr ⟨by decide, by decide, _, rfl, by decide⟩) ?_
      refine Ex.seg 5 (pc' := 1077) (lc' := [some (.ref 1000004), some (.ref 0), some (.ref 67), some (.int s.1)]) (st' := [.int (s.1 + 1), .ref 1000004, .ref 0]) (h' := s.2) (sg1 rfl rfl (sg1 rfl rfl (sg1 rfl rfl (sg1 rfl rfl (sg1 rfl rfl rfl))))) ?_
      obtain ⟨v161, e_v161, hf⟩ := bnd hf
      refine Ex.iald e_v161 rfl rfl ?_
      refine Ex.seg 7 (pc' := 1086) (lc' := [some (.ref 1000004), some (.ref 0), some (.ref 67), some (.int s.1)]) (st' := [.int (s.1 + 2), .ref 1000004, .long ((Int32.toInt64 v161) <<< (Int32.toInt64 32 &&& 63)), .ref 0]) (h' := s.2) (sg1 rfl rfl (sg1 rfl rfl (sg1 rfl rfl (sg1 rfl rfl (sg1 rfl rfl (sg1 rfl rfl (sg1 rfl rfl rfl))))))) ?_
      obtain ⟨v162, e_v162, hf⟩ := bnd hf
      refine Ex.iald e_v162 rfl rfl ?_
      refine Ex.seg 4 (pc' := 1093) (lc' := [some (.ref 1000004), some (.ref 0), some (.ref 67), some (.int s.1)]) (st' := [.long (((Int32.toInt64 v161) <<< (Int32.toInt64 32 &&& 63)) ||| ((Int32.toInt64 v162) &&& 4294967295)), .ref 0]) (h' := s.2) (sg1 rfl rfl (sg1 rfl rfl (sg1 rfl rfl (sg1 rfl rfl rfl)))) ?_
      obtain ⟨q163, e_q163, hf⟩ := bnd hf
      refine Ex.callV (a := 0) (As := [.long (((Int32.toInt64 v161) <<< (Int32.toInt64 32 &&& 63)) ||| ((Int32.toInt64 v162) &&& 4294967295))]) (r := []) (v := some (.int q163.1)) (h' := q163.2) rfl rfl (by decide) rfl (Nat.le_of_ble_eq_true rfl) rfl (E_286 (Nat.le_trans (by decide) hd) e_q163) rfl ?_
      refine Ex.seg 5 (pc' := 1101) (lc' := [some (.ref 1000004), some (.ref 0), some (.ref 67), some (.int s.1)]) (st' := [.int (s.1 + 1), .ref 1000004, .ref 67, .int q163.1]) (h' := q163.2) (sg1 rfl rfl (sg1 rfl rfl (sg1 rfl rfl (sg1 rfl rfl (sg1 rfl rfl rfl))))) ?_
      obtain ⟨v164, e_v164, hf⟩ := bnd hf
      refine Ex.iald e_v164 rfl rfl ?_
      refine Ex.seg 7 (pc' := 1110) (lc' := [some (.ref 1000004), some (.ref 0), some (.ref 67), some (.int s.1)]) (st' := [.int (s.1 + 2), .ref 1000004, .long ((Int32.toInt64 v164) <<< (Int32.toInt64 32 &&& 63)), .ref 67, .int q163.1]) (h' := q163.2) (sg1 rfl rfl (sg1 rfl rfl (sg1 rfl rfl (sg1 rfl rfl (sg1 rfl rfl (sg1 rfl rfl (sg1 rfl rfl rfl))))))) ?_
      obtain ⟨v165, e_v165, hf⟩ := bnd hf
      refine Ex.iald e_v165 rfl rfl ?_
      refine Ex.seg 4 (pc' := 1117) (lc' := [some (.ref 1000004), some (.ref 0), some (.ref 67), some (.int s.1)]) (st' := [.long (((Int32.toInt64 v164) <<< (Int32.toInt64 32 &&& 63)) ||| ((Int32.toInt64 v165) &&& 4294967295)), .ref 67, .int q163.1]) (h' := q163.2) (sg1 rfl rfl (sg1 rfl rfl (sg1 rfl rfl (sg1 rfl rfl rfl)))) ?_
      obtain ⟨q166, e_q166, hf⟩ := bnd hf
      refine Ex.callV (a := 67) (As := [.long (((Int32.toInt64 v164) <<< (Int32.toInt64 32 &&& 63)) ||| ((Int32.toInt64 v165) &&& 4294967295))]) (r := [.int q163.1]) (v := some (.int q166.1)) (h' := q166.2) rfl rfl (by decide) rfl (Nat.le_of_ble_eq_true rfl) rfl (E_468 (Nat.le_trans (by decide) hd) e_q166) rfl ?_
      refine Ex.icmp rfl rfl (fun (c0 : q163.1 = q166.1) => ?_) (fun (c0 : ¬ (q163.1 = q166.1)) => ?_)
      · rw [if_pos c0] at hf
        exact Ex.weak (sm_le_s (sm_le_s (sm_le_s (sm_le_s sm_le_nil)))) (B_470_1184 hd hS1 hf hs)
      · rw [if_neg c0] at hf
        refine Ex.seg 1 (pc' := 1124) (lc' := [some (.ref 1000004), some (.ref 0), some (.ref 67), some (.int s.1)]) (st' := [.int 0]) (h' := q166.2) (sg1 rfl rfl rfl) ?_
        obtain rfl := Option.some.inj hf
        exact Ex.iret rfl rfl (fun _ => by decide) hs
    rw [if_neg n27] at hf
    rcases Classical.em ((v24 &&& 31) = 27) with n28 | n28
    · rw [if_pos n28] at hf
      refine Ex.swt (t := 1125) rfl rfl (by rw [n28]; exact Or.inr ⟨by decide, by decide, _, rfl, by decide⟩) ?_
      refine Ex.seg 5 (pc' := 1130) (lc' := [some (.ref 1000004), some (.ref 0), some (.ref 67), some (.int s.1)]) (st' := [.int (s.1 + 1), .ref 1000004, .ref 0]) (h' := s.2) (sg1 rfl rfl (sg1 rfl rfl (sg1 rfl rfl (sg1 rfl rfl (sg1 rfl rfl rfl))))) ?_
      obtain ⟨v167, e_v167, hf⟩ := bnd hf
      refine Ex.iald e_v167 rfl rfl ?_
      refine Ex.seg 4 (pc' := 1135) (lc' := [some (.ref 1000004), some (.ref 0), some (.ref 67), some (.int s.1)]) (st' := [.int (s.1 + 2), .ref 1000004, .int v167, .ref 0]) (h' := s.2) (sg1 rfl rfl (sg1 rfl rfl (sg1 rfl rfl (sg1 rfl rfl rfl)))) ?_
      obtain ⟨v168, e_v168, hf⟩ := bnd hf
      refine Ex.iald e_v168 rfl rfl ?_
      refine Ex.seg 4 (pc' := 1140) (lc' := [some (.ref 1000004), some (.ref 0), some (.ref 67), some (.int s.1)]) (st' := [.int (s.1 + 3), .ref 1000004, .int v168, .int v167, .ref 0]) (h' := s.2) (sg1 rfl rfl (sg1 rfl rfl (sg1 rfl rfl (sg1 rfl rfl rfl)))) ?_
      obtain ⟨v169, e_v169, hf⟩ := bnd hf
      refine Ex.iald e_v169 rfl rfl ?_
      refine Ex.ifc rfl rfl (fun (c0 : v169 = 0) => ?_) (fun (c0 : ¬ (v169 = 0)) => ?_)
      · rw [if_pos c0] at hf
        refine Ex.seg 1 (pc' := 1149) (lc' := [some (.ref 1000004), some (.ref 0), some (.ref 67), some (.int s.1)]) (st' := [.int 0, .int v168, .int v167, .ref 0]) (h' := s.2) (sg1 rfl rfl rfl) ?_
        exact Ex.weak (sm_le_s (sm_le_s (sm_le_s (sm_le_s sm_le_nil)))) (B_470_1149 hd hS1 hf hs)
      · rw [if_neg c0] at hf
        refine Ex.seg 2 (pc' := 1149) (lc' := [some (.ref 1000004), some (.ref 0), some (.ref 67), some (.int s.1)]) (st' := [.int 1, .int v168, .int v167, .ref 0]) (h' := s.2) (sg1 rfl rfl (sg1 rfl rfl rfl)) ?_
        exact Ex.weak (sm_le_s (sm_le_s (sm_le_s (sm_le_s sm_le_nil)))) (B_470_1149 hd hS1 hf hs)
    rw [if_neg n28] at hf
    refine Ex.swt (t := 1184) rfl rfl (sw_dflt (by decide) (by decide) (fun k hk he => ?_)) ?_
    · have hk : k < 28 := hk
      rcases (show k = 0 ∨ k = 1 ∨ k = 2 ∨ k = 3 ∨ k = 4 ∨ k = 5 ∨ k = 6 ∨ k = 7 ∨ k = 8 ∨ k = 9 ∨ k = 10 ∨ k = 11 ∨ k = 12 ∨ k = 13 ∨ k = 14 ∨ k = 15 ∨ k = 16 ∨ k = 17 ∨ k = 18 ∨ k = 19 ∨ k = 20 ∨ k = 21 ∨ k = 22 ∨ k = 23 ∨ k = 24 ∨ k = 25 ∨ k = 26 ∨ k = 27 by omega) with rfl | rfl | rfl | rfl | rfl | rfl | rfl | rfl | rfl | rfl | rfl | rfl | rfl | rfl | rfl | rfl | rfl | rfl | rfl | rfl | rfl | rfl | rfl | rfl | rfl | rfl | rfl | rfl
      · exact absurd (Int32.toInt_inj.mp (he.symm.trans (by decide : (_ : Int) = Int32.toInt 0))) n1
      · exact absurd (Int32.toInt_inj.mp (he.symm.trans (by decide : (_ : Int) = Int32.toInt 1))) n2
      · exact absurd (Int32.toInt_inj.mp (he.symm.trans (by decide : (_ : Int) = Int32.toInt 2))) n3
      · exact absurd (Int32.toInt_inj.mp (he.symm.trans (by decide : (_ : Int) = Int32.toInt 3))) n4
      · exact absurd (Int32.toInt_inj.mp (he.symm.trans (by decide : (_ : Int) = Int32.toInt 4))) n5
      · exact absurd (Int32.toInt_inj.mp (he.symm.trans (by decide : (_ : Int) = Int32.toInt 5))) n6
      · exact absurd (Int32.toInt_inj.mp (he.symm.trans (by decide : (_ : Int) = Int32.toInt 6))) n7
      · exact absurd (Int32.toInt_inj.mp (he.symm.trans (by decide : (_ : Int) = Int32.toInt 7))) n8
      · exact absurd (Int32.toInt_inj.mp (he.symm.trans (by decide : (_ : Int) = Int32.toInt 8))) n9
      · exact absurd (Int32.toInt_inj.mp (he.symm.trans (by decide : (_ : Int) = Int32.toInt 9))) n10
      · exact absurd (Int32.toInt_inj.mp (he.symm.trans (by decide : (_ : Int) = Int32.toInt 10))) n11
      · exact absurd (Int32.toInt_inj.mp (he.symm.trans (by decide : (_ : Int) = Int32.toInt 11))) n12
      · exact absurd (Int32.toInt_inj.mp (he.symm.trans (by decide : (_ : Int) = Int32.toInt 12))) n13
      · exact absurd (Int32.toInt_inj.mp (he.symm.trans (by decide : (_ : Int) = Int32.toInt 13))) n14
      · exact absurd (Int32.toInt_inj.mp (he.symm.trans (by decide : (_ : Int) = Int32.toInt 14))) n15
      · exact absurd (Int32.toInt_inj.mp (he.symm.trans (by decide : (_ : Int) = Int32.toInt 15))) n16
      · exact absurd (Int32.toInt_inj.mp (he.symm.trans (by decide : (_ : Int) = Int32.toInt 16))) n17
      · exact absurd (Int32.toInt_inj.mp (he.symm.trans (by decide : (_ : Int) = Int32.toInt 17))) n18
      · exact absurd (Int32.toInt_inj.mp (he.symm.trans (by decide : (_ : Int) = Int32.toInt 18))) n19
      · exact absurd (Int32.toInt_inj.mp (he.symm.trans (by decide : (_ : Int) = Int32.toInt 19))) n20
      · exact absurd (Int32.toInt_inj.mp (he.symm.trans (by decide : (_ : Int) = Int32.toInt 20))) n21
      · exact absurd (Int32.toInt_inj.mp (he.symm.trans (by decide : (_ : Int) = Int32.toInt 21))) n22
      · exact absurd (Int32.toInt_inj.mp (he.symm.trans (by decide : (_ : Int) = Int32.toInt 22))) n23
      · exact absurd (Int32.toInt_inj.mp (he.symm.trans (by decide : (_ : Int) = Int32.toInt 23))) n24
      · exact absurd (Int32.toInt_inj.mp (he.symm.trans (by decide : (_ : Int) = Int32.toInt 24))) n25
      · exact absurd (Int32.toInt_inj.mp (he.symm.trans (by decide : (_ : Int) = Int32.toInt 25))) n26
      · exact absurd (Int32.toInt_inj.mp (he.symm.trans (by decide : (_ : Int) = Int32.toInt 26))) n27
      · exact absurd (Int32.toInt_inj.mp (he.symm.trans (by decide : (_ : Int) = Int32.toInt 27))) n28
    exact Ex.weak (sm_le_s (sm_le_s (sm_le_s (sm_le_s sm_le_nil)))) (B_470_1184 hd hS1 hf hs)
theorem B_470_18 {L : Nat} {xs : Nat → Int32} {d : Nat} (hd : 716 ≤ d) {res : Option Value × sm_H} {y3 : Int32}  {h : sm_H} {r : (Int32 × sm_H)} (hf : F_470_18 L xs y3 h = some r) (hs : (fun (r : Int32 × sm_H) => res = (some (.int r.1), r.2)) r) : Ex (P_G L xs) (RUN L xs d) (sm_lk P_t470) 3 18 [some (.ref 1000004), some (.ref 0), some (.ref 67), some (.int y3)] [] h res := by
  unfold F_470_18 at hf
  exact lp_ok (P := fun (s : (Int32 × sm_H)) => Ex (P_G L xs) (RUN L xs d) (sm_lk P_t470) 3 18 [some (.ref 1000004), some (.ref 0), some (.ref 67), some (.int s.1)] [] s.2 res) (S := (fun (r : Int32 × sm_H) => res = (some (.int r.1), r.2))) (fun s x hx hsx => by
    intros
    exact B_470_18B hd  (fun _ q => q) hx hsx) 1000000 _ r hf hs
