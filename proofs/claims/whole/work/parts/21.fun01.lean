theorem B_314_2B {L : Nat} {xs : Nat → Int32} {d : Nat} (hd : 1 ≤ d) {res : Option Value × sm_H} {S1 : (Int32 × Int32 × sm_H) → Prop} (hS1 : ∀ s, S1 s → Ex (P_G L xs) (RUN L xs d) (sm_lk P_t314) 3 2 [some (.ref 67), none, some (.int s.1), some (.int s.2.1)] [] s.2.2 res) {s : (Int32 × Int32 × sm_H)}  {r : ((Int32 × Int32 × sm_H) ⊕ (Int32 × sm_H))} (hf : F_314_2B s = some r) (hs : (Sum.elim S1 (fun (r : Int32 × sm_H) => res = (some (.int r.1), r.2))) r) : Ex (P_G L xs) (RUN L xs d) (sm_lk P_t314) 3 2 [some (.ref 67), none, some (.int s.1), some (.int s.2.1)] [] s.2.2 res := by
  unfold F_314_2B at hf
  refine Ex.seg 2 (pc' := 4) (lc' := [some (.ref 67), none, some (.int s.1), some (.int s.2.1)]) (st' := [.int s.1, .int s.2.1]) (h' := s.2.2) (sg1 rfl rfl (sg1 rfl rfl rfl)) ?_
  refine Ex.icmp rfl rfl (fun (c0 : s.1 ≤ s.2.1) => ?_) (fun (c0 : ¬ (s.1 ≤ s.2.1)) => ?_)
  · rw [if_pos c0] at hf
    refine Ex.seg 1 (pc' := 29) (lc' := [some (.ref 67), none, some (.int s.1), some (.int s.2.1)]) (st' := [.int 1]) (h' := s.2.2) (sg1 rfl rfl rfl) ?_
    obtain rfl := Option.some.inj hf
    exact Ex.iret rfl rfl (fun _ => by decide) hs
  · rw [if_neg c0] at hf
    refine Ex.seg 4 (pc' := 13) (lc' := [some (.ref 67), none, some (.int s.1), some (.int s.2.1)]) (st' := [.int s.2.1, .ref 69, .ref 67]) (h' := s.2.2) (sg1 rfl rfl (sg1 rfl rfl (sg1 rfl rfl (sg1 rfl rfl rfl)))) ?_
    obtain ⟨v1, e_v1, hf⟩ := bnd hf
    refine Ex.iald e_v1 rfl rfl ?_
    obtain ⟨q2, e_q2, hf⟩ := bnd hf
    refine Ex.callV (a := 67) (As := [.int v1]) (r := []) (v := some (.int q2.1)) (h' := q2.2) rfl rfl (by decide) rfl (Nat.le_of_ble_eq_true rfl) rfl (E_304 (Nat.le_trans (by decide) hd) e_q2) rfl ?_
    refine Ex.ifc rfl rfl (fun (c0 : ¬ (q2.1 = 0)) => ?_) (fun (c0 : ¬ ¬ (q2.1 = 0)) => ?_)
    · rw [if_neg c0] at hf
      refine Ex.seg 1 (pc' := 25) (lc' := [some (.ref 67), none, some (.int s.1), some (.int (s.2.1 + 1))]) (st' := []) (h' := q2.2) (sg1 rfl rfl rfl) ?_
      obtain ⟨v3, e_v3, hf⟩ := bnd hf
      rw [Option.some.inj e_v3]
      refine Ex.seg 1 (pc' := 2) (lc' := [some (.ref 67), none, some (.int s.1), some (.int v3)]) (st' := []) (h' := q2.2) (sg1 rfl rfl rfl) ?_
      obtain rfl := Option.some.inj hf
      exact Ex.weak (sm_le_s (sm_le_s (sm_le_s (sm_le_s sm_le_nil)))) (hS1 _ hs)
    · rw [if_pos (Classical.not_not.mp c0)] at hf
      refine Ex.seg 1 (pc' := 21) (lc' := [some (.ref 67), none, some (.int s.1), some (.int s.2.1)]) (st' := [.int 0]) (h' := q2.2) (sg1 rfl rfl rfl) ?_
      obtain rfl := Option.some.inj hf
      exact Ex.iret rfl rfl (fun _ => by decide) hs
theorem B_314_2 {L : Nat} {xs : Nat → Int32} {d : Nat} (hd : 1 ≤ d) {res : Option Value × sm_H} {y2 : Int32} {y3 : Int32}  {h : sm_H} {r : (Int32 × sm_H)} (hf : F_314_2 y2 y3 h = some r) (hs : (fun (r : Int32 × sm_H) => res = (some (.int r.1), r.2)) r) : Ex (P_G L xs) (RUN L xs d) (sm_lk P_t314) 3 2 [some (.ref 67), none, some (.int y2), some (.int y3)] [] h res := by
  unfold F_314_2 at hf
  exact lp_ok (P := fun (s : (Int32 × Int32 × sm_H)) => Ex (P_G L xs) (RUN L xs d) (sm_lk P_t314) 3 2 [some (.ref 67), none, some (.int s.1), some (.int s.2.1)] [] s.2.2 res) (S := (fun (r : Int32 × sm_H) => res = (some (.int r.1), r.2))) (fun s x hx hsx => by
    intros
    exact B_314_2B hd  (fun _ q => q) hx hsx) 1000000 _ r hf hs
theorem B_314_0 {L : Nat} {xs : Nat → Int32} {d : Nat} (hd : 1 ≤ d) {res : Option Value × sm_H} {x1 : Int32} {x2 : Int32}  {h : sm_H} {r : (Int32 × sm_H)} (hf : F_314_0 x1 x2 h = some r) (hs : (fun (r : Int32 × sm_H) => res = (some (.int r.1), r.2)) r) : Ex (P_G L xs) (RUN L xs d) (sm_lk P_t314) 3 0 [some (.ref 67), some (.int x1), some (.int x2), none] [] h res := by
  unfold F_314_0 at hf
  refine Ex.seg 2 (pc' := 2) (lc' := [some (.ref 67), some (.int x1), some (.int x2), some (.int x1)]) (st' := []) (h' := h) (sg1 rfl rfl (sg1 rfl rfl rfl)) ?_
  exact Ex.weak (sm_le_s (sm_le_n (sm_le_s (sm_le_s sm_le_nil)))) (B_314_2 hd  hf hs)
theorem E_314 {L : Nat} {xs : Nat → Int32} {d : Nat} (hd : 2 ≤ d) {x1 : Int32} {x2 : Int32} {h : sm_H} {r : Int32 × sm_H} (hf : F_314 x1 x2 h = some r) : RUN L xs d 314 [.ref 67, .int x1, .int x2] h (some (.int r.1), r.2) := by
  obtain ⟨d, rfl⟩ : ∃ e, d = e + 1 := ⟨d - 1, by omega⟩
  exact ⟨Nat.le_of_ble_eq_true rfl, B_314_0 (by omega) hf rfl⟩
theorem B_315_18 {L : Nat} {xs : Nat → Int32} {d : Nat} (hd : 0 ≤ d) {res : Option Value × sm_H} {z0 : Int32}  {h : sm_H} {r : (Int32 × sm_H)} (hf : F_315_18 z0 h = some r) (hs : (fun (r : Int32 × sm_H) => res = (some (.int r.1), r.2)) r) : Ex (P_G L xs) (RUN L xs d) (sm_lk P_t315) 3 18 [none, none, none, none, none, none] [.int z0] h res := by
  unfold F_315_18 at hf
  rcases Classical.em (z0 = 0 ∨ z0 = 1) with c0 | c0
  · rw [if_pos c0] at hf
    obtain rfl := Option.some.inj hf
    exact Ex.iret rfl rfl (fun _ => c0) hs
  · rw [if_neg c0] at hf
    cases hf
theorem B_315_13 {L : Nat} {xs : Nat → Int32} {d : Nat} (hd : 0 ≤ d) {res : Option Value × sm_H}   {h : sm_H} {r : (Int32 × sm_H)} (hf : F_315_13  h = some r) (hs : (fun (r : Int32 × sm_H) => res = (some (.int r.1), r.2)) r) : Ex (P_G L xs) (RUN L xs d) (sm_lk P_t315) 3 13 [none, none, none, none, none, none] [] h res := by
  unfold F_315_13 at hf
  refine Ex.seg 2 (pc' := 18) (lc' := [none, none, none, none, none, none]) (st' := [.int 1]) (h' := h) (sg1 rfl rfl (sg1 rfl rfl rfl)) ?_
  exact Ex.weak (sm_le_s (sm_le_s (sm_le_s (sm_le_s (sm_le_s (sm_le_s sm_le_nil)))))) (B_315_18 hd  hf hs)
theorem B_315_0 {L : Nat} {xs : Nat → Int32} {d : Nat} (hd : 0 ≤ d) {res : Option Value × sm_H} {x0 : Int64} {x2 : Int64} {x4 : Int64}  {h : sm_H} {r : (Int32 × sm_H)} (hf : F_315_0 x0 x2 x4 h = some r) (hs : (fun (r : Int32 × sm_H) => res = (some (.int r.1), r.2)) r) : Ex (P_G L xs) (RUN L xs d) (sm_lk P_t315) 3 0 [some (.long x0), none, some (.long x2), none, some (.long x4), none] [] h res := by
  unfold F_315_0 at hf
  refine Ex.seg 3 (pc' := 3) (lc' := [some (.long x0), none, some (.long x2), none, some (.long x4), none]) (st' := [.int (lg_cmp x0 x2)]) (h' := h) (sg1 rfl rfl (sg1 rfl rfl (sg1 rfl rfl rfl))) ?_
  refine Ex.ifc rfl rfl (fun (c0 : (lg_cmp x0 x2) < 0) => ?_) (fun (c0 : ¬ ((lg_cmp x0 x2) < 0)) => ?_)
  · rw [if_pos c0] at hf
    exact Ex.weak (sm_le_n (sm_le_s (sm_le_n (sm_le_s (sm_le_n (sm_le_s sm_le_nil)))))) (B_315_13 hd  hf hs)
  · rw [if_neg c0] at hf
    refine Ex.seg 3 (pc' := 10) (lc' := [some (.long x0), none, some (.long x2), none, some (.long x4), none]) (st' := [.int (lg_cmp x0 x4)]) (h' := h) (sg1 rfl rfl (sg1 rfl rfl (sg1 rfl rfl rfl))) ?_
    refine Ex.ifc rfl rfl (fun (c0 : (lg_cmp x0 x4) ≤ 0) => ?_) (fun (c0 : ¬ ((lg_cmp x0 x4) ≤ 0)) => ?_)
    · rw [if_pos c0] at hf
      refine Ex.seg 1 (pc' := 18) (lc' := [some (.long x0), none, some (.long x2), none, some (.long x4), none]) (st' := [.int 0]) (h' := h) (sg1 rfl rfl rfl) ?_
      exact Ex.weak (sm_le_n (sm_le_s (sm_le_n (sm_le_s (sm_le_n (sm_le_s sm_le_nil)))))) (B_315_18 hd  hf hs)
    · rw [if_neg c0] at hf
      exact Ex.weak (sm_le_n (sm_le_s (sm_le_n (sm_le_s (sm_le_n (sm_le_s sm_le_nil)))))) (B_315_13 hd  hf hs)
theorem E_315 {L : Nat} {xs : Nat → Int32} {d : Nat} (hd : 1 ≤ d) {x0 : Int64} {x2 : Int64} {x4 : Int64} {h : sm_H} {r : Int32 × sm_H} (hf : F_315 x0 x2 x4 h = some r) : RUN L xs d 315 [.long x0, .long x2, .long x4] h (some (.int r.1), r.2) := by
  obtain ⟨d, rfl⟩ : ∃ e, d = e + 1 := ⟨d - 1, by omega⟩
  exact ⟨Nat.le_of_ble_eq_true rfl, B_315_0 (by omega) hf rfl⟩
theorem B_316_40 {L : Nat} {xs : Nat → Int32} {d : Nat} (hd : 1 ≤ d) {res : Option Value × sm_H} {z0 : Int32}  {h : sm_H} {r : (Int32 × sm_H)} (hf : F_316_40 z0 h = some r) (hs : (fun (r : Int32 × sm_H) => res = (some (.int r.1), r.2)) r) : Ex (P_G L xs) (RUN L xs d) (sm_lk P_t316) 3 40 [none, none, none] [.int z0] h res := by
  unfold F_316_40 at hf
  rcases Classical.em (z0 = 0 ∨ z0 = 1) with c0 | c0
  · rw [if_pos c0] at hf
    obtain rfl := Option.some.inj hf
    exact Ex.iret rfl rfl (fun _ => c0) hs
  · rw [if_neg c0] at hf
    cases hf
theorem B_316_17 {L : Nat} {xs : Nat → Int32} {d : Nat} (hd : 1 ≤ d) {res : Option Value × sm_H}   {h : sm_H} {r : (Int32 × sm_H)} (hf : F_316_17  h = some r) (hs : (fun (r : Int32 × sm_H) => res = (some (.int r.1), r.2)) r) : Ex (P_G L xs) (RUN L xs d) (sm_lk P_t316) 3 17 [none, none, none] [] h res := by
  unfold F_316_17 at hf
  refine Ex.seg 2 (pc' := 40) (lc' := [none, none, none]) (st' := [.int 1]) (h' := h) (sg1 rfl rfl (sg1 rfl rfl rfl)) ?_
  exact Ex.weak (sm_le_s (sm_le_s (sm_le_s sm_le_nil))) (B_316_40 hd  hf hs)
theorem B_316_0 {L : Nat} {xs : Nat → Int32} {d : Nat} (hd : 1 ≤ d) {res : Option Value × sm_H} {x0 : Int32} {x1 : Int64}  {h : sm_H} {r : (Int32 × sm_H)} (hf : F_316_0 x0 x1 h = some r) (hs : (fun (r : Int32 × sm_H) => res = (some (.int r.1), r.2)) r) : Ex (P_G L xs) (RUN L xs d) (sm_lk P_t316) 3 0 [some (.int x0), some (.long x1), none] [] h res := by
  unfold F_316_0 at hf
  refine Ex.seg 2 (pc' := 2) (lc' := [some (.int x0), some (.long x1), none]) (st' := [.int 1, .int x0]) (h' := h) (sg1 rfl rfl (sg1 rfl rfl rfl)) ?_
  refine Ex.icmp rfl rfl (fun (c0 : ¬ (x0 = 1)) => ?_) (fun (c0 : ¬ ¬ (x0 = 1)) => ?_)
  · rw [if_neg c0] at hf
    refine Ex.seg 2 (pc' := 27) (lc' := [some (.int x0), some (.long x1), none]) (st' := [.long x1, .int x0]) (h' := h) (sg1 rfl rfl (sg1 rfl rfl rfl)) ?_
    obtain ⟨q1, e_q1, hf⟩ := bnd hf
    refine Ex.callS (As := [.int x0, .long x1]) (r := []) (v := some (.long q1.1)) (h' := q1.2) rfl rfl rfl rfl (Nat.le_of_ble_eq_true rfl) (E_298 (Nat.le_trans (by decide) hd) e_q1) rfl ?_
    refine Ex.seg 2 (pc' := 32) (lc' := [some (.int x0), some (.long x1), none]) (st' := [.int (lg_cmp q1.1 x1)]) (h' := q1.2) (sg1 rfl rfl (sg1 rfl rfl rfl)) ?_
    refine Ex.ifc rfl rfl (fun (c0 : ¬ ((lg_cmp q1.1 x1) = 0)) => ?_) (fun (c0 : ¬ ¬ ((lg_cmp q1.1 x1) = 0)) => ?_)
    · rw [if_neg c0] at hf
      refine Ex.seg 1 (pc' := 40) (lc' := [some (.int x0), some (.long x1), none]) (st' := [.int 0]) (h' := q1.2) (sg1 rfl rfl rfl) ?_
      exact Ex.weak (sm_le_n (sm_le_n (sm_le_s sm_le_nil))) (B_316_40 hd  hf hs)
    · rw [if_pos (Classical.not_not.mp c0)] at hf
      refine Ex.seg 2 (pc' := 40) (lc' := [some (.int x0), some (.long x1), none]) (st' := [.int 1]) (h' := q1.2) (sg1 rfl rfl (sg1 rfl rfl rfl)) ?_
      exact Ex.weak (sm_le_n (sm_le_n (sm_le_s sm_le_nil))) (B_316_40 hd  hf hs)
  · rw [if_pos (Classical.not_not.mp c0)] at hf
    refine Ex.seg 3 (pc' := 8) (lc' := [some (.int x0), some (.long x1), none]) (st' := [.int (lg_cmp x1 0)]) (h' := h) (sg1 rfl rfl (sg1 rfl rfl (sg1 rfl rfl rfl))) ?_
    refine Ex.ifc rfl rfl (fun (c0 : (lg_cmp x1 0) = 0) => ?_) (fun (c0 : ¬ ((lg_cmp x1 0) = 0)) => ?_)
    · rw [if_pos c0] at hf
      exact Ex.weak (sm_le_n (sm_le_n (sm_le_s sm_le_nil))) (B_316_17 hd  hf hs)
    · rw [if_neg c0] at hf
      refine Ex.seg 3 (pc' := 14) (lc' := [some (.int x0), some (.long x1), none]) (st' := [.int (lg_cmp x1 1)]) (h' := h) (sg1 rfl rfl (sg1 rfl rfl (sg1 rfl rfl rfl))) ?_
      refine Ex.ifc rfl rfl (fun (c0 : ¬ ((lg_cmp x1 1) = 0)) => ?_) (fun (c0 : ¬ ¬ ((lg_cmp x1 1) = 0)) => ?_)
      · rw [if_neg c0] at hf
        refine Ex.seg 2 (pc' := 40) (lc' := [some (.int x0), some (.long x1), none]) (st' := [.int 0]) (h' := h) (sg1 rfl rfl (sg1 rfl rfl rfl)) ?_
        exact Ex.weak (sm_le_n (sm_le_n (sm_le_s sm_le_nil))) (B_316_40 hd  hf hs)
      · rw [if_pos (Classical.not_not.mp c0)] at hf
        exact Ex.weak (sm_le_n (sm_le_n (sm_le_s sm_le_nil))) (B_316_17 hd  hf hs)
theorem E_316 {L : Nat} {xs : Nat → Int32} {d : Nat} (hd : 2 ≤ d) {x0 : Int32} {x1 : Int64} {h : sm_H} {r : Int32 × sm_H} (hf : F_316 x0 x1 h = some r) : RUN L xs d 316 [.int x0, .long x1] h (some (.int r.1), r.2) := by
  obtain ⟨d, rfl⟩ : ∃ e, d = e + 1 := ⟨d - 1, by omega⟩
  exact ⟨Nat.le_of_ble_eq_true rfl, B_316_0 (by omega) hf rfl⟩
theorem B_317_72 {L : Nat} {xs : Nat → Int32} {d : Nat} (hd : 2 ≤ d) {res : Option Value × sm_H} {z0 : Int32}  {h : sm_H} {r : (Int32 × sm_H)} (hf : F_317_72 z0 h = some r) (hs : (fun (r : Int32 × sm_H) => res = (some (.int r.1), r.2)) r) : Ex (P_G L xs) (RUN L xs d) (sm_lk P_t317) 0 72 [none, none, none, none, none] [.int z0] h res := by
  unfold F_317_72 at hf
  obtain rfl := Option.some.inj hf
  exact Ex.iret rfl rfl (fun c0 => by cases c0) hs
theorem B_317_20 {L : Nat} {xs : Nat → Int32} {d : Nat} (hd : 2 ≤ d) {res : Option Value × sm_H} {z0 : Int32}  {h : sm_H} {r : (Int32 × sm_H)} (hf : F_317_20 z0 h = some r) (hs : (fun (r : Int32 × sm_H) => res = (some (.int r.1), r.2)) r) : Ex (P_G L xs) (RUN L xs d) (sm_lk P_t317) 0 20 [none, none, none, none, none] [.int z0] h res := by
  unfold F_317_20 at hf
  obtain rfl := Option.some.inj hf
  exact Ex.iret rfl rfl (fun c0 => by cases c0) hs
theorem B_317_0 {L : Nat} {xs : Nat → Int32} {d : Nat} (hd : 2 ≤ d) {res : Option Value × sm_H} {x1 : Int32} {x2 : Int64}  {h : sm_H} {r : (Int32 × sm_H)} (hf : F_317_0 x1 x2 h = some r) (hs : (fun (r : Int32 × sm_H) => res = (some (.int r.1), r.2)) r) : Ex (P_G L xs) (RUN L xs d) (sm_lk P_t317) 0 0 [some (.ref 67), some (.int x1), some (.long x2), none, none] [] h res := by
  unfold F_317_0 at hf
  refine Ex.seg 1 (pc' := 1) (lc' := [some (.ref 67), some (.int x1), some (.long x2), none, none]) (st' := [.int x1]) (h' := h) (sg1 rfl rfl rfl) ?_
  obtain ⟨q1, e_q1, hf⟩ := bnd hf
  refine Ex.callS (As := [.int x1]) (r := []) (v := some (.int q1.1)) (h' := q1.2) rfl rfl rfl rfl (Nat.le_of_ble_eq_true rfl) (E_290 (Nat.le_trans (by decide) hd) e_q1) rfl ?_
  refine Ex.ifc rfl rfl (fun (c0 : q1.1 = 0) => ?_) (fun (c0 : ¬ (q1.1 = 0)) => ?_)
  · rw [if_pos c0] at hf
    refine Ex.seg 3 (pc' := 26) (lc' := [some (.ref 67), some (.int x1), some (.long x2), none, none]) (st' := [.int (lg_cmp x2 (-1))]) (h' := q1.2) (sg1 rfl rfl (sg1 rfl rfl (sg1 rfl rfl rfl))) ?_
    refine Ex.ifc rfl rfl (fun (c0 : ¬ ((lg_cmp x2 (-1)) = 0)) => ?_) (fun (c0 : ¬ ¬ ((lg_cmp x2 (-1)) = 0)) => ?_)
    · rw [if_neg c0] at hf
      refine Ex.seg 7 (pc' := 40) (lc' := [some (.ref 67), some (.int x1), some (.long x2), none, none]) (st' := [.long (Int32.toInt64 ((q1.2.1 67 40) - 1)), .long 0, .long x2]) (h' := q1.2) (sg1 rfl rfl (sg1 rfl rfl (sg1 rfl rfl (sg1 rfl rfl (sg1 rfl rfl (sg1 rfl rfl (sg1 rfl rfl rfl))))))) ?_
      obtain ⟨q2, e_q2, hf⟩ := bnd hf
      refine Ex.callS (As := [.long x2, .long 0, .long (Int32.toInt64 ((q1.2.1 67 40) - 1))]) (r := []) (v := some (.int q2.1)) (h' := q2.2) rfl rfl rfl rfl (Nat.le_of_ble_eq_true rfl) (E_315 (Nat.le_trans (by decide) hd) e_q2) rfl ?_
      refine Ex.ifc rfl rfl (fun (c0 : q2.1 = 0) => ?_) (fun (c0 : ¬ (q2.1 = 0)) => ?_)
      · rw [if_pos c0] at hf
        refine Ex.seg 4 (pc' := 54) (lc' := [some (.ref 67), some (.int x1), some (.long x2), none, none]) (st' := [.int (Int64.toInt32 x2), .ref 94]) (h' := q2.2) (sg1 rfl rfl (sg1 rfl rfl (sg1 rfl rfl (sg1 rfl rfl rfl)))) ?_
        obtain ⟨v3, e_v3, hf⟩ := bnd hf
        refine Ex.iald e_v3 rfl rfl ?_
        refine Ex.seg 4 (pc' := 61) (lc' := [some (.ref 67), some (.int x1), some (.long x2), none, some (.int v3)]) (st' := [.int x1, .int v3, .ref 67]) (h' := q2.2) (sg1 rfl rfl (sg1 rfl rfl (sg1 rfl rfl (sg1 rfl rfl rfl)))) ?_
        obtain ⟨q4, e_q4, hf⟩ := bnd hf
        refine Ex.callV (a := 67) (As := [.int v3, .int x1]) (r := []) (v := some (.int q4.1)) (h' := q4.2) rfl rfl (by decide) rfl (Nat.le_of_ble_eq_true rfl) rfl (E_295 (Nat.le_trans (by decide) hd) e_q4) rfl ?_
        refine Ex.ifc rfl rfl (fun (c0 : q4.1 = 0) => ?_) (fun (c0 : ¬ (q4.1 = 0)) => ?_)
        · rw [if_pos c0] at hf
          refine Ex.seg 1 (pc' := 72) (lc' := [some (.ref 67), some (.int x1), some (.long x2), none, some (.int v3)]) (st' := [.int 3]) (h' := q4.2) (sg1 rfl rfl rfl) ?_
          exact Ex.weak (sm_le_n (sm_le_n (sm_le_n (sm_le_s (sm_le_n sm_le_nil))))) (B_317_72 hd  hf hs)
        · rw [if_neg c0] at hf
          refine Ex.seg 2 (pc' := 72) (lc' := [some (.ref 67), some (.int x1), some (.long x2), none, some (.int v3)]) (st' := [.int 0]) (h' := q4.2) (sg1 rfl rfl (sg1 rfl rfl rfl)) ?_
          exact Ex.weak (sm_le_n (sm_le_n (sm_le_n (sm_le_s (sm_le_n sm_le_nil))))) (B_317_72 hd  hf hs)
      · rw [if_neg c0] at hf
        refine Ex.seg 1 (pc' := 47) (lc' := [some (.ref 67), some (.int x1), some (.long x2), none, none]) (st' := [.int 1]) (h' := q2.2) (sg1 rfl rfl rfl) ?_
        obtain rfl := Option.some.inj hf
        exact Ex.iret rfl rfl (fun c0 => by cases c0) hs
    · rw [if_pos (Classical.not_not.mp c0)] at hf
      refine Ex.seg 1 (pc' := 30) (lc' := [some (.ref 67), some (.int x1), some (.long x2), none, none]) (st' := [.int 0]) (h' := q1.2) (sg1 rfl rfl rfl) ?_
      obtain rfl := Option.some.inj hf
      exact Ex.iret rfl rfl (fun c0 => by cases c0) hs
  · rw [if_neg c0] at hf
    refine Ex.seg 2 (pc' := 9) (lc' := [some (.ref 67), some (.int x1), some (.long x2), none, none]) (st' := [.long x2, .int x1]) (h' := q1.2) (sg1 rfl rfl (sg1 rfl rfl rfl)) ?_
    obtain ⟨q5, e_q5, hf⟩ := bnd hf
    refine Ex.callS (As := [.int x1, .long x2]) (r := []) (v := some (.int q5.1)) (h' := q5.2) rfl rfl rfl rfl (Nat.le_of_ble_eq_true rfl) (E_316 (Nat.le_trans (by decide) hd) e_q5) rfl ?_
    refine Ex.ifc rfl rfl (fun (c0 : q5.1 = 0) => ?_) (fun (c0 : ¬ (q5.1 = 0)) => ?_)
    · rw [if_pos c0] at hf
      refine Ex.seg 1 (pc' := 20) (lc' := [some (.ref 67), some (.int x1), some (.long x2), none, none]) (st' := [.int 2]) (h' := q5.2) (sg1 rfl rfl rfl) ?_
      exact Ex.weak (sm_le_n (sm_le_n (sm_le_n (sm_le_s (sm_le_s sm_le_nil))))) (B_317_20 hd  hf hs)
    · rw [if_neg c0] at hf
      refine Ex.seg 2 (pc' := 20) (lc' := [some (.ref 67), some (.int x1), some (.long x2), none, none]) (st' := [.int 0]) (h' := q5.2) (sg1 rfl rfl (sg1 rfl rfl rfl)) ?_
      exact Ex.weak (sm_le_n (sm_le_n (sm_le_n (sm_le_s (sm_le_s sm_le_nil))))) (B_317_20 hd  hf hs)
theorem E_317 {L : Nat} {xs : Nat → Int32} {d : Nat} (hd : 3 ≤ d) {x1 : Int32} {x2 : Int64} {h : sm_H} {r : Int32 × sm_H} (hf : F_317 x1 x2 h = some r) : RUN L xs d 317 [.ref 67, .int x1, .long x2] h (some (.int r.1), r.2) := by
  obtain ⟨d, rfl⟩ : ∃ e, d = e + 1 := ⟨d - 1, by omega⟩
  exact ⟨Nat.le_of_ble_eq_true rfl, B_317_0 (by omega) hf rfl⟩
theorem B_318_25 {L : Nat} {xs : Nat → Int32} {d : Nat} (hd : 2 ≤ d) {res : Option Value × sm_H}   {h : sm_H} {r : (Int32 × sm_H)} (hf : F_318_25  h = some r) (hs : (fun (r : Int32 × sm_H) => res = (some (.int r.1), r.2)) r) : Ex (P_G L xs) (RUN L xs d) (sm_lk P_t318) 0 25 [none, none, none, none] [] h res := by
  unfold F_318_25 at hf
  refine Ex.seg 1 (pc' := 26) (lc' := [none, none, none, none]) (st' := [.int 1]) (h' := h) (sg1 rfl rfl rfl) ?_
  obtain rfl := Option.some.inj hf
  exact Ex.iret rfl rfl (fun c0 => by cases c0) hs
theorem B_318_0 {L : Nat} {xs : Nat → Int32} {d : Nat} (hd : 2 ≤ d) {res : Option Value × sm_H} {x1 : Int32} {x2 : Int32}  {h : sm_H} {r : (Int32 × sm_H)} (hf : F_318_0 x1 x2 h = some r) (hs : (fun (r : Int32 × sm_H) => res = (some (.int r.1), r.2)) r) : Ex (P_G L xs) (RUN L xs d) (sm_lk P_t318) 0 0 [some (.ref 67), some (.int x1), some (.int x2), none] [] h res := by
  unfold F_318_0 at hf
  refine Ex.seg 3 (pc' := 5) (lc' := [some (.ref 67), some (.int x1), some (.int x2), none]) (st' := [.int 1, .int (h.1 67 3)]) (h' := h) (sg1 rfl rfl (sg1 rfl rfl (sg1 rfl rfl rfl))) ?_
  refine Ex.icmp rfl rfl (fun (c0 : ¬ ((h.1 67 3) = 1)) => ?_) (fun (c0 : ¬ ¬ ((h.1 67 3) = 1)) => ?_)
  · rw [if_neg c0] at hf
    exact Ex.weak (sm_le_n (sm_le_n (sm_le_n (sm_le_s sm_le_nil)))) (B_318_25 hd  hf hs)
  · rw [if_pos (Classical.not_not.mp c0)] at hf
    refine Ex.seg 3 (pc' := 11) (lc' := [some (.ref 67), some (.int x1), some (.int x2), none]) (st' := [.int 1, .int 0, .ref 67]) (h' := h) (sg1 rfl rfl (sg1 rfl rfl (sg1 rfl rfl rfl))) ?_
    obtain ⟨q1, e_q1, hf⟩ := bnd hf
    refine Ex.callV (a := 67) (As := [.int 0, .int 1]) (r := []) (v := some (.int q1.1)) (h' := q1.2) rfl rfl (by decide) rfl (Nat.le_of_ble_eq_true rfl) rfl (E_314 (Nat.le_trans (by decide) hd) e_q1) rfl ?_
    refine Ex.ifc rfl rfl (fun (c0 : q1.1 = 0) => ?_) (fun (c0 : ¬ (q1.1 = 0)) => ?_)
    · rw [if_pos c0] at hf
      exact Ex.weak (sm_le_n (sm_le_n (sm_le_n (sm_le_s sm_le_nil)))) (B_318_25 hd  hf hs)
    · rw [if_neg c0] at hf
      refine Ex.seg 2 (pc' := 19) (lc' := [some (.ref 67), some (.int x1), some (.int x2), none]) (st' := [.int x2, .ref 67]) (h' := q1.2) (sg1 rfl rfl (sg1 rfl rfl rfl)) ?_
      obtain ⟨q2, e_q2, hf⟩ := bnd hf
      refine Ex.callV (a := 67) (As := [.int x2]) (r := []) (v := some (.int q2.1)) (h' := q2.2) rfl rfl (by decide) rfl (Nat.le_of_ble_eq_true rfl) rfl (E_303 (Nat.le_trans (by decide) hd) e_q2) rfl ?_
      refine Ex.ifc rfl rfl (fun (c0 : ¬ (q2.1 = 0)) => ?_) (fun (c0 : ¬ ¬ (q2.1 = 0)) => ?_)
      · rw [if_neg c0] at hf
        refine Ex.seg 3 (pc' := 32) (lc' := [some (.ref 67), some (.int x1), some (.int x2), none]) (st' := [.int 0, .ref 69]) (h' := q2.2) (sg1 rfl rfl (sg1 rfl rfl (sg1 rfl rfl rfl))) ?_
        obtain ⟨v3, e_v3, hf⟩ := bnd hf
        refine Ex.iald e_v3 rfl rfl ?_
        refine Ex.seg 6 (pc' := 39) (lc' := [some (.ref 67), some (.int x1), some (.int x2), some (.int v3)]) (st' := [.int v3, .ref 67, .long 0, .long (Int32.toInt64 x1)]) (h' := q2.2) (sg1 rfl rfl (sg1 rfl rfl (sg1 rfl rfl (sg1 rfl rfl (sg1 rfl rfl (sg1 rfl rfl rfl)))))) ?_
        obtain ⟨q4, e_q4, hf⟩ := bnd hf
        refine Ex.callV (a := 67) (As := [.int v3]) (r := [.long 0, .long (Int32.toInt64 x1)]) (v := some (.int q4.1)) (h' := q4.2) rfl rfl (by decide) rfl (Nat.le_of_ble_eq_true rfl) rfl (E_305 (Nat.le_trans (by decide) hd) e_q4) rfl ?_
        refine Ex.seg 1 (pc' := 43) (lc' := [some (.ref 67), some (.int x1), some (.int x2), some (.int v3)]) (st' := [.long (Int32.toInt64 q4.1), .long 0, .long (Int32.toInt64 x1)]) (h' := q4.2) (sg1 rfl rfl rfl) ?_
        obtain ⟨q5, e_q5, hf⟩ := bnd hf
        refine Ex.callS (As := [.long (Int32.toInt64 x1), .long 0, .long (Int32.toInt64 q4.1)]) (r := []) (v := some (.int q5.1)) (h' := q5.2) rfl rfl rfl rfl (Nat.le_of_ble_eq_true rfl) (E_315 (Nat.le_trans (by decide) hd) e_q5) rfl ?_
        refine Ex.ifc rfl rfl (fun (c0 : q5.1 = 0) => ?_) (fun (c0 : ¬ (q5.1 = 0)) => ?_)
        · rw [if_pos c0] at hf
          refine Ex.seg 3 (pc' := 56) (lc' := [some (.ref 67), some (.int x1), some (.int x2), some (.int v3)]) (st' := [.int x2, .ref 73]) (h' := q5.2) (sg1 rfl rfl (sg1 rfl rfl (sg1 rfl rfl rfl))) ?_
          obtain ⟨v6, e_v6, hf⟩ := bnd hf
          refine Ex.iald e_v6 rfl rfl ?_
          refine Ex.ifc rfl rfl (fun (c0 : ¬ (v6 = 0)) => ?_) (fun (c0 : ¬ ¬ (v6 = 0)) => ?_)
          · rw [if_neg c0] at hf
            refine Ex.seg 3 (pc' := 68) (lc' := [some (.ref 67), some (.int x1), some (.int x2), some (.int v3)]) (st' := [.int v3, .ref 67, .ref 67]) (h' := q5.2) (sg1 rfl rfl (sg1 rfl rfl (sg1 rfl rfl rfl))) ?_
            obtain ⟨q7, e_q7, hf⟩ := bnd hf
            refine Ex.callV (a := 67) (As := [.int v3]) (r := [.ref 67]) (v := some (.int q7.1)) (h' := q7.2) rfl rfl (by decide) rfl (Nat.le_of_ble_eq_true rfl) rfl (E_307 (Nat.le_trans (by decide) hd) e_q7) rfl ?_
            obtain ⟨q8, e_q8, hf⟩ := bnd hf
            refine Ex.callV (a := 67) (As := [.int q7.1]) (r := []) (v := none) (h' := q8) rfl rfl (by decide) rfl (Nat.le_of_ble_eq_true rfl) rfl (E_308 (Nat.le_trans (by decide) hd) e_q8) rfl ?_
            refine Ex.seg 4 (pc' := 78) (lc' := [some (.ref 67), some (.int x1), some (.int x2), some (.int v3)]) (st' := [.int x1, .int 0, .int v3, .ref 67]) (h' := q8) (sg1 rfl rfl (sg1 rfl rfl (sg1 rfl rfl (sg1 rfl rfl rfl)))) ?_
            obtain ⟨q9, e_q9, hf⟩ := bnd hf
            refine Ex.callV (a := 67) (As := [.int v3, .int 0, .int x1]) (r := []) (v := none) (h' := q9) rfl rfl (by decide) rfl (Nat.le_of_ble_eq_true rfl) rfl (E_310 (Nat.le_trans (by decide) hd) e_q9) rfl ?_
            refine Ex.seg 2 (pc' := 83) (lc' := [some (.ref 67), some (.int x1), some (.int x2), some (.int v3)]) (st' := [.int x2, .ref 67]) (h' := q9) (sg1 rfl rfl (sg1 rfl rfl rfl)) ?_
            obtain ⟨q10, e_q10, hf⟩ := bnd hf
            refine Ex.callV (a := 67) (As := [.int x2]) (r := []) (v := none) (h' := q10) rfl rfl (by decide) rfl (Nat.le_of_ble_eq_true rfl) rfl (E_311 (Nat.le_trans (by decide) hd) e_q10) rfl ?_
            refine Ex.seg 5 (pc' := 91) (lc' := [some (.ref 67), some (.int x1), some (.int x2), some (.int v3)]) (st' := [.int v3, .ref 67, .int x1, .int v3, .ref 67]) (h' := q10) (sg1 rfl rfl (sg1 rfl rfl (sg1 rfl rfl (sg1 rfl rfl (sg1 rfl rfl rfl))))) ?_
            obtain ⟨q11, e_q11, hf⟩ := bnd hf
            refine Ex.callV (a := 67) (As := [.int v3]) (r := [.int x1, .int v3, .ref 67]) (v := some (.int q11.1)) (h' := q11.2) rfl rfl (by decide) rfl (Nat.le_of_ble_eq_true rfl) rfl (E_305 (Nat.le_trans (by decide) hd) e_q11) rfl ?_
            obtain ⟨q12, e_q12, hf⟩ := bnd hf
            refine Ex.callV (a := 67) (As := [.int v3, .int x1, .int q11.1]) (r := []) (v := none) (h' := q12) rfl rfl (by decide) rfl (Nat.le_of_ble_eq_true rfl) rfl (E_310 (Nat.le_trans (by decide) hd) e_q12) rfl ?_
            refine Ex.seg 1 (pc' := 98) (lc' := [some (.ref 67), some (.int x1), some (.int x2), some (.int v3)]) (st' := [.int 0]) (h' := q12) (sg1 rfl rfl rfl) ?_
            obtain rfl := Option.some.inj hf
            exact Ex.iret rfl rfl (fun c0 => by cases c0) hs
          · rw [if_pos (Classical.not_not.mp c0)] at hf
            refine Ex.seg 1 (pc' := 61) (lc' := [some (.ref 67), some (.int x1), some (.int x2), some (.int v3)]) (st' := [.int v3]) (h' := q5.2) (sg1 rfl rfl rfl) ?_
            obtain ⟨q13, e_q13, hf⟩ := bnd hf
            refine Ex.callS (As := [.int v3]) (r := []) (v := some (.int q13.1)) (h' := q13.2) rfl rfl rfl rfl (Nat.le_of_ble_eq_true rfl) (E_313 (Nat.le_trans (by decide) hd) e_q13) rfl ?_
            obtain rfl := Option.some.inj hf
            exact Ex.iret rfl rfl (fun c0 => by cases c0) hs
        · rw [if_neg c0] at hf
          refine Ex.seg 1 (pc' := 50) (lc' := [some (.ref 67), some (.int x1), some (.int x2), some (.int v3)]) (st' := [.int 2]) (h' := q5.2) (sg1 rfl rfl rfl) ?_
          obtain rfl := Option.some.inj hf
          exact Ex.iret rfl rfl (fun c0 => by cases c0) hs
      · rw [if_pos (Classical.not_not.mp c0)] at hf
        exact Ex.weak (sm_le_n (sm_le_n (sm_le_n (sm_le_s sm_le_nil)))) (B_318_25 hd  hf hs)
theorem E_318 {L : Nat} {xs : Nat → Int32} {d : Nat} (hd : 3 ≤ d) {x1 : Int32} {x2 : Int32} {h : sm_H} {r : Int32 × sm_H} (hf : F_318 x1 x2 h = some r) : RUN L xs d 318 [.ref 67, .int x1, .int x2] h (some (.int r.1), r.2) := by
  obtain ⟨d, rfl⟩ : ∃ e, d = e + 1 := ⟨d - 1, by omega⟩
  exact ⟨Nat.le_of_ble_eq_true rfl, B_318_0 (by omega) hf rfl⟩
theorem B_319_326 {L : Nat} {xs : Nat → Int32} {d : Nat} (hd : 2 ≤ d) {res : Option Value × sm_H} {S1 : (Int32 × Int32 × Int32 × Int32 × sm_H) → Prop} (hS1 : ∀ s, S1 s → Ex (P_G L xs) (RUN L xs d) (sm_lk P_t319) 0 294 [some (.ref 67), some (.int s.1), some (.int s.2.1), some (.int s.2.2.1), some (.int s.2.2.2.1), none] [] s.2.2.2.2 res) {y1 : Int32} {y2 : Int32} {y4 : Int32} {z0 : Int32}  {h : sm_H} {r : ((Int32 × Int32 × Int32 × Int32 × sm_H) ⊕ (Int32 × sm_H))} (hf : F_319_326 y1 y2 y4 z0 h = some r) (hs : (Sum.elim S1 (fun (r : Int32 × sm_H) => res = (some (.int r.1), r.2))) r) : Ex (P_G L xs) (RUN L xs d) (sm_lk P_t319) 0 326 [some (.ref 67), some (.int y1), some (.int y2), none, some (.int y4), none] [.int z0] h res := by
  unfold F_319_326 at hf
  refine Ex.seg 2 (pc' := 330) (lc' := [some (.ref 67), some (.int y1), some (.int y2), some (.int z0), some (.int (y4 + 1)), none]) (st' := []) (h' := h) (sg1 rfl rfl (sg1 rfl rfl rfl)) ?_
  obtain ⟨v1, e_v1, hf⟩ := bnd hf
  rw [Option.some.inj e_v1]
  refine Ex.seg 1 (pc' := 294) (lc' := [some (.ref 67), some (.int y1), some (.int y2), some (.int z0), some (.int v1), none]) (st' := []) (h' := h) (sg1 rfl rfl rfl) ?_
  obtain rfl := Option.some.inj hf
  exact Ex.weak (sm_le_s (sm_le_s (sm_le_s (sm_le_s (sm_le_s (sm_le_s sm_le_nil)))))) (hS1 _ hs)
theorem B_319_325 {L : Nat} {xs : Nat → Int32} {d : Nat} (hd : 2 ≤ d) {res : Option Value × sm_H} {S1 : (Int32 × Int32 × Int32 × Int32 × sm_H) → Prop} (hS1 : ∀ s, S1 s → Ex (P_G L xs) (RUN L xs d) (sm_lk P_t319) 0 294 [some (.ref 67), some (.int s.1), some (.int s.2.1), some (.int s.2.2.1), some (.int s.2.2.2.1), none] [] s.2.2.2.2 res) {y1 : Int32} {y2 : Int32} {y4 : Int32}  {h : sm_H} {r : ((Int32 × Int32 × Int32 × Int32 × sm_H) ⊕ (Int32 × sm_H))} (hf : F_319_325 y1 y2 y4 h = some r) (hs : (Sum.elim S1 (fun (r : Int32 × sm_H) => res = (some (.int r.1), r.2))) r) : Ex (P_G L xs) (RUN L xs d) (sm_lk P_t319) 0 325 [some (.ref 67), some (.int y1), some (.int y2), none, some (.int y4), none] [] h res := by
  unfold F_319_325 at hf
  refine Ex.seg 1 (pc' := 326) (lc' := [some (.ref 67), some (.int y1), some (.int y2), none, some (.int y4), none]) (st' := [.int 0]) (h' := h) (sg1 rfl rfl rfl) ?_
  exact Ex.weak (sm_le_s (sm_le_s (sm_le_s (sm_le_s (sm_le_s (sm_le_s sm_le_nil)))))) (B_319_326 hd hS1 hf hs)
theorem B_319_294B {L : Nat} {xs : Nat → Int32} {d : Nat} (hd : 2 ≤ d) {res : Option Value × sm_H} {S1 : (Int32 × Int32 × Int32 × Int32 × sm_H) → Prop} (hS1 : ∀ s, S1 s → Ex (P_G L xs) (RUN L xs d) (sm_lk P_t319) 0 294 [some (.ref 67), some (.int s.1), some (.int s.2.1), some (.int s.2.2.1), some (.int s.2.2.2.1), none] [] s.2.2.2.2 res) {s : (Int32 × Int32 × Int32 × Int32 × sm_H)}  {r : ((Int32 × Int32 × Int32 × Int32 × sm_H) ⊕ (Int32 × sm_H))} (hf : F_319_294B s = some r) (hs : (Sum.elim S1 (fun (r : Int32 × sm_H) => res = (some (.int r.1), r.2))) r) : Ex (P_G L xs) (RUN L xs d) (sm_lk P_t319) 0 294 [some (.ref 67), some (.int s.1), some (.int s.2.1), some (.int s.2.2.1), some (.int s.2.2.2.1), none] [] s.2.2.2.2 res := by
  unfold F_319_294B at hf
  refine Ex.seg 3 (pc' := 300) (lc' := [some (.ref 67), some (.int s.1), some (.int s.2.1), some (.int s.2.2.1), some (.int s.2.2.2.1), none]) (st' := [.int (s.2.2.2.2.1 67 3), .int s.2.2.2.1]) (h' := s.2.2.2.2) (sg1 rfl rfl (sg1 rfl rfl (sg1 rfl rfl rfl))) ?_
  refine Ex.icmp rfl rfl (fun (c0 : (s.2.2.2.2.1 67 3) ≤ s.2.2.2.1) => ?_) (fun (c0 : ¬ ((s.2.2.2.2.1 67 3) ≤ s.2.2.2.1)) => ?_)
  · rw [if_pos c0] at hf
    refine Ex.seg 1 (pc' := 334) (lc' := [some (.ref 67), some (.int s.1), some (.int s.2.1), some (.int s.2.2.1), some (.int s.2.2.2.1), none]) (st' := [.int s.2.2.1]) (h' := s.2.2.2.2) (sg1 rfl rfl rfl) ?_
    refine Ex.ifc rfl rfl (fun (c0 : s.2.2.1 = 0) => ?_) (fun (c0 : ¬ (s.2.2.1 = 0)) => ?_)
    · rw [if_pos c0] at hf
      refine Ex.seg 4 (pc' := 348) (lc' := [some (.ref 67), some (.int s.1), some (.int s.2.1), some (.int s.2.2.1), some (.int s.2.2.2.1), none]) (st' := [.int s.1, .ref 72, .ref 67]) (h' := s.2.2.2.2) (sg1 rfl rfl (sg1 rfl rfl (sg1 rfl rfl (sg1 rfl rfl rfl)))) ?_
      obtain ⟨v2, e_v2, hf⟩ := bnd hf
      refine Ex.iald e_v2 rfl rfl ?_
      obtain ⟨q3, e_q3, hf⟩ := bnd hf
      refine Ex.callV (a := 67) (As := [.int v2]) (r := []) (v := none) (h' := q3) rfl rfl (by decide) rfl (Nat.le_of_ble_eq_true rfl) rfl (E_308 (Nat.le_trans (by decide) hd) e_q3) rfl ?_
      refine Ex.seg 2 (pc' := 354) (lc' := [some (.ref 67), some (.int s.1), some (.int s.2.1), some (.int s.2.2.1), some (.int s.2.2.2.1), none]) (st' := [.int s.1, .ref 67]) (h' := q3) (sg1 rfl rfl (sg1 rfl rfl rfl)) ?_
      obtain ⟨q4, e_q4, hf⟩ := bnd hf
      refine Ex.callV (a := 67) (As := [.int s.1]) (r := []) (v := none) (h' := q4) rfl rfl (by decide) rfl (Nat.le_of_ble_eq_true rfl) rfl (E_311 (Nat.le_trans (by decide) hd) e_q4) rfl ?_
      refine Ex.seg 1 (pc' := 358) (lc' := [some (.ref 67), some (.int s.1), some (.int s.2.1), some (.int s.2.2.1), some (.int s.2.2.2.1), none]) (st' := [.int 0]) (h' := q4) (sg1 rfl rfl rfl) ?_
      obtain rfl := Option.some.inj hf
      exact Ex.iret rfl rfl (fun c0 => by cases c0) hs
    · rw [if_neg c0] at hf
      refine Ex.seg 1 (pc' := 338) (lc' := [some (.ref 67), some (.int s.1), some (.int s.2.1), some (.int s.2.2.1), some (.int s.2.2.2.1), none]) (st' := [.int s.2.1]) (h' := s.2.2.2.2) (sg1 rfl rfl rfl) ?_
      obtain ⟨q5, e_q5, hf⟩ := bnd hf
      refine Ex.callS (As := [.int s.2.1]) (r := []) (v := some (.int q5.1)) (h' := q5.2) rfl rfl rfl rfl (Nat.le_of_ble_eq_true rfl) (E_313 (Nat.le_trans (by decide) hd) e_q5) rfl ?_
      obtain rfl := Option.some.inj hf
      exact Ex.iret rfl rfl (fun c0 => by cases c0) hs
  · rw [if_neg c0] at hf
    refine Ex.seg 1 (pc' := 304) (lc' := [some (.ref 67), some (.int s.1), some (.int s.2.1), some (.int s.2.2.1), some (.int s.2.2.2.1), none]) (st' := [.int s.2.2.1]) (h' := s.2.2.2.2) (sg1 rfl rfl rfl) ?_
    refine Ex.ifc rfl rfl (fun (c0 : s.2.2.1 = 0) => ?_) (fun (c0 : ¬ (s.2.2.1 = 0)) => ?_)
    · rw [if_pos c0] at hf
      exact Ex.weak (sm_le_s (sm_le_s (sm_le_s (sm_le_n (sm_le_s (sm_le_s sm_le_nil)))))) (B_319_325 hd hS1 hf hs)
    · rw [if_neg c0] at hf
      refine Ex.seg 3 (pc' := 313) (lc' := [some (.ref 67), some (.int s.1), some (.int s.2.1), some (.int s.2.2.1), some (.int s.2.2.2.1), none]) (st' := [.int s.2.2.2.1, .ref 69]) (h' := s.2.2.2.2) (sg1 rfl rfl (sg1 rfl rfl (sg1 rfl rfl rfl))) ?_
      obtain ⟨v6, e_v6, hf⟩ := bnd hf
      refine Ex.iald e_v6 rfl rfl ?_
      refine Ex.seg 3 (pc' := 318) (lc' := [some (.ref 67), some (.int s.1), some (.int s.2.1), some (.int s.2.2.1), some (.int s.2.2.2.1), none]) (st' := [.int (s.2.2.2.1 - 1), .int v6]) (h' := s.2.2.2.2) (sg1 rfl rfl (sg1 rfl rfl (sg1 rfl rfl rfl))) ?_
      refine Ex.icmp rfl rfl (fun (c0 : ¬ (v6 = (s.2.2.2.1 - 1))) => ?_) (fun (c0 : ¬ ¬ (v6 = (s.2.2.2.1 - 1))) => ?_)
      · rw [if_neg c0] at hf
        exact Ex.weak (sm_le_s (sm_le_s (sm_le_s (sm_le_n (sm_le_s (sm_le_s sm_le_nil)))))) (B_319_325 hd hS1 hf hs)
      · rw [if_pos (Classical.not_not.mp c0)] at hf
        refine Ex.seg 2 (pc' := 326) (lc' := [some (.ref 67), some (.int s.1), some (.int s.2.1), some (.int s.2.2.1), some (.int s.2.2.2.1), none]) (st' := [.int 1]) (h' := s.2.2.2.2) (sg1 rfl rfl (sg1 rfl rfl rfl)) ?_
        exact Ex.weak (sm_le_s (sm_le_s (sm_le_s (sm_le_n (sm_le_s (sm_le_s sm_le_nil)))))) (B_319_326 hd hS1 hf hs)
theorem B_319_294 {L : Nat} {xs : Nat → Int32} {d : Nat} (hd : 2 ≤ d) {res : Option Value × sm_H} {y1 : Int32} {y2 : Int32} {y3 : Int32} {y4 : Int32}  {h : sm_H} {r : (Int32 × sm_H)} (hf : F_319_294 y1 y2 y3 y4 h = some r) (hs : (fun (r : Int32 × sm_H) => res = (some (.int r.1), r.2)) r) : Ex (P_G L xs) (RUN L xs d) (sm_lk P_t319) 0 294 [some (.ref 67), some (.int y1), some (.int y2), some (.int y3), some (.int y4), none] [] h res := by
  unfold F_319_294 at hf
  exact lp_ok (P := fun (s : (Int32 × Int32 × Int32 × Int32 × sm_H)) => Ex (P_G L xs) (RUN L xs d) (sm_lk P_t319) 0 294 [some (.ref 67), some (.int s.1), some (.int s.2.1), some (.int s.2.2.1), some (.int s.2.2.2.1), none] [] s.2.2.2.2 res) (S := (fun (r : Int32 × sm_H) => res = (some (.int r.1), r.2))) (fun s x hx hsx => by
    intros
    exact B_319_294B hd  (fun _ q => q) hx hsx) 1000000 _ r hf hs
theorem B_319_290 {L : Nat} {xs : Nat → Int32} {d : Nat} (hd : 2 ≤ d) {res : Option Value × sm_H} {y1 : Int32} {y2 : Int32} {z0 : Int32}  {h : sm_H} {r : (Int32 × sm_H)} (hf : F_319_290 y1 y2 z0 h = some r) (hs : (fun (r : Int32 × sm_H) => res = (some (.int r.1), r.2)) r) : Ex (P_G L xs) (RUN L xs d) (sm_lk P_t319) 0 290 [some (.ref 67), some (.int y1), some (.int y2), none, none, none] [.int z0] h res := by
  unfold F_319_290 at hf
  refine Ex.seg 3 (pc' := 294) (lc' := [some (.ref 67), some (.int y1), some (.int y2), some (.int z0), some (.int 1), none]) (st' := []) (h' := h) (sg1 rfl rfl (sg1 rfl rfl (sg1 rfl rfl rfl))) ?_
  exact Ex.weak (sm_le_s (sm_le_s (sm_le_s (sm_le_s (sm_le_s (sm_le_s sm_le_nil)))))) (B_319_294 hd  hf hs)
theorem B_319_275 {L : Nat} {xs : Nat → Int32} {d : Nat} (hd : 2 ≤ d) {res : Option Value × sm_H} {y1 : Int32} {y2 : Int32}  {h : sm_H} {r : (Int32 × sm_H)} (hf : F_319_275 y1 y2 h = some r) (hs : (fun (r : Int32 × sm_H) => res = (some (.int r.1), r.2)) r) : Ex (P_G L xs) (RUN L xs d) (sm_lk P_t319) 0 275 [some (.ref 67), some (.int y1), some (.int y2), none, none, none] [] h res := by
  unfold F_319_275 at hf
  refine Ex.seg 3 (pc' := 280) (lc' := [some (.ref 67), some (.int y1), some (.int y2), none, none, none]) (st' := [.int y2, .ref 76]) (h' := h) (sg1 rfl rfl (sg1 rfl rfl (sg1 rfl rfl rfl))) ?_
  obtain ⟨v7, e_v7, hf⟩ := bnd hf
  refine Ex.iald e_v7 rfl rfl ?_
  refine Ex.seg 1 (pc' := 282) (lc' := [some (.ref 67), some (.int y1), some (.int y2), none, none, none]) (st' := [.int y1, .int v7]) (h' := h) (sg1 rfl rfl rfl) ?_
  refine Ex.icmp rfl rfl (fun (c0 : ¬ (v7 = y1)) => ?_) (fun (c0 : ¬ ¬ (v7 = y1)) => ?_)
  · rw [if_neg c0] at hf
    refine Ex.seg 1 (pc' := 290) (lc' := [some (.ref 67), some (.int y1), some (.int y2), none, none, none]) (st' := [.int 0]) (h' := h) (sg1 rfl rfl rfl) ?_
    exact Ex.weak (sm_le_s (sm_le_s (sm_le_s (sm_le_s (sm_le_s (sm_le_s sm_le_nil)))))) (B_319_290 hd  hf hs)
  · rw [if_pos (Classical.not_not.mp c0)] at hf
    refine Ex.seg 2 (pc' := 290) (lc' := [some (.ref 67), some (.int y1), some (.int y2), none, none, none]) (st' := [.int 1]) (h' := h) (sg1 rfl rfl (sg1 rfl rfl rfl)) ?_
    exact Ex.weak (sm_le_s (sm_le_s (sm_le_s (sm_le_s (sm_le_s (sm_le_s sm_le_nil)))))) (B_319_290 hd  hf hs)
theorem B_319_229B {L : Nat} {xs : Nat → Int32} {d : Nat} (hd : 2 ≤ d) {res : Option Value × sm_H} {S1 : (Int32 × Int32 × Int32 × Int32 × sm_H) → Prop} (hS1 : ∀ s, S1 s → Ex (P_G L xs) (RUN L xs d) (sm_lk P_t319) 0 229 [some (.ref 67), some (.int s.1), none, some (.int s.2.1), some (.int s.2.2.1), some (.int s.2.2.2.1)] [] s.2.2.2.2 res) {s : (Int32 × Int32 × Int32 × Int32 × sm_H)}  {r : ((Int32 × Int32 × Int32 × Int32 × sm_H) ⊕ (Int32 × sm_H))} (hf : F_319_229B s = some r) (hs : (Sum.elim S1 (fun (r : Int32 × sm_H) => res = (some (.int r.1), r.2))) r) : Ex (P_G L xs) (RUN L xs d) (sm_lk P_t319) 0 229 [some (.ref 67), some (.int s.1), none, some (.int s.2.1), some (.int s.2.2.1), some (.int s.2.2.2.1)] [] s.2.2.2.2 res := by
  unfold F_319_229B at hf
  refine Ex.seg 2 (pc' := 233) (lc' := [some (.ref 67), some (.int s.1), none, some (.int s.2.1), some (.int s.2.2.1), some (.int s.2.2.2.1)]) (st' := [.int s.2.2.1, .int s.2.2.2.1]) (h' := s.2.2.2.2) (sg1 rfl rfl (sg1 rfl rfl rfl)) ?_
  refine Ex.icmp rfl rfl (fun (c0 : s.2.2.1 ≤ s.2.2.2.1) => ?_) (fun (c0 : ¬ (s.2.2.1 ≤ s.2.2.2.1)) => ?_)
  · rw [if_pos c0] at hf
    refine Ex.seg 4 (pc' := 264) (lc' := [some (.ref 67), some (.int s.1), none, some (.int s.2.1), some (.int s.2.2.1), some (.int s.2.2.2.1)]) (st' := [.int s.2.1, .int 0, .ref 69]) (h' := s.2.2.2.2) (sg1 rfl rfl (sg1 rfl rfl (sg1 rfl rfl (sg1 rfl rfl rfl)))) ?_
    obtain ⟨h8, e_h8, hf⟩ := bnd hf
    refine Ex.iast e_h8 rfl rfl ?_
    refine Ex.seg 5 (pc' := 273) (lc' := [some (.ref 67), some (.int s.1), none, some (.int s.2.1), some (.int s.2.2.1), some (.int s.2.2.2.1)]) (st' := []) (h' := (sm_wI h8 67 3 (1 + s.2.2.1))) (sg1 rfl rfl (sg1 rfl rfl (sg1 rfl rfl (sg1 rfl rfl (sg1 rfl rfl rfl))))) ?_
    obtain ⟨h9, e_h9, hf⟩ := bnd hf
    rw [Option.some.inj e_h9]
    refine Ex.seg 2 (pc' := 275) (lc' := [some (.ref 67), some (.int s.1), some (.int s.2.1), some (.int s.2.1), some (.int s.2.2.1), some (.int s.2.2.2.1)]) (st' := []) (h' := h9) (sg1 rfl rfl (sg1 rfl rfl rfl)) ?_
    obtain ⟨r0, hf0, rfl⟩ := Option.map_eq_some_iff.mp hf
    exact Ex.weak (sm_le_s (sm_le_s (sm_le_s (sm_le_n (sm_le_n (sm_le_n sm_le_nil)))))) (B_319_275 hd  hf0 hs)
  · rw [if_neg c0] at hf
    refine Ex.seg 8 (pc' := 250) (lc' := [some (.ref 67), some (.int s.1), none, some (.int s.2.1), some (.int s.2.2.1), some (.int s.2.2.2.1)]) (st' := [.int s.2.2.2.1, .ref 102, .int (1 + s.2.2.2.1), .ref 69]) (h' := s.2.2.2.2) (sg1 rfl rfl (sg1 rfl rfl (sg1 rfl rfl (sg1 rfl rfl (sg1 rfl rfl (sg1 rfl rfl (sg1 rfl rfl (sg1 rfl rfl rfl)))))))) ?_
    obtain ⟨v10, e_v10, hf⟩ := bnd hf
    refine Ex.iald e_v10 rfl rfl ?_
    obtain ⟨h11, e_h11, hf⟩ := bnd hf
    refine Ex.iast e_h11 rfl rfl ?_
    refine Ex.seg 1 (pc' := 255) (lc' := [some (.ref 67), some (.int s.1), none, some (.int s.2.1), some (.int s.2.2.1), some (.int (s.2.2.2.1 + 1))]) (st' := []) (h' := h11) (sg1 rfl rfl rfl) ?_
    obtain ⟨v12, e_v12, hf⟩ := bnd hf
    rw [Option.some.inj e_v12]
    refine Ex.seg 1 (pc' := 229) (lc' := [some (.ref 67), some (.int s.1), none, some (.int s.2.1), some (.int s.2.2.1), some (.int v12)]) (st' := []) (h' := h11) (sg1 rfl rfl rfl) ?_
    obtain rfl := Option.some.inj hf
    exact Ex.weak (sm_le_s (sm_le_s (sm_le_s (sm_le_s (sm_le_s (sm_le_s sm_le_nil)))))) (hS1 _ hs)
theorem B_319_229 {L : Nat} {xs : Nat → Int32} {d : Nat} (hd : 2 ≤ d) {res : Option Value × sm_H} {y1 : Int32} {y3 : Int32} {y4 : Int32} {y5 : Int32}  {h : sm_H} {r : (Int32 × sm_H)} (hf : F_319_229 y1 y3 y4 y5 h = some r) (hs : (fun (r : Int32 × sm_H) => res = (some (.int r.1), r.2)) r) : Ex (P_G L xs) (RUN L xs d) (sm_lk P_t319) 0 229 [some (.ref 67), some (.int y1), none, some (.int y3), some (.int y4), some (.int y5)] [] h res := by
  unfold F_319_229 at hf
  exact lp_ok (P := fun (s : (Int32 × Int32 × Int32 × Int32 × sm_H)) => Ex (P_G L xs) (RUN L xs d) (sm_lk P_t319) 0 229 [some (.ref 67), some (.int s.1), none, some (.int s.2.1), some (.int s.2.2.1), some (.int s.2.2.2.1)] [] s.2.2.2.2 res) (S := (fun (r : Int32 × sm_H) => res = (some (.int r.1), r.2))) (fun s x hx hsx => by
    intros
    exact B_319_229B hd  (fun _ q => q) hx hsx) 1000000 _ r hf hs
theorem B_319_185B {L : Nat} {xs : Nat → Int32} {d : Nat} (hd : 2 ≤ d) {res : Option Value × sm_H} {S1 : (Int32 × Int32 × Int32 × Int32 × Int32 × sm_H) → Prop} (hS1 : ∀ s, S1 s → Ex (P_G L xs) (RUN L xs d) (sm_lk P_t319) 0 185 [some (.ref 67), some (.int s.1), some (.int s.2.1), some (.int s.2.2.1), some (.int s.2.2.2.1), some (.int s.2.2.2.2.1)] [] s.2.2.2.2.2 res) {s : (Int32 × Int32 × Int32 × Int32 × Int32 × sm_H)}  {r : ((Int32 × Int32 × Int32 × Int32 × Int32 × sm_H) ⊕ (Int32 × sm_H))} (hf : F_319_185B s = some r) (hs : (Sum.elim S1 (fun (r : Int32 × sm_H) => res = (some (.int r.1), r.2))) r) : Ex (P_G L xs) (RUN L xs d) (sm_lk P_t319) 0 185 [some (.ref 67), some (.int s.1), some (.int s.2.1), some (.int s.2.2.1), some (.int s.2.2.2.1), some (.int s.2.2.2.2.1)] [] s.2.2.2.2.2 res := by
  unfold F_319_185B at hf
  refine Ex.seg 2 (pc' := 189) (lc' := [some (.ref 67), some (.int s.1), some (.int s.2.1), some (.int s.2.2.1), some (.int s.2.2.2.1), some (.int s.2.2.2.2.1)]) (st' := [.int s.2.2.2.1, .int s.2.2.2.2.1]) (h' := s.2.2.2.2.2) (sg1 rfl rfl (sg1 rfl rfl rfl)) ?_
  refine Ex.icmp rfl rfl (fun (c0 : s.2.2.2.1 ≤ s.2.2.2.2.1) => ?_) (fun (c0 : ¬ (s.2.2.2.1 ≤ s.2.2.2.2.1)) => ?_)
  · rw [if_pos c0] at hf
    refine Ex.seg 2 (pc' := 229) (lc' := [some (.ref 67), some (.int s.1), some (.int s.2.1), some (.int s.2.2.1), some (.int s.2.2.2.1), some (.int 0)]) (st' := []) (h' := s.2.2.2.2.2) (sg1 rfl rfl (sg1 rfl rfl rfl)) ?_
    obtain ⟨r0, hf0, rfl⟩ := Option.map_eq_some_iff.mp hf
    exact Ex.weak (sm_le_s (sm_le_s (sm_le_n (sm_le_s (sm_le_s (sm_le_s sm_le_nil)))))) (B_319_229 hd  hf0 hs)
  · rw [if_neg c0] at hf
    refine Ex.seg 15 (pc' := 216) (lc' := [some (.ref 67), some (.int s.1), some (.int s.2.1), some (.int s.2.2.1), some (.int s.2.2.2.1), some (.int s.2.2.2.2.1)]) (st' := [.int (((24 * s.2.1) + 1) + s.2.2.2.2.1), .ref 81, .int 1, .ref 69, .int s.2.2.2.2.1, .ref 102]) (h' := s.2.2.2.2.2) (sg1 rfl rfl (sg1 rfl rfl (sg1 rfl rfl (sg1 rfl rfl (sg1 rfl rfl (sg1 rfl rfl (sg1 rfl rfl (sg1 rfl rfl (sg1 rfl rfl (sg1 rfl rfl (sg1 rfl rfl (sg1 rfl rfl (sg1 rfl rfl (sg1 rfl rfl (sg1 rfl rfl rfl))))))))))))))) ?_
    obtain ⟨v13, e_v13, hf⟩ := bnd hf
    refine Ex.iald e_v13 rfl rfl ?_
    refine Ex.seg 1 (pc' := 218) (lc' := [some (.ref 67), some (.int s.1), some (.int s.2.1), some (.int s.2.2.1), some (.int s.2.2.2.1), some (.int s.2.2.2.2.1)]) (st' := [.int (1 + v13), .ref 69, .int s.2.2.2.2.1, .ref 102]) (h' := s.2.2.2.2.2) (sg1 rfl rfl rfl) ?_
    obtain ⟨v14, e_v14, hf⟩ := bnd hf
    refine Ex.iald e_v14 rfl rfl ?_
    obtain ⟨h15, e_h15, hf⟩ := bnd hf
    refine Ex.iast e_h15 rfl rfl ?_
    refine Ex.seg 1 (pc' := 223) (lc' := [some (.ref 67), some (.int s.1), some (.int s.2.1), some (.int s.2.2.1), some (.int s.2.2.2.1), some (.int (s.2.2.2.2.1 + 1))]) (st' := []) (h' := h15) (sg1 rfl rfl rfl) ?_
    obtain ⟨v16, e_v16, hf⟩ := bnd hf
    rw [Option.some.inj e_v16]
    refine Ex.seg 1 (pc' := 185) (lc' := [some (.ref 67), some (.int s.1), some (.int s.2.1), some (.int s.2.2.1), some (.int s.2.2.2.1), some (.int v16)]) (st' := []) (h' := h15) (sg1 rfl rfl rfl) ?_
    obtain rfl := Option.some.inj hf
    exact Ex.weak (sm_le_s (sm_le_s (sm_le_s (sm_le_s (sm_le_s (sm_le_s sm_le_nil)))))) (hS1 _ hs)
theorem B_319_185 {L : Nat} {xs : Nat → Int32} {d : Nat} (hd : 2 ≤ d) {res : Option Value × sm_H} {y1 : Int32} {y2 : Int32} {y3 : Int32} {y4 : Int32} {y5 : Int32}  {h : sm_H} {r : (Int32 × sm_H)} (hf : F_319_185 y1 y2 y3 y4 y5 h = some r) (hs : (fun (r : Int32 × sm_H) => res = (some (.int r.1), r.2)) r) : Ex (P_G L xs) (RUN L xs d) (sm_lk P_t319) 0 185 [some (.ref 67), some (.int y1), some (.int y2), some (.int y3), some (.int y4), some (.int y5)] [] h res := by
  unfold F_319_185 at hf
  exact lp_ok (P := fun (s : (Int32 × Int32 × Int32 × Int32 × Int32 × sm_H)) => Ex (P_G L xs) (RUN L xs d) (sm_lk P_t319) 0 185 [some (.ref 67), some (.int s.1), some (.int s.2.1), some (.int s.2.2.1), some (.int s.2.2.2.1), some (.int s.2.2.2.2.1)] [] s.2.2.2.2.2 res) (S := (fun (r : Int32 × sm_H) => res = (some (.int r.1), r.2))) (fun s x hx hsx => by
    intros
    exact B_319_185B hd  (fun _ q => q) hx hsx) 1000000 _ r hf hs
theorem B_319_112B {L : Nat} {xs : Nat → Int32} {d : Nat} (hd : 2 ≤ d) {res : Option Value × sm_H} {S1 : (Int32 × Int32 × Int32 × sm_H) → Prop} (hS1 : ∀ s, S1 s → Ex (P_G L xs) (RUN L xs d) (sm_lk P_t319) 0 112 [some (.ref 67), some (.int s.1), some (.int s.2.1), some (.int s.2.2.1), none, none] [] s.2.2.2 res) {s : (Int32 × Int32 × Int32 × sm_H)}  {r : ((Int32 × Int32 × Int32 × sm_H) ⊕ (Int32 × sm_H))} (hf : F_319_112B s = some r) (hs : (Sum.elim S1 (fun (r : Int32 × sm_H) => res = (some (.int r.1), r.2))) r) : Ex (P_G L xs) (RUN L xs d) (sm_lk P_t319) 0 112 [some (.ref 67), some (.int s.1), some (.int s.2.1), some (.int s.2.2.1), none, none] [] s.2.2.2 res := by
  unfold F_319_112B at hf
  refine Ex.seg 3 (pc' := 117) (lc' := [some (.ref 67), some (.int s.1), some (.int s.2.1), some (.int s.2.2.1), none, none]) (st' := [.int (s.2.2.2.1 67 3), .int s.2.2.1]) (h' := s.2.2.2) (sg1 rfl rfl (sg1 rfl rfl (sg1 rfl rfl rfl))) ?_
  refine Ex.icmp rfl rfl (fun (c0 : (s.2.2.2.1 67 3) ≤ s.2.2.1) => ?_) (fun (c0 : ¬ ((s.2.2.2.1 67 3) ≤ s.2.2.1)) => ?_)
  · rw [if_pos c0] at hf
    refine Ex.seg 3 (pc' := 160) (lc' := [some (.ref 67), some (.int s.1), some (.int s.2.1), some (.int s.2.2.1), none, none]) (st' := [.int s.2.1, .ref 75]) (h' := s.2.2.2) (sg1 rfl rfl (sg1 rfl rfl (sg1 rfl rfl rfl))) ?_
    obtain ⟨v17, e_v17, hf⟩ := bnd hf
    refine Ex.iald e_v17 rfl rfl ?_
    refine Ex.seg 1 (pc' := 162) (lc' := [some (.ref 67), some (.int s.1), some (.int s.2.1), some (.int s.2.2.1), none, none]) (st' := [.int 5, .int v17]) (h' := s.2.2.2) (sg1 rfl rfl rfl) ?_
    refine Ex.icmp rfl rfl (fun (c0 : ¬ (v17 = 5)) => ?_) (fun (c0 : ¬ ¬ (v17 = 5)) => ?_)
    · rw [if_neg c0] at hf
      obtain ⟨r0, hf0, rfl⟩ := Option.map_eq_some_iff.mp hf
      exact Ex.weak (sm_le_s (sm_le_s (sm_le_s (sm_le_n (sm_le_s (sm_le_s sm_le_nil)))))) (B_319_275 hd  hf0 hs)
    · rw [if_pos (Classical.not_not.mp c0)] at hf
      refine Ex.seg 5 (pc' := 173) (lc' := [some (.ref 67), some (.int s.1), some (.int s.2.1), some (.int s.2.2.1), none, none]) (st' := [.int (24 * s.2.1), .ref 81]) (h' := s.2.2.2) (sg1 rfl rfl (sg1 rfl rfl (sg1 rfl rfl (sg1 rfl rfl (sg1 rfl rfl rfl))))) ?_
      obtain ⟨v18, e_v18, hf⟩ := bnd hf
      refine Ex.iald e_v18 rfl rfl ?_
      refine Ex.seg 3 (pc' := 177) (lc' := [some (.ref 67), some (.int s.1), some (.int s.2.1), some (.int v18), none, none]) (st' := [.int v18, .ref 67]) (h' := s.2.2.2) (sg1 rfl rfl (sg1 rfl rfl (sg1 rfl rfl rfl))) ?_
      obtain ⟨q19, e_q19, hf⟩ := bnd hf
      refine Ex.callV (a := 67) (As := [.int v18]) (r := []) (v := some (.int q19.1)) (h' := q19.2) rfl rfl (by decide) rfl (Nat.le_of_ble_eq_true rfl) rfl (E_305 (Nat.le_trans (by decide) hd) e_q19) rfl ?_
      refine Ex.seg 3 (pc' := 185) (lc' := [some (.ref 67), some (.int s.1), some (.int s.2.1), some (.int v18), some (.int q19.1), some (.int 0)]) (st' := []) (h' := q19.2) (sg1 rfl rfl (sg1 rfl rfl (sg1 rfl rfl rfl))) ?_
      obtain ⟨r0, hf0, rfl⟩ := Option.map_eq_some_iff.mp hf
      exact Ex.weak (sm_le_s (sm_le_s (sm_le_s (sm_le_s (sm_le_s (sm_le_s sm_le_nil)))))) (B_319_185 hd  hf0 hs)
  · rw [if_neg c0] at hf
    refine Ex.seg 8 (pc' := 133) (lc' := [some (.ref 67), some (.int s.1), some (.int s.2.1), some (.int s.2.2.1), none, none]) (st' := [.int s.2.2.1, .ref 69, .int (10 * s.1), .ref 74]) (h' := s.2.2.2) (sg1 rfl rfl (sg1 rfl rfl (sg1 rfl rfl (sg1 rfl rfl (sg1 rfl rfl (sg1 rfl rfl (sg1 rfl rfl (sg1 rfl rfl rfl)))))))) ?_
    obtain ⟨v20, e_v20, hf⟩ := bnd hf
    refine Ex.iald e_v20 rfl rfl ?_
    refine Ex.seg 1 (pc' := 135) (lc' := [some (.ref 67), some (.int s.1), some (.int s.2.1), some (.int s.2.2.1), none, none]) (st' := [.int ((10 * s.1) + v20), .ref 74]) (h' := s.2.2.2) (sg1 rfl rfl rfl) ?_
    obtain ⟨v21, e_v21, hf⟩ := bnd hf
    refine Ex.iald e_v21 rfl rfl ?_
    refine Ex.seg 5 (pc' := 141) (lc' := [some (.ref 67), some (.int s.1), some (.int s.2.1), some (.int s.2.2.1), none, none]) (st' := [.int (s.2.2.1 - 1), .int s.2.1, .ref 67, .int v21]) (h' := s.2.2.2) (sg1 rfl rfl (sg1 rfl rfl (sg1 rfl rfl (sg1 rfl rfl (sg1 rfl rfl rfl))))) ?_
    obtain ⟨q22, e_q22, hf⟩ := bnd hf
    refine Ex.callV (a := 67) (As := [.int s.2.1, .int (s.2.2.1 - 1)]) (r := [.int v21]) (v := some (.int q22.1)) (h' := q22.2) rfl rfl (by decide) rfl (Nat.le_of_ble_eq_true rfl) rfl (E_306 (Nat.le_trans (by decide) hd) e_q22) rfl ?_
    refine Ex.icmp rfl rfl (fun (c0 : v21 = q22.1) => ?_) (fun (c0 : ¬ (v21 = q22.1)) => ?_)
    · rw [if_pos c0] at hf
      refine Ex.seg 1 (pc' := 152) (lc' := [some (.ref 67), some (.int s.1), some (.int s.2.1), some (.int (s.2.2.1 + 1)), none, none]) (st' := []) (h' := q22.2) (sg1 rfl rfl rfl) ?_
      obtain ⟨v23, e_v23, hf⟩ := bnd hf
      rw [Option.some.inj e_v23]
      refine Ex.seg 1 (pc' := 112) (lc' := [some (.ref 67), some (.int s.1), some (.int s.2.1), some (.int v23), none, none]) (st' := []) (h' := q22.2) (sg1 rfl rfl rfl) ?_
      obtain rfl := Option.some.inj hf
      exact Ex.weak (sm_le_s (sm_le_s (sm_le_s (sm_le_s (sm_le_s (sm_le_s sm_le_nil)))))) (hS1 _ hs)
    · rw [if_neg c0] at hf
      refine Ex.seg 1 (pc' := 148) (lc' := [some (.ref 67), some (.int s.1), some (.int s.2.1), some (.int s.2.2.1), none, none]) (st' := [.int 3]) (h' := q22.2) (sg1 rfl rfl rfl) ?_
      obtain rfl := Option.some.inj hf
      exact Ex.iret rfl rfl (fun c0 => by cases c0) hs
theorem B_319_112 {L : Nat} {xs : Nat → Int32} {d : Nat} (hd : 2 ≤ d) {res : Option Value × sm_H} {y1 : Int32} {y2 : Int32} {y3 : Int32}  {h : sm_H} {r : (Int32 × sm_H)} (hf : F_319_112 y1 y2 y3 h = some r) (hs : (fun (r : Int32 × sm_H) => res = (some (.int r.1), r.2)) r) : Ex (P_G L xs) (RUN L xs d) (sm_lk P_t319) 0 112 [some (.ref 67), some (.int y1), some (.int y2), some (.int y3), none, none] [] h res := by
  unfold F_319_112 at hf
  exact lp_ok (P := fun (s : (Int32 × Int32 × Int32 × sm_H)) => Ex (P_G L xs) (RUN L xs d) (sm_lk P_t319) 0 112 [some (.ref 67), some (.int s.1), some (.int s.2.1), some (.int s.2.2.1), none, none] [] s.2.2.2 res) (S := (fun (r : Int32 × sm_H) => res = (some (.int r.1), r.2))) (fun s x hx hsx => by
    intros
    exact B_319_112B hd  (fun _ q => q) hx hsx) 1000000 _ r hf hs
theorem B_319_55B {L : Nat} {xs : Nat → Int32} {d : Nat} (hd : 2 ≤ d) {res : Option Value × sm_H} {S1 : (Int32 × Int32 × Int32 × sm_H) → Prop} (hS1 : ∀ s, S1 s → Ex (P_G L xs) (RUN L xs d) (sm_lk P_t319) 0 55 [some (.ref 67), some (.int s.1), some (.int s.2.1), some (.int s.2.2.1), none, none] [] s.2.2.2 res) {s : (Int32 × Int32 × Int32 × sm_H)}  {r : ((Int32 × Int32 × Int32 × sm_H) ⊕ (Int32 × sm_H))} (hf : F_319_55B s = some r) (hs : (Sum.elim S1 (fun (r : Int32 × sm_H) => res = (some (.int r.1), r.2))) r) : Ex (P_G L xs) (RUN L xs d) (sm_lk P_t319) 0 55 [some (.ref 67), some (.int s.1), some (.int s.2.1), some (.int s.2.2.1), none, none] [] s.2.2.2 res := by
  unfold F_319_55B at hf
  refine Ex.seg 3 (pc' := 60) (lc' := [some (.ref 67), some (.int s.1), some (.int s.2.1), some (.int s.2.2.1), none, none]) (st' := [.int (s.2.2.2.1 67 3), .int s.2.2.1]) (h' := s.2.2.2) (sg1 rfl rfl (sg1 rfl rfl (sg1 rfl rfl rfl))) ?_
  refine Ex.icmp rfl rfl (fun (c0 : (s.2.2.2.1 67 3) ≤ s.2.2.1) => ?_) (fun (c0 : ¬ ((s.2.2.2.1 67 3) ≤ s.2.2.1)) => ?_)
  · rw [if_pos c0] at hf
    refine Ex.seg 3 (pc' := 99) (lc' := [some (.ref 67), some (.int s.1), some (.int s.2.1), some (.int s.2.2.1), none, none]) (st' := [.int s.1, .ref 72]) (h' := s.2.2.2) (sg1 rfl rfl (sg1 rfl rfl (sg1 rfl rfl rfl))) ?_
    obtain ⟨v24, e_v24, hf⟩ := bnd hf
    refine Ex.iald e_v24 rfl rfl ?_
    refine Ex.seg 2 (pc' := 102) (lc' := [some (.ref 67), some (.int s.1), some (.int s.2.1), some (.int s.2.2.1), none, none]) (st' := [.int s.2.1, .ref 67, .int v24]) (h' := s.2.2.2) (sg1 rfl rfl (sg1 rfl rfl rfl)) ?_
    obtain ⟨q25, e_q25, hf⟩ := bnd hf
    refine Ex.callV (a := 67) (As := [.int s.2.1]) (r := [.int v24]) (v := some (.int q25.1)) (h' := q25.2) rfl rfl (by decide) rfl (Nat.le_of_ble_eq_true rfl) rfl (E_307 (Nat.le_trans (by decide) hd) e_q25) rfl ?_
    refine Ex.icmp rfl rfl (fun (c0 : v24 = q25.1) => ?_) (fun (c0 : ¬ (v24 = q25.1)) => ?_)
    · rw [if_pos c0] at hf
      refine Ex.seg 2 (pc' := 112) (lc' := [some (.ref 67), some (.int s.1), some (.int s.2.1), some (.int 1), none, none]) (st' := []) (h' := q25.2) (sg1 rfl rfl (sg1 rfl rfl rfl)) ?_
      obtain ⟨r0, hf0, rfl⟩ := Option.map_eq_some_iff.mp hf
      exact Ex.weak (sm_le_s (sm_le_s (sm_le_s (sm_le_s (sm_le_s (sm_le_s sm_le_nil)))))) (B_319_112 hd  hf0 hs)
    · rw [if_neg c0] at hf
      refine Ex.seg 1 (pc' := 109) (lc' := [some (.ref 67), some (.int s.1), some (.int s.2.1), some (.int s.2.2.1), none, none]) (st' := [.int 3]) (h' := q25.2) (sg1 rfl rfl rfl) ?_
      obtain rfl := Option.some.inj hf
      exact Ex.iret rfl rfl (fun c0 => by cases c0) hs
  · rw [if_neg c0] at hf
    refine Ex.seg 3 (pc' := 68) (lc' := [some (.ref 67), some (.int s.1), some (.int s.2.1), some (.int s.2.2.1), none, none]) (st' := [.int s.2.2.1, .ref 69]) (h' := s.2.2.2) (sg1 rfl rfl (sg1 rfl rfl (sg1 rfl rfl rfl))) ?_
    obtain ⟨v26, e_v26, hf⟩ := bnd hf
    refine Ex.iald e_v26 rfl rfl ?_
    refine Ex.seg 5 (pc' := 76) (lc' := [some (.ref 67), some (.int s.1), some (.int s.2.1), some (.int s.2.2.1), none, none]) (st' := [.int s.1, .ref 73, .long 0, .long (Int32.toInt64 v26)]) (h' := s.2.2.2) (sg1 rfl rfl (sg1 rfl rfl (sg1 rfl rfl (sg1 rfl rfl (sg1 rfl rfl rfl))))) ?_
    obtain ⟨v27, e_v27, hf⟩ := bnd hf
    refine Ex.iald e_v27 rfl rfl ?_
    refine Ex.seg 3 (pc' := 80) (lc' := [some (.ref 67), some (.int s.1), some (.int s.2.1), some (.int s.2.2.1), none, none]) (st' := [.long (Int32.toInt64 (v27 - 1)), .long 0, .long (Int32.toInt64 v26)]) (h' := s.2.2.2) (sg1 rfl rfl (sg1 rfl rfl (sg1 rfl rfl rfl))) ?_
    obtain ⟨q28, e_q28, hf⟩ := bnd hf
    refine Ex.callS (As := [.long (Int32.toInt64 v26), .long 0, .long (Int32.toInt64 (v27 - 1))]) (r := []) (v := some (.int q28.1)) (h' := q28.2) rfl rfl rfl rfl (Nat.le_of_ble_eq_true rfl) (E_315 (Nat.le_trans (by decide) hd) e_q28) rfl ?_
    refine Ex.ifc rfl rfl (fun (c0 : q28.1 = 0) => ?_) (fun (c0 : ¬ (q28.1 = 0)) => ?_)
    · rw [if_pos c0] at hf
      refine Ex.seg 1 (pc' := 91) (lc' := [some (.ref 67), some (.int s.1), some (.int s.2.1), some (.int (s.2.2.1 + 1)), none, none]) (st' := []) (h' := q28.2) (sg1 rfl rfl rfl) ?_
      obtain ⟨v29, e_v29, hf⟩ := bnd hf
      rw [Option.some.inj e_v29]
      refine Ex.seg 1 (pc' := 55) (lc' := [some (.ref 67), some (.int s.1), some (.int s.2.1), some (.int v29), none, none]) (st' := []) (h' := q28.2) (sg1 rfl rfl rfl) ?_
      obtain rfl := Option.some.inj hf
      exact Ex.weak (sm_le_s (sm_le_s (sm_le_s (sm_le_s (sm_le_s (sm_le_s sm_le_nil)))))) (hS1 _ hs)
    · rw [if_neg c0] at hf
      refine Ex.seg 1 (pc' := 87) (lc' := [some (.ref 67), some (.int s.1), some (.int s.2.1), some (.int s.2.2.1), none, none]) (st' := [.int 2]) (h' := q28.2) (sg1 rfl rfl rfl) ?_
      obtain rfl := Option.some.inj hf
      exact Ex.iret rfl rfl (fun c0 => by cases c0) hs
theorem B_319_55 {L : Nat} {xs : Nat → Int32} {d : Nat} (hd : 2 ≤ d) {res : Option Value × sm_H} {y1 : Int32} {y2 : Int32} {y3 : Int32}  {h : sm_H} {r : (Int32 × sm_H)} (hf : F_319_55 y1 y2 y3 h = some r) (hs : (fun (r : Int32 × sm_H) => res = (some (.int r.1), r.2)) r) : Ex (P_G L xs) (RUN L xs d) (sm_lk P_t319) 0 55 [some (.ref 67), some (.int y1), some (.int y2), some (.int y3), none, none] [] h res := by
  unfold F_319_55 at hf
  exact lp_ok (P := fun (s : (Int32 × Int32 × Int32 × sm_H)) => Ex (P_G L xs) (RUN L xs d) (sm_lk P_t319) 0 55 [some (.ref 67), some (.int s.1), some (.int s.2.1), some (.int s.2.2.1), none, none] [] s.2.2.2 res) (S := (fun (r : Int32 × sm_H) => res = (some (.int r.1), r.2))) (fun s x hx hsx => by
    intros
    exact B_319_55B hd  (fun _ q => q) hx hsx) 1000000 _ r hf hs
theorem B_319_44 {L : Nat} {xs : Nat → Int32} {d : Nat} (hd : 2 ≤ d) {res : Option Value × sm_H}   {h : sm_H} {r : (Int32 × sm_H)} (hf : F_319_44  h = some r) (hs : (fun (r : Int32 × sm_H) => res = (some (.int r.1), r.2)) r) : Ex (P_G L xs) (RUN L xs d) (sm_lk P_t319) 0 44 [none, none, none, none, none, none] [] h res := by
  unfold F_319_44 at hf
  refine Ex.seg 1 (pc' := 45) (lc' := [none, none, none, none, none, none]) (st' := [.int 1]) (h' := h) (sg1 rfl rfl rfl) ?_
  obtain rfl := Option.some.inj hf
  exact Ex.iret rfl rfl (fun c0 => by cases c0) hs
theorem B_319_0 {L : Nat} {xs : Nat → Int32} {d : Nat} (hd : 2 ≤ d) {res : Option Value × sm_H} {x1 : Int32}  {h : sm_H} {r : (Int32 × sm_H)} (hf : F_319_0 x1 h = some r) (hs : (fun (r : Int32 × sm_H) => res = (some (.int r.1), r.2)) r) : Ex (P_G L xs) (RUN L xs d) (sm_lk P_t319) 0 0 [some (.ref 67), some (.int x1), none, none, none, none] [] h res := by
  unfold F_319_0 at hf
  refine Ex.seg 3 (pc' := 5) (lc' := [some (.ref 67), some (.int x1), none, none, none, none]) (st' := [.int 1, .int (h.1 67 3)]) (h' := h) (sg1 rfl rfl (sg1 rfl rfl (sg1 rfl rfl rfl))) ?_
  refine Ex.icmp rfl rfl (fun (c0 : (h.1 67 3) < 1) => ?_) (fun (c0 : ¬ ((h.1 67 3) < 1)) => ?_)
  · rw [if_pos c0] at hf
    exact Ex.weak (sm_le_n (sm_le_n (sm_le_s (sm_le_s (sm_le_s (sm_le_s sm_le_nil)))))) (B_319_44 hd  hf hs)
  · rw [if_neg c0] at hf
    refine Ex.seg 3 (pc' := 11) (lc' := [some (.ref 67), some (.int x1), none, none, none, none]) (st' := [.int 1, .int 0, .ref 67]) (h' := h) (sg1 rfl rfl (sg1 rfl rfl (sg1 rfl rfl rfl))) ?_
    obtain ⟨q30, e_q30, hf⟩ := bnd hf
    refine Ex.callV (a := 67) (As := [.int 0, .int 1]) (r := []) (v := some (.int q30.1)) (h' := q30.2) rfl rfl (by decide) rfl (Nat.le_of_ble_eq_true rfl) rfl (E_314 (Nat.le_trans (by decide) hd) e_q30) rfl ?_
    refine Ex.ifc rfl rfl (fun (c0 : q30.1 = 0) => ?_) (fun (c0 : ¬ (q30.1 = 0)) => ?_)
    · rw [if_pos c0] at hf
      exact Ex.weak (sm_le_n (sm_le_n (sm_le_s (sm_le_s (sm_le_s (sm_le_s sm_le_nil)))))) (B_319_44 hd  hf hs)
    · rw [if_neg c0] at hf
      refine Ex.seg 2 (pc' := 19) (lc' := [some (.ref 67), some (.int x1), none, none, none, none]) (st' := [.int x1, .ref 67]) (h' := q30.2) (sg1 rfl rfl (sg1 rfl rfl rfl)) ?_
      obtain ⟨q31, e_q31, hf⟩ := bnd hf
      refine Ex.callV (a := 67) (As := [.int x1]) (r := []) (v := some (.int q31.1)) (h' := q31.2) rfl rfl (by decide) rfl (Nat.le_of_ble_eq_true rfl) rfl (E_303 (Nat.le_trans (by decide) hd) e_q31) rfl ?_
      refine Ex.ifc rfl rfl (fun (c0 : q31.1 = 0) => ?_) (fun (c0 : ¬ (q31.1 = 0)) => ?_)
      · rw [if_pos c0] at hf
        exact Ex.weak (sm_le_n (sm_le_n (sm_le_s (sm_le_s (sm_le_s (sm_le_s sm_le_nil)))))) (B_319_44 hd  hf hs)
      · rw [if_neg c0] at hf
        refine Ex.seg 7 (pc' := 36) (lc' := [some (.ref 67), some (.int x1), none, none, none, none]) (st' := [.int 0, .ref 69, .ref 67, .int 1, .int (q31.2.1 67 3)]) (h' := q31.2) (sg1 rfl rfl (sg1 rfl rfl (sg1 rfl rfl (sg1 rfl rfl (sg1 rfl rfl (sg1 rfl rfl (sg1 rfl rfl rfl))))))) ?_
        obtain ⟨v32, e_v32, hf⟩ := bnd hf
        refine Ex.iald e_v32 rfl rfl ?_
        obtain ⟨q33, e_q33, hf⟩ := bnd hf
        refine Ex.callV (a := 67) (As := [.int v32]) (r := [.int 1, .int (q31.2.1 67 3)]) (v := some (.int q33.1)) (h' := q33.2) rfl rfl (by decide) rfl (Nat.le_of_ble_eq_true rfl) rfl (E_305 (Nat.le_trans (by decide) hd) e_q33) rfl ?_
        refine Ex.seg 1 (pc' := 41) (lc' := [some (.ref 67), some (.int x1), none, none, none, none]) (st' := [.int (1 + q33.1), .int (q31.2.1 67 3)]) (h' := q33.2) (sg1 rfl rfl rfl) ?_
        refine Ex.icmp rfl rfl (fun (c0 : (q31.2.1 67 3) = (1 + q33.1)) => ?_) (fun (c0 : ¬ ((q31.2.1 67 3) = (1 + q33.1))) => ?_)
        · rw [if_pos c0] at hf
          refine Ex.seg 3 (pc' := 51) (lc' := [some (.ref 67), some (.int x1), none, none, none, none]) (st' := [.int 0, .ref 69]) (h' := q33.2) (sg1 rfl rfl (sg1 rfl rfl (sg1 rfl rfl rfl))) ?_
          obtain ⟨v34, e_v34, hf⟩ := bnd hf
          refine Ex.iald e_v34 rfl rfl ?_
          refine Ex.seg 3 (pc' := 55) (lc' := [some (.ref 67), some (.int x1), some (.int v34), some (.int 1), none, none]) (st' := []) (h' := q33.2) (sg1 rfl rfl (sg1 rfl rfl (sg1 rfl rfl rfl))) ?_
          exact Ex.weak (sm_le_s (sm_le_s (sm_le_s (sm_le_s (sm_le_s (sm_le_s sm_le_nil)))))) (B_319_55 hd  hf hs)
        · rw [if_neg c0] at hf
          exact Ex.weak (sm_le_n (sm_le_n (sm_le_s (sm_le_s (sm_le_s (sm_le_s sm_le_nil)))))) (B_319_44 hd  hf hs)
theorem E_319 {L : Nat} {xs : Nat → Int32} {d : Nat} (hd : 3 ≤ d) {x1 : Int32} {h : sm_H} {r : Int32 × sm_H} (hf : F_319 x1 h = some r) : RUN L xs d 319 [.ref 67, .int x1] h (some (.int r.1), r.2) := by
  obtain ⟨d, rfl⟩ : ∃ e, d = e + 1 := ⟨d - 1, by omega⟩
  exact ⟨Nat.le_of_ble_eq_true rfl, B_319_0 (by omega) hf rfl⟩
theorem B_320_17 {L : Nat} {xs : Nat → Int32} {d : Nat} (hd : 3 ≤ d) {res : Option Value × sm_H}   {h : sm_H} {r : (Int32 × sm_H)} (hf : F_320_17  h = some r) (hs : (fun (r : Int32 × sm_H) => res = (some (.int r.1), r.2)) r) : Ex (P_G L xs) (RUN L xs d) (sm_lk P_t320) 0 17 [none, none, none, none, none, none] [] h res := by
  unfold F_320_17 at hf
  refine Ex.seg 1 (pc' := 18) (lc' := [none, none, none, none, none, none]) (st' := [.int 1]) (h' := h) (sg1 rfl rfl rfl) ?_
  obtain rfl := Option.some.inj hf
  exact Ex.iret rfl rfl (fun c0 => by cases c0) hs
theorem B_320_0 {L : Nat} {xs : Nat → Int32} {d : Nat} (hd : 3 ≤ d) {res : Option Value × sm_H} {x1 : Int32} {x2 : Int64}  {h : sm_H} {r : (Int32 × sm_H)} (hf : F_320_0 x1 x2 h = some r) (hs : (fun (r : Int32 × sm_H) => res = (some (.int r.1), r.2)) r) : Ex (P_G L xs) (RUN L xs d) (sm_lk P_t320) 0 0 [some (.ref 67), some (.int x1), some (.long x2), none, none, none] [] h res := by
  unfold F_320_0 at hf
  refine Ex.seg 3 (pc' := 5) (lc' := [some (.ref 67), some (.int x1), some (.long x2), none, none, none]) (st' := [.int 1, .int (h.1 67 3)]) (h' := h) (sg1 rfl rfl (sg1 rfl rfl (sg1 rfl rfl rfl))) ?_
  refine Ex.icmp rfl rfl (fun (c0 : ¬ ((h.1 67 3) = 1)) => ?_) (fun (c0 : ¬ ¬ ((h.1 67 3) = 1)) => ?_)
  · rw [if_neg c0] at hf
    exact Ex.weak (sm_le_n (sm_le_n (sm_le_n (sm_le_s (sm_le_s (sm_le_s sm_le_nil)))))) (B_320_17 hd  hf hs)
  · rw [if_pos (Classical.not_not.mp c0)] at hf
    refine Ex.seg 3 (pc' := 11) (lc' := [some (.ref 67), some (.int x1), some (.long x2), none, none, none]) (st' := [.int 1, .int 0, .ref 67]) (h' := h) (sg1 rfl rfl (sg1 rfl rfl (sg1 rfl rfl rfl))) ?_
    obtain ⟨q1, e_q1, hf⟩ := bnd hf
    refine Ex.callV (a := 67) (As := [.int 0, .int 1]) (r := []) (v := some (.int q1.1)) (h' := q1.2) rfl rfl (by decide) rfl (Nat.le_of_ble_eq_true rfl) rfl (E_314 (Nat.le_trans (by decide) hd) e_q1) rfl ?_
    refine Ex.ifc rfl rfl (fun (c0 : ¬ (q1.1 = 0)) => ?_) (fun (c0 : ¬ ¬ (q1.1 = 0)) => ?_)
    · rw [if_neg c0] at hf
      refine Ex.seg 3 (pc' := 24) (lc' := [some (.ref 67), some (.int x1), some (.long x2), none, none, none]) (st' := [.int 0, .ref 69]) (h' := q1.2) (sg1 rfl rfl (sg1 rfl rfl (sg1 rfl rfl rfl))) ?_
      obtain ⟨v2, e_v2, hf⟩ := bnd hf
      refine Ex.iald e_v2 rfl rfl ?_
      refine Ex.seg 6 (pc' := 33) (lc' := [some (.ref 67), some (.int x1), some (.long x2), none, some (.int v2), none]) (st' := [.int v2, .ref 67, .long 0, .long (Int32.toInt64 x1)]) (h' := q1.2) (sg1 rfl rfl (sg1 rfl rfl (sg1 rfl rfl (sg1 rfl rfl (sg1 rfl rfl (sg1 rfl rfl rfl)))))) ?_
      obtain ⟨q3, e_q3, hf⟩ := bnd hf
      refine Ex.callV (a := 67) (As := [.int v2]) (r := [.long 0, .long (Int32.toInt64 x1)]) (v := some (.int q3.1)) (h' := q3.2) rfl rfl (by decide) rfl (Nat.le_of_ble_eq_true rfl) rfl (E_305 (Nat.le_trans (by decide) hd) e_q3) rfl ?_
      refine Ex.seg 3 (pc' := 39) (lc' := [some (.ref 67), some (.int x1), some (.long x2), none, some (.int v2), none]) (st' := [.long (Int32.toInt64 (q3.1 - 1)), .long 0, .long (Int32.toInt64 x1)]) (h' := q3.2) (sg1 rfl rfl (sg1 rfl rfl (sg1 rfl rfl rfl))) ?_
      obtain ⟨q4, e_q4, hf⟩ := bnd hf
      refine Ex.callS (As := [.long (Int32.toInt64 x1), .long 0, .long (Int32.toInt64 (q3.1 - 1))]) (r := []) (v := some (.int q4.1)) (h' := q4.2) rfl rfl rfl rfl (Nat.le_of_ble_eq_true rfl) (E_315 (Nat.le_trans (by decide) hd) e_q4) rfl ?_
      refine Ex.ifc rfl rfl (fun (c0 : q4.1 = 0) => ?_) (fun (c0 : ¬ (q4.1 = 0)) => ?_)
      · rw [if_pos c0] at hf
        refine Ex.seg 4 (pc' := 52) (lc' := [some (.ref 67), some (.int x1), some (.long x2), none, some (.int v2), none]) (st' := [.int x1, .int v2, .ref 67, .ref 67]) (h' := q4.2) (sg1 rfl rfl (sg1 rfl rfl (sg1 rfl rfl (sg1 rfl rfl rfl)))) ?_
        obtain ⟨q5, e_q5, hf⟩ := bnd hf
        refine Ex.callV (a := 67) (As := [.int v2, .int x1]) (r := [.ref 67]) (v := some (.int q5.1)) (h' := q5.2) rfl rfl (by decide) rfl (Nat.le_of_ble_eq_true rfl) rfl (E_306 (Nat.le_trans (by decide) hd) e_q5) rfl ?_
        refine Ex.seg 1 (pc' := 56) (lc' := [some (.ref 67), some (.int x1), some (.long x2), none, some (.int v2), none]) (st' := [.long x2, .int q5.1, .ref 67]) (h' := q5.2) (sg1 rfl rfl rfl) ?_
        obtain ⟨q6, e_q6, hf⟩ := bnd hf
        refine Ex.callV (a := 67) (As := [.int q5.1, .long x2]) (r := []) (v := some (.int q6.1)) (h' := q6.2) rfl rfl (by decide) rfl (Nat.le_of_ble_eq_true rfl) rfl (E_317 (Nat.le_trans (by decide) hd) e_q6) rfl ?_
        refine Ex.seg 2 (pc' := 63) (lc' := [some (.ref 67), some (.int x1), some (.long x2), none, some (.int v2), some (.int q6.1)]) (st' := [.int q6.1]) (h' := q6.2) (sg1 rfl rfl (sg1 rfl rfl rfl)) ?_
        refine Ex.ifc rfl rfl (fun (c0 : q6.1 = 0) => ?_) (fun (c0 : ¬ (q6.1 = 0)) => ?_)
        · rw [if_pos c0] at hf
          refine Ex.seg 3 (pc' := 73) (lc' := [some (.ref 67), some (.int x1), some (.long x2), none, some (.int v2), some (.int q6.1)]) (st' := [.int v2, .ref 67, .ref 67]) (h' := q6.2) (sg1 rfl rfl (sg1 rfl rfl (sg1 rfl rfl rfl))) ?_
          obtain ⟨q7, e_q7, hf⟩ := bnd hf
          refine Ex.callV (a := 67) (As := [.int v2]) (r := [.ref 67]) (v := some (.int q7.1)) (h' := q7.2) rfl rfl (by decide) rfl (Nat.le_of_ble_eq_true rfl) rfl (E_307 (Nat.le_trans (by decide) hd) e_q7) rfl ?_
          obtain ⟨q8, e_q8, hf⟩ := bnd hf
          refine Ex.callV (a := 67) (As := [.int q7.1]) (r := []) (v := none) (h' := q8) rfl rfl (by decide) rfl (Nat.le_of_ble_eq_true rfl) rfl (E_308 (Nat.le_trans (by decide) hd) e_q8) rfl ?_
          refine Ex.seg 4 (pc' := 84) (lc' := [some (.ref 67), some (.int x1), some (.long x2), none, some (.int v2), some (.int q6.1)]) (st' := [.int x1, .int 0, .int v2, .ref 67]) (h' := q8) (sg1 rfl rfl (sg1 rfl rfl (sg1 rfl rfl (sg1 rfl rfl rfl)))) ?_
          obtain ⟨q9, e_q9, hf⟩ := bnd hf
          refine Ex.callV (a := 67) (As := [.int v2, .int 0, .int x1]) (r := []) (v := none) (h' := q9) rfl rfl (by decide) rfl (Nat.le_of_ble_eq_true rfl) rfl (E_310 (Nat.le_trans (by decide) hd) e_q9) rfl ?_
          refine Ex.seg 7 (pc' := 96) (lc' := [some (.ref 67), some (.int x1), some (.long x2), none, some (.int v2), some (.int q6.1)]) (st' := [.int v2, .ref 67, .int (x1 + 1), .int v2, .ref 67]) (h' := q9) (sg1 rfl rfl (sg1 rfl rfl (sg1 rfl rfl (sg1 rfl rfl (sg1 rfl rfl (sg1 rfl rfl (sg1 rfl rfl rfl))))))) ?_
          obtain ⟨q10, e_q10, hf⟩ := bnd hf
          refine Ex.callV (a := 67) (As := [.int v2]) (r := [.int (x1 + 1), .int v2, .ref 67]) (v := some (.int q10.1)) (h' := q10.2) rfl rfl (by decide) rfl (Nat.le_of_ble_eq_true rfl) rfl (E_305 (Nat.le_trans (by decide) hd) e_q10) rfl ?_
          obtain ⟨q11, e_q11, hf⟩ := bnd hf
          refine Ex.callV (a := 67) (As := [.int v2, .int (x1 + 1), .int q10.1]) (r := []) (v := none) (h' := q11) rfl rfl (by decide) rfl (Nat.le_of_ble_eq_true rfl) rfl (E_310 (Nat.le_trans (by decide) hd) e_q11) rfl ?_
          refine Ex.seg 1 (pc' := 103) (lc' := [some (.ref 67), some (.int x1), some (.long x2), none, some (.int v2), some (.int q6.1)]) (st' := [.int 0]) (h' := q11) (sg1 rfl rfl rfl) ?_
          obtain rfl := Option.some.inj hf
          exact Ex.iret rfl rfl (fun c0 => by cases c0) hs
        · rw [if_neg c0] at hf
          refine Ex.seg 1 (pc' := 68) (lc' := [some (.ref 67), some (.int x1), some (.long x2), none, some (.int v2), some (.int q6.1)]) (st' := [.int q6.1]) (h' := q6.2) (sg1 rfl rfl rfl) ?_
          obtain rfl := Option.some.inj hf
          exact Ex.iret rfl rfl (fun c0 => by cases c0) hs
      · rw [if_neg c0] at hf
        refine Ex.seg 1 (pc' := 46) (lc' := [some (.ref 67), some (.int x1), some (.long x2), none, some (.int v2), none]) (st' := [.int 2]) (h' := q4.2) (sg1 rfl rfl rfl) ?_
        obtain rfl := Option.some.inj hf
        exact Ex.iret rfl rfl (fun c0 => by cases c0) hs
    · rw [if_pos (Classical.not_not.mp c0)] at hf
      exact Ex.weak (sm_le_n (sm_le_n (sm_le_n (sm_le_s (sm_le_s (sm_le_s sm_le_nil)))))) (B_320_17 hd  hf hs)
theorem E_320 {L : Nat} {xs : Nat → Int32} {d : Nat} (hd : 4 ≤ d) {x1 : Int32} {x2 : Int64} {h : sm_H} {r : Int32 × sm_H} (hf : F_320 x1 x2 h = some r) : RUN L xs d 320 [.ref 67, .int x1, .long x2] h (some (.int r.1), r.2) := by
  obtain ⟨d, rfl⟩ : ∃ e, d = e + 1 := ⟨d - 1, by omega⟩
  exact ⟨Nat.le_of_ble_eq_true rfl, B_320_0 (by omega) hf rfl⟩
theorem B_321_90 {L : Nat} {xs : Nat → Int32} {d : Nat} (hd : 2 ≤ d) {res : Option Value × sm_H} {y1 : Int32} {y2 : Int32} {y3 : Int32} {y4 : Int32}  {h : sm_H} {r : (Int32 × sm_H)} (hf : F_321_90 y1 y2 y3 y4 h = some r) (hs : (fun (r : Int32 × sm_H) => res = (some (.int r.1), r.2)) r) : Ex (P_G L xs) (RUN L xs d) (sm_lk P_t321) 0 90 [some (.ref 67), some (.int y1), some (.int y2), some (.int y3), some (.int y4)] [] h res := by
  unfold F_321_90 at hf
  refine Ex.seg 3 (pc' := 95) (lc' := [some (.ref 67), some (.int y1), some (.int y2), some (.int y3), some (.int y4)]) (st' := [.int y3, .ref 75]) (h' := h) (sg1 rfl rfl (sg1 rfl rfl (sg1 rfl rfl rfl))) ?_
  obtain ⟨v1, e_v1, hf⟩ := bnd hf
  refine Ex.iald e_v1 rfl rfl ?_
  refine Ex.seg 1 (pc' := 97) (lc' := [some (.ref 67), some (.int y1), some (.int y2), some (.int y3), some (.int y4)]) (st' := [.int 2, .int v1]) (h' := h) (sg1 rfl rfl rfl) ?_
  refine Ex.icmp rfl rfl (fun (c0 : ¬ (v1 = 2)) => ?_) (fun (c0 : ¬ ¬ (v1 = 2)) => ?_)
  · rw [if_neg c0] at hf
    refine Ex.seg 3 (pc' := 108) (lc' := [some (.ref 67), some (.int y1), some (.int y2), some (.int y3), some (.int y4)]) (st' := [.int y2, .ref 67, .ref 67]) (h' := h) (sg1 rfl rfl (sg1 rfl rfl (sg1 rfl rfl rfl))) ?_
    obtain ⟨q2, e_q2, hf⟩ := bnd hf
    refine Ex.callV (a := 67) (As := [.int y2]) (r := [.ref 67]) (v := some (.int q2.1)) (h' := q2.2) rfl rfl (by decide) rfl (Nat.le_of_ble_eq_true rfl) rfl (E_307 (Nat.le_trans (by decide) hd) e_q2) rfl ?_
    obtain ⟨q3, e_q3, hf⟩ := bnd hf
    refine Ex.callV (a := 67) (As := [.int q2.1]) (r := []) (v := none) (h' := q3) rfl rfl (by decide) rfl (Nat.le_of_ble_eq_true rfl) rfl (E_308 (Nat.le_trans (by decide) hd) e_q3) rfl ?_
    refine Ex.seg 4 (pc' := 118) (lc' := [some (.ref 67), some (.int y1), some (.int y2), some (.int y3), some (.int y4)]) (st' := [.int y1, .int 0, .int y2, .ref 67]) (h' := q3) (sg1 rfl rfl (sg1 rfl rfl (sg1 rfl rfl (sg1 rfl rfl rfl)))) ?_
    obtain ⟨q4, e_q4, hf⟩ := bnd hf
    refine Ex.callV (a := 67) (As := [.int y2, .int 0, .int y1]) (r := []) (v := none) (h' := q4) rfl rfl (by decide) rfl (Nat.le_of_ble_eq_true rfl) rfl (E_310 (Nat.le_trans (by decide) hd) e_q4) rfl ?_
    refine Ex.seg 5 (pc' := 126) (lc' := [some (.ref 67), some (.int y1), some (.int y2), some (.int y3), some (.int y4)]) (st' := [.int y3, .ref 67, .int 0, .int y3, .ref 67]) (h' := q4) (sg1 rfl rfl (sg1 rfl rfl (sg1 rfl rfl (sg1 rfl rfl (sg1 rfl rfl rfl))))) ?_
    obtain ⟨q5, e_q5, hf⟩ := bnd hf
    refine Ex.callV (a := 67) (As := [.int y3]) (r := [.int 0, .int y3, .ref 67]) (v := some (.int q5.1)) (h' := q5.2) rfl rfl (by decide) rfl (Nat.le_of_ble_eq_true rfl) rfl (E_305 (Nat.le_trans (by decide) hd) e_q5) rfl ?_
    obtain ⟨q6, e_q6, hf⟩ := bnd hf
    refine Ex.callV (a := 67) (As := [.int y3, .int 0, .int q5.1]) (r := []) (v := none) (h' := q6) rfl rfl (by decide) rfl (Nat.le_of_ble_eq_true rfl) rfl (E_310 (Nat.le_trans (by decide) hd) e_q6) rfl ?_
    refine Ex.seg 7 (pc' := 140) (lc' := [some (.ref 67), some (.int y1), some (.int y2), some (.int y3), some (.int y4)]) (st' := [.int y2, .ref 67, .int (y1 + y4), .int y2, .ref 67]) (h' := q6) (sg1 rfl rfl (sg1 rfl rfl (sg1 rfl rfl (sg1 rfl rfl (sg1 rfl rfl (sg1 rfl rfl (sg1 rfl rfl rfl))))))) ?_
    obtain ⟨q7, e_q7, hf⟩ := bnd hf
    refine Ex.callV (a := 67) (As := [.int y2]) (r := [.int (y1 + y4), .int y2, .ref 67]) (v := some (.int q7.1)) (h' := q7.2) rfl rfl (by decide) rfl (Nat.le_of_ble_eq_true rfl) rfl (E_305 (Nat.le_trans (by decide) hd) e_q7) rfl ?_
    obtain ⟨q8, e_q8, hf⟩ := bnd hf
    refine Ex.callV (a := 67) (As := [.int y2, .int (y1 + y4), .int q7.1]) (r := []) (v := none) (h' := q8) rfl rfl (by decide) rfl (Nat.le_of_ble_eq_true rfl) rfl (E_310 (Nat.le_trans (by decide) hd) e_q8) rfl ?_
    refine Ex.seg 1 (pc' := 147) (lc' := [some (.ref 67), some (.int y1), some (.int y2), some (.int y3), some (.int y4)]) (st' := [.int 0]) (h' := q8) (sg1 rfl rfl rfl) ?_
    obtain rfl := Option.some.inj hf
    exact Ex.iret rfl rfl (fun c0 => by cases c0) hs
  · rw [if_pos (Classical.not_not.mp c0)] at hf
    refine Ex.seg 1 (pc' := 101) (lc' := [some (.ref 67), some (.int y1), some (.int y2), some (.int y3), some (.int y4)]) (st' := [.int y2]) (h' := h) (sg1 rfl rfl rfl) ?_
    obtain ⟨q9, e_q9, hf⟩ := bnd hf
    refine Ex.callS (As := [.int y2]) (r := []) (v := some (.int q9.1)) (h' := q9.2) rfl rfl rfl rfl (Nat.le_of_ble_eq_true rfl) (E_313 (Nat.le_trans (by decide) hd) e_q9) rfl ?_
    obtain rfl := Option.some.inj hf
    exact Ex.iret rfl rfl (fun c0 => by cases c0) hs
theorem B_321_46 {L : Nat} {xs : Nat → Int32} {d : Nat} (hd : 2 ≤ d) {res : Option Value × sm_H} {y1 : Int32} {y2 : Int32} {y3 : Int32} {z0 : Int32}  {h : sm_H} {r : (Int32 × sm_H)} (hf : F_321_46 y1 y2 y3 z0 h = some r) (hs : (fun (r : Int32 × sm_H) => res = (some (.int r.1), r.2)) r) : Ex (P_G L xs) (RUN L xs d) (sm_lk P_t321) 0 46 [some (.ref 67), some (.int y1), some (.int y2), some (.int y3), none] [.int z0] h res := by
  unfold F_321_46 at hf
  refine Ex.seg 6 (pc' := 53) (lc' := [some (.ref 67), some (.int y1), some (.int y2), some (.int y3), some (.int z0)]) (st' := [.int y2, .ref 67, .long 0, .long (Int32.toInt64 y1)]) (h' := h) (sg1 rfl rfl (sg1 rfl rfl (sg1 rfl rfl (sg1 rfl rfl (sg1 rfl rfl (sg1 rfl rfl rfl)))))) ?_
  obtain ⟨q10, e_q10, hf⟩ := bnd hf
  refine Ex.callV (a := 67) (As := [.int y2]) (r := [.long 0, .long (Int32.toInt64 y1)]) (v := some (.int q10.1)) (h' := q10.2) rfl rfl (by decide) rfl (Nat.le_of_ble_eq_true rfl) rfl (E_305 (Nat.le_trans (by decide) hd) e_q10) rfl ?_
  refine Ex.seg 3 (pc' := 60) (lc' := [some (.ref 67), some (.int y1), some (.int y2), some (.int y3), some (.int z0)]) (st' := [.long (Int32.toInt64 (q10.1 - z0)), .long 0, .long (Int32.toInt64 y1)]) (h' := q10.2) (sg1 rfl rfl (sg1 rfl rfl (sg1 rfl rfl rfl))) ?_
  obtain ⟨q11, e_q11, hf⟩ := bnd hf
  refine Ex.callS (As := [.long (Int32.toInt64 y1), .long 0, .long (Int32.toInt64 (q10.1 - z0))]) (r := []) (v := some (.int q11.1)) (h' := q11.2) rfl rfl rfl rfl (Nat.le_of_ble_eq_true rfl) (E_315 (Nat.le_trans (by decide) hd) e_q11) rfl ?_
  refine Ex.ifc rfl rfl (fun (c0 : q11.1 = 0) => ?_) (fun (c0 : ¬ (q11.1 = 0)) => ?_)
  · rw [if_pos c0] at hf
    refine Ex.seg 2 (pc' := 71) (lc' := [some (.ref 67), some (.int y1), some (.int y2), some (.int y3), some (.int z0)]) (st' := [.int 1, .int z0]) (h' := q11.2) (sg1 rfl rfl (sg1 rfl rfl rfl)) ?_
    refine Ex.icmp rfl rfl (fun (c0 : ¬ (z0 = 1)) => ?_) (fun (c0 : ¬ ¬ (z0 = 1)) => ?_)
    · rw [if_neg c0] at hf
      exact Ex.weak (sm_le_s (sm_le_s (sm_le_s (sm_le_s (sm_le_s sm_le_nil))))) (B_321_90 hd  hf hs)
    · rw [if_pos (Classical.not_not.mp c0)] at hf
      refine Ex.seg 3 (pc' := 77) (lc' := [some (.ref 67), some (.int y1), some (.int y2), some (.int y3), some (.int z0)]) (st' := [.int y1, .int y2, .ref 67]) (h' := q11.2) (sg1 rfl rfl (sg1 rfl rfl (sg1 rfl rfl rfl))) ?_
      obtain ⟨q12, e_q12, hf⟩ := bnd hf
      refine Ex.callV (a := 67) (As := [.int y2, .int y1]) (r := []) (v := some (.int q12.1)) (h' := q12.2) rfl rfl (by decide) rfl (Nat.le_of_ble_eq_true rfl) rfl (E_306 (Nat.le_trans (by decide) hd) e_q12) rfl ?_
      refine Ex.seg 2 (pc' := 82) (lc' := [some (.ref 67), some (.int y1), some (.int y2), some (.int y3), some (.int z0)]) (st' := [.int y3, .ref 67, .int q12.1]) (h' := q12.2) (sg1 rfl rfl (sg1 rfl rfl rfl)) ?_
      obtain ⟨q13, e_q13, hf⟩ := bnd hf
      refine Ex.callV (a := 67) (As := [.int y3]) (r := [.int q12.1]) (v := some (.int q13.1)) (h' := q13.2) rfl rfl (by decide) rfl (Nat.le_of_ble_eq_true rfl) rfl (E_307 (Nat.le_trans (by decide) hd) e_q13) rfl ?_
      refine Ex.icmp rfl rfl (fun (c0 : q12.1 = q13.1) => ?_) (fun (c0 : ¬ (q12.1 = q13.1)) => ?_)
      · rw [if_pos c0] at hf
        exact Ex.weak (sm_le_s (sm_le_s (sm_le_s (sm_le_s (sm_le_s sm_le_nil))))) (B_321_90 hd  hf hs)
      · rw [if_neg c0] at hf
        refine Ex.seg 1 (pc' := 89) (lc' := [some (.ref 67), some (.int y1), some (.int y2), some (.int y3), some (.int z0)]) (st' := [.int 3]) (h' := q13.2) (sg1 rfl rfl rfl) ?_
        obtain rfl := Option.some.inj hf
        exact Ex.iret rfl rfl (fun c0 => by cases c0) hs
  · rw [if_neg c0] at hf
    refine Ex.seg 1 (pc' := 67) (lc' := [some (.ref 67), some (.int y1), some (.int y2), some (.int y3), some (.int z0)]) (st' := [.int 2]) (h' := q11.2) (sg1 rfl rfl rfl) ?_
    obtain rfl := Option.some.inj hf
    exact Ex.iret rfl rfl (fun c0 => by cases c0) hs
theorem B_321_17 {L : Nat} {xs : Nat → Int32} {d : Nat} (hd : 2 ≤ d) {res : Option Value × sm_H}   {h : sm_H} {r : (Int32 × sm_H)} (hf : F_321_17  h = some r) (hs : (fun (r : Int32 × sm_H) => res = (some (.int r.1), r.2)) r) : Ex (P_G L xs) (RUN L xs d) (sm_lk P_t321) 0 17 [none, none, none, none, none] [] h res := by
  unfold F_321_17 at hf
  refine Ex.seg 1 (pc' := 18) (lc' := [none, none, none, none, none]) (st' := [.int 1]) (h' := h) (sg1 rfl rfl rfl) ?_
  obtain rfl := Option.some.inj hf
  exact Ex.iret rfl rfl (fun c0 => by cases c0) hs
theorem B_321_0 {L : Nat} {xs : Nat → Int32} {d : Nat} (hd : 2 ≤ d) {res : Option Value × sm_H} {x1 : Int32}  {h : sm_H} {r : (Int32 × sm_H)} (hf : F_321_0 x1 h = some r) (hs : (fun (r : Int32 × sm_H) => res = (some (.int r.1), r.2)) r) : Ex (P_G L xs) (RUN L xs d) (sm_lk P_t321) 0 0 [some (.ref 67), some (.int x1), none, none, none] [] h res := by
  unfold F_321_0 at hf
  refine Ex.seg 3 (pc' := 5) (lc' := [some (.ref 67), some (.int x1), none, none, none]) (st' := [.int 2, .int (h.1 67 3)]) (h' := h) (sg1 rfl rfl (sg1 rfl rfl (sg1 rfl rfl rfl))) ?_
  refine Ex.icmp rfl rfl (fun (c0 : ¬ ((h.1 67 3) = 2)) => ?_) (fun (c0 : ¬ ¬ ((h.1 67 3) = 2)) => ?_)
  · rw [if_neg c0] at hf
    exact Ex.weak (sm_le_n (sm_le_n (sm_le_s (sm_le_s (sm_le_s sm_le_nil))))) (B_321_17 hd  hf hs)
  · rw [if_pos (Classical.not_not.mp c0)] at hf
    refine Ex.seg 3 (pc' := 11) (lc' := [some (.ref 67), some (.int x1), none, none, none]) (st' := [.int 2, .int 0, .ref 67]) (h' := h) (sg1 rfl rfl (sg1 rfl rfl (sg1 rfl rfl rfl))) ?_
    obtain ⟨q14, e_q14, hf⟩ := bnd hf
    refine Ex.callV (a := 67) (As := [.int 0, .int 2]) (r := []) (v := some (.int q14.1)) (h' := q14.2) rfl rfl (by decide) rfl (Nat.le_of_ble_eq_true rfl) rfl (E_314 (Nat.le_trans (by decide) hd) e_q14) rfl ?_
    refine Ex.ifc rfl rfl (fun (c0 : ¬ (q14.1 = 0)) => ?_) (fun (c0 : ¬ ¬ (q14.1 = 0)) => ?_)
    · rw [if_neg c0] at hf
      refine Ex.seg 3 (pc' := 24) (lc' := [some (.ref 67), some (.int x1), none, none, none]) (st' := [.int 0, .ref 69]) (h' := q14.2) (sg1 rfl rfl (sg1 rfl rfl (sg1 rfl rfl rfl))) ?_
      obtain ⟨v15, e_v15, hf⟩ := bnd hf
      refine Ex.iald e_v15 rfl rfl ?_
      refine Ex.seg 4 (pc' := 31) (lc' := [some (.ref 67), some (.int x1), some (.int v15), none, none]) (st' := [.int 1, .ref 69]) (h' := q14.2) (sg1 rfl rfl (sg1 rfl rfl (sg1 rfl rfl (sg1 rfl rfl rfl)))) ?_
      obtain ⟨v16, e_v16, hf⟩ := bnd hf
      refine Ex.iald e_v16 rfl rfl ?_
      refine Ex.seg 3 (pc' := 35) (lc' := [some (.ref 67), some (.int x1), some (.int v15), some (.int v16), none]) (st' := [.int v16, .ref 67]) (h' := q14.2) (sg1 rfl rfl (sg1 rfl rfl (sg1 rfl rfl rfl))) ?_
      obtain ⟨q17, e_q17, hf⟩ := bnd hf
      refine Ex.callV (a := 67) (As := [.int v16]) (r := []) (v := some (.int q17.1)) (h' := q17.2) rfl rfl (by decide) rfl (Nat.le_of_ble_eq_true rfl) rfl (E_307 (Nat.le_trans (by decide) hd) e_q17) rfl ?_
      refine Ex.ifc rfl rfl (fun (c0 : ¬ (q17.1 = 0)) => ?_) (fun (c0 : ¬ ¬ (q17.1 = 0)) => ?_)
      · rw [if_neg c0] at hf
        refine Ex.seg 1 (pc' := 46) (lc' := [some (.ref 67), some (.int x1), some (.int v15), some (.int v16), none]) (st' := [.int 1]) (h' := q17.2) (sg1 rfl rfl rfl) ?_
        exact Ex.weak (sm_le_s (sm_le_s (sm_le_s (sm_le_s (sm_le_s sm_le_nil))))) (B_321_46 hd  hf hs)
      · rw [if_pos (Classical.not_not.mp c0)] at hf
        refine Ex.seg 2 (pc' := 46) (lc' := [some (.ref 67), some (.int x1), some (.int v15), some (.int v16), none]) (st' := [.int 0]) (h' := q17.2) (sg1 rfl rfl (sg1 rfl rfl rfl)) ?_
        exact Ex.weak (sm_le_s (sm_le_s (sm_le_s (sm_le_s (sm_le_s sm_le_nil))))) (B_321_46 hd  hf hs)
    · rw [if_pos (Classical.not_not.mp c0)] at hf
      exact Ex.weak (sm_le_n (sm_le_n (sm_le_s (sm_le_s (sm_le_s sm_le_nil))))) (B_321_17 hd  hf hs)
theorem E_321 {L : Nat} {xs : Nat → Int32} {d : Nat} (hd : 3 ≤ d) {x1 : Int32} {h : sm_H} {r : Int32 × sm_H} (hf : F_321 x1 h = some r) : RUN L xs d 321 [.ref 67, .int x1] h (some (.int r.1), r.2) := by
  obtain ⟨d, rfl⟩ : ∃ e, d = e + 1 := ⟨d - 1, by omega⟩
  exact ⟨Nat.le_of_ble_eq_true rfl, B_321_0 (by omega) hf rfl⟩
theorem B_322_135 {L : Nat} {xs : Nat → Int32} {d : Nat} (hd : 2 ≤ d) {res : Option Value × sm_H} {z0 : Int32}  {h : sm_H} {r : (Int32 × sm_H)} (hf : F_322_135 z0 h = some r) (hs : (fun (r : Int32 × sm_H) => res = (some (.int r.1), r.2)) r) : Ex (P_G L xs) (RUN L xs d) (sm_lk P_t322) 0 135 [none, none, none, none, none] [.int z0] h res := by
  unfold F_322_135 at hf
  obtain rfl := Option.some.inj hf
  exact Ex.iret rfl rfl (fun c0 => by cases c0) hs
theorem B_322_90 {L : Nat} {xs : Nat → Int32} {d : Nat} (hd : 2 ≤ d) {res : Option Value × sm_H} {y1 : Int32} {y2 : Int32} {y3 : Int32} {y4 : Int32}  {h : sm_H} {r : (Int32 × sm_H)} (hf : F_322_90 y1 y2 y3 y4 h = some r) (hs : (fun (r : Int32 × sm_H) => res = (some (.int r.1), r.2)) r) : Ex (P_G L xs) (RUN L xs d) (sm_lk P_t322) 0 90 [some (.ref 67), some (.int y1), some (.int y2), some (.int y3), some (.int y4)] [] h res := by
  unfold F_322_90 at hf
  refine Ex.seg 3 (pc' := 93) (lc' := [some (.ref 67), some (.int y1), some (.int y2), some (.int y3), some (.int y4)]) (st' := [.int y2, .ref 67, .ref 67]) (h' := h) (sg1 rfl rfl (sg1 rfl rfl (sg1 rfl rfl rfl))) ?_
  obtain ⟨q1, e_q1, hf⟩ := bnd hf
  refine Ex.callV (a := 67) (As := [.int y2]) (r := [.ref 67]) (v := some (.int q1.1)) (h' := q1.2) rfl rfl (by decide) rfl (Nat.le_of_ble_eq_true rfl) rfl (E_307 (Nat.le_trans (by decide) hd) e_q1) rfl ?_
  obtain ⟨q2, e_q2, hf⟩ := bnd hf
  refine Ex.callV (a := 67) (As := [.int q1.1]) (r := []) (v := none) (h' := q2) rfl rfl (by decide) rfl (Nat.le_of_ble_eq_true rfl) rfl (E_308 (Nat.le_trans (by decide) hd) e_q2) rfl ?_
  refine Ex.seg 4 (pc' := 103) (lc' := [some (.ref 67), some (.int y1), some (.int y2), some (.int y3), some (.int y4)]) (st' := [.int y1, .int 0, .int y2, .ref 67]) (h' := q2) (sg1 rfl rfl (sg1 rfl rfl (sg1 rfl rfl (sg1 rfl rfl rfl)))) ?_
  obtain ⟨q3, e_q3, hf⟩ := bnd hf
  refine Ex.callV (a := 67) (As := [.int y2, .int 0, .int y1]) (r := []) (v := none) (h' := q3) rfl rfl (by decide) rfl (Nat.le_of_ble_eq_true rfl) rfl (E_310 (Nat.le_trans (by decide) hd) e_q3) rfl ?_
  refine Ex.seg 7 (pc' := 114) (lc' := [some (.ref 67), some (.int y1), some (.int y2), some (.int y3), some (.int y4)]) (st' := [.int y2, .ref 67, .int (y1 + y4), .int y2, .ref 67]) (h' := q3) (sg1 rfl rfl (sg1 rfl rfl (sg1 rfl rfl (sg1 rfl rfl (sg1 rfl rfl (sg1 rfl rfl (sg1 rfl rfl rfl))))))) ?_
  obtain ⟨q4, e_q4, hf⟩ := bnd hf
  refine Ex.callV (a := 67) (As := [.int y2]) (r := [.int (y1 + y4), .int y2, .ref 67]) (v := some (.int q4.1)) (h' := q4.2) rfl rfl (by decide) rfl (Nat.le_of_ble_eq_true rfl) rfl (E_305 (Nat.le_trans (by decide) hd) e_q4) rfl ?_
  obtain ⟨q5, e_q5, hf⟩ := bnd hf
  refine Ex.callV (a := 67) (As := [.int y2, .int (y1 + y4), .int q4.1]) (r := []) (v := none) (h' := q5) rfl rfl (by decide) rfl (Nat.le_of_ble_eq_true rfl) rfl (E_310 (Nat.le_trans (by decide) hd) e_q5) rfl ?_
  refine Ex.seg 4 (pc' := 124) (lc' := [some (.ref 67), some (.int y1), some (.int y2), some (.int y3), some (.int y4)]) (st' := [.int y1, .int 0, .int y3, .ref 67]) (h' := q5) (sg1 rfl rfl (sg1 rfl rfl (sg1 rfl rfl (sg1 rfl rfl rfl)))) ?_
  obtain ⟨q6, e_q6, hf⟩ := bnd hf
  refine Ex.callV (a := 67) (As := [.int y3, .int 0, .int y1]) (r := []) (v := some (.int q6.1)) (h' := q6.2) rfl rfl (by decide) rfl (Nat.le_of_ble_eq_true rfl) rfl (E_312 (Nat.le_trans (by decide) hd) e_q6) rfl ?_
  refine Ex.ifc rfl rfl (fun (c0 : q6.1 = 0) => ?_) (fun (c0 : ¬ (q6.1 = 0)) => ?_)
  · rw [if_pos c0] at hf
    refine Ex.seg 1 (pc' := 135) (lc' := [some (.ref 67), some (.int y1), some (.int y2), some (.int y3), some (.int y4)]) (st' := [.int 3]) (h' := q6.2) (sg1 rfl rfl rfl) ?_
    exact Ex.weak (sm_le_n (sm_le_n (sm_le_n (sm_le_n (sm_le_n sm_le_nil))))) (B_322_135 hd  hf hs)
  · rw [if_neg c0] at hf
    refine Ex.seg 2 (pc' := 135) (lc' := [some (.ref 67), some (.int y1), some (.int y2), some (.int y3), some (.int y4)]) (st' := [.int 0]) (h' := q6.2) (sg1 rfl rfl (sg1 rfl rfl rfl)) ?_
    exact Ex.weak (sm_le_n (sm_le_n (sm_le_n (sm_le_n (sm_le_n sm_le_nil))))) (B_322_135 hd  hf hs)
theorem B_322_46 {L : Nat} {xs : Nat → Int32} {d : Nat} (hd : 2 ≤ d) {res : Option Value × sm_H} {y1 : Int32} {y2 : Int32} {y3 : Int32} {z0 : Int32}  {h : sm_H} {r : (Int32 × sm_H)} (hf : F_322_46 y1 y2 y3 z0 h = some r) (hs : (fun (r : Int32 × sm_H) => res = (some (.int r.1), r.2)) r) : Ex (P_G L xs) (RUN L xs d) (sm_lk P_t322) 0 46 [some (.ref 67), some (.int y1), some (.int y2), some (.int y3), none] [.int z0] h res := by
  unfold F_322_46 at hf
  refine Ex.seg 6 (pc' := 53) (lc' := [some (.ref 67), some (.int y1), some (.int y2), some (.int y3), some (.int z0)]) (st' := [.int y2, .ref 67, .long 0, .long (Int32.toInt64 y1)]) (h' := h) (sg1 rfl rfl (sg1 rfl rfl (sg1 rfl rfl (sg1 rfl rfl (sg1 rfl rfl (sg1 rfl rfl rfl)))))) ?_
  obtain ⟨q7, e_q7, hf⟩ := bnd hf
  refine Ex.callV (a := 67) (As := [.int y2]) (r := [.long 0, .long (Int32.toInt64 y1)]) (v := some (.int q7.1)) (h' := q7.2) rfl rfl (by decide) rfl (Nat.le_of_ble_eq_true rfl) rfl (E_305 (Nat.le_trans (by decide) hd) e_q7) rfl ?_
  refine Ex.seg 3 (pc' := 60) (lc' := [some (.ref 67), some (.int y1), some (.int y2), some (.int y3), some (.int z0)]) (st' := [.long (Int32.toInt64 (q7.1 - z0)), .long 0, .long (Int32.toInt64 y1)]) (h' := q7.2) (sg1 rfl rfl (sg1 rfl rfl (sg1 rfl rfl rfl))) ?_
  obtain ⟨q8, e_q8, hf⟩ := bnd hf
  refine Ex.callS (As := [.long (Int32.toInt64 y1), .long 0, .long (Int32.toInt64 (q7.1 - z0))]) (r := []) (v := some (.int q8.1)) (h' := q8.2) rfl rfl rfl rfl (Nat.le_of_ble_eq_true rfl) (E_315 (Nat.le_trans (by decide) hd) e_q8) rfl ?_
  refine Ex.ifc rfl rfl (fun (c0 : q8.1 = 0) => ?_) (fun (c0 : ¬ (q8.1 = 0)) => ?_)
  · rw [if_pos c0] at hf
    refine Ex.seg 2 (pc' := 71) (lc' := [some (.ref 67), some (.int y1), some (.int y2), some (.int y3), some (.int z0)]) (st' := [.int 1, .int z0]) (h' := q8.2) (sg1 rfl rfl (sg1 rfl rfl rfl)) ?_
    refine Ex.icmp rfl rfl (fun (c0 : ¬ (z0 = 1)) => ?_) (fun (c0 : ¬ ¬ (z0 = 1)) => ?_)
    · rw [if_neg c0] at hf
      exact Ex.weak (sm_le_s (sm_le_s (sm_le_s (sm_le_s (sm_le_s sm_le_nil))))) (B_322_90 hd  hf hs)
    · rw [if_pos (Classical.not_not.mp c0)] at hf
      refine Ex.seg 3 (pc' := 77) (lc' := [some (.ref 67), some (.int y1), some (.int y2), some (.int y3), some (.int z0)]) (st' := [.int y1, .int y2, .ref 67]) (h' := q8.2) (sg1 rfl rfl (sg1 rfl rfl (sg1 rfl rfl rfl))) ?_
      obtain ⟨q9, e_q9, hf⟩ := bnd hf
      refine Ex.callV (a := 67) (As := [.int y2, .int y1]) (r := []) (v := some (.int q9.1)) (h' := q9.2) rfl rfl (by decide) rfl (Nat.le_of_ble_eq_true rfl) rfl (E_306 (Nat.le_trans (by decide) hd) e_q9) rfl ?_
      refine Ex.seg 2 (pc' := 82) (lc' := [some (.ref 67), some (.int y1), some (.int y2), some (.int y3), some (.int z0)]) (st' := [.int y3, .ref 67, .int q9.1]) (h' := q9.2) (sg1 rfl rfl (sg1 rfl rfl rfl)) ?_
      obtain ⟨q10, e_q10, hf⟩ := bnd hf
      refine Ex.callV (a := 67) (As := [.int y3]) (r := [.int q9.1]) (v := some (.int q10.1)) (h' := q10.2) rfl rfl (by decide) rfl (Nat.le_of_ble_eq_true rfl) rfl (E_307 (Nat.le_trans (by decide) hd) e_q10) rfl ?_
      refine Ex.icmp rfl rfl (fun (c0 : q9.1 = q10.1) => ?_) (fun (c0 : ¬ (q9.1 = q10.1)) => ?_)
      · rw [if_pos c0] at hf
        exact Ex.weak (sm_le_s (sm_le_s (sm_le_s (sm_le_s (sm_le_s sm_le_nil))))) (B_322_90 hd  hf hs)
      · rw [if_neg c0] at hf
        refine Ex.seg 1 (pc' := 89) (lc' := [some (.ref 67), some (.int y1), some (.int y2), some (.int y3), some (.int z0)]) (st' := [.int 3]) (h' := q10.2) (sg1 rfl rfl rfl) ?_
        obtain rfl := Option.some.inj hf
        exact Ex.iret rfl rfl (fun c0 => by cases c0) hs
  · rw [if_neg c0] at hf
    refine Ex.seg 1 (pc' := 67) (lc' := [some (.ref 67), some (.int y1), some (.int y2), some (.int y3), some (.int z0)]) (st' := [.int 2]) (h' := q8.2) (sg1 rfl rfl rfl) ?_
    obtain rfl := Option.some.inj hf
    exact Ex.iret rfl rfl (fun c0 => by cases c0) hs
theorem B_322_17 {L : Nat} {xs : Nat → Int32} {d : Nat} (hd : 2 ≤ d) {res : Option Value × sm_H}   {h : sm_H} {r : (Int32 × sm_H)} (hf : F_322_17  h = some r) (hs : (fun (r : Int32 × sm_H) => res = (some (.int r.1), r.2)) r) : Ex (P_G L xs) (RUN L xs d) (sm_lk P_t322) 0 17 [none, none, none, none, none] [] h res := by
  unfold F_322_17 at hf
  refine Ex.seg 1 (pc' := 18) (lc' := [none, none, none, none, none]) (st' := [.int 1]) (h' := h) (sg1 rfl rfl rfl) ?_
  obtain rfl := Option.some.inj hf
  exact Ex.iret rfl rfl (fun c0 => by cases c0) hs
theorem B_322_0 {L : Nat} {xs : Nat → Int32} {d : Nat} (hd : 2 ≤ d) {res : Option Value × sm_H} {x1 : Int32}  {h : sm_H} {r : (Int32 × sm_H)} (hf : F_322_0 x1 h = some r) (hs : (fun (r : Int32 × sm_H) => res = (some (.int r.1), r.2)) r) : Ex (P_G L xs) (RUN L xs d) (sm_lk P_t322) 0 0 [some (.ref 67), some (.int x1), none, none, none] [] h res := by
  unfold F_322_0 at hf
  refine Ex.seg 3 (pc' := 5) (lc' := [some (.ref 67), some (.int x1), none, none, none]) (st' := [.int 2, .int (h.1 67 3)]) (h' := h) (sg1 rfl rfl (sg1 rfl rfl (sg1 rfl rfl rfl))) ?_
  refine Ex.icmp rfl rfl (fun (c0 : ¬ ((h.1 67 3) = 2)) => ?_) (fun (c0 : ¬ ¬ ((h.1 67 3) = 2)) => ?_)
  · rw [if_neg c0] at hf
    exact Ex.weak (sm_le_n (sm_le_n (sm_le_s (sm_le_s (sm_le_s sm_le_nil))))) (B_322_17 hd  hf hs)
  · rw [if_pos (Classical.not_not.mp c0)] at hf
    refine Ex.seg 3 (pc' := 11) (lc' := [some (.ref 67), some (.int x1), none, none, none]) (st' := [.int 2, .int 0, .ref 67]) (h' := h) (sg1 rfl rfl (sg1 rfl rfl (sg1 rfl rfl rfl))) ?_
    obtain ⟨q11, e_q11, hf⟩ := bnd hf
    refine Ex.callV (a := 67) (As := [.int 0, .int 2]) (r := []) (v := some (.int q11.1)) (h' := q11.2) rfl rfl (by decide) rfl (Nat.le_of_ble_eq_true rfl) rfl (E_314 (Nat.le_trans (by decide) hd) e_q11) rfl ?_
    refine Ex.ifc rfl rfl (fun (c0 : ¬ (q11.1 = 0)) => ?_) (fun (c0 : ¬ ¬ (q11.1 = 0)) => ?_)
    · rw [if_neg c0] at hf
      refine Ex.seg 3 (pc' := 24) (lc' := [some (.ref 67), some (.int x1), none, none, none]) (st' := [.int 0, .ref 69]) (h' := q11.2) (sg1 rfl rfl (sg1 rfl rfl (sg1 rfl rfl rfl))) ?_
      obtain ⟨v12, e_v12, hf⟩ := bnd hf
      refine Ex.iald e_v12 rfl rfl ?_
      refine Ex.seg 4 (pc' := 31) (lc' := [some (.ref 67), some (.int x1), some (.int v12), none, none]) (st' := [.int 1, .ref 69]) (h' := q11.2) (sg1 rfl rfl (sg1 rfl rfl (sg1 rfl rfl (sg1 rfl rfl rfl)))) ?_
      obtain ⟨v13, e_v13, hf⟩ := bnd hf
      refine Ex.iald e_v13 rfl rfl ?_
      refine Ex.seg 3 (pc' := 35) (lc' := [some (.ref 67), some (.int x1), some (.int v12), some (.int v13), none]) (st' := [.int v13, .ref 67]) (h' := q11.2) (sg1 rfl rfl (sg1 rfl rfl (sg1 rfl rfl rfl))) ?_
      obtain ⟨q14, e_q14, hf⟩ := bnd hf
      refine Ex.callV (a := 67) (As := [.int v13]) (r := []) (v := some (.int q14.1)) (h' := q14.2) rfl rfl (by decide) rfl (Nat.le_of_ble_eq_true rfl) rfl (E_307 (Nat.le_trans (by decide) hd) e_q14) rfl ?_
      refine Ex.ifc rfl rfl (fun (c0 : ¬ (q14.1 = 0)) => ?_) (fun (c0 : ¬ ¬ (q14.1 = 0)) => ?_)
      · rw [if_neg c0] at hf
        refine Ex.seg 1 (pc' := 46) (lc' := [some (.ref 67), some (.int x1), some (.int v12), some (.int v13), none]) (st' := [.int 1]) (h' := q14.2) (sg1 rfl rfl rfl) ?_
        exact Ex.weak (sm_le_s (sm_le_s (sm_le_s (sm_le_s (sm_le_s sm_le_nil))))) (B_322_46 hd  hf hs)
      · rw [if_pos (Classical.not_not.mp c0)] at hf
        refine Ex.seg 2 (pc' := 46) (lc' := [some (.ref 67), some (.int x1), some (.int v12), some (.int v13), none]) (st' := [.int 0]) (h' := q14.2) (sg1 rfl rfl (sg1 rfl rfl rfl)) ?_
        exact Ex.weak (sm_le_s (sm_le_s (sm_le_s (sm_le_s (sm_le_s sm_le_nil))))) (B_322_46 hd  hf hs)
    · rw [if_pos (Classical.not_not.mp c0)] at hf
      exact Ex.weak (sm_le_n (sm_le_n (sm_le_s (sm_le_s (sm_le_s sm_le_nil))))) (B_322_17 hd  hf hs)
theorem E_322 {L : Nat} {xs : Nat → Int32} {d : Nat} (hd : 3 ≤ d) {x1 : Int32} {h : sm_H} {r : Int32 × sm_H} (hf : F_322 x1 h = some r) : RUN L xs d 322 [.ref 67, .int x1] h (some (.int r.1), r.2) := by
  obtain ⟨d, rfl⟩ : ∃ e, d = e + 1 := ⟨d - 1, by omega⟩
  exact ⟨Nat.le_of_ble_eq_true rfl, B_322_0 (by omega) hf rfl⟩
theorem B_323_85 {L : Nat} {xs : Nat → Int32} {d : Nat} (hd : 2 ≤ d) {res : Option Value × sm_H} {y1 : Int32} {y2 : Int32} {z0 : Int32}  {h : sm_H} {r : (Int32 × sm_H)} (hf : F_323_85 y1 y2 z0 h = some r) (hs : (fun (r : Int32 × sm_H) => res = (some (.int r.1), r.2)) r) : Ex (P_G L xs) (RUN L xs d) (sm_lk P_t323) 0 85 [some (.ref 67), some (.int y1), some (.int y2), none] [.int z0] h res := by
  unfold F_323_85 at hf
  refine Ex.seg 2 (pc' := 87) (lc' := [some (.ref 67), some (.int y1), some (.int y2), some (.int z0)]) (st' := [.int z0]) (h' := h) (sg1 rfl rfl (sg1 rfl rfl rfl)) ?_
  refine Ex.ifc rfl rfl (fun (c0 : ¬ (z0 = 0)) => ?_) (fun (c0 : ¬ ¬ (z0 = 0)) => ?_)
  · rw [if_neg c0] at hf
    refine Ex.seg 3 (pc' := 97) (lc' := [some (.ref 67), some (.int y1), some (.int y2), some (.int z0)]) (st' := [.int y2, .ref 75]) (h' := h) (sg1 rfl rfl (sg1 rfl rfl (sg1 rfl rfl rfl))) ?_
    obtain ⟨v1, e_v1, hf⟩ := bnd hf
    refine Ex.iald e_v1 rfl rfl ?_
    refine Ex.seg 1 (pc' := 99) (lc' := [some (.ref 67), some (.int y1), some (.int y2), some (.int z0)]) (st' := [.int 2, .int v1]) (h' := h) (sg1 rfl rfl rfl) ?_
    refine Ex.icmp rfl rfl (fun (c0 : ¬ (v1 = 2)) => ?_) (fun (c0 : ¬ ¬ (v1 = 2)) => ?_)
    · rw [if_neg c0] at hf
      refine Ex.seg 3 (pc' := 110) (lc' := [some (.ref 67), some (.int y1), some (.int y2), some (.int z0)]) (st' := [.int y2, .ref 67, .ref 67]) (h' := h) (sg1 rfl rfl (sg1 rfl rfl (sg1 rfl rfl rfl))) ?_
      obtain ⟨q2, e_q2, hf⟩ := bnd hf
      refine Ex.callV (a := 67) (As := [.int y2]) (r := [.ref 67]) (v := some (.int q2.1)) (h' := q2.2) rfl rfl (by decide) rfl (Nat.le_of_ble_eq_true rfl) rfl (E_307 (Nat.le_trans (by decide) hd) e_q2) rfl ?_
      obtain ⟨q3, e_q3, hf⟩ := bnd hf
      refine Ex.callV (a := 67) (As := [.int q2.1]) (r := []) (v := none) (h' := q3) rfl rfl (by decide) rfl (Nat.le_of_ble_eq_true rfl) rfl (E_308 (Nat.le_trans (by decide) hd) e_q3) rfl ?_
      refine Ex.seg 5 (pc' := 121) (lc' := [some (.ref 67), some (.int y1), some (.int y2), some (.int z0)]) (st' := [.int y1, .ref 67, .int 0, .int y1, .ref 67]) (h' := q3) (sg1 rfl rfl (sg1 rfl rfl (sg1 rfl rfl (sg1 rfl rfl (sg1 rfl rfl rfl))))) ?_
      obtain ⟨q4, e_q4, hf⟩ := bnd hf
      refine Ex.callV (a := 67) (As := [.int y1]) (r := [.int 0, .int y1, .ref 67]) (v := some (.int q4.1)) (h' := q4.2) rfl rfl (by decide) rfl (Nat.le_of_ble_eq_true rfl) rfl (E_305 (Nat.le_trans (by decide) hd) e_q4) rfl ?_
      obtain ⟨q5, e_q5, hf⟩ := bnd hf
      refine Ex.callV (a := 67) (As := [.int y1, .int 0, .int q4.1]) (r := []) (v := none) (h' := q5) rfl rfl (by decide) rfl (Nat.le_of_ble_eq_true rfl) rfl (E_310 (Nat.le_trans (by decide) hd) e_q5) rfl ?_
      refine Ex.seg 1 (pc' := 128) (lc' := [some (.ref 67), some (.int y1), some (.int y2), some (.int z0)]) (st' := [.int 0]) (h' := q5) (sg1 rfl rfl rfl) ?_
      obtain rfl := Option.some.inj hf
      exact Ex.iret rfl rfl (fun c0 => by cases c0) hs
    · rw [if_pos (Classical.not_not.mp c0)] at hf
      refine Ex.seg 1 (pc' := 103) (lc' := [some (.ref 67), some (.int y1), some (.int y2), some (.int z0)]) (st' := [.int y1]) (h' := h) (sg1 rfl rfl rfl) ?_
      obtain ⟨q6, e_q6, hf⟩ := bnd hf
      refine Ex.callS (As := [.int y1]) (r := []) (v := some (.int q6.1)) (h' := q6.2) rfl rfl rfl rfl (Nat.le_of_ble_eq_true rfl) (E_313 (Nat.le_trans (by decide) hd) e_q6) rfl ?_
      obtain rfl := Option.some.inj hf
      exact Ex.iret rfl rfl (fun c0 => by cases c0) hs
  · rw [if_pos (Classical.not_not.mp c0)] at hf
    refine Ex.seg 1 (pc' := 91) (lc' := [some (.ref 67), some (.int y1), some (.int y2), some (.int z0)]) (st' := [.int 3]) (h' := h) (sg1 rfl rfl rfl) ?_
    obtain rfl := Option.some.inj hf
    exact Ex.iret rfl rfl (fun c0 => by cases c0) hs
theorem B_323_84 {L : Nat} {xs : Nat → Int32} {d : Nat} (hd : 2 ≤ d) {res : Option Value × sm_H} {y1 : Int32} {y2 : Int32}  {h : sm_H} {r : (Int32 × sm_H)} (hf : F_323_84 y1 y2 h = some r) (hs : (fun (r : Int32 × sm_H) => res = (some (.int r.1), r.2)) r) : Ex (P_G L xs) (RUN L xs d) (sm_lk P_t323) 0 84 [some (.ref 67), some (.int y1), some (.int y2), none] [] h res := by
  unfold F_323_84 at hf
  refine Ex.seg 1 (pc' := 85) (lc' := [some (.ref 67), some (.int y1), some (.int y2), none]) (st' := [.int 0]) (h' := h) (sg1 rfl rfl rfl) ?_
  exact Ex.weak (sm_le_s (sm_le_s (sm_le_s (sm_le_s sm_le_nil)))) (B_323_85 hd  hf hs)
theorem B_323_17 {L : Nat} {xs : Nat → Int32} {d : Nat} (hd : 2 ≤ d) {res : Option Value × sm_H}   {h : sm_H} {r : (Int32 × sm_H)} (hf : F_323_17  h = some r) (hs : (fun (r : Int32 × sm_H) => res = (some (.int r.1), r.2)) r) : Ex (P_G L xs) (RUN L xs d) (sm_lk P_t323) 0 17 [none, none, none, none] [] h res := by
  unfold F_323_17 at hf
  refine Ex.seg 1 (pc' := 18) (lc' := [none, none, none, none]) (st' := [.int 1]) (h' := h) (sg1 rfl rfl rfl) ?_
  obtain rfl := Option.some.inj hf
  exact Ex.iret rfl rfl (fun c0 => by cases c0) hs
theorem B_323_0 {L : Nat} {xs : Nat → Int32} {d : Nat} (hd : 2 ≤ d) {res : Option Value × sm_H}   {h : sm_H} {r : (Int32 × sm_H)} (hf : F_323_0  h = some r) (hs : (fun (r : Int32 × sm_H) => res = (some (.int r.1), r.2)) r) : Ex (P_G L xs) (RUN L xs d) (sm_lk P_t323) 0 0 [some (.ref 67), none, none, none] [] h res := by
  unfold F_323_0 at hf
  refine Ex.seg 3 (pc' := 5) (lc' := [some (.ref 67), none, none, none]) (st' := [.int 2, .int (h.1 67 3)]) (h' := h) (sg1 rfl rfl (sg1 rfl rfl (sg1 rfl rfl rfl))) ?_
  refine Ex.icmp rfl rfl (fun (c0 : ¬ ((h.1 67 3) = 2)) => ?_) (fun (c0 : ¬ ¬ ((h.1 67 3) = 2)) => ?_)
  · rw [if_neg c0] at hf
    exact Ex.weak (sm_le_n (sm_le_s (sm_le_s (sm_le_s sm_le_nil)))) (B_323_17 hd  hf hs)
  · rw [if_pos (Classical.not_not.mp c0)] at hf
    refine Ex.seg 3 (pc' := 11) (lc' := [some (.ref 67), none, none, none]) (st' := [.int 2, .int 0, .ref 67]) (h' := h) (sg1 rfl rfl (sg1 rfl rfl (sg1 rfl rfl rfl))) ?_
    obtain ⟨q7, e_q7, hf⟩ := bnd hf
    refine Ex.callV (a := 67) (As := [.int 0, .int 2]) (r := []) (v := some (.int q7.1)) (h' := q7.2) rfl rfl (by decide) rfl (Nat.le_of_ble_eq_true rfl) rfl (E_314 (Nat.le_trans (by decide) hd) e_q7) rfl ?_
    refine Ex.ifc rfl rfl (fun (c0 : ¬ (q7.1 = 0)) => ?_) (fun (c0 : ¬ ¬ (q7.1 = 0)) => ?_)
    · rw [if_neg c0] at hf
      refine Ex.seg 3 (pc' := 24) (lc' := [some (.ref 67), none, none, none]) (st' := [.int 0, .ref 69]) (h' := q7.2) (sg1 rfl rfl (sg1 rfl rfl (sg1 rfl rfl rfl))) ?_
      obtain ⟨v8, e_v8, hf⟩ := bnd hf
      refine Ex.iald e_v8 rfl rfl ?_
      refine Ex.seg 4 (pc' := 31) (lc' := [some (.ref 67), some (.int v8), none, none]) (st' := [.int 1, .ref 69]) (h' := q7.2) (sg1 rfl rfl (sg1 rfl rfl (sg1 rfl rfl (sg1 rfl rfl rfl)))) ?_
      obtain ⟨v9, e_v9, hf⟩ := bnd hf
      refine Ex.iald e_v9 rfl rfl ?_
      refine Ex.seg 3 (pc' := 35) (lc' := [some (.ref 67), some (.int v8), some (.int v9), none]) (st' := [.int v8, .ref 67]) (h' := q7.2) (sg1 rfl rfl (sg1 rfl rfl (sg1 rfl rfl rfl))) ?_
      obtain ⟨q10, e_q10, hf⟩ := bnd hf
      refine Ex.callV (a := 67) (As := [.int v8]) (r := []) (v := some (.int q10.1)) (h' := q10.2) rfl rfl (by decide) rfl (Nat.le_of_ble_eq_true rfl) rfl (E_307 (Nat.le_trans (by decide) hd) e_q10) rfl ?_
      refine Ex.ifc rfl rfl (fun (c0 : ¬ (q10.1 = 0)) => ?_) (fun (c0 : ¬ ¬ (q10.1 = 0)) => ?_)
      · rw [if_neg c0] at hf
        refine Ex.seg 2 (pc' := 59) (lc' := [some (.ref 67), some (.int v8), some (.int v9), none]) (st' := [.int v9, .ref 67]) (h' := q10.2) (sg1 rfl rfl (sg1 rfl rfl rfl)) ?_
        obtain ⟨q11, e_q11, hf⟩ := bnd hf
        refine Ex.callV (a := 67) (As := [.int v9]) (r := []) (v := some (.int q11.1)) (h' := q11.2) rfl rfl (by decide) rfl (Nat.le_of_ble_eq_true rfl) rfl (E_305 (Nat.le_trans (by decide) hd) e_q11) rfl ?_
        refine Ex.seg 1 (pc' := 63) (lc' := [some (.ref 67), some (.int v8), some (.int v9), none]) (st' := [.int 1, .int q11.1]) (h' := q11.2) (sg1 rfl rfl rfl) ?_
        refine Ex.icmp rfl rfl (fun (c0 : ¬ (q11.1 = 1)) => ?_) (fun (c0 : ¬ ¬ (q11.1 = 1)) => ?_)
        · rw [if_neg c0] at hf
          exact Ex.weak (sm_le_s (sm_le_s (sm_le_s (sm_le_s sm_le_nil)))) (B_323_84 hd  hf hs)
        · rw [if_pos (Classical.not_not.mp c0)] at hf
          refine Ex.seg 3 (pc' := 69) (lc' := [some (.ref 67), some (.int v8), some (.int v9), none]) (st' := [.int 0, .int v9, .ref 67]) (h' := q11.2) (sg1 rfl rfl (sg1 rfl rfl (sg1 rfl rfl rfl))) ?_
          obtain ⟨q12, e_q12, hf⟩ := bnd hf
          refine Ex.callV (a := 67) (As := [.int v9, .int 0]) (r := []) (v := some (.int q12.1)) (h' := q12.2) rfl rfl (by decide) rfl (Nat.le_of_ble_eq_true rfl) rfl (E_306 (Nat.le_trans (by decide) hd) e_q12) rfl ?_
          refine Ex.seg 2 (pc' := 74) (lc' := [some (.ref 67), some (.int v8), some (.int v9), none]) (st' := [.int v8, .ref 67, .int q12.1]) (h' := q12.2) (sg1 rfl rfl (sg1 rfl rfl rfl)) ?_
          obtain ⟨q13, e_q13, hf⟩ := bnd hf
          refine Ex.callV (a := 67) (As := [.int v8]) (r := [.int q12.1]) (v := some (.int q13.1)) (h' := q13.2) rfl rfl (by decide) rfl (Nat.le_of_ble_eq_true rfl) rfl (E_307 (Nat.le_trans (by decide) hd) e_q13) rfl ?_
          refine Ex.icmp rfl rfl (fun (c0 : ¬ (q12.1 = q13.1)) => ?_) (fun (c0 : ¬ ¬ (q12.1 = q13.1)) => ?_)
          · rw [if_neg c0] at hf
            exact Ex.weak (sm_le_s (sm_le_s (sm_le_s (sm_le_s sm_le_nil)))) (B_323_84 hd  hf hs)
          · rw [if_pos (Classical.not_not.mp c0)] at hf
            refine Ex.seg 2 (pc' := 85) (lc' := [some (.ref 67), some (.int v8), some (.int v9), none]) (st' := [.int 1]) (h' := q13.2) (sg1 rfl rfl (sg1 rfl rfl rfl)) ?_
            exact Ex.weak (sm_le_s (sm_le_s (sm_le_s (sm_le_s sm_le_nil)))) (B_323_85 hd  hf hs)
      · rw [if_pos (Classical.not_not.mp c0)] at hf
        refine Ex.seg 2 (pc' := 43) (lc' := [some (.ref 67), some (.int v8), some (.int v9), none]) (st' := [.int v9, .ref 67]) (h' := q10.2) (sg1 rfl rfl (sg1 rfl rfl rfl)) ?_
        obtain ⟨q14, e_q14, hf⟩ := bnd hf
        refine Ex.callV (a := 67) (As := [.int v9]) (r := []) (v := some (.int q14.1)) (h' := q14.2) rfl rfl (by decide) rfl (Nat.le_of_ble_eq_true rfl) rfl (E_305 (Nat.le_trans (by decide) hd) e_q14) rfl ?_
        refine Ex.ifc rfl rfl (fun (c0 : ¬ (q14.1 = 0)) => ?_) (fun (c0 : ¬ ¬ (q14.1 = 0)) => ?_)
        · rw [if_neg c0] at hf
          refine Ex.seg 2 (pc' := 85) (lc' := [some (.ref 67), some (.int v8), some (.int v9), none]) (st' := [.int 0]) (h' := q14.2) (sg1 rfl rfl (sg1 rfl rfl rfl)) ?_
          exact Ex.weak (sm_le_s (sm_le_s (sm_le_s (sm_le_s sm_le_nil)))) (B_323_85 hd  hf hs)
        · rw [if_pos (Classical.not_not.mp c0)] at hf
          refine Ex.seg 2 (pc' := 85) (lc' := [some (.ref 67), some (.int v8), some (.int v9), none]) (st' := [.int 1]) (h' := q14.2) (sg1 rfl rfl (sg1 rfl rfl rfl)) ?_
          exact Ex.weak (sm_le_s (sm_le_s (sm_le_s (sm_le_s sm_le_nil)))) (B_323_85 hd  hf hs)
    · rw [if_pos (Classical.not_not.mp c0)] at hf
      exact Ex.weak (sm_le_n (sm_le_s (sm_le_s (sm_le_s sm_le_nil)))) (B_323_17 hd  hf hs)
theorem E_323 {L : Nat} {xs : Nat → Int32} {d : Nat} (hd : 3 ≤ d)  {h : sm_H} {r : Int32 × sm_H} (hf : F_323  h = some r) : RUN L xs d 323 [.ref 67] h (some (.int r.1), r.2) := by
  obtain ⟨d, rfl⟩ : ∃ e, d = e + 1 := ⟨d - 1, by omega⟩
  exact ⟨Nat.le_of_ble_eq_true rfl, B_323_0 (by omega) hf rfl⟩
theorem B_324_59B {L : Nat} {xs : Nat → Int32} {d : Nat} (hd : 2 ≤ d) {res : Option Value × sm_H} {S1 : (Int32 × Int32 × Int32 × Int32 × sm_H) → Prop} (hS1 : ∀ s, S1 s → Ex (P_G L xs) (RUN L xs d) (sm_lk P_t324) 0 59 [some (.ref 67), some (.int s.1), some (.int s.2.1), some (.int s.2.2.1), some (.int s.2.2.2.1)] [] s.2.2.2.2 res) {s : (Int32 × Int32 × Int32 × Int32 × sm_H)}  {r : ((Int32 × Int32 × Int32 × Int32 × sm_H) ⊕ (Int32 × sm_H))} (hf : F_324_59B s = some r) (hs : (Sum.elim S1 (fun (r : Int32 × sm_H) => res = (some (.int r.1), r.2))) r) : Ex (P_G L xs) (RUN L xs d) (sm_lk P_t324) 0 59 [some (.ref 67), some (.int s.1), some (.int s.2.1), some (.int s.2.2.1), some (.int s.2.2.2.1)] [] s.2.2.2.2 res := by
  unfold F_324_59B at hf
  refine Ex.seg 3 (pc' := 63) (lc' := [some (.ref 67), some (.int s.1), some (.int s.2.1), some (.int s.2.2.1), some (.int s.2.2.2.1)]) (st' := [.int s.2.2.1, .ref 67, .int s.2.2.2.1]) (h' := s.2.2.2.2) (sg1 rfl rfl (sg1 rfl rfl (sg1 rfl rfl rfl))) ?_
  obtain ⟨q1, e_q1, hf⟩ := bnd hf
  refine Ex.callV (a := 67) (As := [.int s.2.2.1]) (r := [.int s.2.2.2.1]) (v := some (.int q1.1)) (h' := q1.2) rfl rfl (by decide) rfl (Nat.le_of_ble_eq_true rfl) rfl (E_305 (Nat.le_trans (by decide) hd) e_q1) rfl ?_
  refine Ex.icmp rfl rfl (fun (c0 : q1.1 ≤ s.2.2.2.1) => ?_) (fun (c0 : ¬ (q1.1 ≤ s.2.2.2.1)) => ?_)
  · rw [if_pos c0] at hf
    refine Ex.seg 3 (pc' := 94) (lc' := [some (.ref 67), some (.int s.1), some (.int s.2.1), some (.int s.2.2.1), some (.int s.2.2.2.1)]) (st' := [.int s.2.2.1, .ref 67, .ref 67]) (h' := q1.2) (sg1 rfl rfl (sg1 rfl rfl (sg1 rfl rfl rfl))) ?_
    obtain ⟨q2, e_q2, hf⟩ := bnd hf
    refine Ex.callV (a := 67) (As := [.int s.2.2.1]) (r := [.ref 67]) (v := some (.int q2.1)) (h' := q2.2) rfl rfl (by decide) rfl (Nat.le_of_ble_eq_true rfl) rfl (E_307 (Nat.le_trans (by decide) hd) e_q2) rfl ?_
    obtain ⟨q3, e_q3, hf⟩ := bnd hf
    refine Ex.callV (a := 67) (As := [.int q2.1]) (r := []) (v := none) (h' := q3) rfl rfl (by decide) rfl (Nat.le_of_ble_eq_true rfl) rfl (E_308 (Nat.le_trans (by decide) hd) e_q3) rfl ?_
    refine Ex.seg 5 (pc' := 105) (lc' := [some (.ref 67), some (.int s.1), some (.int s.2.1), some (.int s.2.2.1), some (.int s.2.2.2.1)]) (st' := [.int s.2.2.1, .ref 67, .int 0, .int s.2.2.1, .ref 67]) (h' := q3) (sg1 rfl rfl (sg1 rfl rfl (sg1 rfl rfl (sg1 rfl rfl (sg1 rfl rfl rfl))))) ?_
    obtain ⟨q4, e_q4, hf⟩ := bnd hf
    refine Ex.callV (a := 67) (As := [.int s.2.2.1]) (r := [.int 0, .int s.2.2.1, .ref 67]) (v := some (.int q4.1)) (h' := q4.2) rfl rfl (by decide) rfl (Nat.le_of_ble_eq_true rfl) rfl (E_305 (Nat.le_trans (by decide) hd) e_q4) rfl ?_
    refine Ex.seg 2 (pc' := 110) (lc' := [some (.ref 67), some (.int s.1), some (.int s.2.1), some (.int s.2.2.1), some (.int s.2.2.2.1)]) (st' := [.int (q4.1 - s.2.1), .int 0, .int s.2.2.1, .ref 67]) (h' := q4.2) (sg1 rfl rfl (sg1 rfl rfl rfl)) ?_
    obtain ⟨q5, e_q5, hf⟩ := bnd hf
    refine Ex.callV (a := 67) (As := [.int s.2.2.1, .int 0, .int (q4.1 - s.2.1)]) (r := []) (v := none) (h' := q5) rfl rfl (by decide) rfl (Nat.le_of_ble_eq_true rfl) rfl (E_310 (Nat.le_trans (by decide) hd) e_q5) rfl ?_
    refine Ex.seg 2 (pc' := 115) (lc' := [some (.ref 67), some (.int s.1), some (.int s.2.1), some (.int s.2.2.1), some (.int s.2.2.2.1)]) (st' := [.int s.1, .ref 67]) (h' := q5) (sg1 rfl rfl (sg1 rfl rfl rfl)) ?_
    obtain ⟨q6, e_q6, hf⟩ := bnd hf
    refine Ex.callV (a := 67) (As := [.int s.1]) (r := []) (v := none) (h' := q6) rfl rfl (by decide) rfl (Nat.le_of_ble_eq_true rfl) rfl (E_309 (Nat.le_trans (by decide) hd) e_q6) rfl ?_
    refine Ex.seg 1 (pc' := 119) (lc' := [some (.ref 67), some (.int s.1), some (.int s.2.1), some (.int s.2.2.1), some (.int s.2.2.2.1)]) (st' := [.int 0]) (h' := q6) (sg1 rfl rfl rfl) ?_
    obtain rfl := Option.some.inj hf
    exact Ex.iret rfl rfl (fun c0 => by cases c0) hs
  · rw [if_neg c0] at hf
    refine Ex.seg 3 (pc' := 73) (lc' := [some (.ref 67), some (.int s.1), some (.int s.2.1), some (.int s.2.2.1), some (.int s.2.2.2.1)]) (st' := [.int s.2.2.2.1, .int s.2.2.1, .ref 67]) (h' := q1.2) (sg1 rfl rfl (sg1 rfl rfl (sg1 rfl rfl rfl))) ?_
    obtain ⟨q7, e_q7, hf⟩ := bnd hf
    refine Ex.callV (a := 67) (As := [.int s.2.2.1, .int s.2.2.2.1]) (r := []) (v := some (.int q7.1)) (h' := q7.2) rfl rfl (by decide) rfl (Nat.le_of_ble_eq_true rfl) rfl (E_306 (Nat.le_trans (by decide) hd) e_q7) rfl ?_
    refine Ex.seg 1 (pc' := 77) (lc' := [some (.ref 67), some (.int s.1), some (.int s.2.1), some (.int s.2.2.1), some (.int s.2.2.2.1)]) (st' := [.int s.1, .int q7.1]) (h' := q7.2) (sg1 rfl rfl rfl) ?_
    obtain ⟨q8, e_q8, hf⟩ := bnd hf
    refine Ex.callS (As := [.int s.1]) (r := [.int q7.1]) (v := some (.int q8.1)) (h' := q8.2) rfl rfl rfl rfl (Nat.le_of_ble_eq_true rfl) (E_294 (Nat.le_trans (by decide) hd) e_q8) rfl ?_
    refine Ex.icmp rfl rfl (fun (c0 : q7.1 = q8.1) => ?_) (fun (c0 : ¬ (q7.1 = q8.1)) => ?_)
    · rw [if_pos c0] at hf
      refine Ex.seg 1 (pc' := 88) (lc' := [some (.ref 67), some (.int s.1), some (.int s.2.1), some (.int s.2.2.1), some (.int (s.2.2.2.1 + 1))]) (st' := []) (h' := q8.2) (sg1 rfl rfl rfl) ?_
      obtain ⟨v9, e_v9, hf⟩ := bnd hf
      rw [Option.some.inj e_v9]
      refine Ex.seg 1 (pc' := 59) (lc' := [some (.ref 67), some (.int s.1), some (.int s.2.1), some (.int s.2.2.1), some (.int v9)]) (st' := []) (h' := q8.2) (sg1 rfl rfl rfl) ?_
      obtain rfl := Option.some.inj hf
      exact Ex.weak (sm_le_s (sm_le_s (sm_le_s (sm_le_s (sm_le_s sm_le_nil))))) (hS1 _ hs)
    · rw [if_neg c0] at hf
      refine Ex.seg 1 (pc' := 84) (lc' := [some (.ref 67), some (.int s.1), some (.int s.2.1), some (.int s.2.2.1), some (.int s.2.2.2.1)]) (st' := [.int 3]) (h' := q8.2) (sg1 rfl rfl rfl) ?_
      obtain rfl := Option.some.inj hf
      exact Ex.iret rfl rfl (fun c0 => by cases c0) hs
theorem B_324_59 {L : Nat} {xs : Nat → Int32} {d : Nat} (hd : 2 ≤ d) {res : Option Value × sm_H} {y1 : Int32} {y2 : Int32} {y3 : Int32} {y4 : Int32}  {h : sm_H} {r : (Int32 × sm_H)} (hf : F_324_59 y1 y2 y3 y4 h = some r) (hs : (fun (r : Int32 × sm_H) => res = (some (.int r.1), r.2)) r) : Ex (P_G L xs) (RUN L xs d) (sm_lk P_t324) 0 59 [some (.ref 67), some (.int y1), some (.int y2), some (.int y3), some (.int y4)] [] h res := by
  unfold F_324_59 at hf
  exact lp_ok (P := fun (s : (Int32 × Int32 × Int32 × Int32 × sm_H)) => Ex (P_G L xs) (RUN L xs d) (sm_lk P_t324) 0 59 [some (.ref 67), some (.int s.1), some (.int s.2.1), some (.int s.2.2.1), some (.int s.2.2.2.1)] [] s.2.2.2.2 res) (S := (fun (r : Int32 × sm_H) => res = (some (.int r.1), r.2))) (fun s x hx hsx => by
    intros
    exact B_324_59B hd  (fun _ q => q) hx hsx) 1000000 _ r hf hs
theorem B_324_24 {L : Nat} {xs : Nat → Int32} {d : Nat} (hd : 2 ≤ d) {res : Option Value × sm_H}   {h : sm_H} {r : (Int32 × sm_H)} (hf : F_324_24  h = some r) (hs : (fun (r : Int32 × sm_H) => res = (some (.int r.1), r.2)) r) : Ex (P_G L xs) (RUN L xs d) (sm_lk P_t324) 0 24 [none, none, none, none, none] [] h res := by
  unfold F_324_24 at hf
  refine Ex.seg 1 (pc' := 25) (lc' := [none, none, none, none, none]) (st' := [.int 1]) (h' := h) (sg1 rfl rfl rfl) ?_
  obtain rfl := Option.some.inj hf
  exact Ex.iret rfl rfl (fun c0 => by cases c0) hs
theorem B_324_0 {L : Nat} {xs : Nat → Int32} {d : Nat} (hd : 2 ≤ d) {res : Option Value × sm_H} {x1 : Int32} {x2 : Int32}  {h : sm_H} {r : (Int32 × sm_H)} (hf : F_324_0 x1 x2 h = some r) (hs : (fun (r : Int32 × sm_H) => res = (some (.int r.1), r.2)) r) : Ex (P_G L xs) (RUN L xs d) (sm_lk P_t324) 0 0 [some (.ref 67), some (.int x1), some (.int x2), none, none] [] h res := by
  unfold F_324_0 at hf
  refine Ex.seg 3 (pc' := 5) (lc' := [some (.ref 67), some (.int x1), some (.int x2), none, none]) (st' := [.int 1, .int (h.1 67 3)]) (h' := h) (sg1 rfl rfl (sg1 rfl rfl (sg1 rfl rfl rfl))) ?_
  refine Ex.icmp rfl rfl (fun (c0 : ¬ ((h.1 67 3) = 1)) => ?_) (fun (c0 : ¬ ¬ ((h.1 67 3) = 1)) => ?_)
  · rw [if_neg c0] at hf
    exact Ex.weak (sm_le_n (sm_le_n (sm_le_n (sm_le_s (sm_le_s sm_le_nil))))) (B_324_24 hd  hf hs)
  · rw [if_pos (Classical.not_not.mp c0)] at hf
    refine Ex.seg 3 (pc' := 11) (lc' := [some (.ref 67), some (.int x1), some (.int x2), none, none]) (st' := [.int 1, .int 0, .ref 67]) (h' := h) (sg1 rfl rfl (sg1 rfl rfl (sg1 rfl rfl rfl))) ?_
    obtain ⟨q10, e_q10, hf⟩ := bnd hf
    refine Ex.callV (a := 67) (As := [.int 0, .int 1]) (r := []) (v := some (.int q10.1)) (h' := q10.2) rfl rfl (by decide) rfl (Nat.le_of_ble_eq_true rfl) rfl (E_314 (Nat.le_trans (by decide) hd) e_q10) rfl ?_
    refine Ex.ifc rfl rfl (fun (c0 : q10.1 = 0) => ?_) (fun (c0 : ¬ (q10.1 = 0)) => ?_)
    · rw [if_pos c0] at hf
      exact Ex.weak (sm_le_n (sm_le_n (sm_le_n (sm_le_s (sm_le_s sm_le_nil))))) (B_324_24 hd  hf hs)
    · rw [if_neg c0] at hf
      refine Ex.seg 1 (pc' := 18) (lc' := [some (.ref 67), some (.int x1), some (.int x2), none, none]) (st' := [.int x1]) (h' := q10.2) (sg1 rfl rfl rfl) ?_
      obtain ⟨q11, e_q11, hf⟩ := bnd hf
      refine Ex.callS (As := [.int x1]) (r := []) (v := some (.int q11.1)) (h' := q11.2) rfl rfl rfl rfl (Nat.le_of_ble_eq_true rfl) (E_293 (Nat.le_trans (by decide) hd) e_q11) rfl ?_
      refine Ex.ifc rfl rfl (fun (c0 : ¬ (q11.1 = 0)) => ?_) (fun (c0 : ¬ ¬ (q11.1 = 0)) => ?_)
      · rw [if_neg c0] at hf
        refine Ex.seg 3 (pc' := 31) (lc' := [some (.ref 67), some (.int x1), some (.int x2), none, none]) (st' := [.int 0, .ref 69]) (h' := q11.2) (sg1 rfl rfl (sg1 rfl rfl (sg1 rfl rfl rfl))) ?_
        obtain ⟨v12, e_v12, hf⟩ := bnd hf
        refine Ex.iald e_v12 rfl rfl ?_
        refine Ex.seg 6 (pc' := 38) (lc' := [some (.ref 67), some (.int x1), some (.int x2), some (.int v12), none]) (st' := [.int v12, .ref 67, .long 0, .long (Int32.toInt64 x2)]) (h' := q11.2) (sg1 rfl rfl (sg1 rfl rfl (sg1 rfl rfl (sg1 rfl rfl (sg1 rfl rfl (sg1 rfl rfl rfl)))))) ?_
        obtain ⟨q13, e_q13, hf⟩ := bnd hf
        refine Ex.callV (a := 67) (As := [.int v12]) (r := [.long 0, .long (Int32.toInt64 x2)]) (v := some (.int q13.1)) (h' := q13.2) rfl rfl (by decide) rfl (Nat.le_of_ble_eq_true rfl) rfl (E_305 (Nat.le_trans (by decide) hd) e_q13) rfl ?_
        refine Ex.seg 1 (pc' := 42) (lc' := [some (.ref 67), some (.int x1), some (.int x2), some (.int v12), none]) (st' := [.long (Int32.toInt64 q13.1), .long 0, .long (Int32.toInt64 x2)]) (h' := q13.2) (sg1 rfl rfl rfl) ?_
        obtain ⟨q14, e_q14, hf⟩ := bnd hf
        refine Ex.callS (As := [.long (Int32.toInt64 x2), .long 0, .long (Int32.toInt64 q13.1)]) (r := []) (v := some (.int q14.1)) (h' := q14.2) rfl rfl rfl rfl (Nat.le_of_ble_eq_true rfl) (E_315 (Nat.le_trans (by decide) hd) e_q14) rfl ?_
        refine Ex.ifc rfl rfl (fun (c0 : q14.1 = 0) => ?_) (fun (c0 : ¬ (q14.1 = 0)) => ?_)
        · rw [if_pos c0] at hf
          refine Ex.seg 2 (pc' := 52) (lc' := [some (.ref 67), some (.int x1), some (.int x2), some (.int v12), none]) (st' := [.int v12, .ref 67]) (h' := q14.2) (sg1 rfl rfl (sg1 rfl rfl rfl)) ?_
          obtain ⟨q15, e_q15, hf⟩ := bnd hf
          refine Ex.callV (a := 67) (As := [.int v12]) (r := []) (v := some (.int q15.1)) (h' := q15.2) rfl rfl (by decide) rfl (Nat.le_of_ble_eq_true rfl) rfl (E_305 (Nat.le_trans (by decide) hd) e_q15) rfl ?_
          refine Ex.seg 3 (pc' := 59) (lc' := [some (.ref 67), some (.int x1), some (.int x2), some (.int v12), some (.int (q15.1 - x2))]) (st' := []) (h' := q15.2) (sg1 rfl rfl (sg1 rfl rfl (sg1 rfl rfl rfl))) ?_
          obtain ⟨v16, e_v16, hf⟩ := bnd hf
          rw [Option.some.inj e_v16]
          exact Ex.weak (sm_le_s (sm_le_s (sm_le_s (sm_le_s (sm_le_s sm_le_nil))))) (B_324_59 hd  hf hs)
        · rw [if_neg c0] at hf
          refine Ex.seg 1 (pc' := 49) (lc' := [some (.ref 67), some (.int x1), some (.int x2), some (.int v12), none]) (st' := [.int 2]) (h' := q14.2) (sg1 rfl rfl rfl) ?_
          obtain rfl := Option.some.inj hf
          exact Ex.iret rfl rfl (fun c0 => by cases c0) hs
      · rw [if_pos (Classical.not_not.mp c0)] at hf
        exact Ex.weak (sm_le_n (sm_le_n (sm_le_n (sm_le_s (sm_le_s sm_le_nil))))) (B_324_24 hd  hf hs)
theorem E_324 {L : Nat} {xs : Nat → Int32} {d : Nat} (hd : 3 ≤ d) {x1 : Int32} {x2 : Int32} {h : sm_H} {r : Int32 × sm_H} (hf : F_324 x1 x2 h = some r) : RUN L xs d 324 [.ref 67, .int x1, .int x2] h (some (.int r.1), r.2) := by
  obtain ⟨d, rfl⟩ : ∃ e, d = e + 1 := ⟨d - 1, by omega⟩
  exact ⟨Nat.le_of_ble_eq_true rfl, B_324_0 (by omega) hf rfl⟩
theorem B_325_87B {L : Nat} {xs : Nat → Int32} {d : Nat} (hd : 2 ≤ d) {res : Option Value × sm_H} {S1 : (Int32 × Int32 × Int32 × Int32 × sm_H) → Prop} (hS1 : ∀ s, S1 s → Ex (P_G L xs) (RUN L xs d) (sm_lk P_t325) 0 87 [some (.ref 67), some (.int s.1), some (.int s.2.1), some (.int s.2.2.1), some (.int s.2.2.2.1)] [] s.2.2.2.2 res) {s : (Int32 × Int32 × Int32 × Int32 × sm_H)}  {r : ((Int32 × Int32 × Int32 × Int32 × sm_H) ⊕ (Int32 × sm_H))} (hf : F_325_87B s = some r) (hs : (Sum.elim S1 (fun (r : Int32 × sm_H) => res = (some (.int r.1), r.2))) r) : Ex (P_G L xs) (RUN L xs d) (sm_lk P_t325) 0 87 [some (.ref 67), some (.int s.1), some (.int s.2.1), some (.int s.2.2.1), some (.int s.2.2.2.1)] [] s.2.2.2.2 res := by
  unfold F_325_87B at hf
  refine Ex.seg 2 (pc' := 90) (lc' := [some (.ref 67), some (.int s.1), some (.int s.2.1), some (.int s.2.2.1), some (.int s.2.2.2.1)]) (st' := [.int s.1, .int s.2.2.2.1]) (h' := s.2.2.2.2) (sg1 rfl rfl (sg1 rfl rfl rfl)) ?_
  refine Ex.icmp rfl rfl (fun (c0 : s.1 ≤ s.2.2.2.1) => ?_) (fun (c0 : ¬ (s.1 ≤ s.2.2.2.1)) => ?_)
  · rw [if_pos c0] at hf
    refine Ex.seg 1 (pc' := 115) (lc' := [some (.ref 67), some (.int s.1), some (.int s.2.1), some (.int s.2.2.1), some (.int s.2.2.2.1)]) (st' := [.int 0]) (h' := s.2.2.2.2) (sg1 rfl rfl rfl) ?_
    obtain rfl := Option.some.inj hf
    exact Ex.iret rfl rfl (fun c0 => by cases c0) hs
  · rw [if_neg c0] at hf
    refine Ex.seg 6 (pc' := 99) (lc' := [some (.ref 67), some (.int s.1), some (.int s.2.1), some (.int s.2.2.1), some (.int s.2.2.2.1)]) (st' := [.int (s.2.2.1 - 1), .int s.2.1, .ref 67, .ref 67]) (h' := s.2.2.2.2) (sg1 rfl rfl (sg1 rfl rfl (sg1 rfl rfl (sg1 rfl rfl (sg1 rfl rfl (sg1 rfl rfl rfl)))))) ?_
    obtain ⟨q1, e_q1, hf⟩ := bnd hf
    refine Ex.callV (a := 67) (As := [.int s.2.1, .int (s.2.2.1 - 1)]) (r := [.ref 67]) (v := some (.int q1.1)) (h' := q1.2) rfl rfl (by decide) rfl (Nat.le_of_ble_eq_true rfl) rfl (E_306 (Nat.le_trans (by decide) hd) e_q1) rfl ?_
    obtain ⟨q2, e_q2, hf⟩ := bnd hf
    refine Ex.callS (As := [.int q1.1]) (r := [.ref 67]) (v := some (.int q2.1)) (h' := q2.2) rfl rfl rfl rfl (Nat.le_of_ble_eq_true rfl) (E_294 (Nat.le_trans (by decide) hd) e_q2) rfl ?_
    obtain ⟨q3, e_q3, hf⟩ := bnd hf
    refine Ex.callV (a := 67) (As := [.int q2.1]) (r := []) (v := none) (h' := q3) rfl rfl (by decide) rfl (Nat.le_of_ble_eq_true rfl) rfl (E_309 (Nat.le_trans (by decide) hd) e_q3) rfl ?_
    refine Ex.seg 1 (pc' := 111) (lc' := [some (.ref 67), some (.int s.1), some (.int s.2.1), some (.int s.2.2.1), some (.int (s.2.2.2.1 + 1))]) (st' := []) (h' := q3) (sg1 rfl rfl rfl) ?_
    obtain ⟨v4, e_v4, hf⟩ := bnd hf
    rw [Option.some.inj e_v4]
    refine Ex.seg 1 (pc' := 87) (lc' := [some (.ref 67), some (.int s.1), some (.int s.2.1), some (.int s.2.2.1), some (.int v4)]) (st' := []) (h' := q3) (sg1 rfl rfl rfl) ?_
    obtain rfl := Option.some.inj hf
    exact Ex.weak (sm_le_s (sm_le_s (sm_le_s (sm_le_s (sm_le_s sm_le_nil))))) (hS1 _ hs)
theorem B_325_87 {L : Nat} {xs : Nat → Int32} {d : Nat} (hd : 2 ≤ d) {res : Option Value × sm_H} {y1 : Int32} {y2 : Int32} {y3 : Int32} {y4 : Int32}  {h : sm_H} {r : (Int32 × sm_H)} (hf : F_325_87 y1 y2 y3 y4 h = some r) (hs : (fun (r : Int32 × sm_H) => res = (some (.int r.1), r.2)) r) : Ex (P_G L xs) (RUN L xs d) (sm_lk P_t325) 0 87 [some (.ref 67), some (.int y1), some (.int y2), some (.int y3), some (.int y4)] [] h res := by
  unfold F_325_87 at hf
  exact lp_ok (P := fun (s : (Int32 × Int32 × Int32 × Int32 × sm_H)) => Ex (P_G L xs) (RUN L xs d) (sm_lk P_t325) 0 87 [some (.ref 67), some (.int s.1), some (.int s.2.1), some (.int s.2.2.1), some (.int s.2.2.2.1)] [] s.2.2.2.2 res) (S := (fun (r : Int32 × sm_H) => res = (some (.int r.1), r.2))) (fun s x hx hsx => by
    intros
    exact B_325_87B hd  (fun _ q => q) hx hsx) 1000000 _ r hf hs
theorem B_325_64 {L : Nat} {xs : Nat → Int32} {d : Nat} (hd : 2 ≤ d) {res : Option Value × sm_H}   {h : sm_H} {r : (Int32 × sm_H)} (hf : F_325_64  h = some r) (hs : (fun (r : Int32 × sm_H) => res = (some (.int r.1), r.2)) r) : Ex (P_G L xs) (RUN L xs d) (sm_lk P_t325) 0 64 [none, none, none, none, none] [] h res := by
  unfold F_325_64 at hf
  refine Ex.seg 1 (pc' := 65) (lc' := [none, none, none, none, none]) (st' := [.int 3]) (h' := h) (sg1 rfl rfl rfl) ?_
  obtain rfl := Option.some.inj hf
  exact Ex.iret rfl rfl (fun c0 => by cases c0) hs
theorem B_325_17 {L : Nat} {xs : Nat → Int32} {d : Nat} (hd : 2 ≤ d) {res : Option Value × sm_H}   {h : sm_H} {r : (Int32 × sm_H)} (hf : F_325_17  h = some r) (hs : (fun (r : Int32 × sm_H) => res = (some (.int r.1), r.2)) r) : Ex (P_G L xs) (RUN L xs d) (sm_lk P_t325) 0 17 [none, none, none, none, none] [] h res := by
  unfold F_325_17 at hf
  refine Ex.seg 1 (pc' := 18) (lc' := [none, none, none, none, none]) (st' := [.int 1]) (h' := h) (sg1 rfl rfl rfl) ?_
  obtain rfl := Option.some.inj hf
  exact Ex.iret rfl rfl (fun c0 => by cases c0) hs
theorem B_325_0 {L : Nat} {xs : Nat → Int32} {d : Nat} (hd : 2 ≤ d) {res : Option Value × sm_H} {x1 : Int32}  {h : sm_H} {r : (Int32 × sm_H)} (hf : F_325_0 x1 h = some r) (hs : (fun (r : Int32 × sm_H) => res = (some (.int r.1), r.2)) r) : Ex (P_G L xs) (RUN L xs d) (sm_lk P_t325) 0 0 [some (.ref 67), some (.int x1), none, none, none] [] h res := by
  unfold F_325_0 at hf
  refine Ex.seg 3 (pc' := 5) (lc' := [some (.ref 67), some (.int x1), none, none, none]) (st' := [.int 1, .int (h.1 67 3)]) (h' := h) (sg1 rfl rfl (sg1 rfl rfl (sg1 rfl rfl rfl))) ?_
  refine Ex.icmp rfl rfl (fun (c0 : ¬ ((h.1 67 3) = 1)) => ?_) (fun (c0 : ¬ ¬ ((h.1 67 3) = 1)) => ?_)
  · rw [if_neg c0] at hf
    exact Ex.weak (sm_le_n (sm_le_n (sm_le_s (sm_le_s (sm_le_s sm_le_nil))))) (B_325_17 hd  hf hs)
  · rw [if_pos (Classical.not_not.mp c0)] at hf
    refine Ex.seg 3 (pc' := 11) (lc' := [some (.ref 67), some (.int x1), none, none, none]) (st' := [.int 1, .int 0, .ref 67]) (h' := h) (sg1 rfl rfl (sg1 rfl rfl (sg1 rfl rfl rfl))) ?_
    obtain ⟨q5, e_q5, hf⟩ := bnd hf
    refine Ex.callV (a := 67) (As := [.int 0, .int 1]) (r := []) (v := some (.int q5.1)) (h' := q5.2) rfl rfl (by decide) rfl (Nat.le_of_ble_eq_true rfl) rfl (E_314 (Nat.le_trans (by decide) hd) e_q5) rfl ?_
    refine Ex.ifc rfl rfl (fun (c0 : ¬ (q5.1 = 0)) => ?_) (fun (c0 : ¬ ¬ (q5.1 = 0)) => ?_)
    · rw [if_neg c0] at hf
      refine Ex.seg 3 (pc' := 24) (lc' := [some (.ref 67), some (.int x1), none, none, none]) (st' := [.int 0, .ref 69]) (h' := q5.2) (sg1 rfl rfl (sg1 rfl rfl (sg1 rfl rfl rfl))) ?_
      obtain ⟨v6, e_v6, hf⟩ := bnd hf
      refine Ex.iald e_v6 rfl rfl ?_
      refine Ex.seg 3 (pc' := 28) (lc' := [some (.ref 67), some (.int x1), some (.int v6), none, none]) (st' := [.int v6, .ref 67]) (h' := q5.2) (sg1 rfl rfl (sg1 rfl rfl (sg1 rfl rfl rfl))) ?_
      obtain ⟨q7, e_q7, hf⟩ := bnd hf
      refine Ex.callV (a := 67) (As := [.int v6]) (r := []) (v := some (.int q7.1)) (h' := q7.2) rfl rfl (by decide) rfl (Nat.le_of_ble_eq_true rfl) rfl (E_305 (Nat.le_trans (by decide) hd) e_q7) rfl ?_
      refine Ex.seg 5 (pc' := 38) (lc' := [some (.ref 67), some (.int x1), some (.int v6), some (.int q7.1), none]) (st' := [.long 10, .long 0, .long (Int32.toInt64 x1)]) (h' := q7.2) (sg1 rfl rfl (sg1 rfl rfl (sg1 rfl rfl (sg1 rfl rfl (sg1 rfl rfl rfl))))) ?_
      obtain ⟨q8, e_q8, hf⟩ := bnd hf
      refine Ex.callS (As := [.long (Int32.toInt64 x1), .long 0, .long 10]) (r := []) (v := some (.int q8.1)) (h' := q8.2) rfl rfl rfl rfl (Nat.le_of_ble_eq_true rfl) (E_315 (Nat.le_trans (by decide) hd) e_q8) rfl ?_
      refine Ex.ifc rfl rfl (fun (c0 : q8.1 = 0) => ?_) (fun (c0 : ¬ (q8.1 = 0)) => ?_)
      · rw [if_pos c0] at hf
        refine Ex.seg 1 (pc' := 47) (lc' := [some (.ref 67), some (.int x1), some (.int v6), some (.int q7.1), none]) (st' := [.int q7.1]) (h' := q8.2) (sg1 rfl rfl rfl) ?_
        refine Ex.ifc rfl rfl (fun (c0 : q7.1 = 0) => ?_) (fun (c0 : ¬ (q7.1 = 0)) => ?_)
        · rw [if_pos c0] at hf
          exact Ex.weak (sm_le_n (sm_le_n (sm_le_n (sm_le_n (sm_le_s sm_le_nil))))) (B_325_64 hd  hf hs)
        · rw [if_neg c0] at hf
          refine Ex.seg 5 (pc' := 55) (lc' := [some (.ref 67), some (.int x1), some (.int v6), some (.int q7.1), none]) (st' := [.int (q7.1 - 1), .int v6, .ref 67]) (h' := q8.2) (sg1 rfl rfl (sg1 rfl rfl (sg1 rfl rfl (sg1 rfl rfl (sg1 rfl rfl rfl))))) ?_
          obtain ⟨q9, e_q9, hf⟩ := bnd hf
          refine Ex.callV (a := 67) (As := [.int v6, .int (q7.1 - 1)]) (r := []) (v := some (.int q9.1)) (h' := q9.2) rfl rfl (by decide) rfl (Nat.le_of_ble_eq_true rfl) rfl (E_306 (Nat.le_trans (by decide) hd) e_q9) rfl ?_
          obtain ⟨q10, e_q10, hf⟩ := bnd hf
          refine Ex.callS (As := [.int q9.1]) (r := []) (v := some (.int q10.1)) (h' := q10.2) rfl rfl rfl rfl (Nat.le_of_ble_eq_true rfl) (E_293 (Nat.le_trans (by decide) hd) e_q10) rfl ?_
          refine Ex.ifc rfl rfl (fun (c0 : ¬ (q10.1 = 0)) => ?_) (fun (c0 : ¬ ¬ (q10.1 = 0)) => ?_)
          · rw [if_neg c0] at hf
            refine Ex.seg 3 (pc' := 69) (lc' := [some (.ref 67), some (.int x1), some (.int v6), some (.int q7.1), none]) (st' := [.int v6, .ref 67, .ref 67]) (h' := q10.2) (sg1 rfl rfl (sg1 rfl rfl (sg1 rfl rfl rfl))) ?_
            obtain ⟨q11, e_q11, hf⟩ := bnd hf
            refine Ex.callV (a := 67) (As := [.int v6]) (r := [.ref 67]) (v := some (.int q11.1)) (h' := q11.2) rfl rfl (by decide) rfl (Nat.le_of_ble_eq_true rfl) rfl (E_307 (Nat.le_trans (by decide) hd) e_q11) rfl ?_
            obtain ⟨q12, e_q12, hf⟩ := bnd hf
            refine Ex.callV (a := 67) (As := [.int q11.1]) (r := []) (v := none) (h' := q12) rfl rfl (by decide) rfl (Nat.le_of_ble_eq_true rfl) rfl (E_308 (Nat.le_trans (by decide) hd) e_q12) rfl ?_
            refine Ex.seg 6 (pc' := 81) (lc' := [some (.ref 67), some (.int x1), some (.int v6), some (.int q7.1), none]) (st' := [.int (q7.1 - 1), .int 0, .int v6, .ref 67]) (h' := q12) (sg1 rfl rfl (sg1 rfl rfl (sg1 rfl rfl (sg1 rfl rfl (sg1 rfl rfl (sg1 rfl rfl rfl)))))) ?_
            obtain ⟨q13, e_q13, hf⟩ := bnd hf
            refine Ex.callV (a := 67) (As := [.int v6, .int 0, .int (q7.1 - 1)]) (r := []) (v := none) (h' := q13) rfl rfl (by decide) rfl (Nat.le_of_ble_eq_true rfl) rfl (E_310 (Nat.le_trans (by decide) hd) e_q13) rfl ?_
            refine Ex.seg 2 (pc' := 87) (lc' := [some (.ref 67), some (.int x1), some (.int v6), some (.int q7.1), some (.int 0)]) (st' := []) (h' := q13) (sg1 rfl rfl (sg1 rfl rfl rfl)) ?_
            exact Ex.weak (sm_le_s (sm_le_s (sm_le_s (sm_le_s (sm_le_s sm_le_nil))))) (B_325_87 hd  hf hs)
          · rw [if_pos (Classical.not_not.mp c0)] at hf
            exact Ex.weak (sm_le_n (sm_le_n (sm_le_n (sm_le_n (sm_le_s sm_le_nil))))) (B_325_64 hd  hf hs)
      · rw [if_neg c0] at hf
        refine Ex.seg 1 (pc' := 45) (lc' := [some (.ref 67), some (.int x1), some (.int v6), some (.int q7.1), none]) (st' := [.int 2]) (h' := q8.2) (sg1 rfl rfl rfl) ?_
        obtain rfl := Option.some.inj hf
        exact Ex.iret rfl rfl (fun c0 => by cases c0) hs
    · rw [if_pos (Classical.not_not.mp c0)] at hf
      exact Ex.weak (sm_le_n (sm_le_n (sm_le_s (sm_le_s (sm_le_s sm_le_nil))))) (B_325_17 hd  hf hs)
theorem E_325 {L : Nat} {xs : Nat → Int32} {d : Nat} (hd : 3 ≤ d) {x1 : Int32} {h : sm_H} {r : Int32 × sm_H} (hf : F_325 x1 h = some r) : RUN L xs d 325 [.ref 67, .int x1] h (some (.int r.1), r.2) := by
  obtain ⟨d, rfl⟩ : ∃ e, d = e + 1 := ⟨d - 1, by omega⟩
  exact ⟨Nat.le_of_ble_eq_true rfl, B_325_0 (by omega) hf rfl⟩
theorem B_326_19B {L : Nat} {xs : Nat → Int32} {d : Nat} (hd : 3 ≤ d) {res : Option Value × sm_H} {S1 : (Int32 × Int32 × Int32 × Int32 × sm_H) → Prop} (hS1 : ∀ s, S1 s → Ex (P_G L xs) (RUN L xs d) (sm_lk P_t326) 3 19 [some (.ref 67), some (.int s.1), some (.int s.2.1), some (.int s.2.2.1), some (.int s.2.2.2.1)] [] s.2.2.2.2 res) {s : (Int32 × Int32 × Int32 × Int32 × sm_H)}  {r : ((Int32 × Int32 × Int32 × Int32 × sm_H) ⊕ (Int32 × sm_H))} (hf : F_326_19B s = some r) (hs : (Sum.elim S1 (fun (r : Int32 × sm_H) => res = (some (.int r.1), r.2))) r) : Ex (P_G L xs) (RUN L xs d) (sm_lk P_t326) 3 19 [some (.ref 67), some (.int s.1), some (.int s.2.1), some (.int s.2.2.1), some (.int s.2.2.2.1)] [] s.2.2.2.2 res := by
  unfold F_326_19B at hf
  refine Ex.seg 3 (pc' := 23) (lc' := [some (.ref 67), some (.int s.1), some (.int s.2.1), some (.int s.2.2.1), some (.int s.2.2.2.1)]) (st' := [.int s.1, .ref 67, .int s.2.2.2.1]) (h' := s.2.2.2.2) (sg1 rfl rfl (sg1 rfl rfl (sg1 rfl rfl rfl))) ?_
  obtain ⟨q1, e_q1, hf⟩ := bnd hf
  refine Ex.callV (a := 67) (As := [.int s.1]) (r := [.int s.2.2.2.1]) (v := some (.int q1.1)) (h' := q1.2) rfl rfl (by decide) rfl (Nat.le_of_ble_eq_true rfl) rfl (E_305 (Nat.le_trans (by decide) hd) e_q1) rfl ?_
  refine Ex.icmp rfl rfl (fun (c0 : q1.1 ≤ s.2.2.2.1) => ?_) (fun (c0 : ¬ (q1.1 ≤ s.2.2.2.1)) => ?_)
  · rw [if_pos c0] at hf
    refine Ex.seg 3 (pc' := 68) (lc' := [some (.ref 67), some (.int s.1), some (.int s.2.1), some (.int s.2.2.1), some (.int s.2.2.2.1)]) (st' := [.int s.1, .ref 67, .ref 67]) (h' := q1.2) (sg1 rfl rfl (sg1 rfl rfl (sg1 rfl rfl rfl))) ?_
    obtain ⟨q2, e_q2, hf⟩ := bnd hf
    refine Ex.callV (a := 67) (As := [.int s.1]) (r := [.ref 67]) (v := some (.int q2.1)) (h' := q2.2) rfl rfl (by decide) rfl (Nat.le_of_ble_eq_true rfl) rfl (E_307 (Nat.le_trans (by decide) hd) e_q2) rfl ?_
    refine Ex.seg 3 (pc' := 76) (lc' := [some (.ref 67), some (.int s.1), some (.int s.2.1), some (.int s.2.2.1), some (.int s.2.2.2.1)]) (st' := [.int s.2.1, .ref 72, .int q2.1, .ref 67]) (h' := q2.2) (sg1 rfl rfl (sg1 rfl rfl (sg1 rfl rfl rfl))) ?_
    obtain ⟨v3, e_v3, hf⟩ := bnd hf
    refine Ex.iald e_v3 rfl rfl ?_
    refine Ex.seg 2 (pc' := 79) (lc' := [some (.ref 67), some (.int s.1), some (.int s.2.1), some (.int s.2.2.1), some (.int s.2.2.2.1)]) (st' := [.int 1, .int s.2.2.1, .int v3, .int q2.1, .ref 67]) (h' := q2.2) (sg1 rfl rfl (sg1 rfl rfl rfl)) ?_
    obtain ⟨q4, e_q4, hf⟩ := bnd hf
    refine Ex.callV (a := 67) (As := [.int q2.1, .int v3, .int s.2.2.1, .int 1]) (r := []) (v := some (.int q4.1)) (h' := q4.2) rfl rfl (by decide) rfl (Nat.le_of_ble_eq_true rfl) rfl (E_297 (Nat.le_trans (by decide) hd) e_q4) rfl ?_
    rcases Classical.em (q4.1 = 0 ∨ q4.1 = 1) with c0 | c0
    · rw [if_pos c0] at hf
      obtain rfl := Option.some.inj hf
      exact Ex.iret rfl rfl (fun _ => c0) hs
    · rw [if_neg c0] at hf
      cases hf
  · rw [if_neg c0] at hf
    refine Ex.seg 8 (pc' := 41) (lc' := [some (.ref 67), some (.int s.1), some (.int s.2.1), some (.int s.2.2.1), some (.int s.2.2.2.1)]) (st' := [.int ((10 * s.2.1) + s.2.2.2.1), .ref 74, .ref 67]) (h' := q1.2) (sg1 rfl rfl (sg1 rfl rfl (sg1 rfl rfl (sg1 rfl rfl (sg1 rfl rfl (sg1 rfl rfl (sg1 rfl rfl (sg1 rfl rfl rfl)))))))) ?_
    obtain ⟨v5, e_v5, hf⟩ := bnd hf
    refine Ex.iald e_v5 rfl rfl ?_
    refine Ex.seg 3 (pc' := 46) (lc' := [some (.ref 67), some (.int s.1), some (.int s.2.1), some (.int s.2.2.1), some (.int s.2.2.2.1)]) (st' := [.int s.2.2.2.1, .int s.1, .ref 67, .int v5, .ref 67]) (h' := q1.2) (sg1 rfl rfl (sg1 rfl rfl (sg1 rfl rfl rfl))) ?_
    obtain ⟨q6, e_q6, hf⟩ := bnd hf
    refine Ex.callV (a := 67) (As := [.int s.1, .int s.2.2.2.1]) (r := [.int v5, .ref 67]) (v := some (.int q6.1)) (h' := q6.2) rfl rfl (by decide) rfl (Nat.le_of_ble_eq_true rfl) rfl (E_306 (Nat.le_trans (by decide) hd) e_q6) rfl ?_
    refine Ex.seg 2 (pc' := 51) (lc' := [some (.ref 67), some (.int s.1), some (.int s.2.1), some (.int s.2.2.1), some (.int s.2.2.2.1)]) (st' := [.int 0, .int s.2.2.1, .int q6.1, .int v5, .ref 67]) (h' := q6.2) (sg1 rfl rfl (sg1 rfl rfl rfl)) ?_
    obtain ⟨q7, e_q7, hf⟩ := bnd hf
    refine Ex.callV (a := 67) (As := [.int v5, .int q6.1, .int s.2.2.1, .int 0]) (r := []) (v := some (.int q7.1)) (h' := q7.2) rfl rfl (by decide) rfl (Nat.le_of_ble_eq_true rfl) rfl (E_297 (Nat.le_trans (by decide) hd) e_q7) rfl ?_
    refine Ex.ifc rfl rfl (fun (c0 : ¬ (q7.1 = 0)) => ?_) (fun (c0 : ¬ ¬ (q7.1 = 0)) => ?_)
    · rw [if_neg c0] at hf
      refine Ex.seg 1 (pc' := 62) (lc' := [some (.ref 67), some (.int s.1), some (.int s.2.1), some (.int s.2.2.1), some (.int (s.2.2.2.1 + 1))]) (st' := []) (h' := q7.2) (sg1 rfl rfl rfl) ?_
      obtain ⟨v8, e_v8, hf⟩ := bnd hf
      rw [Option.some.inj e_v8]
      refine Ex.seg 1 (pc' := 19) (lc' := [some (.ref 67), some (.int s.1), some (.int s.2.1), some (.int s.2.2.1), some (.int v8)]) (st' := []) (h' := q7.2) (sg1 rfl rfl rfl) ?_
      obtain rfl := Option.some.inj hf
      exact Ex.weak (sm_le_s (sm_le_s (sm_le_s (sm_le_s (sm_le_s sm_le_nil))))) (hS1 _ hs)
    · rw [if_pos (Classical.not_not.mp c0)] at hf
      refine Ex.seg 1 (pc' := 58) (lc' := [some (.ref 67), some (.int s.1), some (.int s.2.1), some (.int s.2.2.1), some (.int s.2.2.2.1)]) (st' := [.int 0]) (h' := q7.2) (sg1 rfl rfl rfl) ?_
      obtain rfl := Option.some.inj hf
      exact Ex.iret rfl rfl (fun _ => by decide) hs
theorem B_326_19 {L : Nat} {xs : Nat → Int32} {d : Nat} (hd : 3 ≤ d) {res : Option Value × sm_H} {y1 : Int32} {y2 : Int32} {y3 : Int32} {y4 : Int32}  {h : sm_H} {r : (Int32 × sm_H)} (hf : F_326_19 y1 y2 y3 y4 h = some r) (hs : (fun (r : Int32 × sm_H) => res = (some (.int r.1), r.2)) r) : Ex (P_G L xs) (RUN L xs d) (sm_lk P_t326) 3 19 [some (.ref 67), some (.int y1), some (.int y2), some (.int y3), some (.int y4)] [] h res := by
  unfold F_326_19 at hf
  exact lp_ok (P := fun (s : (Int32 × Int32 × Int32 × Int32 × sm_H)) => Ex (P_G L xs) (RUN L xs d) (sm_lk P_t326) 3 19 [some (.ref 67), some (.int s.1), some (.int s.2.1), some (.int s.2.2.1), some (.int s.2.2.2.1)] [] s.2.2.2.2 res) (S := (fun (r : Int32 × sm_H) => res = (some (.int r.1), r.2))) (fun s x hx hsx => by
    intros
    exact B_326_19B hd  (fun _ q => q) hx hsx) 1000000 _ r hf hs
theorem B_326_0 {L : Nat} {xs : Nat → Int32} {d : Nat} (hd : 3 ≤ d) {res : Option Value × sm_H} {x1 : Int32} {x2 : Int32} {x3 : Int32}  {h : sm_H} {r : (Int32 × sm_H)} (hf : F_326_0 x1 x2 x3 h = some r) (hs : (fun (r : Int32 × sm_H) => res = (some (.int r.1), r.2)) r) : Ex (P_G L xs) (RUN L xs d) (sm_lk P_t326) 3 0 [some (.ref 67), some (.int x1), some (.int x2), some (.int x3), none] [] h res := by
  unfold F_326_0 at hf
  refine Ex.seg 3 (pc' := 5) (lc' := [some (.ref 67), some (.int x1), some (.int x2), some (.int x3), none]) (st' := [.int x2, .ref 73]) (h' := h) (sg1 rfl rfl (sg1 rfl rfl (sg1 rfl rfl rfl))) ?_
  obtain ⟨v9, e_v9, hf⟩ := bnd hf
  refine Ex.iald e_v9 rfl rfl ?_
  refine Ex.seg 2 (pc' := 8) (lc' := [some (.ref 67), some (.int x1), some (.int x2), some (.int x3), none]) (st' := [.int x1, .ref 67, .int v9]) (h' := h) (sg1 rfl rfl (sg1 rfl rfl rfl)) ?_
  obtain ⟨q10, e_q10, hf⟩ := bnd hf
  refine Ex.callV (a := 67) (As := [.int x1]) (r := [.int v9]) (v := some (.int q10.1)) (h' := q10.2) rfl rfl (by decide) rfl (Nat.le_of_ble_eq_true rfl) rfl (E_305 (Nat.le_trans (by decide) hd) e_q10) rfl ?_
  refine Ex.icmp rfl rfl (fun (c0 : v9 = q10.1) => ?_) (fun (c0 : ¬ (v9 = q10.1)) => ?_)
  · rw [if_pos c0] at hf
    refine Ex.seg 2 (pc' := 19) (lc' := [some (.ref 67), some (.int x1), some (.int x2), some (.int x3), some (.int 0)]) (st' := []) (h' := q10.2) (sg1 rfl rfl (sg1 rfl rfl rfl)) ?_
    exact Ex.weak (sm_le_s (sm_le_s (sm_le_s (sm_le_s (sm_le_s sm_le_nil))))) (B_326_19 hd  hf hs)
  · rw [if_neg c0] at hf
    refine Ex.seg 1 (pc' := 15) (lc' := [some (.ref 67), some (.int x1), some (.int x2), some (.int x3), none]) (st' := [.int 0]) (h' := q10.2) (sg1 rfl rfl rfl) ?_
    obtain rfl := Option.some.inj hf
    exact Ex.iret rfl rfl (fun _ => by decide) hs
theorem E_326 {L : Nat} {xs : Nat → Int32} {d : Nat} (hd : 4 ≤ d) {x1 : Int32} {x2 : Int32} {x3 : Int32} {h : sm_H} {r : Int32 × sm_H} (hf : F_326 x1 x2 x3 h = some r) : RUN L xs d 326 [.ref 67, .int x1, .int x2, .int x3] h (some (.int r.1), r.2) := by
  obtain ⟨d, rfl⟩ : ∃ e, d = e + 1 := ⟨d - 1, by omega⟩
  exact ⟨Nat.le_of_ble_eq_true rfl, B_326_0 (by omega) hf rfl⟩
