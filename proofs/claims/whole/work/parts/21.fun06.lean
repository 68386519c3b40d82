theorem B_394_76 {L : Nat} {xs : Nat → Int32} {d : Nat} (hd : 2 ≤ d) {res : Option Value × sm_H} {S1 : (Int32 × Int32 × Int32 × Int32 × sm_H) → Prop} (hS1 : ∀ s, S1 s → Ex (P_G L xs) (RUN L xs d) (sm_lk P_t394) 0 3 [some (.ref 67), none, some (.int s.1), some (.int s.2.1), some (.int s.2.2.1), some (.int s.2.2.2.1), none] [] s.2.2.2.2 res) {y2 : Int32} {y3 : Int32} {y4 : Int32} {z0 : Int32}  {h : sm_H} {r : ((Int32 × Int32 × Int32 × Int32 × sm_H) ⊕ (Int32 × sm_H))} (hf : F_394_76 y2 y3 y4 z0 h = some r) (hs : (Sum.elim S1 (fun (r : Int32 × sm_H) => res = (some (.int r.1), r.2))) r) : Ex (P_G L xs) (RUN L xs d) (sm_lk P_t394) 0 76 [some (.ref 67), none, some (.int y2), some (.int y3), some (.int y4), none, none] [.int z0] h res := by
  unfold F_394_76 at hf
  refine Ex.seg 2 (pc' := 3) (lc' := [some (.ref 67), none, some (.int y2), some (.int y3), some (.int y4), some (.int z0), none]) (st' := []) (h' := h) (sg1 rfl rfl (sg1 rfl rfl rfl)) ?_
  obtain rfl := Option.some.inj hf
  exact Ex.weak (sm_le_s (sm_le_s (sm_le_s (sm_le_s (sm_le_s (sm_le_s (sm_le_s sm_le_nil))))))) (hS1 _ hs)
theorem B_394_50 {L : Nat} {xs : Nat → Int32} {d : Nat} (hd : 2 ≤ d) {res : Option Value × sm_H} {S1 : (Int32 × Int32 × Int32 × Int32 × sm_H) → Prop} (hS1 : ∀ s, S1 s → Ex (P_G L xs) (RUN L xs d) (sm_lk P_t394) 0 3 [some (.ref 67), none, some (.int s.1), some (.int s.2.1), some (.int s.2.2.1), some (.int s.2.2.2.1), none] [] s.2.2.2.2 res) {S2 : (Int32 × Int32 × Int32 × Int32 × Int32 × sm_H) → Prop} (hS2 : ∀ s, S2 s → Ex (P_G L xs) (RUN L xs d) (sm_lk P_t394) 0 13 [some (.ref 67), none, some (.int s.1), some (.int s.2.1), some (.int s.2.2.1), some (.int s.2.2.2.1), some (.int s.2.2.2.2.1)] [] s.2.2.2.2.2 res) {y2 : Int32} {y3 : Int32} {y4 : Int32} {y5 : Int32} {y6 : Int32}  {h : sm_H} {r : ((Int32 × Int32 × Int32 × Int32 × Int32 × sm_H) ⊕ ((Int32 × Int32 × Int32 × Int32 × sm_H) ⊕ (Int32 × sm_H)))} (hf : F_394_50 y2 y3 y4 y5 y6 h = some r) (hs : (Sum.elim S2 (Sum.elim S1 (fun (r : Int32 × sm_H) => res = (some (.int r.1), r.2)))) r) : Ex (P_G L xs) (RUN L xs d) (sm_lk P_t394) 0 50 [some (.ref 67), none, some (.int y2), some (.int y3), some (.int y4), some (.int y5), some (.int y6)] [] h res := by
  unfold F_394_50 at hf
  refine Ex.seg 1 (pc' := 53) (lc' := [some (.ref 67), none, some (.int y2), some (.int y3), some (.int y4), some (.int y5), some (.int (y6 + 1))]) (st' := []) (h' := h) (sg1 rfl rfl rfl) ?_
  obtain ⟨v1, e_v1, hf⟩ := bnd hf
  rw [Option.some.inj e_v1]
  refine Ex.seg 1 (pc' := 13) (lc' := [some (.ref 67), none, some (.int y2), some (.int y3), some (.int y4), some (.int y5), some (.int v1)]) (st' := []) (h' := h) (sg1 rfl rfl rfl) ?_
  obtain rfl := Option.some.inj hf
  exact Ex.weak (sm_le_s (sm_le_s (sm_le_s (sm_le_s (sm_le_s (sm_le_s (sm_le_s sm_le_nil))))))) (hS2 _ hs)
theorem B_394_13B {L : Nat} {xs : Nat → Int32} {d : Nat} (hd : 2 ≤ d) {res : Option Value × sm_H} {S1 : (Int32 × Int32 × Int32 × Int32 × sm_H) → Prop} (hS1 : ∀ s, S1 s → Ex (P_G L xs) (RUN L xs d) (sm_lk P_t394) 0 3 [some (.ref 67), none, some (.int s.1), some (.int s.2.1), some (.int s.2.2.1), some (.int s.2.2.2.1), none] [] s.2.2.2.2 res) {S2 : (Int32 × Int32 × Int32 × Int32 × Int32 × sm_H) → Prop} (hS2 : ∀ s, S2 s → Ex (P_G L xs) (RUN L xs d) (sm_lk P_t394) 0 13 [some (.ref 67), none, some (.int s.1), some (.int s.2.1), some (.int s.2.2.1), some (.int s.2.2.2.1), some (.int s.2.2.2.2.1)] [] s.2.2.2.2.2 res) {s : (Int32 × Int32 × Int32 × Int32 × Int32 × sm_H)}  {r : ((Int32 × Int32 × Int32 × Int32 × Int32 × sm_H) ⊕ ((Int32 × Int32 × Int32 × Int32 × sm_H) ⊕ (Int32 × sm_H)))} (hf : F_394_13B s = some r) (hs : (Sum.elim S2 (Sum.elim S1 (fun (r : Int32 × sm_H) => res = (some (.int r.1), r.2)))) r) : Ex (P_G L xs) (RUN L xs d) (sm_lk P_t394) 0 13 [some (.ref 67), none, some (.int s.1), some (.int s.2.1), some (.int s.2.2.1), some (.int s.2.2.2.1), some (.int s.2.2.2.2.1)] [] s.2.2.2.2.2 res := by
  unfold F_394_13B at hf
  refine Ex.seg 3 (pc' := 19) (lc' := [some (.ref 67), none, some (.int s.1), some (.int s.2.1), some (.int s.2.2.1), some (.int s.2.2.2.1), some (.int s.2.2.2.2.1)]) (st' := [.int (s.2.2.2.2.2.1 67 32), .int s.2.2.2.2.1]) (h' := s.2.2.2.2.2) (sg1 rfl rfl (sg1 rfl rfl (sg1 rfl rfl rfl))) ?_
  refine Ex.icmp rfl rfl (fun (c0 : (s.2.2.2.2.2.1 67 32) ≤ s.2.2.2.2.1) => ?_) (fun (c0 : ¬ ((s.2.2.2.2.2.1 67 32) ≤ s.2.2.2.2.1)) => ?_)
  · rw [if_pos c0] at hf
    refine Ex.seg 2 (pc' := 59) (lc' := [some (.ref 67), none, some (.int s.1), some (.int s.2.1), some (.int s.2.2.1), some (.int s.2.2.2.1), some (.int s.2.2.2.2.1)]) (st' := [.int 3, .int s.2.2.1]) (h' := s.2.2.2.2.2) (sg1 rfl rfl (sg1 rfl rfl rfl)) ?_
    refine Ex.icmp rfl rfl (fun (c0 : ¬ (s.2.2.1 = 3)) => ?_) (fun (c0 : ¬ ¬ (s.2.2.1 = 3)) => ?_)
    · rw [if_neg c0] at hf
      refine Ex.seg 5 (pc' := 75) (lc' := [some (.ref 67), none, some (.int s.1), some (.int s.2.1), some (.int s.2.2.1), some (.int s.2.2.2.1), some (.int s.2.2.2.2.1)]) (st' := [.int (s.2.2.2.1 - 20), .ref 70]) (h' := s.2.2.2.2.2) (sg1 rfl rfl (sg1 rfl rfl (sg1 rfl rfl (sg1 rfl rfl (sg1 rfl rfl rfl))))) ?_
      obtain ⟨v2, e_v2, hf⟩ := bnd hf
      refine Ex.iald e_v2 rfl rfl ?_
      obtain ⟨r0, hf0, rfl⟩ := Option.map_eq_some_iff.mp hf
      exact Ex.weak (sm_le_s (sm_le_s (sm_le_s (sm_le_s (sm_le_s (sm_le_n (sm_le_n sm_le_nil))))))) (B_394_76 hd hS1 hf0 hs)
    · rw [if_pos (Classical.not_not.mp c0)] at hf
      refine Ex.seg 2 (pc' := 76) (lc' := [some (.ref 67), none, some (.int s.1), some (.int s.2.1), some (.int s.2.2.1), some (.int s.2.2.2.1), some (.int s.2.2.2.2.1)]) (st' := [.int (-1)]) (h' := s.2.2.2.2.2) (sg1 rfl rfl (sg1 rfl rfl rfl)) ?_
      obtain ⟨r0, hf0, rfl⟩ := Option.map_eq_some_iff.mp hf
      exact Ex.weak (sm_le_s (sm_le_s (sm_le_s (sm_le_s (sm_le_s (sm_le_n (sm_le_n sm_le_nil))))))) (B_394_76 hd hS1 hf0 hs)
  · rw [if_neg c0] at hf
    refine Ex.seg 3 (pc' := 28) (lc' := [some (.ref 67), none, some (.int s.1), some (.int s.2.1), some (.int s.2.2.1), some (.int s.2.2.2.1), some (.int s.2.2.2.2.1)]) (st' := [.int s.2.2.2.2.1, .ref 83]) (h' := s.2.2.2.2.2) (sg1 rfl rfl (sg1 rfl rfl (sg1 rfl rfl rfl))) ?_
    obtain ⟨v3, e_v3, hf⟩ := bnd hf
    refine Ex.iald e_v3 rfl rfl ?_
    refine Ex.seg 1 (pc' := 31) (lc' := [some (.ref 67), none, some (.int s.1), some (.int s.2.1), some (.int s.2.2.1), some (.int s.2.2.2.1), some (.int s.2.2.2.2.1)]) (st' := [.int s.2.2.2.1, .int v3]) (h' := s.2.2.2.2.2) (sg1 rfl rfl rfl) ?_
    refine Ex.icmp rfl rfl (fun (c0 : ¬ (v3 = s.2.2.2.1)) => ?_) (fun (c0 : ¬ ¬ (v3 = s.2.2.2.1)) => ?_)
    · rw [if_neg c0] at hf
      exact Ex.weak (sm_le_s (sm_le_s (sm_le_s (sm_le_s (sm_le_s (sm_le_s (sm_le_s sm_le_nil))))))) (B_394_50 hd hS1 hS2 hf hs)
    · rw [if_pos (Classical.not_not.mp c0)] at hf
      refine Ex.seg 5 (pc' := 41) (lc' := [some (.ref 67), none, some (.int s.1), some (.int s.2.1), some (.int s.2.2.1), some (.int s.2.2.2.1), some (.int s.2.2.2.2.1)]) (st' := [.int s.2.2.1, .int s.2.1, .int s.1, .int s.2.2.2.2.1, .ref 67]) (h' := s.2.2.2.2.2) (sg1 rfl rfl (sg1 rfl rfl (sg1 rfl rfl (sg1 rfl rfl (sg1 rfl rfl rfl))))) ?_
      obtain ⟨q4, e_q4, hf⟩ := bnd hf
      refine Ex.callV (a := 67) (As := [.int s.2.2.2.2.1, .int s.1, .int s.2.1, .int s.2.2.1]) (r := []) (v := some (.int q4.1)) (h' := q4.2) rfl rfl (by decide) rfl (Nat.le_of_ble_eq_true rfl) rfl (E_393 (Nat.le_trans (by decide) hd) e_q4) rfl ?_
      refine Ex.ifc rfl rfl (fun (c0 : q4.1 = 0) => ?_) (fun (c0 : ¬ (q4.1 = 0)) => ?_)
      · rw [if_pos c0] at hf
        exact Ex.weak (sm_le_s (sm_le_s (sm_le_s (sm_le_s (sm_le_s (sm_le_s (sm_le_s sm_le_nil))))))) (B_394_50 hd hS1 hS2 hf hs)
      · rw [if_neg c0] at hf
        refine Ex.seg 1 (pc' := 49) (lc' := [some (.ref 67), none, some (.int s.1), some (.int s.2.1), some (.int s.2.2.1), some (.int s.2.2.2.1), some (.int s.2.2.2.2.1)]) (st' := [.int s.2.2.2.2.1]) (h' := q4.2) (sg1 rfl rfl rfl) ?_
        obtain rfl := Option.some.inj hf
        exact Ex.iret rfl rfl (fun c0 => by cases c0) hs
theorem B_394_13 {L : Nat} {xs : Nat → Int32} {d : Nat} (hd : 2 ≤ d) {res : Option Value × sm_H} {S1 : (Int32 × Int32 × Int32 × Int32 × sm_H) → Prop} (hS1 : ∀ s, S1 s → Ex (P_G L xs) (RUN L xs d) (sm_lk P_t394) 0 3 [some (.ref 67), none, some (.int s.1), some (.int s.2.1), some (.int s.2.2.1), some (.int s.2.2.2.1), none] [] s.2.2.2.2 res) {y2 : Int32} {y3 : Int32} {y4 : Int32} {y5 : Int32} {y6 : Int32}  {h : sm_H} {r : ((Int32 × Int32 × Int32 × Int32 × sm_H) ⊕ (Int32 × sm_H))} (hf : F_394_13 y2 y3 y4 y5 y6 h = some r) (hs : (Sum.elim S1 (fun (r : Int32 × sm_H) => res = (some (.int r.1), r.2))) r) : Ex (P_G L xs) (RUN L xs d) (sm_lk P_t394) 0 13 [some (.ref 67), none, some (.int y2), some (.int y3), some (.int y4), some (.int y5), some (.int y6)] [] h res := by
  unfold F_394_13 at hf
  exact lp_ok (P := fun (s : (Int32 × Int32 × Int32 × Int32 × Int32 × sm_H)) => Ex (P_G L xs) (RUN L xs d) (sm_lk P_t394) 0 13 [some (.ref 67), none, some (.int s.1), some (.int s.2.1), some (.int s.2.2.1), some (.int s.2.2.2.1), some (.int s.2.2.2.2.1)] [] s.2.2.2.2.2 res) (S := (Sum.elim S1 (fun (r : Int32 × sm_H) => res = (some (.int r.1), r.2)))) (fun s x hx hsx => by
    intros
    exact B_394_13B hd hS1 (fun _ q => q) hx hsx) 1000000 _ r hf hs
theorem B_394_3B {L : Nat} {xs : Nat → Int32} {d : Nat} (hd : 2 ≤ d) {res : Option Value × sm_H} {S1 : (Int32 × Int32 × Int32 × Int32 × sm_H) → Prop} (hS1 : ∀ s, S1 s → Ex (P_G L xs) (RUN L xs d) (sm_lk P_t394) 0 3 [some (.ref 67), none, some (.int s.1), some (.int s.2.1), some (.int s.2.2.1), some (.int s.2.2.2.1), none] [] s.2.2.2.2 res) {s : (Int32 × Int32 × Int32 × Int32 × sm_H)}  {r : ((Int32 × Int32 × Int32 × Int32 × sm_H) ⊕ (Int32 × sm_H))} (hf : F_394_3B s = some r) (hs : (Sum.elim S1 (fun (r : Int32 × sm_H) => res = (some (.int r.1), r.2))) r) : Ex (P_G L xs) (RUN L xs d) (sm_lk P_t394) 0 3 [some (.ref 67), none, some (.int s.1), some (.int s.2.1), some (.int s.2.2.1), some (.int s.2.2.2.1), none] [] s.2.2.2.2 res := by
  unfold F_394_3B at hf
  refine Ex.seg 2 (pc' := 7) (lc' := [some (.ref 67), none, some (.int s.1), some (.int s.2.1), some (.int s.2.2.1), some (.int s.2.2.2.1), none]) (st' := [.int 20, .int s.2.2.2.1]) (h' := s.2.2.2.2) (sg1 rfl rfl (sg1 rfl rfl rfl)) ?_
  refine Ex.icmp rfl rfl (fun (c0 : s.2.2.2.1 < 20) => ?_) (fun (c0 : ¬ (s.2.2.2.1 < 20)) => ?_)
  · rw [if_pos c0] at hf
    refine Ex.seg 1 (pc' := 82) (lc' := [some (.ref 67), none, some (.int s.1), some (.int s.2.1), some (.int s.2.2.1), some (.int s.2.2.2.1), none]) (st' := [.int (-1)]) (h' := s.2.2.2.2) (sg1 rfl rfl rfl) ?_
    obtain rfl := Option.some.inj hf
    exact Ex.iret rfl rfl (fun c0 => by cases c0) hs
  · rw [if_neg c0] at hf
    refine Ex.seg 2 (pc' := 13) (lc' := [some (.ref 67), none, some (.int s.1), some (.int s.2.1), some (.int s.2.2.1), some (.int s.2.2.2.1), some (.int 0)]) (st' := []) (h' := s.2.2.2.2) (sg1 rfl rfl (sg1 rfl rfl rfl)) ?_
    exact Ex.weak (sm_le_s (sm_le_s (sm_le_s (sm_le_s (sm_le_s (sm_le_s (sm_le_s sm_le_nil))))))) (B_394_13 hd hS1 hf hs)
theorem B_394_3 {L : Nat} {xs : Nat → Int32} {d : Nat} (hd : 2 ≤ d) {res : Option Value × sm_H} {y2 : Int32} {y3 : Int32} {y4 : Int32} {y5 : Int32}  {h : sm_H} {r : (Int32 × sm_H)} (hf : F_394_3 y2 y3 y4 y5 h = some r) (hs : (fun (r : Int32 × sm_H) => res = (some (.int r.1), r.2)) r) : Ex (P_G L xs) (RUN L xs d) (sm_lk P_t394) 0 3 [some (.ref 67), none, some (.int y2), some (.int y3), some (.int y4), some (.int y5), none] [] h res := by
  unfold F_394_3 at hf
  exact lp_ok (P := fun (s : (Int32 × Int32 × Int32 × Int32 × sm_H)) => Ex (P_G L xs) (RUN L xs d) (sm_lk P_t394) 0 3 [some (.ref 67), none, some (.int s.1), some (.int s.2.1), some (.int s.2.2.1), some (.int s.2.2.2.1), none] [] s.2.2.2.2 res) (S := (fun (r : Int32 × sm_H) => res = (some (.int r.1), r.2))) (fun s x hx hsx => by
    intros
    exact B_394_3B hd  (fun _ q => q) hx hsx) 1000000 _ r hf hs
theorem B_394_0 {L : Nat} {xs : Nat → Int32} {d : Nat} (hd : 2 ≤ d) {res : Option Value × sm_H} {x1 : Int32} {x2 : Int32} {x3 : Int32} {x4 : Int32}  {h : sm_H} {r : (Int32 × sm_H)} (hf : F_394_0 x1 x2 x3 x4 h = some r) (hs : (fun (r : Int32 × sm_H) => res = (some (.int r.1), r.2)) r) : Ex (P_G L xs) (RUN L xs d) (sm_lk P_t394) 0 0 [some (.ref 67), some (.int x1), some (.int x2), some (.int x3), some (.int x4), none, none] [] h res := by
  unfold F_394_0 at hf
  refine Ex.seg 2 (pc' := 3) (lc' := [some (.ref 67), some (.int x1), some (.int x2), some (.int x3), some (.int x4), some (.int x1), none]) (st' := []) (h' := h) (sg1 rfl rfl (sg1 rfl rfl rfl)) ?_
  exact Ex.weak (sm_le_s (sm_le_n (sm_le_s (sm_le_s (sm_le_s (sm_le_s (sm_le_s sm_le_nil))))))) (B_394_3 hd  hf hs)
theorem E_394 {L : Nat} {xs : Nat → Int32} {d : Nat} (hd : 3 ≤ d) {x1 : Int32} {x2 : Int32} {x3 : Int32} {x4 : Int32} {h : sm_H} {r : Int32 × sm_H} (hf : F_394 x1 x2 x3 x4 h = some r) : RUN L xs d 394 [.ref 67, .int x1, .int x2, .int x3, .int x4] h (some (.int r.1), r.2) := by
  obtain ⟨d, rfl⟩ : ∃ e, d = e + 1 := ⟨d - 1, by omega⟩
  exact ⟨Nat.le_of_ble_eq_true rfl, B_394_0 (by omega) hf rfl⟩
theorem B_396_101 {L : Nat} {xs : Nat → Int32} {d : Nat} (hd : 3 ≤ d) {res : Option Value × sm_H} {z1 : Int32} {z2 : Int32} {z3 : Int32} {z4 : Int64}  {h : sm_H} {r : (Int32 × sm_H)} (hf : F_396_101 z1 z2 z3 z4 h = some r) (hs : (fun (r : Int32 × sm_H) => res = (some (.int r.1), r.2)) r) : Ex (P_G L xs) (RUN L xs d) (sm_lk P_t396) 0 101 [none, none, none, none, none] [.long z4, .int z3, .int z2, .int z1, .ref 67] h res := by
  unfold F_396_101 at hf
  obtain ⟨q1, e_q1, hf⟩ := bnd hf
  refine Ex.callV (a := 67) (As := [.int z1, .int z2, .int z3, .long z4]) (r := []) (v := some (.int q1.1)) (h' := q1.2) rfl rfl (by decide) rfl (Nat.le_of_ble_eq_true rfl) rfl (E_340 (Nat.le_trans (by decide) hd) e_q1) rfl ?_
  obtain rfl := Option.some.inj hf
  exact Ex.iret rfl rfl (fun c0 => by cases c0) hs
theorem B_396_81 {L : Nat} {xs : Nat → Int32} {d : Nat} (hd : 3 ≤ d) {res : Option Value × sm_H} {y1 : Int32} {y2 : Int32} {y3 : Int32}  {h : sm_H} {r : (Int32 × sm_H)} (hf : F_396_81 y1 y2 y3 h = some r) (hs : (fun (r : Int32 × sm_H) => res = (some (.int r.1), r.2)) r) : Ex (P_G L xs) (RUN L xs d) (sm_lk P_t396) 0 81 [some (.ref 67), some (.int y1), some (.int y2), some (.int y3), none] [] h res := by
  unfold F_396_81 at hf
  refine Ex.seg 7 (pc' := 91) (lc' := [some (.ref 67), some (.int y1), some (.int y2), some (.int y3), none]) (st' := [.int y1, .ref 86, .int y3, .int y1, .int 35, .ref 67]) (h' := h) (sg1 rfl rfl (sg1 rfl rfl (sg1 rfl rfl (sg1 rfl rfl (sg1 rfl rfl (sg1 rfl rfl (sg1 rfl rfl rfl))))))) ?_
  obtain ⟨v2, e_v2, hf⟩ := bnd hf
  refine Ex.zald e_v2 rfl rfl ?_
  refine Ex.ifc rfl rfl (fun (c0 : v2 = 0) => ?_) (fun (c0 : ¬ (v2 = 0)) => ?_)
  · rw [if_pos c0] at hf
    refine Ex.seg 2 (pc' := 101) (lc' := [some (.ref 67), some (.int y1), some (.int y2), some (.int y3), none]) (st' := [.long (Int32.toInt64 y2), .int y3, .int y1, .int 35, .ref 67]) (h' := h) (sg1 rfl rfl (sg1 rfl rfl rfl)) ?_
    exact Ex.weak (sm_le_n (sm_le_n (sm_le_n (sm_le_n (sm_le_s sm_le_nil))))) (B_396_101 hd  hf hs)
  · rw [if_neg c0] at hf
    refine Ex.seg 2 (pc' := 101) (lc' := [some (.ref 67), some (.int y1), some (.int y2), some (.int y3), none]) (st' := [.long 0, .int y3, .int y1, .int 35, .ref 67]) (h' := h) (sg1 rfl rfl (sg1 rfl rfl rfl)) ?_
    exact Ex.weak (sm_le_n (sm_le_n (sm_le_n (sm_le_n (sm_le_s sm_le_nil))))) (B_396_101 hd  hf hs)
theorem B_396_69 {L : Nat} {xs : Nat → Int32} {d : Nat} (hd : 3 ≤ d) {res : Option Value × sm_H} {y1 : Int32} {y2 : Int32} {y3 : Int32} {y4 : Int32}  {h : sm_H} {r : (Int32 × sm_H)} (hf : F_396_69 y1 y2 y3 y4 h = some r) (hs : (fun (r : Int32 × sm_H) => res = (some (.int r.1), r.2)) r) : Ex (P_G L xs) (RUN L xs d) (sm_lk P_t396) 0 69 [some (.ref 67), some (.int y1), some (.int y2), some (.int y3), some (.int y4)] [] h res := by
  unfold F_396_69 at hf
  refine Ex.seg 2 (pc' := 72) (lc' := [some (.ref 67), some (.int y1), some (.int y2), some (.int y3), some (.int y4)]) (st' := [.int 7, .int y3]) (h' := h) (sg1 rfl rfl (sg1 rfl rfl rfl)) ?_
  refine Ex.icmp rfl rfl (fun (c0 : ¬ (y3 = 7)) => ?_) (fun (c0 : ¬ ¬ (y3 = 7)) => ?_)
  · rw [if_neg c0] at hf
    exact Ex.weak (sm_le_s (sm_le_s (sm_le_s (sm_le_s (sm_le_n sm_le_nil))))) (B_396_81 hd  hf hs)
  · rw [if_pos (Classical.not_not.mp c0)] at hf
    refine Ex.seg 2 (pc' := 78) (lc' := [some (.ref 67), some (.int y1), some (.int y2), some (.int y3), some (.int y4)]) (st' := [.int y4, .ref 67]) (h' := h) (sg1 rfl rfl (sg1 rfl rfl rfl)) ?_
    obtain ⟨q3, e_q3, hf⟩ := bnd hf
    refine Ex.callV (a := 67) (As := [.int y4]) (r := []) (v := none) (h' := q3) rfl rfl (by decide) rfl (Nat.le_of_ble_eq_true rfl) rfl (E_309 (Nat.le_trans (by decide) hd) e_q3) rfl ?_
    exact Ex.weak (sm_le_s (sm_le_s (sm_le_s (sm_le_s (sm_le_n sm_le_nil))))) (B_396_81 hd  hf hs)
theorem B_396_58 {L : Nat} {xs : Nat → Int32} {d : Nat} (hd : 3 ≤ d) {res : Option Value × sm_H} {y1 : Int32} {y2 : Int32} {y3 : Int32} {y4 : Int32}  {h : sm_H} {r : (Int32 × sm_H)} (hf : F_396_58 y1 y2 y3 y4 h = some r) (hs : (fun (r : Int32 × sm_H) => res = (some (.int r.1), r.2)) r) : Ex (P_G L xs) (RUN L xs d) (sm_lk P_t396) 0 58 [some (.ref 67), some (.int y1), some (.int y2), some (.int y3), some (.int y4)] [] h res := by
  unfold F_396_58 at hf
  refine Ex.seg 2 (pc' := 60) (lc' := [some (.ref 67), some (.int y1), some (.int y2), some (.int y3), some (.int y4)]) (st' := [.int 4, .int y3]) (h' := h) (sg1 rfl rfl (sg1 rfl rfl rfl)) ?_
  refine Ex.icmp rfl rfl (fun (c0 : y3 ≤ 4) => ?_) (fun (c0 : ¬ (y3 ≤ 4)) => ?_)
  · rw [if_pos c0] at hf
    exact Ex.weak (sm_le_s (sm_le_s (sm_le_s (sm_le_s (sm_le_s sm_le_nil))))) (B_396_69 hd  hf hs)
  · rw [if_neg c0] at hf
    refine Ex.seg 2 (pc' := 66) (lc' := [some (.ref 67), some (.int y1), some (.int y2), some (.int y3), some (.int y4)]) (st' := [.int y4, .ref 67]) (h' := h) (sg1 rfl rfl (sg1 rfl rfl rfl)) ?_
    obtain ⟨q4, e_q4, hf⟩ := bnd hf
    refine Ex.callV (a := 67) (As := [.int y4]) (r := []) (v := none) (h' := q4) rfl rfl (by decide) rfl (Nat.le_of_ble_eq_true rfl) rfl (E_309 (Nat.le_trans (by decide) hd) e_q4) rfl ?_
    exact Ex.weak (sm_le_s (sm_le_s (sm_le_s (sm_le_s (sm_le_s sm_le_nil))))) (B_396_69 hd  hf hs)
theorem B_396_41 {L : Nat} {xs : Nat → Int32} {d : Nat} (hd : 3 ≤ d) {res : Option Value × sm_H} {y1 : Int32} {y2 : Int32} {y3 : Int32} {y4 : Int32} {z1 : Int32}  {h : sm_H} {r : (Int32 × sm_H)} (hf : F_396_41 y1 y2 y3 y4 z1 h = some r) (hs : (fun (r : Int32 × sm_H) => res = (some (.int r.1), r.2)) r) : Ex (P_G L xs) (RUN L xs d) (sm_lk P_t396) 0 41 [some (.ref 67), some (.int y1), some (.int y2), some (.int y3), some (.int y4)] [.int z1, .ref 67] h res := by
  unfold F_396_41 at hf
  obtain ⟨q5, e_q5, hf⟩ := bnd hf
  refine Ex.callV (a := 67) (As := [.int z1]) (r := []) (v := none) (h' := q5) rfl rfl (by decide) rfl (Nat.le_of_ble_eq_true rfl) rfl (E_308 (Nat.le_trans (by decide) hd) e_q5) rfl ?_
  refine Ex.seg 3 (pc' := 49) (lc' := [some (.ref 67), some (.int y1), some (.int y2), some (.int y3), some (.int y4)]) (st' := [.int y1, .ref 86]) (h' := q5) (sg1 rfl rfl (sg1 rfl rfl (sg1 rfl rfl rfl))) ?_
  obtain ⟨v6, e_v6, hf⟩ := bnd hf
  refine Ex.zald e_v6 rfl rfl ?_
  refine Ex.ifc rfl rfl (fun (c0 : ¬ (v6 = 0)) => ?_) (fun (c0 : ¬ ¬ (v6 = 0)) => ?_)
  · rw [if_neg c0] at hf
    exact Ex.weak (sm_le_s (sm_le_s (sm_le_s (sm_le_s (sm_le_s sm_le_nil))))) (B_396_58 hd  hf hs)
  · rw [if_pos (Classical.not_not.mp c0)] at hf
    refine Ex.seg 2 (pc' := 55) (lc' := [some (.ref 67), some (.int y1), some (.int y2), some (.int y3), some (.int y4)]) (st' := [.int y2, .ref 67]) (h' := q5) (sg1 rfl rfl (sg1 rfl rfl rfl)) ?_
    obtain ⟨q7, e_q7, hf⟩ := bnd hf
    refine Ex.callV (a := 67) (As := [.int y2]) (r := []) (v := none) (h' := q7) rfl rfl (by decide) rfl (Nat.le_of_ble_eq_true rfl) rfl (E_309 (Nat.le_trans (by decide) hd) e_q7) rfl ?_
    exact Ex.weak (sm_le_s (sm_le_s (sm_le_s (sm_le_s (sm_le_s sm_le_nil))))) (B_396_58 hd  hf hs)
theorem B_396_26 {L : Nat} {xs : Nat → Int32} {d : Nat} (hd : 3 ≤ d) {res : Option Value × sm_H} {y1 : Int32} {y2 : Int32} {y3 : Int32} {y4 : Int32}  {h : sm_H} {r : (Int32 × sm_H)} (hf : F_396_26 y1 y2 y3 y4 h = some r) (hs : (fun (r : Int32 × sm_H) => res = (some (.int r.1), r.2)) r) : Ex (P_G L xs) (RUN L xs d) (sm_lk P_t396) 0 26 [some (.ref 67), some (.int y1), some (.int y2), some (.int y3), some (.int y4)] [.ref 67] h res := by
  unfold F_396_26 at hf
  refine Ex.seg 2 (pc' := 41) (lc' := [some (.ref 67), some (.int y1), some (.int y2), some (.int y3), some (.int y4)]) (st' := [.int y4, .ref 67]) (h' := h) (sg1 rfl rfl (sg1 rfl rfl rfl)) ?_
  exact Ex.weak (sm_le_s (sm_le_s (sm_le_s (sm_le_s (sm_le_s sm_le_nil))))) (B_396_41 hd  hf hs)
theorem B_396_0 {L : Nat} {xs : Nat → Int32} {d : Nat} (hd : 3 ≤ d) {res : Option Value × sm_H} {x1 : Int32} {x2 : Int32} {x3 : Int32}  {h : sm_H} {r : (Int32 × sm_H)} (hf : F_396_0 x1 x2 x3 h = some r) (hs : (fun (r : Int32 × sm_H) => res = (some (.int r.1), r.2)) r) : Ex (P_G L xs) (RUN L xs d) (sm_lk P_t396) 0 0 [some (.ref 67), some (.int x1), some (.int x2), some (.int x3), none] [] h res := by
  unfold F_396_0 at hf
  refine Ex.seg 3 (pc' := 5) (lc' := [some (.ref 67), some (.int x1), some (.int x2), some (.int x3), none]) (st' := [.int x1, .ref 88]) (h' := h) (sg1 rfl rfl (sg1 rfl rfl (sg1 rfl rfl rfl))) ?_
  obtain ⟨v8, e_v8, hf⟩ := bnd hf
  refine Ex.iald e_v8 rfl rfl ?_
  refine Ex.seg 4 (pc' := 11) (lc' := [some (.ref 67), some (.int x1), some (.int x2), some (.int x3), some (.int v8)]) (st' := [.int 4, .int x3, .ref 67]) (h' := h) (sg1 rfl rfl (sg1 rfl rfl (sg1 rfl rfl (sg1 rfl rfl rfl)))) ?_
  refine Ex.icmp rfl rfl (fun (c0 : x3 = 4) => ?_) (fun (c0 : ¬ (x3 = 4)) => ?_)
  · rw [if_pos c0] at hf
    exact Ex.weak (sm_le_s (sm_le_s (sm_le_s (sm_le_s (sm_le_s sm_le_nil))))) (B_396_26 hd  hf hs)
  · rw [if_neg c0] at hf
    refine Ex.seg 2 (pc' := 17) (lc' := [some (.ref 67), some (.int x1), some (.int x2), some (.int x3), some (.int v8)]) (st' := [.int 6, .int x3, .ref 67]) (h' := h) (sg1 rfl rfl (sg1 rfl rfl rfl)) ?_
    refine Ex.icmp rfl rfl (fun (c0 : x3 = 6) => ?_) (fun (c0 : ¬ (x3 = 6)) => ?_)
    · rw [if_pos c0] at hf
      exact Ex.weak (sm_le_s (sm_le_s (sm_le_s (sm_le_s (sm_le_s sm_le_nil))))) (B_396_26 hd  hf hs)
    · rw [if_neg c0] at hf
      refine Ex.seg 2 (pc' := 23) (lc' := [some (.ref 67), some (.int x1), some (.int x2), some (.int x3), some (.int v8)]) (st' := [.int 8, .int x3, .ref 67]) (h' := h) (sg1 rfl rfl (sg1 rfl rfl rfl)) ?_
      refine Ex.icmp rfl rfl (fun (c0 : ¬ (x3 = 8)) => ?_) (fun (c0 : ¬ ¬ (x3 = 8)) => ?_)
      · rw [if_neg c0] at hf
        refine Ex.seg 2 (pc' := 33) (lc' := [some (.ref 67), some (.int x1), some (.int x2), some (.int x3), some (.int v8)]) (st' := [.int 5, .int x3, .ref 67]) (h' := h) (sg1 rfl rfl (sg1 rfl rfl rfl)) ?_
        refine Ex.icmp rfl rfl (fun (c0 : ¬ (x3 = 5)) => ?_) (fun (c0 : ¬ ¬ (x3 = 5)) => ?_)
        · rw [if_neg c0] at hf
          refine Ex.seg 1 (pc' := 41) (lc' := [some (.ref 67), some (.int x1), some (.int x2), some (.int x3), some (.int v8)]) (st' := [.int 1, .ref 67]) (h' := h) (sg1 rfl rfl rfl) ?_
          exact Ex.weak (sm_le_s (sm_le_s (sm_le_s (sm_le_s (sm_le_s sm_le_nil))))) (B_396_41 hd  hf hs)
        · rw [if_pos (Classical.not_not.mp c0)] at hf
          refine Ex.seg 2 (pc' := 41) (lc' := [some (.ref 67), some (.int x1), some (.int x2), some (.int x3), some (.int v8)]) (st' := [.int 0, .ref 67]) (h' := h) (sg1 rfl rfl (sg1 rfl rfl rfl)) ?_
          exact Ex.weak (sm_le_s (sm_le_s (sm_le_s (sm_le_s (sm_le_s sm_le_nil))))) (B_396_41 hd  hf hs)
      · rw [if_pos (Classical.not_not.mp c0)] at hf
        exact Ex.weak (sm_le_s (sm_le_s (sm_le_s (sm_le_s (sm_le_s sm_le_nil))))) (B_396_26 hd  hf hs)
theorem E_396 {L : Nat} {xs : Nat → Int32} {d : Nat} (hd : 4 ≤ d) {x1 : Int32} {x2 : Int32} {x3 : Int32} {h : sm_H} {r : Int32 × sm_H} (hf : F_396 x1 x2 x3 h = some r) : RUN L xs d 396 [.ref 67, .int x1, .int x2, .int x3] h (some (.int r.1), r.2) := by
  obtain ⟨d, rfl⟩ : ∃ e, d = e + 1 := ⟨d - 1, by omega⟩
  exact ⟨Nat.le_of_ble_eq_true rfl, B_396_0 (by omega) hf rfl⟩
theorem B_397_0 {L : Nat} {xs : Nat → Int32} {d : Nat} (hd : 0 ≤ d) {res : Option Value × sm_H}   {h : sm_H} {r : (Int32 × sm_H)} (hf : F_397_0  h = some r) (hs : (fun (r : Int32 × sm_H) => res = (some (.int r.1), r.2)) r) : Ex (P_G L xs) (RUN L xs d) (sm_lk P_t397) 0 0 [some (.ref 67)] [] h res := by
  unfold F_397_0 at hf
  refine Ex.seg 2 (pc' := 4) (lc' := [some (.ref 67)]) (st' := [.int (h.1 67 19)]) (h' := h) (sg1 rfl rfl (sg1 rfl rfl rfl)) ?_
  obtain rfl := Option.some.inj hf
  exact Ex.iret rfl rfl (fun c0 => by cases c0) hs
theorem E_397 {L : Nat} {xs : Nat → Int32} {d : Nat} (hd : 1 ≤ d)  {h : sm_H} {r : Int32 × sm_H} (hf : F_397  h = some r) : RUN L xs d 397 [.ref 67] h (some (.int r.1), r.2) := by
  obtain ⟨d, rfl⟩ : ∃ e, d = e + 1 := ⟨d - 1, by omega⟩
  exact ⟨Nat.le_of_ble_eq_true rfl, B_397_0 (by omega) hf rfl⟩
theorem B_398_17 {L : Nat} {xs : Nat → Int32} {d : Nat} (hd : 1 ≤ d) {res : Option Value × sm_H}   {h : sm_H} {r : (Int32 × sm_H)} (hf : F_398_17  h = some r) (hs : (fun (r : Int32 × sm_H) => res = (some (.int r.1), r.2)) r) : Ex (P_G L xs) (RUN L xs d) (sm_lk P_t398) 0 17 [none, none] [] h res := by
  unfold F_398_17 at hf
  refine Ex.seg 1 (pc' := 18) (lc' := [none, none]) (st' := [.int (-1)]) (h' := h) (sg1 rfl rfl rfl) ?_
  obtain rfl := Option.some.inj hf
  exact Ex.iret rfl rfl (fun c0 => by cases c0) hs
theorem B_398_0 {L : Nat} {xs : Nat → Int32} {d : Nat} (hd : 1 ≤ d) {res : Option Value × sm_H} {x1 : Int32}  {h : sm_H} {r : (Int32 × sm_H)} (hf : F_398_0 x1 h = some r) (hs : (fun (r : Int32 × sm_H) => res = (some (.int r.1), r.2)) r) : Ex (P_G L xs) (RUN L xs d) (sm_lk P_t398) 0 0 [some (.ref 67), some (.int x1)] [] h res := by
  unfold F_398_0 at hf
  refine Ex.seg 3 (pc' := 6) (lc' := [some (.ref 67), some (.int x1)]) (st' := [.int 80, .int (h.1 67 35)]) (h' := h) (sg1 rfl rfl (sg1 rfl rfl (sg1 rfl rfl rfl))) ?_
  refine Ex.icmp rfl rfl (fun (c0 : (h.1 67 35) = 80) => ?_) (fun (c0 : ¬ ((h.1 67 35) = 80)) => ?_)
  · rw [if_pos c0] at hf
    exact Ex.weak (sm_le_n (sm_le_n sm_le_nil)) (B_398_17 hd  hf hs)
  · rw [if_neg c0] at hf
    refine Ex.seg 2 (pc' := 11) (lc' := [some (.ref 67), some (.int x1)]) (st' := [.int x1, .ref 67]) (h' := h) (sg1 rfl rfl (sg1 rfl rfl rfl)) ?_
    obtain ⟨q1, e_q1, hf⟩ := bnd hf
    refine Ex.callV (a := 67) (As := [.int x1]) (r := []) (v := some (.int q1.1)) (h' := q1.2) rfl rfl (by decide) rfl (Nat.le_of_ble_eq_true rfl) rfl (E_304 (Nat.le_trans (by decide) hd) e_q1) rfl ?_
    refine Ex.ifc rfl rfl (fun (c0 : ¬ (q1.1 = 0)) => ?_) (fun (c0 : ¬ ¬ (q1.1 = 0)) => ?_)
    · rw [if_neg c0] at hf
      refine Ex.seg 5 (pc' := 28) (lc' := [some (.ref 67), some (.int x1)]) (st' := [.int x1, .int (q1.2.1 67 35), .ref 92]) (h' := q1.2) (sg1 rfl rfl (sg1 rfl rfl (sg1 rfl rfl (sg1 rfl rfl (sg1 rfl rfl rfl))))) ?_
      obtain ⟨h2, e_h2, hf⟩ := bnd hf
      refine Ex.iast e_h2 rfl rfl ?_
      refine Ex.seg 6 (pc' := 39) (lc' := [some (.ref 67), some (.int x1)]) (st' := []) (h' := (sm_wI h2 67 35 ((h2.1 67 35) + 1))) (sg1 rfl rfl (sg1 rfl rfl (sg1 rfl rfl (sg1 rfl rfl (sg1 rfl rfl (sg1 rfl rfl rfl)))))) ?_
      obtain ⟨h3, e_h3, hf⟩ := bnd hf
      rw [Option.some.inj e_h3]
      refine Ex.seg 4 (pc' := 45) (lc' := [some (.ref 67), some (.int x1)]) (st' := [.int ((h3.1 67 35) - 1)]) (h' := h3) (sg1 rfl rfl (sg1 rfl rfl (sg1 rfl rfl (sg1 rfl rfl rfl)))) ?_
      obtain rfl := Option.some.inj hf
      exact Ex.iret rfl rfl (fun c0 => by cases c0) hs
    · rw [if_pos (Classical.not_not.mp c0)] at hf
      exact Ex.weak (sm_le_n (sm_le_n sm_le_nil)) (B_398_17 hd  hf hs)
theorem E_398 {L : Nat} {xs : Nat → Int32} {d : Nat} (hd : 2 ≤ d) {x1 : Int32} {h : sm_H} {r : Int32 × sm_H} (hf : F_398 x1 h = some r) : RUN L xs d 398 [.ref 67, .int x1] h (some (.int r.1), r.2) := by
  obtain ⟨d, rfl⟩ : ∃ e, d = e + 1 := ⟨d - 1, by omega⟩
  exact ⟨Nat.le_of_ble_eq_true rfl, B_398_0 (by omega) hf rfl⟩
theorem B_399_44 {L : Nat} {xs : Nat → Int32} {d : Nat} (hd : 1 ≤ d) {res : Option Value × sm_H}   {h : sm_H} {r : (Int32 × sm_H)} (hf : F_399_44  h = some r) (hs : (fun (r : Int32 × sm_H) => res = (some (.int r.1), r.2)) r) : Ex (P_G L xs) (RUN L xs d) (sm_lk P_t399) 3 44 [none, none, none] [] h res := by
  unfold F_399_44 at hf
  refine Ex.seg 1 (pc' := 45) (lc' := [none, none, none]) (st' := [.int 0]) (h' := h) (sg1 rfl rfl rfl) ?_
  obtain rfl := Option.some.inj hf
  exact Ex.iret rfl rfl (fun _ => by decide) hs
theorem B_399_0 {L : Nat} {xs : Nat → Int32} {d : Nat} (hd : 1 ≤ d) {res : Option Value × sm_H} {x1 : Int32} {x2 : Int32}  {h : sm_H} {r : (Int32 × sm_H)} (hf : F_399_0 x1 x2 h = some r) (hs : (fun (r : Int32 × sm_H) => res = (some (.int r.1), r.2)) r) : Ex (P_G L xs) (RUN L xs d) (sm_lk P_t399) 3 0 [some (.ref 67), some (.int x1), some (.int x2)] [] h res := by
  unfold F_399_0 at hf
  refine Ex.seg 8 (pc' := 10) (lc' := [some (.ref 67), some (.int x1), some (.int x2)]) (st' := [.long (Int32.toInt64 ((h.1 67 35) - 1)), .long 0, .long (Int32.toInt64 x1)]) (h' := h) (sg1 rfl rfl (sg1 rfl rfl (sg1 rfl rfl (sg1 rfl rfl (sg1 rfl rfl (sg1 rfl rfl (sg1 rfl rfl (sg1 rfl rfl rfl)))))))) ?_
  obtain ⟨q1, e_q1, hf⟩ := bnd hf
  refine Ex.callS (As := [.long (Int32.toInt64 x1), .long 0, .long (Int32.toInt64 ((h.1 67 35) - 1))]) (r := []) (v := some (.int q1.1)) (h' := q1.2) rfl rfl rfl rfl (Nat.le_of_ble_eq_true rfl) (E_315 (Nat.le_trans (by decide) hd) e_q1) rfl ?_
  refine Ex.ifc rfl rfl (fun (c0 : ¬ (q1.1 = 0)) => ?_) (fun (c0 : ¬ ¬ (q1.1 = 0)) => ?_)
  · rw [if_neg c0] at hf
    exact Ex.weak (sm_le_n (sm_le_n (sm_le_n sm_le_nil))) (B_399_44 hd  hf hs)
  · rw [if_pos (Classical.not_not.mp c0)] at hf
    refine Ex.seg 2 (pc' := 18) (lc' := [some (.ref 67), some (.int x1), some (.int x2)]) (st' := [.int x2, .ref 67]) (h' := q1.2) (sg1 rfl rfl (sg1 rfl rfl rfl)) ?_
    obtain ⟨q2, e_q2, hf⟩ := bnd hf
    refine Ex.callV (a := 67) (As := [.int x2]) (r := []) (v := some (.int q2.1)) (h' := q2.2) rfl rfl (by decide) rfl (Nat.le_of_ble_eq_true rfl) rfl (E_304 (Nat.le_trans (by decide) hd) e_q2) rfl ?_
    refine Ex.ifc rfl rfl (fun (c0 : q2.1 = 0) => ?_) (fun (c0 : ¬ (q2.1 = 0)) => ?_)
    · rw [if_pos c0] at hf
      exact Ex.weak (sm_le_n (sm_le_n (sm_le_n sm_le_nil))) (B_399_44 hd  hf hs)
    · rw [if_neg c0] at hf
      refine Ex.seg 3 (pc' := 29) (lc' := [some (.ref 67), some (.int x1), some (.int x2)]) (st' := [.int x2, .ref 76]) (h' := q2.2) (sg1 rfl rfl (sg1 rfl rfl (sg1 rfl rfl rfl))) ?_
      obtain ⟨v3, e_v3, hf⟩ := bnd hf
      refine Ex.iald e_v3 rfl rfl ?_
      refine Ex.seg 5 (pc' := 39) (lc' := [some (.ref 67), some (.int x1), some (.int x2)]) (st' := [.int x1, .ref 92, .ref 76, .int v3]) (h' := q2.2) (sg1 rfl rfl (sg1 rfl rfl (sg1 rfl rfl (sg1 rfl rfl (sg1 rfl rfl rfl))))) ?_
      obtain ⟨v4, e_v4, hf⟩ := bnd hf
      refine Ex.iald e_v4 rfl rfl ?_
      obtain ⟨v5, e_v5, hf⟩ := bnd hf
      refine Ex.iald e_v5 rfl rfl ?_
      refine Ex.icmp rfl rfl (fun (c0 : v3 = v5) => ?_) (fun (c0 : ¬ (v3 = v5)) => ?_)
      · rw [if_pos c0] at hf
        refine Ex.seg 4 (pc' := 52) (lc' := [some (.ref 67), some (.int x1), some (.int x2)]) (st' := [.int x2, .int x1, .ref 92]) (h' := q2.2) (sg1 rfl rfl (sg1 rfl rfl (sg1 rfl rfl (sg1 rfl rfl rfl)))) ?_
        obtain ⟨h6, e_h6, hf⟩ := bnd hf
        refine Ex.iast e_h6 rfl rfl ?_
        refine Ex.seg 1 (pc' := 54) (lc' := [some (.ref 67), some (.int x1), some (.int x2)]) (st' := [.int 1]) (h' := h6) (sg1 rfl rfl rfl) ?_
        obtain rfl := Option.some.inj hf
        exact Ex.iret rfl rfl (fun _ => by decide) hs
      · rw [if_neg c0] at hf
        exact Ex.weak (sm_le_n (sm_le_n (sm_le_n sm_le_nil))) (B_399_44 hd  hf hs)
theorem E_399 {L : Nat} {xs : Nat → Int32} {d : Nat} (hd : 2 ≤ d) {x1 : Int32} {x2 : Int32} {h : sm_H} {r : Int32 × sm_H} (hf : F_399 x1 x2 h = some r) : RUN L xs d 399 [.ref 67, .int x1, .int x2] h (some (.int r.1), r.2) := by
  obtain ⟨d, rfl⟩ : ∃ e, d = e + 1 := ⟨d - 1, by omega⟩
  exact ⟨Nat.le_of_ble_eq_true rfl, B_399_0 (by omega) hf rfl⟩
theorem B_400_0 {L : Nat} {xs : Nat → Int32} {d : Nat} (hd : 0 ≤ d) {res : Option Value × sm_H}   {h : sm_H} {r : (Int32 × sm_H)} (hf : F_400_0  h = some r) (hs : (fun (r : Int32 × sm_H) => res = (some (.int r.1), r.2)) r) : Ex (P_G L xs) (RUN L xs d) (sm_lk P_t400) 0 0 [some (.ref 67)] [] h res := by
  unfold F_400_0 at hf
  refine Ex.seg 3 (pc' := 6) (lc' := [some (.ref 67)]) (st' := [.int 20, .int (h.1 67 37)]) (h' := h) (sg1 rfl rfl (sg1 rfl rfl (sg1 rfl rfl rfl))) ?_
  refine Ex.icmp rfl rfl (fun (c0 : ¬ ((h.1 67 37) = 20)) => ?_) (fun (c0 : ¬ ¬ ((h.1 67 37) = 20)) => ?_)
  · rw [if_neg c0] at hf
    refine Ex.seg 6 (pc' := 21) (lc' := [some (.ref 67)]) (st' := []) (h' := (sm_wI h 67 37 ((h.1 67 37) + 1))) (sg1 rfl rfl (sg1 rfl rfl (sg1 rfl rfl (sg1 rfl rfl (sg1 rfl rfl (sg1 rfl rfl rfl)))))) ?_
    obtain ⟨h1, e_h1, hf⟩ := bnd hf
    rw [Option.some.inj e_h1]
    refine Ex.seg 4 (pc' := 27) (lc' := [some (.ref 67)]) (st' := [.int ((h1.1 67 37) - 1)]) (h' := h1) (sg1 rfl rfl (sg1 rfl rfl (sg1 rfl rfl (sg1 rfl rfl rfl)))) ?_
    obtain rfl := Option.some.inj hf
    exact Ex.iret rfl rfl (fun c0 => by cases c0) hs
  · rw [if_pos (Classical.not_not.mp c0)] at hf
    refine Ex.seg 1 (pc' := 10) (lc' := [some (.ref 67)]) (st' := [.int (-1)]) (h' := h) (sg1 rfl rfl rfl) ?_
    obtain rfl := Option.some.inj hf
    exact Ex.iret rfl rfl (fun c0 => by cases c0) hs
theorem E_400 {L : Nat} {xs : Nat → Int32} {d : Nat} (hd : 1 ≤ d)  {h : sm_H} {r : Int32 × sm_H} (hf : F_400  h = some r) : RUN L xs d 400 [.ref 67] h (some (.int r.1), r.2) := by
  obtain ⟨d, rfl⟩ : ∃ e, d = e + 1 := ⟨d - 1, by omega⟩
  exact ⟨Nat.le_of_ble_eq_true rfl, B_400_0 (by omega) hf rfl⟩
theorem B_401_25 {L : Nat} {xs : Nat → Int32} {d : Nat} (hd : 1 ≤ d) {res : Option Value × sm_H}   {h : sm_H} {r : (Int32 × sm_H)} (hf : F_401_25  h = some r) (hs : (fun (r : Int32 × sm_H) => res = (some (.int r.1), r.2)) r) : Ex (P_G L xs) (RUN L xs d) (sm_lk P_t401) 3 25 [none, none] [] h res := by
  unfold F_401_25 at hf
  refine Ex.seg 1 (pc' := 26) (lc' := [none, none]) (st' := [.int 0]) (h' := h) (sg1 rfl rfl rfl) ?_
  obtain rfl := Option.some.inj hf
  exact Ex.iret rfl rfl (fun _ => by decide) hs
theorem B_401_0 {L : Nat} {xs : Nat → Int32} {d : Nat} (hd : 1 ≤ d) {res : Option Value × sm_H} {x1 : Int32}  {h : sm_H} {r : (Int32 × sm_H)} (hf : F_401_0 x1 h = some r) (hs : (fun (r : Int32 × sm_H) => res = (some (.int r.1), r.2)) r) : Ex (P_G L xs) (RUN L xs d) (sm_lk P_t401) 3 0 [some (.ref 67), some (.int x1)] [] h res := by
  unfold F_401_0 at hf
  refine Ex.seg 8 (pc' := 10) (lc' := [some (.ref 67), some (.int x1)]) (st' := [.long (Int32.toInt64 ((h.1 67 37) - 1)), .long 0, .long (Int32.toInt64 x1)]) (h' := h) (sg1 rfl rfl (sg1 rfl rfl (sg1 rfl rfl (sg1 rfl rfl (sg1 rfl rfl (sg1 rfl rfl (sg1 rfl rfl (sg1 rfl rfl rfl)))))))) ?_
  obtain ⟨q1, e_q1, hf⟩ := bnd hf
  refine Ex.callS (As := [.long (Int32.toInt64 x1), .long 0, .long (Int32.toInt64 ((h.1 67 37) - 1))]) (r := []) (v := some (.int q1.1)) (h' := q1.2) rfl rfl rfl rfl (Nat.le_of_ble_eq_true rfl) (E_315 (Nat.le_trans (by decide) hd) e_q1) rfl ?_
  refine Ex.ifc rfl rfl (fun (c0 : ¬ (q1.1 = 0)) => ?_) (fun (c0 : ¬ ¬ (q1.1 = 0)) => ?_)
  · rw [if_neg c0] at hf
    exact Ex.weak (sm_le_n (sm_le_n sm_le_nil)) (B_401_25 hd  hf hs)
  · rw [if_pos (Classical.not_not.mp c0)] at hf
    refine Ex.seg 3 (pc' := 21) (lc' := [some (.ref 67), some (.int x1)]) (st' := [.int x1, .ref 93]) (h' := q1.2) (sg1 rfl rfl (sg1 rfl rfl (sg1 rfl rfl rfl))) ?_
    obtain ⟨v2, e_v2, hf⟩ := bnd hf
    refine Ex.zald e_v2 rfl rfl ?_
    refine Ex.ifc rfl rfl (fun (c0 : v2 = 0) => ?_) (fun (c0 : ¬ (v2 = 0)) => ?_)
    · rw [if_pos c0] at hf
      refine Ex.seg 4 (pc' := 33) (lc' := [some (.ref 67), some (.int x1)]) (st' := [.int 1, .int x1, .ref 93]) (h' := q1.2) (sg1 rfl rfl (sg1 rfl rfl (sg1 rfl rfl (sg1 rfl rfl rfl)))) ?_
      obtain ⟨h3, e_h3, hf⟩ := bnd hf
      refine Ex.zast e_h3 rfl rfl ?_
      refine Ex.seg 1 (pc' := 35) (lc' := [some (.ref 67), some (.int x1)]) (st' := [.int 1]) (h' := h3) (sg1 rfl rfl rfl) ?_
      obtain rfl := Option.some.inj hf
      exact Ex.iret rfl rfl (fun _ => by decide) hs
    · rw [if_neg c0] at hf
      exact Ex.weak (sm_le_n (sm_le_n sm_le_nil)) (B_401_25 hd  hf hs)
theorem E_401 {L : Nat} {xs : Nat → Int32} {d : Nat} (hd : 2 ≤ d) {x1 : Int32} {h : sm_H} {r : Int32 × sm_H} (hf : F_401 x1 h = some r) : RUN L xs d 401 [.ref 67, .int x1] h (some (.int r.1), r.2) := by
  obtain ⟨d, rfl⟩ : ∃ e, d = e + 1 := ⟨d - 1, by omega⟩
  exact ⟨Nat.le_of_ble_eq_true rfl, B_401_0 (by omega) hf rfl⟩
theorem B_402_0 {L : Nat} {xs : Nat → Int32} {d : Nat} (hd : 0 ≤ d) {res : Option Value × sm_H} {x1 : Int64}  {h : sm_H} {r : (Int32 × sm_H)} (hf : F_402_0 x1 h = some r) (hs : (fun (r : Int32 × sm_H) => res = (some (.int r.1), r.2)) r) : Ex (P_G L xs) (RUN L xs d) (sm_lk P_t402) 3 0 [some (.ref 67), some (.long x1), none] [] h res := by
  unfold F_402_0 at hf
  refine Ex.seg 3 (pc' := 6) (lc' := [some (.ref 67), some (.long x1), none]) (st' := [.int 10, .int (h.1 67 68)]) (h' := h) (sg1 rfl rfl (sg1 rfl rfl (sg1 rfl rfl rfl))) ?_
  refine Ex.icmp rfl rfl (fun (c0 : ¬ ((h.1 67 68) = 10)) => ?_) (fun (c0 : ¬ ¬ ((h.1 67 68) = 10)) => ?_)
  · rw [if_neg c0] at hf
    refine Ex.seg 5 (pc' := 20) (lc' := [some (.ref 67), some (.long x1), none]) (st' := [.long x1, .int (h.1 67 68), .ref 110]) (h' := h) (sg1 rfl rfl (sg1 rfl rfl (sg1 rfl rfl (sg1 rfl rfl (sg1 rfl rfl rfl))))) ?_
    obtain ⟨h1, e_h1, hf⟩ := bnd hf
    refine Ex.last e_h1 rfl rfl ?_
    refine Ex.seg 6 (pc' := 31) (lc' := [some (.ref 67), some (.long x1), none]) (st' := []) (h' := (sm_wI h1 67 68 ((h1.1 67 68) + 1))) (sg1 rfl rfl (sg1 rfl rfl (sg1 rfl rfl (sg1 rfl rfl (sg1 rfl rfl (sg1 rfl rfl rfl)))))) ?_
    obtain ⟨h2, e_h2, hf⟩ := bnd hf
    rw [Option.some.inj e_h2]
    refine Ex.seg 1 (pc' := 32) (lc' := [some (.ref 67), some (.long x1), none]) (st' := [.int 1]) (h' := h2) (sg1 rfl rfl rfl) ?_
    obtain rfl := Option.some.inj hf
    exact Ex.iret rfl rfl (fun _ => by decide) hs
  · rw [if_pos (Classical.not_not.mp c0)] at hf
    refine Ex.seg 1 (pc' := 10) (lc' := [some (.ref 67), some (.long x1), none]) (st' := [.int 0]) (h' := h) (sg1 rfl rfl rfl) ?_
    obtain rfl := Option.some.inj hf
    exact Ex.iret rfl rfl (fun _ => by decide) hs
theorem E_402 {L : Nat} {xs : Nat → Int32} {d : Nat} (hd : 1 ≤ d) {x1 : Int64} {h : sm_H} {r : Int32 × sm_H} (hf : F_402 x1 h = some r) : RUN L xs d 402 [.ref 67, .long x1] h (some (.int r.1), r.2) := by
  obtain ⟨d, rfl⟩ : ∃ e, d = e + 1 := ⟨d - 1, by omega⟩
  exact ⟨Nat.le_of_ble_eq_true rfl, B_402_0 (by omega) hf rfl⟩
theorem B_403_58 {L : Nat} {xs : Nat → Int32} {d : Nat} (hd : 2 ≤ d) {res : Option Value × sm_H} {z0 : Int32}  {h : sm_H} {r : (Int32 × sm_H)} (hf : F_403_58 z0 h = some r) (hs : (fun (r : Int32 × sm_H) => res = (some (.int r.1), r.2)) r) : Ex (P_G L xs) (RUN L xs d) (sm_lk P_t403) 3 58 [none, none, none, none] [.int z0] h res := by
  unfold F_403_58 at hf
  rcases Classical.em (z0 = 0 ∨ z0 = 1) with c0 | c0
  · rw [if_pos c0] at hf
    obtain rfl := Option.some.inj hf
    exact Ex.iret rfl rfl (fun _ => c0) hs
  · rw [if_neg c0] at hf
    cases hf
theorem B_403_57 {L : Nat} {xs : Nat → Int32} {d : Nat} (hd : 2 ≤ d) {res : Option Value × sm_H}   {h : sm_H} {r : (Int32 × sm_H)} (hf : F_403_57  h = some r) (hs : (fun (r : Int32 × sm_H) => res = (some (.int r.1), r.2)) r) : Ex (P_G L xs) (RUN L xs d) (sm_lk P_t403) 3 57 [none, none, none, none] [] h res := by
  unfold F_403_57 at hf
  refine Ex.seg 1 (pc' := 58) (lc' := [none, none, none, none]) (st' := [.int 0]) (h' := h) (sg1 rfl rfl rfl) ?_
  exact Ex.weak (sm_le_s (sm_le_s (sm_le_s (sm_le_s sm_le_nil)))) (B_403_58 hd  hf hs)
theorem B_403_0 {L : Nat} {xs : Nat → Int32} {d : Nat} (hd : 2 ≤ d) {res : Option Value × sm_H} {x1 : Int32} {x2 : Int64}  {h : sm_H} {r : (Int32 × sm_H)} (hf : F_403_0 x1 x2 h = some r) (hs : (fun (r : Int32 × sm_H) => res = (some (.int r.1), r.2)) r) : Ex (P_G L xs) (RUN L xs d) (sm_lk P_t403) 3 0 [some (.ref 67), some (.int x1), some (.long x2), none] [] h res := by
  unfold F_403_0 at hf
  refine Ex.seg 1 (pc' := 1) (lc' := [some (.ref 67), some (.int x1), some (.long x2), none]) (st' := [.int x1]) (h' := h) (sg1 rfl rfl rfl) ?_
  obtain ⟨q1, e_q1, hf⟩ := bnd hf
  refine Ex.callS (As := [.int x1]) (r := []) (v := some (.int q1.1)) (h' := q1.2) rfl rfl rfl rfl (Nat.le_of_ble_eq_true rfl) (E_290 (Nat.le_trans (by decide) hd) e_q1) rfl ?_
  refine Ex.ifc rfl rfl (fun (c0 : q1.1 = 0) => ?_) (fun (c0 : ¬ (q1.1 = 0)) => ?_)
  · rw [if_pos c0] at hf
    refine Ex.seg 3 (pc' := 18) (lc' := [some (.ref 67), some (.int x1), some (.long x2), none]) (st' := [.int (lg_cmp x2 (-1))]) (h' := q1.2) (sg1 rfl rfl (sg1 rfl rfl (sg1 rfl rfl rfl))) ?_
    refine Ex.ifc rfl rfl (fun (c0 : ¬ ((lg_cmp x2 (-1)) = 0)) => ?_) (fun (c0 : ¬ ¬ ((lg_cmp x2 (-1)) = 0)) => ?_)
    · rw [if_neg c0] at hf
      refine Ex.seg 7 (pc' := 32) (lc' := [some (.ref 67), some (.int x1), some (.long x2), none]) (st' := [.long (Int32.toInt64 ((q1.2.1 67 40) - 1)), .long 0, .long x2]) (h' := q1.2) (sg1 rfl rfl (sg1 rfl rfl (sg1 rfl rfl (sg1 rfl rfl (sg1 rfl rfl (sg1 rfl rfl (sg1 rfl rfl rfl))))))) ?_
      obtain ⟨q2, e_q2, hf⟩ := bnd hf
      refine Ex.callS (As := [.long x2, .long 0, .long (Int32.toInt64 ((q1.2.1 67 40) - 1))]) (r := []) (v := some (.int q2.1)) (h' := q2.2) rfl rfl rfl rfl (Nat.le_of_ble_eq_true rfl) (E_315 (Nat.le_trans (by decide) hd) e_q2) rfl ?_
      refine Ex.ifc rfl rfl (fun (c0 : ¬ (q2.1 = 0)) => ?_) (fun (c0 : ¬ ¬ (q2.1 = 0)) => ?_)
      · rw [if_neg c0] at hf
        exact Ex.weak (sm_le_n (sm_le_n (sm_le_n (sm_le_s sm_le_nil)))) (B_403_57 hd  hf hs)
      · rw [if_pos (Classical.not_not.mp c0)] at hf
        refine Ex.seg 5 (pc' := 45) (lc' := [some (.ref 67), some (.int x1), some (.long x2), none]) (st' := [.int (Int64.toInt32 x2), .ref 94, .ref 67]) (h' := q2.2) (sg1 rfl rfl (sg1 rfl rfl (sg1 rfl rfl (sg1 rfl rfl (sg1 rfl rfl rfl))))) ?_
        obtain ⟨v3, e_v3, hf⟩ := bnd hf
        refine Ex.iald e_v3 rfl rfl ?_
        refine Ex.seg 1 (pc' := 47) (lc' := [some (.ref 67), some (.int x1), some (.long x2), none]) (st' := [.int x1, .int v3, .ref 67]) (h' := q2.2) (sg1 rfl rfl rfl) ?_
        obtain ⟨q4, e_q4, hf⟩ := bnd hf
        refine Ex.callV (a := 67) (As := [.int v3, .int x1]) (r := []) (v := some (.int q4.1)) (h' := q4.2) rfl rfl (by decide) rfl (Nat.le_of_ble_eq_true rfl) rfl (E_295 (Nat.le_trans (by decide) hd) e_q4) rfl ?_
        refine Ex.ifc rfl rfl (fun (c0 : q4.1 = 0) => ?_) (fun (c0 : ¬ (q4.1 = 0)) => ?_)
        · rw [if_pos c0] at hf
          exact Ex.weak (sm_le_n (sm_le_n (sm_le_n (sm_le_s sm_le_nil)))) (B_403_57 hd  hf hs)
        · rw [if_neg c0] at hf
          refine Ex.seg 2 (pc' := 58) (lc' := [some (.ref 67), some (.int x1), some (.long x2), none]) (st' := [.int 1]) (h' := q4.2) (sg1 rfl rfl (sg1 rfl rfl rfl)) ?_
          exact Ex.weak (sm_le_n (sm_le_n (sm_le_n (sm_le_s sm_le_nil)))) (B_403_58 hd  hf hs)
    · rw [if_pos (Classical.not_not.mp c0)] at hf
      refine Ex.seg 1 (pc' := 22) (lc' := [some (.ref 67), some (.int x1), some (.long x2), none]) (st' := [.int 1]) (h' := q1.2) (sg1 rfl rfl rfl) ?_
      obtain rfl := Option.some.inj hf
      exact Ex.iret rfl rfl (fun _ => by decide) hs
  · rw [if_neg c0] at hf
    refine Ex.seg 2 (pc' := 9) (lc' := [some (.ref 67), some (.int x1), some (.long x2), none]) (st' := [.long x2, .int x1]) (h' := q1.2) (sg1 rfl rfl (sg1 rfl rfl rfl)) ?_
    obtain ⟨q5, e_q5, hf⟩ := bnd hf
    refine Ex.callS (As := [.int x1, .long x2]) (r := []) (v := some (.int q5.1)) (h' := q5.2) rfl rfl rfl rfl (Nat.le_of_ble_eq_true rfl) (E_316 (Nat.le_trans (by decide) hd) e_q5) rfl ?_
    rcases Classical.em (q5.1 = 0 ∨ q5.1 = 1) with c0 | c0
    · rw [if_pos c0] at hf
      obtain rfl := Option.some.inj hf
      exact Ex.iret rfl rfl (fun _ => c0) hs
    · rw [if_neg c0] at hf
      cases hf
theorem E_403 {L : Nat} {xs : Nat → Int32} {d : Nat} (hd : 3 ≤ d) {x1 : Int32} {x2 : Int64} {h : sm_H} {r : Int32 × sm_H} (hf : F_403 x1 x2 h = some r) : RUN L xs d 403 [.ref 67, .int x1, .long x2] h (some (.int r.1), r.2) := by
  obtain ⟨d, rfl⟩ : ∃ e, d = e + 1 := ⟨d - 1, by omega⟩
  exact ⟨Nat.le_of_ble_eq_true rfl, B_403_0 (by omega) hf rfl⟩
theorem B_405_0 {L : Nat} {xs : Nat → Int32} {d : Nat} (hd : 0 ≤ d) {res : Option Value × sm_H} {x1 : Int32}  {h : sm_H} {r : (Int32 × sm_H)} (hf : F_405_0 x1 h = some r) (hs : (fun (r : Int32 × sm_H) => res = (some (.int r.1), r.2)) r) : Ex (P_G L xs) (RUN L xs d) (sm_lk P_t405) 0 0 [some (.ref 67), some (.int x1)] [] h res := by
  unfold F_405_0 at hf
  refine Ex.seg 1 (pc' := 1) (lc' := [some (.ref 67), some (.int x1)]) (st' := [.int x1]) (h' := h) (sg1 rfl rfl rfl) ?_
  rcases Classical.em (x1 = 0) with n1 | n1
  · rw [if_pos n1] at hf
    refine Ex.swt (t := 52) rfl rfl (by rw [n1]; exact Or.inr ⟨by decide, by decide, _, rfl, by decide⟩) ?_
    refine Ex.seg 2 (pc' := 56) (lc' := [some (.ref 67), some (.int x1)]) (st' := [.int (h.1 67 69)]) (h' := h) (sg1 rfl rfl (sg1 rfl rfl rfl)) ?_
    obtain rfl := Option.some.inj hf
    exact Ex.iret rfl rfl (fun c0 => by cases c0) hs
  rw [if_neg n1] at hf
  rcases Classical.em (x1 = 1) with n2 | n2
  · rw [if_pos n2] at hf
    refine Ex.swt (t := 57) rfl rfl (by rw [n2]; exact Or.inr ⟨by decide, by decide, _, rfl, by decide⟩) ?_
    refine Ex.seg 2 (pc' := 61) (lc' := [some (.ref 67), some (.int x1)]) (st' := [.int (h.1 67 73)]) (h' := h) (sg1 rfl rfl (sg1 rfl rfl rfl)) ?_
    obtain rfl := Option.some.inj hf
    exact Ex.iret rfl rfl (fun c0 => by cases c0) hs
  rw [if_neg n2] at hf
  rcases Classical.em (x1 = 2) with n3 | n3
  · rw [if_pos n3] at hf
    refine Ex.swt (t := 62) rfl rfl (by rw [n3]; exact Or.inr ⟨by decide, by decide, _, rfl, by decide⟩) ?_
    refine Ex.seg 2 (pc' := 66) (lc' := [some (.ref 67), some (.int x1)]) (st' := [.int (h.1 67 70)]) (h' := h) (sg1 rfl rfl (sg1 rfl rfl rfl)) ?_
    obtain rfl := Option.some.inj hf
    exact Ex.iret rfl rfl (fun c0 => by cases c0) hs
  rw [if_neg n3] at hf
  rcases Classical.em (x1 = 3) with n4 | n4
  · rw [if_pos n4] at hf
    refine Ex.swt (t := 67) rfl rfl (by rw [n4]; exact Or.inr ⟨by decide, by decide, _, rfl, by decide⟩) ?_
    refine Ex.seg 2 (pc' := 71) (lc' := [some (.ref 67), some (.int x1)]) (st' := [.int (h.1 67 71)]) (h' := h) (sg1 rfl rfl (sg1 rfl rfl rfl)) ?_
    obtain rfl := Option.some.inj hf
    exact Ex.iret rfl rfl (fun c0 => by cases c0) hs
  rw [if_neg n4] at hf
  rcases Classical.em (x1 = 4) with n5 | n5
  · rw [if_pos n5] at hf
    refine Ex.swt (t := 72) rfl rfl (by rw [n5]; exact Or.inr ⟨by decide, by decide, _, rfl, by decide⟩) ?_
    refine Ex.seg 2 (pc' := 76) (lc' := [some (.ref 67), some (.int x1)]) (st' := [.int (h.1 67 45)]) (h' := h) (sg1 rfl rfl (sg1 rfl rfl rfl)) ?_
    obtain rfl := Option.some.inj hf
    exact Ex.iret rfl rfl (fun c0 => by cases c0) hs
  rw [if_neg n5] at hf
  rcases Classical.em (x1 = 5) with n6 | n6
  · rw [if_pos n6] at hf
    refine Ex.swt (t := 77) rfl rfl (by rw [n6]; exact Or.inr ⟨by decide, by decide, _, rfl, by decide⟩) ?_
    refine Ex.seg 2 (pc' := 81) (lc' := [some (.ref 67), some (.int x1)]) (st' := [.int (h.1 67 40)]) (h' := h) (sg1 rfl rfl (sg1 rfl rfl rfl)) ?_
    obtain rfl := Option.some.inj hf
    exact Ex.iret rfl rfl (fun c0 => by cases c0) hs
  rw [if_neg n6] at hf
  rcases Classical.em (x1 = 6) with n7 | n7
  · rw [if_pos n7] at hf
    refine Ex.swt (t := 82) rfl rfl (by rw [n7]; exact Or.inr ⟨by decide, by decide, _, rfl, by decide⟩) ?_
    refine Ex.seg 2 (pc' := 86) (lc' := [some (.ref 67), some (.int x1)]) (st' := [.int (h.1 67 10)]) (h' := h) (sg1 rfl rfl (sg1 rfl rfl rfl)) ?_
    obtain rfl := Option.some.inj hf
    exact Ex.iret rfl rfl (fun c0 => by cases c0) hs
  rw [if_neg n7] at hf
  rcases Classical.em (x1 = 7) with n8 | n8
  · rw [if_pos n8] at hf
    refine Ex.swt (t := 87) rfl rfl (by rw [n8]; exact Or.inr ⟨by decide, by decide, _, rfl, by decide⟩) ?_
    refine Ex.seg 2 (pc' := 91) (lc' := [some (.ref 67), some (.int x1)]) (st' := [.int (h.1 67 18)]) (h' := h) (sg1 rfl rfl (sg1 rfl rfl rfl)) ?_
    obtain rfl := Option.some.inj hf
    exact Ex.iret rfl rfl (fun c0 => by cases c0) hs
  rw [if_neg n8] at hf
  rcases Classical.em (x1 = 8) with n9 | n9
  · rw [if_pos n9] at hf
    refine Ex.swt (t := 92) rfl rfl (by rw [n9]; exact Or.inr ⟨by decide, by decide, _, rfl, by decide⟩) ?_
    refine Ex.seg 2 (pc' := 96) (lc' := [some (.ref 67), some (.int x1)]) (st' := [.int (h.1 67 32)]) (h' := h) (sg1 rfl rfl (sg1 rfl rfl rfl)) ?_
    obtain rfl := Option.some.inj hf
    exact Ex.iret rfl rfl (fun c0 => by cases c0) hs
  rw [if_neg n9] at hf
  refine Ex.swt (t := 97) rfl rfl (sw_dflt (by decide) (by decide) (fun k hk he => ?_)) ?_
  · have hk : k < 9 := hk
    rcases (show k = 0 ∨ k = 1 ∨ k = 2 ∨ k = 3 ∨ k = 4 ∨ k = 5 ∨ k = 6 ∨ k = 7 ∨ k = 8 by omega) with rfl | rfl | rfl | rfl | rfl | rfl | rfl | rfl | rfl
    · exact absurd (Int32.toInt_inj.mp (he.symm.trans (by decide : (_ : Int) = Int32.toInt 0))) n1
    · exact absurd (Int32.toInt_inj.mp (he.symm.trans (by decide : (_ : Int) = Int32.toInt 1))) n2
    · exact absurd (Int32.toInt_inj.mp (he.symm.trans (by decide : (_ : Int) = Int32.toInt 2))) n3
    · exact absurd (Int32.toInt_inj.mp (he.symm.trans (by decide : (_ : Int) = Int32.toInt 3))) n4
    · exact absurd (Int32.toInt_inj.mp (he.symm.trans (by decide : (_ : Int) = Int32.toInt 4))) n5
    · exact absurd (Int32.toInt_inj.mp (he.symm.trans (by decide : (_ : Int) = Int32.toInt 5))) n6
    · exact absurd (Int32.toInt_inj.mp (he.symm.trans (by decide : (_ : Int) = Int32.toInt 6))) n7
    · exact absurd (Int32.toInt_inj.mp (he.symm.trans (by decide : (_ : Int) = Int32.toInt 7))) n8
    · exact absurd (Int32.toInt_inj.mp (he.symm.trans (by decide : (_ : Int) = Int32.toInt 8))) n9
  refine Ex.seg 1 (pc' := 98) (lc' := [some (.ref 67), some (.int x1)]) (st' := [.int (-1)]) (h' := h) (sg1 rfl rfl rfl) ?_
  obtain rfl := Option.some.inj hf
  exact Ex.iret rfl rfl (fun c0 => by cases c0) hs
theorem E_405 {L : Nat} {xs : Nat → Int32} {d : Nat} (hd : 1 ≤ d) {x1 : Int32} {h : sm_H} {r : Int32 × sm_H} (hf : F_405 x1 h = some r) : RUN L xs d 405 [.ref 67, .int x1] h (some (.int r.1), r.2) := by
  obtain ⟨d, rfl⟩ : ∃ e, d = e + 1 := ⟨d - 1, by omega⟩
  exact ⟨Nat.le_of_ble_eq_true rfl, B_405_0 (by omega) hf rfl⟩
theorem B_406_27 {L : Nat} {xs : Nat → Int32} {d : Nat} (hd : 1 ≤ d) {res : Option Value × sm_H} {z0 : Int64}  {h : sm_H} {r : (Int64 × sm_H)} (hf : F_406_27 z0 h = some r) (hs : (fun (r : Int64 × sm_H) => res = (some (.long r.1), r.2)) r) : Ex (P_G L xs) (RUN L xs d) (sm_lk P_t406) 0 27 [none, none, none, none] [.long z0] h res := by
  unfold F_406_27 at hf
  obtain rfl := Option.some.inj hf
  exact Ex.lret rfl rfl hs
theorem B_406_0 {L : Nat} {xs : Nat → Int32} {d : Nat} (hd : 1 ≤ d) {res : Option Value × sm_H} {x1 : Int32} {x2 : Int64}  {h : sm_H} {r : (Int64 × sm_H)} (hf : F_406_0 x1 x2 h = some r) (hs : (fun (r : Int64 × sm_H) => res = (some (.long r.1), r.2)) r) : Ex (P_G L xs) (RUN L xs d) (sm_lk P_t406) 0 0 [some (.ref 67), some (.int x1), some (.long x2), none] [] h res := by
  unfold F_406_0 at hf
  refine Ex.seg 1 (pc' := 1) (lc' := [some (.ref 67), some (.int x1), some (.long x2), none]) (st' := [.int x1]) (h' := h) (sg1 rfl rfl rfl) ?_
  obtain ⟨q1, e_q1, hf⟩ := bnd hf
  refine Ex.callS (As := [.int x1]) (r := []) (v := some (.int q1.1)) (h' := q1.2) rfl rfl rfl rfl (Nat.le_of_ble_eq_true rfl) (E_293 (Nat.le_trans (by decide) hd) e_q1) rfl ?_
  refine Ex.ifc rfl rfl (fun (c0 : q1.1 = 0) => ?_) (fun (c0 : ¬ (q1.1 = 0)) => ?_)
  · rw [if_pos c0] at hf
    refine Ex.seg 2 (pc' := 19) (lc' := [some (.ref 67), some (.int x1), some (.long x2), none]) (st' := [.int 20, .int x1]) (h' := q1.2) (sg1 rfl rfl (sg1 rfl rfl rfl)) ?_
    refine Ex.icmp rfl rfl (fun (c0 : x1 < 20) => ?_) (fun (c0 : ¬ (x1 < 20)) => ?_)
    · rw [if_pos c0] at hf
      refine Ex.seg 1 (pc' := 27) (lc' := [some (.ref 67), some (.int x1), some (.long x2), none]) (st' := [.long x2]) (h' := q1.2) (sg1 rfl rfl rfl) ?_
      exact Ex.weak (sm_le_n (sm_le_n (sm_le_n (sm_le_s sm_le_nil)))) (B_406_27 hd  hf hs)
    · rw [if_neg c0] at hf
      refine Ex.seg 2 (pc' := 27) (lc' := [some (.ref 67), some (.int x1), some (.long x2), none]) (st' := [.long 0]) (h' := q1.2) (sg1 rfl rfl (sg1 rfl rfl rfl)) ?_
      exact Ex.weak (sm_le_n (sm_le_n (sm_le_n (sm_le_s sm_le_nil)))) (B_406_27 hd  hf hs)
  · rw [if_neg c0] at hf
    refine Ex.seg 4 (pc' := 13) (lc' := [some (.ref 67), some (.int x1), some (.long x2), none]) (st' := [.int (Int64.toInt32 x2), .ref 97]) (h' := q1.2) (sg1 rfl rfl (sg1 rfl rfl (sg1 rfl rfl (sg1 rfl rfl rfl)))) ?_
    obtain ⟨v2, e_v2, hf⟩ := bnd hf
    refine Ex.iald e_v2 rfl rfl ?_
    refine Ex.seg 1 (pc' := 15) (lc' := [some (.ref 67), some (.int x1), some (.long x2), none]) (st' := [.long (Int32.toInt64 v2)]) (h' := q1.2) (sg1 rfl rfl rfl) ?_
    obtain rfl := Option.some.inj hf
    exact Ex.lret rfl rfl hs
theorem E_406 {L : Nat} {xs : Nat → Int32} {d : Nat} (hd : 2 ≤ d) {x1 : Int32} {x2 : Int64} {h : sm_H} {r : Int64 × sm_H} (hf : F_406 x1 x2 h = some r) : RUN L xs d 406 [.ref 67, .int x1, .long x2] h (some (.long r.1), r.2) := by
  obtain ⟨d, rfl⟩ : ∃ e, d = e + 1 := ⟨d - 1, by omega⟩
  exact ⟨Nat.le_of_ble_eq_true rfl, B_406_0 (by omega) hf rfl⟩
theorem B_407_19 {L : Nat} {xs : Nat → Int32} {d : Nat} (hd : 2 ≤ d) {res : Option Value × sm_H} {z1 : Int32}  {h : sm_H} {r : (Int64 × sm_H)} (hf : F_407_19 z1 h = some r) (hs : (fun (r : Int64 × sm_H) => res = (some (.long r.1), r.2)) r) : Ex (P_G L xs) (RUN L xs d) (sm_lk P_t407) 0 19 [some (.ref 67)] [.int z1, .ref 67] h res := by
  unfold F_407_19 at hf
  refine Ex.seg 2 (pc' := 23) (lc' := [some (.ref 67)]) (st' := [.long (h.2.1 67 72), .int z1, .ref 67]) (h' := h) (sg1 rfl rfl (sg1 rfl rfl rfl)) ?_
  obtain ⟨q1, e_q1, hf⟩ := bnd hf
  refine Ex.callV (a := 67) (As := [.int z1, .long (h.2.1 67 72)]) (r := []) (v := some (.long q1.1)) (h' := q1.2) rfl rfl (by decide) rfl (Nat.le_of_ble_eq_true rfl) rfl (E_406 (Nat.le_trans (by decide) hd) e_q1) rfl ?_
  obtain rfl := Option.some.inj hf
  exact Ex.lret rfl rfl hs
theorem B_407_0 {L : Nat} {xs : Nat → Int32} {d : Nat} (hd : 2 ≤ d) {res : Option Value × sm_H}   {h : sm_H} {r : (Int64 × sm_H)} (hf : F_407_0  h = some r) (hs : (fun (r : Int64 × sm_H) => res = (some (.long r.1), r.2)) r) : Ex (P_G L xs) (RUN L xs d) (sm_lk P_t407) 0 0 [some (.ref 67)] [] h res := by
  unfold F_407_0 at hf
  refine Ex.seg 3 (pc' := 5) (lc' := [some (.ref 67)]) (st' := [.int (h.1 67 70), .ref 67]) (h' := h) (sg1 rfl rfl (sg1 rfl rfl (sg1 rfl rfl rfl))) ?_
  obtain ⟨q2, e_q2, hf⟩ := bnd hf
  refine Ex.callS (As := [.int (h.1 67 70)]) (r := [.ref 67]) (v := some (.int q2.1)) (h' := q2.2) rfl rfl rfl rfl (Nat.le_of_ble_eq_true rfl) (E_291 (Nat.le_trans (by decide) hd) e_q2) rfl ?_
  refine Ex.ifc rfl rfl (fun (c0 : q2.1 = 0) => ?_) (fun (c0 : ¬ (q2.1 = 0)) => ?_)
  · rw [if_pos c0] at hf
    refine Ex.seg 1 (pc' := 19) (lc' := [some (.ref 67)]) (st' := [.int 0, .ref 67]) (h' := q2.2) (sg1 rfl rfl rfl) ?_
    exact Ex.weak (sm_le_s sm_le_nil) (B_407_19 hd  hf hs)
  · rw [if_neg c0] at hf
    refine Ex.seg 3 (pc' := 19) (lc' := [some (.ref 67)]) (st' := [.int (q2.2.1 67 71), .ref 67]) (h' := q2.2) (sg1 rfl rfl (sg1 rfl rfl (sg1 rfl rfl rfl))) ?_
    exact Ex.weak (sm_le_s sm_le_nil) (B_407_19 hd  hf hs)
theorem E_407 {L : Nat} {xs : Nat → Int32} {d : Nat} (hd : 3 ≤ d)  {h : sm_H} {r : Int64 × sm_H} (hf : F_407  h = some r) : RUN L xs d 407 [.ref 67] h (some (.long r.1), r.2) := by
  obtain ⟨d, rfl⟩ : ∃ e, d = e + 1 := ⟨d - 1, by omega⟩
  exact ⟨Nat.le_of_ble_eq_true rfl, B_407_0 (by omega) hf rfl⟩
theorem B_408_32 {L : Nat} {xs : Nat → Int32} {d : Nat} (hd : 0 ≤ d) {res : Option Value × sm_H}   {h : sm_H} {r : (Int32 × sm_H)} (hf : F_408_32  h = some r) (hs : (fun (r : Int32 × sm_H) => res = (some (.int r.1), r.2)) r) : Ex (P_G L xs) (RUN L xs d) (sm_lk P_t408) 0 32 [none] [] h res := by
  unfold F_408_32 at hf
  refine Ex.seg 1 (pc' := 33) (lc' := [none]) (st' := [.int (-1)]) (h' := h) (sg1 rfl rfl rfl) ?_
  obtain rfl := Option.some.inj hf
  exact Ex.iret rfl rfl (fun c0 => by cases c0) hs
theorem B_408_0 {L : Nat} {xs : Nat → Int32} {d : Nat} (hd : 0 ≤ d) {res : Option Value × sm_H}   {h : sm_H} {r : (Int32 × sm_H)} (hf : F_408_0  h = some r) (hs : (fun (r : Int32 × sm_H) => res = (some (.int r.1), r.2)) r) : Ex (P_G L xs) (RUN L xs d) (sm_lk P_t408) 0 0 [some (.ref 67)] [] h res := by
  unfold F_408_0 at hf
  refine Ex.seg 3 (pc' := 5) (lc' := [some (.ref 67)]) (st' := [.int (-1), .int (h.1 67 69)]) (h' := h) (sg1 rfl rfl (sg1 rfl rfl (sg1 rfl rfl rfl))) ?_
  refine Ex.icmp rfl rfl (fun (c0 : (h.1 67 69) = (-1)) => ?_) (fun (c0 : ¬ ((h.1 67 69) = (-1))) => ?_)
  · rw [if_pos c0] at hf
    exact Ex.weak (sm_le_n sm_le_nil) (B_408_32 hd  hf hs)
  · rw [if_neg c0] at hf
    refine Ex.seg 3 (pc' := 13) (lc' := [some (.ref 67)]) (st' := [.int 1, .int (h.1 67 69)]) (h' := h) (sg1 rfl rfl (sg1 rfl rfl (sg1 rfl rfl rfl))) ?_
    refine Ex.icmp rfl rfl (fun (c0 : 1 < (h.1 67 69)) => ?_) (fun (c0 : ¬ (1 < (h.1 67 69))) => ?_)
    · rw [if_pos c0] at hf
      exact Ex.weak (sm_le_n sm_le_nil) (B_408_32 hd  hf hs)
    · rw [if_neg c0] at hf
      refine Ex.seg 2 (pc' := 20) (lc' := [some (.ref 67)]) (st' := [.int (h.1 67 71)]) (h' := h) (sg1 rfl rfl (sg1 rfl rfl rfl)) ?_
      refine Ex.ifc rfl rfl (fun (c0 : (h.1 67 71) = 0) => ?_) (fun (c0 : ¬ ((h.1 67 71) = 0)) => ?_)
      · rw [if_pos c0] at hf
        exact Ex.weak (sm_le_n sm_le_nil) (B_408_32 hd  hf hs)
      · rw [if_neg c0] at hf
        refine Ex.seg 3 (pc' := 29) (lc' := [some (.ref 67)]) (st' := [.int 100, .int (h.1 67 40)]) (h' := h) (sg1 rfl rfl (sg1 rfl rfl (sg1 rfl rfl rfl))) ?_
        refine Ex.icmp rfl rfl (fun (c0 : ¬ ((h.1 67 40) = 100)) => ?_) (fun (c0 : ¬ ¬ ((h.1 67 40) = 100)) => ?_)
        · rw [if_neg c0] at hf
          refine Ex.seg 6 (pc' := 46) (lc' := [some (.ref 67)]) (st' := [.int (h.1 67 71), .int (h.1 67 40), .ref 94]) (h' := h) (sg1 rfl rfl (sg1 rfl rfl (sg1 rfl rfl (sg1 rfl rfl (sg1 rfl rfl (sg1 rfl rfl rfl)))))) ?_
          obtain ⟨h1, e_h1, hf⟩ := bnd hf
          refine Ex.iast e_h1 rfl rfl ?_
          refine Ex.seg 6 (pc' := 59) (lc' := [some (.ref 67)]) (st' := [.long (h1.2.1 67 72), .int (h1.1 67 40), .ref 95]) (h' := h1) (sg1 rfl rfl (sg1 rfl rfl (sg1 rfl rfl (sg1 rfl rfl (sg1 rfl rfl (sg1 rfl rfl rfl)))))) ?_
          obtain ⟨h2, e_h2, hf⟩ := bnd hf
          refine Ex.last e_h2 rfl rfl ?_
          refine Ex.seg 6 (pc' := 70) (lc' := [some (.ref 67)]) (st' := []) (h' := (sm_wI h2 67 40 ((h2.1 67 40) + 1))) (sg1 rfl rfl (sg1 rfl rfl (sg1 rfl rfl (sg1 rfl rfl (sg1 rfl rfl (sg1 rfl rfl rfl)))))) ?_
          obtain ⟨h3, e_h3, hf⟩ := bnd hf
          rw [Option.some.inj e_h3]
          refine Ex.seg 4 (pc' := 76) (lc' := [some (.ref 67)]) (st' := [.int ((h3.1 67 40) - 1)]) (h' := h3) (sg1 rfl rfl (sg1 rfl rfl (sg1 rfl rfl (sg1 rfl rfl rfl)))) ?_
          obtain rfl := Option.some.inj hf
          exact Ex.iret rfl rfl (fun c0 => by cases c0) hs
        · rw [if_pos (Classical.not_not.mp c0)] at hf
          exact Ex.weak (sm_le_n sm_le_nil) (B_408_32 hd  hf hs)
theorem E_408 {L : Nat} {xs : Nat → Int32} {d : Nat} (hd : 1 ≤ d)  {h : sm_H} {r : Int32 × sm_H} (hf : F_408  h = some r) : RUN L xs d 408 [.ref 67] h (some (.int r.1), r.2) := by
  obtain ⟨d, rfl⟩ : ∃ e, d = e + 1 := ⟨d - 1, by omega⟩
  exact ⟨Nat.le_of_ble_eq_true rfl, B_408_0 (by omega) hf rfl⟩
theorem B_409_57 {L : Nat} {xs : Nat → Int32} {d : Nat} (hd : 2 ≤ d) {res : Option Value × sm_H} {z0 : Int64}  {h : sm_H} {r : (Int64 × sm_H)} (hf : F_409_57 z0 h = some r) (hs : (fun (r : Int64 × sm_H) => res = (some (.long r.1), r.2)) r) : Ex (P_G L xs) (RUN L xs d) (sm_lk P_t409) 0 57 [none, none, none] [.long z0] h res := by
  unfold F_409_57 at hf
  obtain rfl := Option.some.inj hf
  exact Ex.lret rfl rfl hs
theorem B_409_0 {L : Nat} {xs : Nat → Int32} {d : Nat} (hd : 2 ≤ d) {res : Option Value × sm_H} {x1 : Int32} {x2 : Int32}  {h : sm_H} {r : (Int64 × sm_H)} (hf : F_409_0 x1 x2 h = some r) (hs : (fun (r : Int64 × sm_H) => res = (some (.long r.1), r.2)) r) : Ex (P_G L xs) (RUN L xs d) (sm_lk P_t409) 0 0 [some (.ref 67), some (.int x1), some (.int x2)] [] h res := by
  unfold F_409_0 at hf
  refine Ex.seg 8 (pc' := 10) (lc' := [some (.ref 67), some (.int x1), some (.int x2)]) (st' := [.long (Int32.toInt64 ((h.1 67 40) - 1)), .long 0, .long (Int32.toInt64 x1)]) (h' := h) (sg1 rfl rfl (sg1 rfl rfl (sg1 rfl rfl (sg1 rfl rfl (sg1 rfl rfl (sg1 rfl rfl (sg1 rfl rfl (sg1 rfl rfl rfl)))))))) ?_
  obtain ⟨q1, e_q1, hf⟩ := bnd hf
  refine Ex.callS (As := [.long (Int32.toInt64 x1), .long 0, .long (Int32.toInt64 ((h.1 67 40) - 1))]) (r := []) (v := some (.int q1.1)) (h' := q1.2) rfl rfl rfl rfl (Nat.le_of_ble_eq_true rfl) (E_315 (Nat.le_trans (by decide) hd) e_q1) rfl ?_
  refine Ex.ifc rfl rfl (fun (c0 : q1.1 = 0) => ?_) (fun (c0 : ¬ (q1.1 = 0)) => ?_)
  · rw [if_pos c0] at hf
    refine Ex.seg 1 (pc' := 19) (lc' := [some (.ref 67), some (.int x1), some (.int x2)]) (st' := [.int x2]) (h' := q1.2) (sg1 rfl rfl rfl) ?_
    refine Ex.ifc rfl rfl (fun (c0 : ¬ (x2 = 0)) => ?_) (fun (c0 : ¬ ¬ (x2 = 0)) => ?_)
    · rw [if_neg c0] at hf
      refine Ex.seg 2 (pc' := 34) (lc' := [some (.ref 67), some (.int x1), some (.int x2)]) (st' := [.int 1, .int x2]) (h' := q1.2) (sg1 rfl rfl (sg1 rfl rfl rfl)) ?_
      refine Ex.icmp rfl rfl (fun (c0 : ¬ (x2 = 1)) => ?_) (fun (c0 : ¬ ¬ (x2 = 1)) => ?_)
      · rw [if_neg c0] at hf
        refine Ex.seg 1 (pc' := 57) (lc' := [some (.ref 67), some (.int x1), some (.int x2)]) (st' := [.long 0]) (h' := q1.2) (sg1 rfl rfl rfl) ?_
        exact Ex.weak (sm_le_n (sm_le_n (sm_le_n sm_le_nil))) (B_409_57 hd  hf hs)
      · rw [if_pos (Classical.not_not.mp c0)] at hf
        refine Ex.seg 4 (pc' := 43) (lc' := [some (.ref 67), some (.int x1), some (.int x2)]) (st' := [.int x1, .ref 94, .ref 67]) (h' := q1.2) (sg1 rfl rfl (sg1 rfl rfl (sg1 rfl rfl (sg1 rfl rfl rfl)))) ?_
        obtain ⟨v2, e_v2, hf⟩ := bnd hf
        refine Ex.iald e_v2 rfl rfl ?_
        refine Ex.seg 3 (pc' := 49) (lc' := [some (.ref 67), some (.int x1), some (.int x2)]) (st' := [.int x1, .ref 95, .int v2, .ref 67]) (h' := q1.2) (sg1 rfl rfl (sg1 rfl rfl (sg1 rfl rfl rfl))) ?_
        obtain ⟨v3, e_v3, hf⟩ := bnd hf
        refine Ex.lald e_v3 rfl rfl ?_
        obtain ⟨q4, e_q4, hf⟩ := bnd hf
        refine Ex.callV (a := 67) (As := [.int v2, .long v3]) (r := []) (v := some (.long q4.1)) (h' := q4.2) rfl rfl (by decide) rfl (Nat.le_of_ble_eq_true rfl) rfl (E_406 (Nat.le_trans (by decide) hd) e_q4) rfl ?_
        refine Ex.seg 1 (pc' := 57) (lc' := [some (.ref 67), some (.int x1), some (.int x2)]) (st' := [.long q4.1]) (h' := q4.2) (sg1 rfl rfl rfl) ?_
        exact Ex.weak (sm_le_n (sm_le_n (sm_le_n sm_le_nil))) (B_409_57 hd  hf hs)
    · rw [if_pos (Classical.not_not.mp c0)] at hf
      refine Ex.seg 3 (pc' := 27) (lc' := [some (.ref 67), some (.int x1), some (.int x2)]) (st' := [.int x1, .ref 94]) (h' := q1.2) (sg1 rfl rfl (sg1 rfl rfl (sg1 rfl rfl rfl))) ?_
      obtain ⟨v5, e_v5, hf⟩ := bnd hf
      refine Ex.iald e_v5 rfl rfl ?_
      refine Ex.seg 2 (pc' := 57) (lc' := [some (.ref 67), some (.int x1), some (.int x2)]) (st' := [.long (Int32.toInt64 v5)]) (h' := q1.2) (sg1 rfl rfl (sg1 rfl rfl rfl)) ?_
      exact Ex.weak (sm_le_n (sm_le_n (sm_le_n sm_le_nil))) (B_409_57 hd  hf hs)
  · rw [if_neg c0] at hf
    refine Ex.seg 1 (pc' := 17) (lc' := [some (.ref 67), some (.int x1), some (.int x2)]) (st' := [.long 0]) (h' := q1.2) (sg1 rfl rfl rfl) ?_
    obtain rfl := Option.some.inj hf
    exact Ex.lret rfl rfl hs
theorem E_409 {L : Nat} {xs : Nat → Int32} {d : Nat} (hd : 3 ≤ d) {x1 : Int32} {x2 : Int32} {h : sm_H} {r : Int64 × sm_H} (hf : F_409 x1 x2 h = some r) : RUN L xs d 409 [.ref 67, .int x1, .int x2] h (some (.long r.1), r.2) := by
  obtain ⟨d, rfl⟩ : ∃ e, d = e + 1 := ⟨d - 1, by omega⟩
  exact ⟨Nat.le_of_ble_eq_true rfl, B_409_0 (by omega) hf rfl⟩
theorem B_410_115 {L : Nat} {xs : Nat → Int32} {d : Nat} (hd : 2 ≤ d) {res : Option Value × sm_H} {z0 : Int64}  {h : sm_H} {r : (Int64 × sm_H)} (hf : F_410_115 z0 h = some r) (hs : (fun (r : Int64 × sm_H) => res = (some (.long r.1), r.2)) r) : Ex (P_G L xs) (RUN L xs d) (sm_lk P_t410) 0 115 [none, none, none, none, none, none, none, none] [.long z0] h res := by
  unfold F_410_115 at hf
  obtain rfl := Option.some.inj hf
  exact Ex.lret rfl rfl hs
theorem B_410_28 {L : Nat} {xs : Nat → Int32} {d : Nat} (hd : 2 ≤ d) {res : Option Value × sm_H}   {h : sm_H} {r : (Int64 × sm_H)} (hf : F_410_28  h = some r) (hs : (fun (r : Int64 × sm_H) => res = (some (.long r.1), r.2)) r) : Ex (P_G L xs) (RUN L xs d) (sm_lk P_t410) 0 28 [none, none, none, none, none, none, none, none] [] h res := by
  unfold F_410_28 at hf
  refine Ex.seg 1 (pc' := 29) (lc' := [none, none, none, none, none, none, none, none]) (st' := [.long 0]) (h' := h) (sg1 rfl rfl rfl) ?_
  obtain rfl := Option.some.inj hf
  exact Ex.lret rfl rfl hs
theorem B_410_0 {L : Nat} {xs : Nat → Int32} {d : Nat} (hd : 2 ≤ d) {res : Option Value × sm_H} {x1 : Int32} {x2 : Int32} {x3 : Int32}  {h : sm_H} {r : (Int64 × sm_H)} (hf : F_410_0 x1 x2 x3 h = some r) (hs : (fun (r : Int64 × sm_H) => res = (some (.long r.1), r.2)) r) : Ex (P_G L xs) (RUN L xs d) (sm_lk P_t410) 0 0 [some (.ref 67), some (.int x1), some (.int x2), some (.int x3), none, none, none, none] [] h res := by
  unfold F_410_0 at hf
  refine Ex.seg 8 (pc' := 10) (lc' := [some (.ref 67), some (.int x1), some (.int x2), some (.int x3), none, none, none, none]) (st' := [.long (Int32.toInt64 ((h.1 67 40) - 1)), .long 0, .long (Int32.toInt64 x1)]) (h' := h) (sg1 rfl rfl (sg1 rfl rfl (sg1 rfl rfl (sg1 rfl rfl (sg1 rfl rfl (sg1 rfl rfl (sg1 rfl rfl (sg1 rfl rfl rfl)))))))) ?_
  obtain ⟨q1, e_q1, hf⟩ := bnd hf
  refine Ex.callS (As := [.long (Int32.toInt64 x1), .long 0, .long (Int32.toInt64 ((h.1 67 40) - 1))]) (r := []) (v := some (.int q1.1)) (h' := q1.2) rfl rfl rfl rfl (Nat.le_of_ble_eq_true rfl) (E_315 (Nat.le_trans (by decide) hd) e_q1) rfl ?_
  refine Ex.ifc rfl rfl (fun (c0 : ¬ (q1.1 = 0)) => ?_) (fun (c0 : ¬ ¬ (q1.1 = 0)) => ?_)
  · rw [if_neg c0] at hf
    exact Ex.weak (sm_le_n (sm_le_n (sm_le_n (sm_le_n (sm_le_s (sm_le_s (sm_le_s (sm_le_s sm_le_nil)))))))) (B_410_28 hd  hf hs)
  · rw [if_pos (Classical.not_not.mp c0)] at hf
    refine Ex.seg 3 (pc' := 21) (lc' := [some (.ref 67), some (.int x1), some (.int x2), some (.int x3), none, none, none, none]) (st' := [.int x1, .ref 94]) (h' := q1.2) (sg1 rfl rfl (sg1 rfl rfl (sg1 rfl rfl rfl))) ?_
    obtain ⟨v2, e_v2, hf⟩ := bnd hf
    refine Ex.iald e_v2 rfl rfl ?_
    obtain ⟨q3, e_q3, hf⟩ := bnd hf
    refine Ex.callS (As := [.int v2]) (r := []) (v := some (.int q3.1)) (h' := q3.2) rfl rfl rfl rfl (Nat.le_of_ble_eq_true rfl) (E_293 (Nat.le_trans (by decide) hd) e_q3) rfl ?_
    refine Ex.ifc rfl rfl (fun (c0 : ¬ (q3.1 = 0)) => ?_) (fun (c0 : ¬ ¬ (q3.1 = 0)) => ?_)
    · rw [if_neg c0] at hf
      refine Ex.seg 3 (pc' := 35) (lc' := [some (.ref 67), some (.int x1), some (.int x2), some (.int x3), none, none, none, none]) (st' := [.int x1, .ref 95]) (h' := q3.2) (sg1 rfl rfl (sg1 rfl rfl (sg1 rfl rfl rfl))) ?_
      obtain ⟨v4, e_v4, hf⟩ := bnd hf
      refine Ex.lald e_v4 rfl rfl ?_
      refine Ex.seg 2 (pc' := 39) (lc' := [some (.ref 67), some (.int x1), some (.int x2), some (.int x3), some (.int (Int64.toInt32 v4)), none, none, none]) (st' := []) (h' := q3.2) (sg1 rfl rfl (sg1 rfl rfl rfl)) ?_
      obtain ⟨v5, e_v5, hf⟩ := bnd hf
      rw [Option.some.inj e_v5]
      refine Ex.seg 6 (pc' := 48) (lc' := [some (.ref 67), some (.int x1), some (.int x2), some (.int x3), some (.int v5), none, none, none]) (st' := [.int v5, .ref 97, .long 0, .long (Int32.toInt64 x2)]) (h' := q3.2) (sg1 rfl rfl (sg1 rfl rfl (sg1 rfl rfl (sg1 rfl rfl (sg1 rfl rfl (sg1 rfl rfl rfl)))))) ?_
      obtain ⟨v6, e_v6, hf⟩ := bnd hf
      refine Ex.iald e_v6 rfl rfl ?_
      refine Ex.seg 3 (pc' := 52) (lc' := [some (.ref 67), some (.int x1), some (.int x2), some (.int x3), some (.int v5), none, none, none]) (st' := [.long (Int32.toInt64 (v6 - 1)), .long 0, .long (Int32.toInt64 x2)]) (h' := q3.2) (sg1 rfl rfl (sg1 rfl rfl (sg1 rfl rfl rfl))) ?_
      obtain ⟨q7, e_q7, hf⟩ := bnd hf
      refine Ex.callS (As := [.long (Int32.toInt64 x2), .long 0, .long (Int32.toInt64 (v6 - 1))]) (r := []) (v := some (.int q7.1)) (h' := q7.2) rfl rfl rfl rfl (Nat.le_of_ble_eq_true rfl) (E_315 (Nat.le_trans (by decide) hd) e_q7) rfl ?_
      refine Ex.ifc rfl rfl (fun (c0 : q7.1 = 0) => ?_) (fun (c0 : ¬ (q7.1 = 0)) => ?_)
      · rw [if_pos c0] at hf
        refine Ex.seg 7 (pc' := 71) (lc' := [some (.ref 67), some (.int x1), some (.int x2), some (.int x3), some (.int v5), none, none, none]) (st' := [.int ((100 * v5) + x2), .ref 98]) (h' := q7.2) (sg1 rfl rfl (sg1 rfl rfl (sg1 rfl rfl (sg1 rfl rfl (sg1 rfl rfl (sg1 rfl rfl (sg1 rfl rfl rfl))))))) ?_
        obtain ⟨v8, e_v8, hf⟩ := bnd hf
        refine Ex.iald e_v8 rfl rfl ?_
        refine Ex.seg 8 (pc' := 85) (lc' := [some (.ref 67), some (.int x1), some (.int x2), some (.int x3), some (.int v5), some (.int v8), none, none]) (st' := [.int ((100 * v5) + x2), .ref 99]) (h' := q7.2) (sg1 rfl rfl (sg1 rfl rfl (sg1 rfl rfl (sg1 rfl rfl (sg1 rfl rfl (sg1 rfl rfl (sg1 rfl rfl (sg1 rfl rfl rfl)))))))) ?_
        obtain ⟨v9, e_v9, hf⟩ := bnd hf
        refine Ex.lald e_v9 rfl rfl ?_
        refine Ex.seg 2 (pc' := 89) (lc' := [some (.ref 67), some (.int x1), some (.int x2), some (.int x3), some (.int v5), some (.int v8), some (.long v9), none]) (st' := [.int x3]) (h' := q7.2) (sg1 rfl rfl (sg1 rfl rfl rfl)) ?_
        refine Ex.ifc rfl rfl (fun (c0 : ¬ (x3 = 0)) => ?_) (fun (c0 : ¬ ¬ (x3 = 0)) => ?_)
        · rw [if_neg c0] at hf
          refine Ex.seg 2 (pc' := 105) (lc' := [some (.ref 67), some (.int x1), some (.int x2), some (.int x3), some (.int v5), some (.int v8), some (.long v9), none]) (st' := [.int 1, .int x3]) (h' := q7.2) (sg1 rfl rfl (sg1 rfl rfl rfl)) ?_
          refine Ex.icmp rfl rfl (fun (c0 : ¬ (x3 = 1)) => ?_) (fun (c0 : ¬ ¬ (x3 = 1)) => ?_)
          · rw [if_neg c0] at hf
            refine Ex.seg 1 (pc' := 115) (lc' := [some (.ref 67), some (.int x1), some (.int x2), some (.int x3), some (.int v5), some (.int v8), some (.long v9), none]) (st' := [.long 0]) (h' := q7.2) (sg1 rfl rfl rfl) ?_
            exact Ex.weak (sm_le_n (sm_le_n (sm_le_n (sm_le_n (sm_le_n (sm_le_n (sm_le_n (sm_le_s sm_le_nil)))))))) (B_410_115 hd  hf hs)
          · rw [if_pos (Classical.not_not.mp c0)] at hf
            refine Ex.seg 3 (pc' := 115) (lc' := [some (.ref 67), some (.int x1), some (.int x2), some (.int x3), some (.int v5), some (.int v8), some (.long v9), none]) (st' := [.long (Int32.toInt64 v8)]) (h' := q7.2) (sg1 rfl rfl (sg1 rfl rfl (sg1 rfl rfl rfl))) ?_
            exact Ex.weak (sm_le_n (sm_le_n (sm_le_n (sm_le_n (sm_le_n (sm_le_n (sm_le_n (sm_le_s sm_le_nil)))))))) (B_410_115 hd  hf hs)
        · rw [if_pos (Classical.not_not.mp c0)] at hf
          refine Ex.seg 3 (pc' := 97) (lc' := [some (.ref 67), some (.int x1), some (.int x2), some (.int x3), some (.int v5), some (.int v8), some (.long v9), none]) (st' := [.long v9, .int v8, .ref 67]) (h' := q7.2) (sg1 rfl rfl (sg1 rfl rfl (sg1 rfl rfl rfl))) ?_
          obtain ⟨q10, e_q10, hf⟩ := bnd hf
          refine Ex.callV (a := 67) (As := [.int v8, .long v9]) (r := []) (v := some (.long q10.1)) (h' := q10.2) rfl rfl (by decide) rfl (Nat.le_of_ble_eq_true rfl) rfl (E_406 (Nat.le_trans (by decide) hd) e_q10) rfl ?_
          refine Ex.seg 1 (pc' := 115) (lc' := [some (.ref 67), some (.int x1), some (.int x2), some (.int x3), some (.int v5), some (.int v8), some (.long v9), none]) (st' := [.long q10.1]) (h' := q10.2) (sg1 rfl rfl rfl) ?_
          exact Ex.weak (sm_le_n (sm_le_n (sm_le_n (sm_le_n (sm_le_n (sm_le_n (sm_le_n (sm_le_s sm_le_nil)))))))) (B_410_115 hd  hf hs)
      · rw [if_neg c0] at hf
        refine Ex.seg 1 (pc' := 59) (lc' := [some (.ref 67), some (.int x1), some (.int x2), some (.int x3), some (.int v5), none, none, none]) (st' := [.long 0]) (h' := q7.2) (sg1 rfl rfl rfl) ?_
        obtain rfl := Option.some.inj hf
        exact Ex.lret rfl rfl hs
    · rw [if_pos (Classical.not_not.mp c0)] at hf
      exact Ex.weak (sm_le_n (sm_le_n (sm_le_n (sm_le_n (sm_le_s (sm_le_s (sm_le_s (sm_le_s sm_le_nil)))))))) (B_410_28 hd  hf hs)
theorem E_410 {L : Nat} {xs : Nat → Int32} {d : Nat} (hd : 3 ≤ d) {x1 : Int32} {x2 : Int32} {x3 : Int32} {h : sm_H} {r : Int64 × sm_H} (hf : F_410 x1 x2 x3 h = some r) : RUN L xs d 410 [.ref 67, .int x1, .int x2, .int x3] h (some (.long r.1), r.2) := by
  obtain ⟨d, rfl⟩ : ∃ e, d = e + 1 := ⟨d - 1, by omega⟩
  exact ⟨Nat.le_of_ble_eq_true rfl, B_410_0 (by omega) hf rfl⟩
theorem B_411_3B {L : Nat} {xs : Nat → Int32} {d : Nat} (hd : 0 ≤ d) {res : Option Value × sm_H} {S1 : (Int32 × Int32 × Int32 × Int32 × Int32 × Int32 × sm_H) → Prop} (hS1 : ∀ s, S1 s → Ex (P_G L xs) (RUN L xs d) (sm_lk P_t411) 0 3 [some (.ref 67), some (.int s.1), some (.int s.2.1), some (.int s.2.2.1), some (.int s.2.2.2.1), some (.int s.2.2.2.2.1), some (.int s.2.2.2.2.2.1)] [] s.2.2.2.2.2.2 res) {s : (Int32 × Int32 × Int32 × Int32 × Int32 × Int32 × sm_H)}  {r : ((Int32 × Int32 × Int32 × Int32 × Int32 × Int32 × sm_H) ⊕ (sm_H))} (hf : F_411_3B s = some r) (hs : (Sum.elim S1 (fun (r : sm_H) => res = (none, r))) r) : Ex (P_G L xs) (RUN L xs d) (sm_lk P_t411) 0 3 [some (.ref 67), some (.int s.1), some (.int s.2.1), some (.int s.2.2.1), some (.int s.2.2.2.1), some (.int s.2.2.2.2.1), some (.int s.2.2.2.2.2.1)] [] s.2.2.2.2.2.2 res := by
  unfold F_411_3B at hf
  refine Ex.seg 2 (pc' := 6) (lc' := [some (.ref 67), some (.int s.1), some (.int s.2.1), some (.int s.2.2.1), some (.int s.2.2.2.1), some (.int s.2.2.2.2.1), some (.int s.2.2.2.2.2.1)]) (st' := [.int 4, .int s.2.2.2.2.2.1]) (h' := s.2.2.2.2.2.2) (sg1 rfl rfl (sg1 rfl rfl rfl)) ?_
  refine Ex.icmp rfl rfl (fun (c0 : 4 ≤ s.2.2.2.2.2.1) => ?_) (fun (c0 : ¬ (4 ≤ s.2.2.2.2.2.1)) => ?_)
  · rw [if_pos c0] at hf
    obtain rfl := Option.some.inj hf
    exact Ex.vret rfl rfl hs
  · rw [if_neg c0] at hf
    refine Ex.seg 12 (pc' := 29) (lc' := [some (.ref 67), some (.int s.1), some (.int s.2.1), some (.int s.2.2.1), some (.int s.2.2.2.1), some (.int s.2.2.2.2.1), some (.int s.2.2.2.2.2.1)]) (st' := [.int ((s.1 >>> ((24 - (8 * s.2.2.2.2.2.1)) &&& 31)) &&& 255), .int s.2.2.2.2.2.1, .ref 111]) (h' := s.2.2.2.2.2.2) (sg1 rfl rfl (sg1 rfl rfl (sg1 rfl rfl (sg1 rfl rfl (sg1 rfl rfl (sg1 rfl rfl (sg1 rfl rfl (sg1 rfl rfl (sg1 rfl rfl (sg1 rfl rfl (sg1 rfl rfl (sg1 rfl rfl rfl)))))))))))) ?_
    obtain ⟨h1, e_h1, hf⟩ := bnd hf
    refine Ex.iast e_h1 rfl rfl ?_
    refine Ex.seg 14 (pc' := 52) (lc' := [some (.ref 67), some (.int s.1), some (.int s.2.1), some (.int s.2.2.1), some (.int s.2.2.2.1), some (.int s.2.2.2.2.1), some (.int s.2.2.2.2.2.1)]) (st' := [.int ((s.2.1 >>> ((24 - (8 * s.2.2.2.2.2.1)) &&& 31)) &&& 255), .int (4 + s.2.2.2.2.2.1), .ref 111]) (h' := h1) (sg1 rfl rfl (sg1 rfl rfl (sg1 rfl rfl (sg1 rfl rfl (sg1 rfl rfl (sg1 rfl rfl (sg1 rfl rfl (sg1 rfl rfl (sg1 rfl rfl (sg1 rfl rfl (sg1 rfl rfl (sg1 rfl rfl (sg1 rfl rfl (sg1 rfl rfl rfl)))))))))))))) ?_
    obtain ⟨h2, e_h2, hf⟩ := bnd hf
    refine Ex.iast e_h2 rfl rfl ?_
    refine Ex.seg 14 (pc' := 76) (lc' := [some (.ref 67), some (.int s.1), some (.int s.2.1), some (.int s.2.2.1), some (.int s.2.2.2.1), some (.int s.2.2.2.2.1), some (.int s.2.2.2.2.2.1)]) (st' := [.int ((s.2.2.1 >>> ((24 - (8 * s.2.2.2.2.2.1)) &&& 31)) &&& 255), .int (8 + s.2.2.2.2.2.1), .ref 111]) (h' := h2) (sg1 rfl rfl (sg1 rfl rfl (sg1 rfl rfl (sg1 rfl rfl (sg1 rfl rfl (sg1 rfl rfl (sg1 rfl rfl (sg1 rfl rfl (sg1 rfl rfl (sg1 rfl rfl (sg1 rfl rfl (sg1 rfl rfl (sg1 rfl rfl (sg1 rfl rfl rfl)))))))))))))) ?_
    obtain ⟨h3, e_h3, hf⟩ := bnd hf
    refine Ex.iast e_h3 rfl rfl ?_
    refine Ex.seg 14 (pc' := 101) (lc' := [some (.ref 67), some (.int s.1), some (.int s.2.1), some (.int s.2.2.1), some (.int s.2.2.2.1), some (.int s.2.2.2.2.1), some (.int s.2.2.2.2.2.1)]) (st' := [.int ((s.2.2.2.1 >>> ((24 - (8 * s.2.2.2.2.2.1)) &&& 31)) &&& 255), .int (12 + s.2.2.2.2.2.1), .ref 111]) (h' := h3) (sg1 rfl rfl (sg1 rfl rfl (sg1 rfl rfl (sg1 rfl rfl (sg1 rfl rfl (sg1 rfl rfl (sg1 rfl rfl (sg1 rfl rfl (sg1 rfl rfl (sg1 rfl rfl (sg1 rfl rfl (sg1 rfl rfl (sg1 rfl rfl (sg1 rfl rfl rfl)))))))))))))) ?_
    obtain ⟨h4, e_h4, hf⟩ := bnd hf
    refine Ex.iast e_h4 rfl rfl ?_
    refine Ex.seg 14 (pc' := 126) (lc' := [some (.ref 67), some (.int s.1), some (.int s.2.1), some (.int s.2.2.1), some (.int s.2.2.2.1), some (.int s.2.2.2.2.1), some (.int s.2.2.2.2.2.1)]) (st' := [.int ((s.2.2.2.2.1 >>> ((24 - (8 * s.2.2.2.2.2.1)) &&& 31)) &&& 255), .int (16 + s.2.2.2.2.2.1), .ref 111]) (h' := h4) (sg1 rfl rfl (sg1 rfl rfl (sg1 rfl rfl (sg1 rfl rfl (sg1 rfl rfl (sg1 rfl rfl (sg1 rfl rfl (sg1 rfl rfl (sg1 rfl rfl (sg1 rfl rfl (sg1 rfl rfl (sg1 rfl rfl (sg1 rfl rfl (sg1 rfl rfl rfl)))))))))))))) ?_
    obtain ⟨h5, e_h5, hf⟩ := bnd hf
    refine Ex.iast e_h5 rfl rfl ?_
    refine Ex.seg 1 (pc' := 130) (lc' := [some (.ref 67), some (.int s.1), some (.int s.2.1), some (.int s.2.2.1), some (.int s.2.2.2.1), some (.int s.2.2.2.2.1), some (.int (s.2.2.2.2.2.1 + 1))]) (st' := []) (h' := h5) (sg1 rfl rfl rfl) ?_
    obtain ⟨v6, e_v6, hf⟩ := bnd hf
    rw [Option.some.inj e_v6]
    refine Ex.seg 1 (pc' := 3) (lc' := [some (.ref 67), some (.int s.1), some (.int s.2.1), some (.int s.2.2.1), some (.int s.2.2.2.1), some (.int s.2.2.2.2.1), some (.int v6)]) (st' := []) (h' := h5) (sg1 rfl rfl rfl) ?_
    obtain rfl := Option.some.inj hf
    exact Ex.weak (sm_le_s (sm_le_s (sm_le_s (sm_le_s (sm_le_s (sm_le_s (sm_le_s sm_le_nil))))))) (hS1 _ hs)
theorem B_411_3 {L : Nat} {xs : Nat → Int32} {d : Nat} (hd : 0 ≤ d) {res : Option Value × sm_H} {y1 : Int32} {y2 : Int32} {y3 : Int32} {y4 : Int32} {y5 : Int32} {y6 : Int32}  {h : sm_H} {r : (sm_H)} (hf : F_411_3 y1 y2 y3 y4 y5 y6 h = some r) (hs : (fun (r : sm_H) => res = (none, r)) r) : Ex (P_G L xs) (RUN L xs d) (sm_lk P_t411) 0 3 [some (.ref 67), some (.int y1), some (.int y2), some (.int y3), some (.int y4), some (.int y5), some (.int y6)] [] h res := by
  unfold F_411_3 at hf
  exact lp_ok (P := fun (s : (Int32 × Int32 × Int32 × Int32 × Int32 × Int32 × sm_H)) => Ex (P_G L xs) (RUN L xs d) (sm_lk P_t411) 0 3 [some (.ref 67), some (.int s.1), some (.int s.2.1), some (.int s.2.2.1), some (.int s.2.2.2.1), some (.int s.2.2.2.2.1), some (.int s.2.2.2.2.2.1)] [] s.2.2.2.2.2.2 res) (S := (fun (r : sm_H) => res = (none, r))) (fun s x hx hsx => by
    intros
    exact B_411_3B hd  (fun _ q => q) hx hsx) 1000000 _ r hf hs
theorem B_411_0 {L : Nat} {xs : Nat → Int32} {d : Nat} (hd : 0 ≤ d) {res : Option Value × sm_H} {x1 : Int32} {x2 : Int32} {x3 : Int32} {x4 : Int32} {x5 : Int32}  {h : sm_H} {r : (sm_H)} (hf : F_411_0 x1 x2 x3 x4 x5 h = some r) (hs : (fun (r : sm_H) => res = (none, r)) r) : Ex (P_G L xs) (RUN L xs d) (sm_lk P_t411) 0 0 [some (.ref 67), some (.int x1), some (.int x2), some (.int x3), some (.int x4), some (.int x5), none] [] h res := by
  unfold F_411_0 at hf
  refine Ex.seg 2 (pc' := 3) (lc' := [some (.ref 67), some (.int x1), some (.int x2), some (.int x3), some (.int x4), some (.int x5), some (.int 0)]) (st' := []) (h' := h) (sg1 rfl rfl (sg1 rfl rfl rfl)) ?_
  exact Ex.weak (sm_le_s (sm_le_s (sm_le_s (sm_le_s (sm_le_s (sm_le_s (sm_le_s sm_le_nil))))))) (B_411_3 hd  hf hs)
theorem E_411 {L : Nat} {xs : Nat → Int32} {d : Nat} (hd : 1 ≤ d) {x1 : Int32} {x2 : Int32} {x3 : Int32} {x4 : Int32} {x5 : Int32} {h : sm_H} {r : sm_H} (hf : F_411 x1 x2 x3 x4 x5 h = some r) : RUN L xs d 411 [.ref 67, .int x1, .int x2, .int x3, .int x4, .int x5] h (none, r) := by
  obtain ⟨d, rfl⟩ : ∃ e, d = e + 1 := ⟨d - 1, by omega⟩
  exact ⟨Nat.le_of_ble_eq_true rfl, B_411_0 (by omega) hf rfl⟩
theorem B_412_66B {L : Nat} {xs : Nat → Int32} {d : Nat} (hd : 0 ≤ d) {res : Option Value × sm_H} {S1 : (Int32 × sm_H) → Prop} (hS1 : ∀ s, S1 s → Ex (P_G L xs) (RUN L xs d) (sm_lk P_t412) 0 66 [some (.ref 67), none, some (.int s.1)] [] s.2 res) {s : (Int32 × sm_H)}  {r : ((Int32 × sm_H) ⊕ (Int32 × sm_H))} (hf : F_412_66B s = some r) (hs : (Sum.elim S1 (fun (r : Int32 × sm_H) => res = (some (.int r.1), r.2))) r) : Ex (P_G L xs) (RUN L xs d) (sm_lk P_t412) 0 66 [some (.ref 67), none, some (.int s.1)] [] s.2 res := by
  unfold F_412_66B at hf
  refine Ex.seg 2 (pc' := 69) (lc' := [some (.ref 67), none, some (.int s.1)]) (st' := [.int 20, .int s.1]) (h' := s.2) (sg1 rfl rfl (sg1 rfl rfl rfl)) ?_
  refine Ex.icmp rfl rfl (fun (c0 : 20 ≤ s.1) => ?_) (fun (c0 : ¬ (20 ≤ s.1)) => ?_)
  · rw [if_pos c0] at hf
    refine Ex.seg 2 (pc' := 89) (lc' := [some (.ref 67), none, some (.int s.1)]) (st' := [.int (s.2.1 67 76)]) (h' := s.2) (sg1 rfl rfl (sg1 rfl rfl rfl)) ?_
    obtain rfl := Option.some.inj hf
    exact Ex.iret rfl rfl (fun c0 => by cases c0) hs
  · rw [if_neg c0] at hf
    refine Ex.seg 4 (pc' := 78) (lc' := [some (.ref 67), none, some (.int s.1)]) (st' := [.int 0, .int s.1, .ref 111]) (h' := s.2) (sg1 rfl rfl (sg1 rfl rfl (sg1 rfl rfl (sg1 rfl rfl rfl)))) ?_
    obtain ⟨h1, e_h1, hf⟩ := bnd hf
    refine Ex.iast e_h1 rfl rfl ?_
    refine Ex.seg 1 (pc' := 82) (lc' := [some (.ref 67), none, some (.int (s.1 + 1))]) (st' := []) (h' := h1) (sg1 rfl rfl rfl) ?_
    obtain ⟨v2, e_v2, hf⟩ := bnd hf
    rw [Option.some.inj e_v2]
    refine Ex.seg 1 (pc' := 66) (lc' := [some (.ref 67), none, some (.int v2)]) (st' := []) (h' := h1) (sg1 rfl rfl rfl) ?_
    obtain rfl := Option.some.inj hf
    exact Ex.weak (sm_le_s (sm_le_s (sm_le_s sm_le_nil))) (hS1 _ hs)
theorem B_412_66 {L : Nat} {xs : Nat → Int32} {d : Nat} (hd : 0 ≤ d) {res : Option Value × sm_H} {y2 : Int32}  {h : sm_H} {r : (Int32 × sm_H)} (hf : F_412_66 y2 h = some r) (hs : (fun (r : Int32 × sm_H) => res = (some (.int r.1), r.2)) r) : Ex (P_G L xs) (RUN L xs d) (sm_lk P_t412) 0 66 [some (.ref 67), none, some (.int y2)] [] h res := by
  unfold F_412_66 at hf
  exact lp_ok (P := fun (s : (Int32 × sm_H)) => Ex (P_G L xs) (RUN L xs d) (sm_lk P_t412) 0 66 [some (.ref 67), none, some (.int s.1)] [] s.2 res) (S := (fun (r : Int32 × sm_H) => res = (some (.int r.1), r.2))) (fun s x hx hsx => by
    intros
    exact B_412_66B hd  (fun _ q => q) hx hsx) 1000000 _ r hf hs
theorem B_412_26B {L : Nat} {xs : Nat → Int32} {d : Nat} (hd : 0 ≤ d) {res : Option Value × sm_H} {S1 : (Int32 × Int32 × sm_H) → Prop} (hS1 : ∀ s, S1 s → Ex (P_G L xs) (RUN L xs d) (sm_lk P_t412) 0 26 [some (.ref 67), some (.int s.1), some (.int s.2.1)] [] s.2.2 res) {s : (Int32 × Int32 × sm_H)}  {r : ((Int32 × Int32 × sm_H) ⊕ (Int32 × sm_H))} (hf : F_412_26B s = some r) (hs : (Sum.elim S1 (fun (r : Int32 × sm_H) => res = (some (.int r.1), r.2))) r) : Ex (P_G L xs) (RUN L xs d) (sm_lk P_t412) 0 26 [some (.ref 67), some (.int s.1), some (.int s.2.1)] [] s.2.2 res := by
  unfold F_412_26B at hf
  refine Ex.seg 2 (pc' := 28) (lc' := [some (.ref 67), some (.int s.1), some (.int s.2.1)]) (st' := [.int s.1, .int s.2.1]) (h' := s.2.2) (sg1 rfl rfl (sg1 rfl rfl rfl)) ?_
  refine Ex.icmp rfl rfl (fun (c0 : s.1 ≤ s.2.1) => ?_) (fun (c0 : ¬ (s.1 ≤ s.2.1)) => ?_)
  · rw [if_pos c0] at hf
    refine Ex.seg 6 (pc' := 64) (lc' := [some (.ref 67), some (.int s.1), some (.int s.2.1)]) (st' := []) (h' := (sm_wI s.2.2 67 76 ((s.2.2.1 67 76) + s.1))) (sg1 rfl rfl (sg1 rfl rfl (sg1 rfl rfl (sg1 rfl rfl (sg1 rfl rfl (sg1 rfl rfl rfl)))))) ?_
    obtain ⟨h3, e_h3, hf⟩ := bnd hf
    rw [Option.some.inj e_h3]
    refine Ex.seg 2 (pc' := 66) (lc' := [some (.ref 67), some (.int s.1), some (.int 0)]) (st' := []) (h' := h3) (sg1 rfl rfl (sg1 rfl rfl rfl)) ?_
    obtain ⟨r0, hf0, rfl⟩ := Option.map_eq_some_iff.mp hf
    exact Ex.weak (sm_le_s (sm_le_n (sm_le_s sm_le_nil))) (B_412_66 hd  hf0 hs)
  · rw [if_neg c0] at hf
    refine Ex.seg 9 (pc' := 46) (lc' := [some (.ref 67), some (.int s.1), some (.int s.2.1)]) (st' := [.int s.2.1, .ref 111, .int ((s.2.2.1 67 76) + s.2.1), .ref 112]) (h' := s.2.2) (sg1 rfl rfl (sg1 rfl rfl (sg1 rfl rfl (sg1 rfl rfl (sg1 rfl rfl (sg1 rfl rfl (sg1 rfl rfl (sg1 rfl rfl (sg1 rfl rfl rfl))))))))) ?_
    obtain ⟨v4, e_v4, hf⟩ := bnd hf
    refine Ex.iald e_v4 rfl rfl ?_
    obtain ⟨h5, e_h5, hf⟩ := bnd hf
    refine Ex.iast e_h5 rfl rfl ?_
    refine Ex.seg 1 (pc' := 51) (lc' := [some (.ref 67), some (.int s.1), some (.int (s.2.1 + 1))]) (st' := []) (h' := h5) (sg1 rfl rfl rfl) ?_
    obtain ⟨v6, e_v6, hf⟩ := bnd hf
    rw [Option.some.inj e_v6]
    refine Ex.seg 1 (pc' := 26) (lc' := [some (.ref 67), some (.int s.1), some (.int v6)]) (st' := []) (h' := h5) (sg1 rfl rfl rfl) ?_
    obtain rfl := Option.some.inj hf
    exact Ex.weak (sm_le_s (sm_le_s (sm_le_s sm_le_nil))) (hS1 _ hs)
theorem B_412_26 {L : Nat} {xs : Nat → Int32} {d : Nat} (hd : 0 ≤ d) {res : Option Value × sm_H} {y1 : Int32} {y2 : Int32}  {h : sm_H} {r : (Int32 × sm_H)} (hf : F_412_26 y1 y2 h = some r) (hs : (fun (r : Int32 × sm_H) => res = (some (.int r.1), r.2)) r) : Ex (P_G L xs) (RUN L xs d) (sm_lk P_t412) 0 26 [some (.ref 67), some (.int y1), some (.int y2)] [] h res := by
  unfold F_412_26 at hf
  exact lp_ok (P := fun (s : (Int32 × Int32 × sm_H)) => Ex (P_G L xs) (RUN L xs d) (sm_lk P_t412) 0 26 [some (.ref 67), some (.int s.1), some (.int s.2.1)] [] s.2.2 res) (S := (fun (r : Int32 × sm_H) => res = (some (.int r.1), r.2))) (fun s x hx hsx => by
    intros
    exact B_412_26B hd  (fun _ q => q) hx hsx) 1000000 _ r hf hs
theorem B_412_22 {L : Nat} {xs : Nat → Int32} {d : Nat} (hd : 0 ≤ d) {res : Option Value × sm_H}   {h : sm_H} {r : (Int32 × sm_H)} (hf : F_412_22  h = some r) (hs : (fun (r : Int32 × sm_H) => res = (some (.int r.1), r.2)) r) : Ex (P_G L xs) (RUN L xs d) (sm_lk P_t412) 0 22 [none, none, none] [] h res := by
  unfold F_412_22 at hf
  refine Ex.seg 1 (pc' := 23) (lc' := [none, none, none]) (st' := [.int (-1)]) (h' := h) (sg1 rfl rfl rfl) ?_
  obtain rfl := Option.some.inj hf
  exact Ex.iret rfl rfl (fun c0 => by cases c0) hs
theorem B_412_0 {L : Nat} {xs : Nat → Int32} {d : Nat} (hd : 0 ≤ d) {res : Option Value × sm_H} {x1 : Int32}  {h : sm_H} {r : (Int32 × sm_H)} (hf : F_412_0 x1 h = some r) (hs : (fun (r : Int32 × sm_H) => res = (some (.int r.1), r.2)) r) : Ex (P_G L xs) (RUN L xs d) (sm_lk P_t412) 0 0 [some (.ref 67), some (.int x1), none] [] h res := by
  unfold F_412_0 at hf
  refine Ex.seg 1 (pc' := 1) (lc' := [some (.ref 67), some (.int x1), none]) (st' := [.int x1]) (h' := h) (sg1 rfl rfl rfl) ?_
  refine Ex.ifc rfl rfl (fun (c0 : x1 < 0) => ?_) (fun (c0 : ¬ (x1 < 0)) => ?_)
  · rw [if_pos c0] at hf
    exact Ex.weak (sm_le_n (sm_le_n (sm_le_s sm_le_nil))) (B_412_22 hd  hf hs)
  · rw [if_neg c0] at hf
    refine Ex.seg 2 (pc' := 7) (lc' := [some (.ref 67), some (.int x1), none]) (st' := [.int 20, .int x1]) (h' := h) (sg1 rfl rfl (sg1 rfl rfl rfl)) ?_
    refine Ex.icmp rfl rfl (fun (c0 : 20 < x1) => ?_) (fun (c0 : ¬ (20 < x1)) => ?_)
    · rw [if_pos c0] at hf
      exact Ex.weak (sm_le_n (sm_le_n (sm_le_s sm_le_nil))) (B_412_22 hd  hf hs)
    · rw [if_neg c0] at hf
      refine Ex.seg 5 (pc' := 19) (lc' := [some (.ref 67), some (.int x1), none]) (st' := [.int 3000, .int ((h.1 67 76) + x1)]) (h' := h) (sg1 rfl rfl (sg1 rfl rfl (sg1 rfl rfl (sg1 rfl rfl (sg1 rfl rfl rfl))))) ?_
      refine Ex.icmp rfl rfl (fun (c0 : ((h.1 67 76) + x1) ≤ 3000) => ?_) (fun (c0 : ¬ (((h.1 67 76) + x1) ≤ 3000)) => ?_)
      · rw [if_pos c0] at hf
        refine Ex.seg 2 (pc' := 26) (lc' := [some (.ref 67), some (.int x1), some (.int 0)]) (st' := []) (h' := h) (sg1 rfl rfl (sg1 rfl rfl rfl)) ?_
        exact Ex.weak (sm_le_s (sm_le_s (sm_le_s sm_le_nil))) (B_412_26 hd  hf hs)
      · rw [if_neg c0] at hf
        exact Ex.weak (sm_le_n (sm_le_n (sm_le_s sm_le_nil))) (B_412_22 hd  hf hs)
theorem E_412 {L : Nat} {xs : Nat → Int32} {d : Nat} (hd : 1 ≤ d) {x1 : Int32} {h : sm_H} {r : Int32 × sm_H} (hf : F_412 x1 h = some r) : RUN L xs d 412 [.ref 67, .int x1] h (some (.int r.1), r.2) := by
  obtain ⟨d, rfl⟩ : ∃ e, d = e + 1 := ⟨d - 1, by omega⟩
  exact ⟨Nat.le_of_ble_eq_true rfl, B_412_0 (by omega) hf rfl⟩
theorem B_413_17 {L : Nat} {xs : Nat → Int32} {d : Nat} (hd : 0 ≤ d) {res : Option Value × sm_H}   {h : sm_H} {r : (Int32 × sm_H)} (hf : F_413_17  h = some r) (hs : (fun (r : Int32 × sm_H) => res = (some (.int r.1), r.2)) r) : Ex (P_G L xs) (RUN L xs d) (sm_lk P_t413) 3 17 [none, none, none] [] h res := by
  unfold F_413_17 at hf
  refine Ex.seg 1 (pc' := 18) (lc' := [none, none, none]) (st' := [.int 0]) (h' := h) (sg1 rfl rfl rfl) ?_
  obtain rfl := Option.some.inj hf
  exact Ex.iret rfl rfl (fun _ => by decide) hs
theorem B_413_0 {L : Nat} {xs : Nat → Int32} {d : Nat} (hd : 0 ≤ d) {res : Option Value × sm_H} {x1 : Int32} {x2 : Int32}  {h : sm_H} {r : (Int32 × sm_H)} (hf : F_413_0 x1 x2 h = some r) (hs : (fun (r : Int32 × sm_H) => res = (some (.int r.1), r.2)) r) : Ex (P_G L xs) (RUN L xs d) (sm_lk P_t413) 3 0 [some (.ref 67), some (.int x1), some (.int x2)] [] h res := by
  unfold F_413_0 at hf
  refine Ex.seg 2 (pc' := 4) (lc' := [some (.ref 67), some (.int x1), some (.int x2)]) (st' := [.int (h.1 67 77)]) (h' := h) (sg1 rfl rfl (sg1 rfl rfl rfl)) ?_
  refine Ex.ifc rfl rfl (fun (c0 : ¬ ((h.1 67 77) = 0)) => ?_) (fun (c0 : ¬ ¬ ((h.1 67 77) = 0)) => ?_)
  · rw [if_neg c0] at hf
    exact Ex.weak (sm_le_n (sm_le_n (sm_le_n sm_le_nil))) (B_413_17 hd  hf hs)
  · rw [if_pos (Classical.not_not.mp c0)] at hf
    refine Ex.seg 3 (pc' := 12) (lc' := [some (.ref 67), some (.int x1), some (.int x2)]) (st' := []) (h' := (sm_wI h 67 77 x1)) (sg1 rfl rfl (sg1 rfl rfl (sg1 rfl rfl rfl))) ?_
    obtain ⟨h1, e_h1, hf⟩ := bnd hf
    rw [Option.some.inj e_h1]
    refine Ex.seg 3 (pc' := 17) (lc' := [some (.ref 67), some (.int x1), some (.int x2)]) (st' := []) (h' := (sm_wI h1 67 78 x2)) (sg1 rfl rfl (sg1 rfl rfl (sg1 rfl rfl rfl))) ?_
    obtain ⟨h2, e_h2, hf⟩ := bnd hf
    rw [Option.some.inj e_h2]
    exact Ex.weak (sm_le_n (sm_le_n (sm_le_n sm_le_nil))) (B_413_17 hd  hf hs)
theorem E_413 {L : Nat} {xs : Nat → Int32} {d : Nat} (hd : 1 ≤ d) {x1 : Int32} {x2 : Int32} {h : sm_H} {r : Int32 × sm_H} (hf : F_413 x1 x2 h = some r) : RUN L xs d 413 [.ref 67, .int x1, .int x2] h (some (.int r.1), r.2) := by
  obtain ⟨d, rfl⟩ : ∃ e, d = e + 1 := ⟨d - 1, by omega⟩
  exact ⟨Nat.le_of_ble_eq_true rfl, B_413_0 (by omega) hf rfl⟩
theorem B_414_18 {L : Nat} {xs : Nat → Int32} {d : Nat} (hd : 0 ≤ d) {res : Option Value × sm_H} {z0 : Int32}  {h : sm_H} {r : (Int32 × sm_H)} (hf : F_414_18 z0 h = some r) (hs : (fun (r : Int32 × sm_H) => res = (some (.int r.1), r.2)) r) : Ex (P_G L xs) (RUN L xs d) (sm_lk P_t414) 0 18 [none, none] [.int z0] h res := by
  unfold F_414_18 at hf
  obtain rfl := Option.some.inj hf
  exact Ex.iret rfl rfl (fun c0 => by cases c0) hs
theorem B_414_0 {L : Nat} {xs : Nat → Int32} {d : Nat} (hd : 0 ≤ d) {res : Option Value × sm_H} {x1 : Int32}  {h : sm_H} {r : (Int32 × sm_H)} (hf : F_414_0 x1 h = some r) (hs : (fun (r : Int32 × sm_H) => res = (some (.int r.1), r.2)) r) : Ex (P_G L xs) (RUN L xs d) (sm_lk P_t414) 0 0 [some (.ref 67), some (.int x1)] [] h res := by
  unfold F_414_0 at hf
  refine Ex.seg 3 (pc' := 5) (lc' := [some (.ref 67), some (.int x1)]) (st' := [.int (h.1 67 76), .int x1]) (h' := h) (sg1 rfl rfl (sg1 rfl rfl (sg1 rfl rfl rfl))) ?_
  refine Ex.icmp rfl rfl (fun (c0 : (h.1 67 76) ≤ x1) => ?_) (fun (c0 : ¬ ((h.1 67 76) ≤ x1)) => ?_)
  · rw [if_pos c0] at hf
    refine Ex.seg 1 (pc' := 18) (lc' := [some (.ref 67), some (.int x1)]) (st' := [.int (-1)]) (h' := h) (sg1 rfl rfl rfl) ?_
    exact Ex.weak (sm_le_n (sm_le_n sm_le_nil)) (B_414_18 hd  hf hs)
  · rw [if_neg c0] at hf
    refine Ex.seg 3 (pc' := 13) (lc' := [some (.ref 67), some (.int x1)]) (st' := [.int x1, .ref 112]) (h' := h) (sg1 rfl rfl (sg1 rfl rfl (sg1 rfl rfl rfl))) ?_
    obtain ⟨v1, e_v1, hf⟩ := bnd hf
    refine Ex.iald e_v1 rfl rfl ?_
    refine Ex.seg 1 (pc' := 18) (lc' := [some (.ref 67), some (.int x1)]) (st' := [.int v1]) (h' := h) (sg1 rfl rfl rfl) ?_
    exact Ex.weak (sm_le_n (sm_le_n sm_le_nil)) (B_414_18 hd  hf hs)
theorem E_414 {L : Nat} {xs : Nat → Int32} {d : Nat} (hd : 1 ≤ d) {x1 : Int32} {h : sm_H} {r : Int32 × sm_H} (hf : F_414 x1 h = some r) : RUN L xs d 414 [.ref 67, .int x1] h (some (.int r.1), r.2) := by
  obtain ⟨d, rfl⟩ : ∃ e, d = e + 1 := ⟨d - 1, by omega⟩
  exact ⟨Nat.le_of_ble_eq_true rfl, B_414_0 (by omega) hf rfl⟩
theorem B_415_17 {L : Nat} {xs : Nat → Int32} {d : Nat} (hd : 0 ≤ d) {res : Option Value × sm_H} {z0 : Int32}  {h : sm_H} {r : (Int32 × sm_H)} (hf : F_415_17 z0 h = some r) (hs : (fun (r : Int32 × sm_H) => res = (some (.int r.1), r.2)) r) : Ex (P_G L xs) (RUN L xs d) (sm_lk P_t415) 3 17 [none] [.int z0] h res := by
  unfold F_415_17 at hf
  rcases Classical.em (z0 = 0 ∨ z0 = 1) with c0 | c0
  · rw [if_pos c0] at hf
    obtain rfl := Option.some.inj hf
    exact Ex.iret rfl rfl (fun _ => c0) hs
  · rw [if_neg c0] at hf
    cases hf
theorem B_415_16 {L : Nat} {xs : Nat → Int32} {d : Nat} (hd : 0 ≤ d) {res : Option Value × sm_H}   {h : sm_H} {r : (Int32 × sm_H)} (hf : F_415_16  h = some r) (hs : (fun (r : Int32 × sm_H) => res = (some (.int r.1), r.2)) r) : Ex (P_G L xs) (RUN L xs d) (sm_lk P_t415) 3 16 [none] [] h res := by
  unfold F_415_16 at hf
  refine Ex.seg 1 (pc' := 17) (lc' := [none]) (st' := [.int 0]) (h' := h) (sg1 rfl rfl rfl) ?_
  exact Ex.weak (sm_le_s sm_le_nil) (B_415_17 hd  hf hs)
theorem B_415_0 {L : Nat} {xs : Nat → Int32} {d : Nat} (hd : 0 ≤ d) {res : Option Value × sm_H} {x0 : Int32}  {h : sm_H} {r : (Int32 × sm_H)} (hf : F_415_0 x0 h = some r) (hs : (fun (r : Int32 × sm_H) => res = (some (.int r.1), r.2)) r) : Ex (P_G L xs) (RUN L xs d) (sm_lk P_t415) 3 0 [some (.int x0)] [] h res := by
  unfold F_415_0 at hf
  refine Ex.seg 2 (pc' := 3) (lc' := [some (.int x0)]) (st' := [.int 97, .int x0]) (h' := h) (sg1 rfl rfl (sg1 rfl rfl rfl)) ?_
  refine Ex.icmp rfl rfl (fun (c0 : x0 < 97) => ?_) (fun (c0 : ¬ (x0 < 97)) => ?_)
  · rw [if_pos c0] at hf
    exact Ex.weak (sm_le_n sm_le_nil) (B_415_16 hd  hf hs)
  · rw [if_neg c0] at hf
    refine Ex.seg 2 (pc' := 9) (lc' := [some (.int x0)]) (st' := [.int 122, .int x0]) (h' := h) (sg1 rfl rfl (sg1 rfl rfl rfl)) ?_
    refine Ex.icmp rfl rfl (fun (c0 : 122 < x0) => ?_) (fun (c0 : ¬ (122 < x0)) => ?_)
    · rw [if_pos c0] at hf
      exact Ex.weak (sm_le_n sm_le_nil) (B_415_16 hd  hf hs)
    · rw [if_neg c0] at hf
      refine Ex.seg 2 (pc' := 17) (lc' := [some (.int x0)]) (st' := [.int 1]) (h' := h) (sg1 rfl rfl (sg1 rfl rfl rfl)) ?_
      exact Ex.weak (sm_le_n sm_le_nil) (B_415_17 hd  hf hs)
theorem E_415 {L : Nat} {xs : Nat → Int32} {d : Nat} (hd : 1 ≤ d) {x0 : Int32} {h : sm_H} {r : Int32 × sm_H} (hf : F_415 x0 h = some r) : RUN L xs d 415 [.int x0] h (some (.int r.1), r.2) := by
  obtain ⟨d, rfl⟩ : ∃ e, d = e + 1 := ⟨d - 1, by omega⟩
  exact ⟨Nat.le_of_ble_eq_true rfl, B_415_0 (by omega) hf rfl⟩
theorem B_416_17 {L : Nat} {xs : Nat → Int32} {d : Nat} (hd : 0 ≤ d) {res : Option Value × sm_H} {z0 : Int32}  {h : sm_H} {r : (Int32 × sm_H)} (hf : F_416_17 z0 h = some r) (hs : (fun (r : Int32 × sm_H) => res = (some (.int r.1), r.2)) r) : Ex (P_G L xs) (RUN L xs d) (sm_lk P_t416) 3 17 [none] [.int z0] h res := by
  unfold F_416_17 at hf
  rcases Classical.em (z0 = 0 ∨ z0 = 1) with c0 | c0
  · rw [if_pos c0] at hf
    obtain rfl := Option.some.inj hf
    exact Ex.iret rfl rfl (fun _ => c0) hs
  · rw [if_neg c0] at hf
    cases hf
theorem B_416_16 {L : Nat} {xs : Nat → Int32} {d : Nat} (hd : 0 ≤ d) {res : Option Value × sm_H}   {h : sm_H} {r : (Int32 × sm_H)} (hf : F_416_16  h = some r) (hs : (fun (r : Int32 × sm_H) => res = (some (.int r.1), r.2)) r) : Ex (P_G L xs) (RUN L xs d) (sm_lk P_t416) 3 16 [none] [] h res := by
  unfold F_416_16 at hf
  refine Ex.seg 1 (pc' := 17) (lc' := [none]) (st' := [.int 0]) (h' := h) (sg1 rfl rfl rfl) ?_
  exact Ex.weak (sm_le_s sm_le_nil) (B_416_17 hd  hf hs)
theorem B_416_0 {L : Nat} {xs : Nat → Int32} {d : Nat} (hd : 0 ≤ d) {res : Option Value × sm_H} {x0 : Int32}  {h : sm_H} {r : (Int32 × sm_H)} (hf : F_416_0 x0 h = some r) (hs : (fun (r : Int32 × sm_H) => res = (some (.int r.1), r.2)) r) : Ex (P_G L xs) (RUN L xs d) (sm_lk P_t416) 3 0 [some (.int x0)] [] h res := by
  unfold F_416_0 at hf
  refine Ex.seg 2 (pc' := 3) (lc' := [some (.int x0)]) (st' := [.int 48, .int x0]) (h' := h) (sg1 rfl rfl (sg1 rfl rfl rfl)) ?_
  refine Ex.icmp rfl rfl (fun (c0 : x0 < 48) => ?_) (fun (c0 : ¬ (x0 < 48)) => ?_)
  · rw [if_pos c0] at hf
    exact Ex.weak (sm_le_n sm_le_nil) (B_416_16 hd  hf hs)
  · rw [if_neg c0] at hf
    refine Ex.seg 2 (pc' := 9) (lc' := [some (.int x0)]) (st' := [.int 57, .int x0]) (h' := h) (sg1 rfl rfl (sg1 rfl rfl rfl)) ?_
    refine Ex.icmp rfl rfl (fun (c0 : 57 < x0) => ?_) (fun (c0 : ¬ (57 < x0)) => ?_)
    · rw [if_pos c0] at hf
      exact Ex.weak (sm_le_n sm_le_nil) (B_416_16 hd  hf hs)
    · rw [if_neg c0] at hf
      refine Ex.seg 2 (pc' := 17) (lc' := [some (.int x0)]) (st' := [.int 1]) (h' := h) (sg1 rfl rfl (sg1 rfl rfl rfl)) ?_
      exact Ex.weak (sm_le_n sm_le_nil) (B_416_17 hd  hf hs)
theorem E_416 {L : Nat} {xs : Nat → Int32} {d : Nat} (hd : 1 ≤ d) {x0 : Int32} {h : sm_H} {r : Int32 × sm_H} (hf : F_416 x0 h = some r) : RUN L xs d 416 [.int x0] h (some (.int r.1), r.2) := by
  obtain ⟨d, rfl⟩ : ∃ e, d = e + 1 := ⟨d - 1, by omega⟩
  exact ⟨Nat.le_of_ble_eq_true rfl, B_416_0 (by omega) hf rfl⟩
theorem B_417_65 {L : Nat} {xs : Nat → Int32} {d : Nat} (hd : 0 ≤ d) {res : Option Value × sm_H} {z0 : Int32}  {h : sm_H} {r : (Int32 × sm_H)} (hf : F_417_65 z0 h = some r) (hs : (fun (r : Int32 × sm_H) => res = (some (.int r.1), r.2)) r) : Ex (P_G L xs) (RUN L xs d) (sm_lk P_t417) 3 65 [none] [.int z0] h res := by
  unfold F_417_65 at hf
  rcases Classical.em (z0 = 0 ∨ z0 = 1) with c0 | c0
  · rw [if_pos c0] at hf
    obtain rfl := Option.some.inj hf
    exact Ex.iret rfl rfl (fun _ => c0) hs
  · rw [if_neg c0] at hf
    cases hf
theorem B_417_60 {L : Nat} {xs : Nat → Int32} {d : Nat} (hd : 0 ≤ d) {res : Option Value × sm_H}   {h : sm_H} {r : (Int32 × sm_H)} (hf : F_417_60  h = some r) (hs : (fun (r : Int32 × sm_H) => res = (some (.int r.1), r.2)) r) : Ex (P_G L xs) (RUN L xs d) (sm_lk P_t417) 3 60 [none] [] h res := by
  unfold F_417_60 at hf
  refine Ex.seg 2 (pc' := 65) (lc' := [none]) (st' := [.int 1]) (h' := h) (sg1 rfl rfl (sg1 rfl rfl rfl)) ?_
  exact Ex.weak (sm_le_s sm_le_nil) (B_417_65 hd  hf hs)
theorem B_417_0 {L : Nat} {xs : Nat → Int32} {d : Nat} (hd : 0 ≤ d) {res : Option Value × sm_H} {x0 : Int32}  {h : sm_H} {r : (Int32 × sm_H)} (hf : F_417_0 x0 h = some r) (hs : (fun (r : Int32 × sm_H) => res = (some (.int r.1), r.2)) r) : Ex (P_G L xs) (RUN L xs d) (sm_lk P_t417) 3 0 [some (.int x0)] [] h res := by
  unfold F_417_0 at hf
  refine Ex.seg 2 (pc' := 3) (lc' := [some (.int x0)]) (st' := [.int 43, .int x0]) (h' := h) (sg1 rfl rfl (sg1 rfl rfl rfl)) ?_
  refine Ex.icmp rfl rfl (fun (c0 : x0 = 43) => ?_) (fun (c0 : ¬ (x0 = 43)) => ?_)
  · rw [if_pos c0] at hf
    exact Ex.weak (sm_le_n sm_le_nil) (B_417_60 hd  hf hs)
  · rw [if_neg c0] at hf
    refine Ex.seg 2 (pc' := 9) (lc' := [some (.int x0)]) (st' := [.int 45, .int x0]) (h' := h) (sg1 rfl rfl (sg1 rfl rfl rfl)) ?_
    refine Ex.icmp rfl rfl (fun (c0 : x0 = 45) => ?_) (fun (c0 : ¬ (x0 = 45)) => ?_)
    · rw [if_pos c0] at hf
      exact Ex.weak (sm_le_n sm_le_nil) (B_417_60 hd  hf hs)
    · rw [if_neg c0] at hf
      refine Ex.seg 2 (pc' := 15) (lc' := [some (.int x0)]) (st' := [.int 42, .int x0]) (h' := h) (sg1 rfl rfl (sg1 rfl rfl rfl)) ?_
      refine Ex.icmp rfl rfl (fun (c0 : x0 = 42) => ?_) (fun (c0 : ¬ (x0 = 42)) => ?_)
      · rw [if_pos c0] at hf
        exact Ex.weak (sm_le_n sm_le_nil) (B_417_60 hd  hf hs)
      · rw [if_neg c0] at hf
        refine Ex.seg 2 (pc' := 21) (lc' := [some (.int x0)]) (st' := [.int 47, .int x0]) (h' := h) (sg1 rfl rfl (sg1 rfl rfl rfl)) ?_
        refine Ex.icmp rfl rfl (fun (c0 : x0 = 47) => ?_) (fun (c0 : ¬ (x0 = 47)) => ?_)
        · rw [if_pos c0] at hf
          exact Ex.weak (sm_le_n sm_le_nil) (B_417_60 hd  hf hs)
        · rw [if_neg c0] at hf
          refine Ex.seg 2 (pc' := 27) (lc' := [some (.int x0)]) (st' := [.int 37, .int x0]) (h' := h) (sg1 rfl rfl (sg1 rfl rfl rfl)) ?_
          refine Ex.icmp rfl rfl (fun (c0 : x0 = 37) => ?_) (fun (c0 : ¬ (x0 = 37)) => ?_)
          · rw [if_pos c0] at hf
            exact Ex.weak (sm_le_n sm_le_nil) (B_417_60 hd  hf hs)
          · rw [if_neg c0] at hf
            refine Ex.seg 2 (pc' := 33) (lc' := [some (.int x0)]) (st' := [.int 38, .int x0]) (h' := h) (sg1 rfl rfl (sg1 rfl rfl rfl)) ?_
            refine Ex.icmp rfl rfl (fun (c0 : x0 = 38) => ?_) (fun (c0 : ¬ (x0 = 38)) => ?_)
            · rw [if_pos c0] at hf
              exact Ex.weak (sm_le_n sm_le_nil) (B_417_60 hd  hf hs)
            · rw [if_neg c0] at hf
              refine Ex.seg 2 (pc' := 39) (lc' := [some (.int x0)]) (st' := [.int 124, .int x0]) (h' := h) (sg1 rfl rfl (sg1 rfl rfl rfl)) ?_
              refine Ex.icmp rfl rfl (fun (c0 : x0 = 124) => ?_) (fun (c0 : ¬ (x0 = 124)) => ?_)
              · rw [if_pos c0] at hf
                exact Ex.weak (sm_le_n sm_le_nil) (B_417_60 hd  hf hs)
              · rw [if_neg c0] at hf
                refine Ex.seg 2 (pc' := 45) (lc' := [some (.int x0)]) (st' := [.int 94, .int x0]) (h' := h) (sg1 rfl rfl (sg1 rfl rfl rfl)) ?_
                refine Ex.icmp rfl rfl (fun (c0 : x0 = 94) => ?_) (fun (c0 : ¬ (x0 = 94)) => ?_)
                · rw [if_pos c0] at hf
                  exact Ex.weak (sm_le_n sm_le_nil) (B_417_60 hd  hf hs)
                · rw [if_neg c0] at hf
                  refine Ex.seg 2 (pc' := 51) (lc' := [some (.int x0)]) (st' := [.int 60, .int x0]) (h' := h) (sg1 rfl rfl (sg1 rfl rfl rfl)) ?_
                  refine Ex.icmp rfl rfl (fun (c0 : x0 = 60) => ?_) (fun (c0 : ¬ (x0 = 60)) => ?_)
                  · rw [if_pos c0] at hf
                    exact Ex.weak (sm_le_n sm_le_nil) (B_417_60 hd  hf hs)
                  · rw [if_neg c0] at hf
                    refine Ex.seg 2 (pc' := 57) (lc' := [some (.int x0)]) (st' := [.int 61, .int x0]) (h' := h) (sg1 rfl rfl (sg1 rfl rfl rfl)) ?_
                    refine Ex.icmp rfl rfl (fun (c0 : ¬ (x0 = 61)) => ?_) (fun (c0 : ¬ ¬ (x0 = 61)) => ?_)
                    · rw [if_neg c0] at hf
                      refine Ex.seg 1 (pc' := 65) (lc' := [some (.int x0)]) (st' := [.int 0]) (h' := h) (sg1 rfl rfl rfl) ?_
                      exact Ex.weak (sm_le_n sm_le_nil) (B_417_65 hd  hf hs)
                    · rw [if_pos (Classical.not_not.mp c0)] at hf
                      exact Ex.weak (sm_le_n sm_le_nil) (B_417_60 hd  hf hs)
theorem E_417 {L : Nat} {xs : Nat → Int32} {d : Nat} (hd : 1 ≤ d) {x0 : Int32} {h : sm_H} {r : Int32 × sm_H} (hf : F_417 x0 h = some r) : RUN L xs d 417 [.int x0] h (some (.int r.1), r.2) := by
  obtain ⟨d, rfl⟩ : ∃ e, d = e + 1 := ⟨d - 1, by omega⟩
  exact ⟨Nat.le_of_ble_eq_true rfl, B_417_0 (by omega) hf rfl⟩
theorem B_419_253 {L : Nat} {xs : Nat → Int32} {d : Nat} (hd : 1 ≤ d) {res : Option Value × sm_H}   {h : sm_H} {r : (Int32 × sm_H)} (hf : F_419_253  h = some r) (hs : (fun (r : Int32 × sm_H) => res = (some (.int r.1), r.2)) r) : Ex (P_G L xs) (RUN L xs d) (sm_lk P_t419) 3 253 [none, none, none, none, none, none] [] h res := by
  unfold F_419_253 at hf
  refine Ex.seg 1 (pc' := 254) (lc' := [none, none, none, none, none, none]) (st' := [.int 1]) (h' := h) (sg1 rfl rfl rfl) ?_
  obtain rfl := Option.some.inj hf
  exact Ex.iret rfl rfl (fun _ => by decide) hs
theorem B_419_243 {L : Nat} {xs : Nat → Int32} {d : Nat} (hd : 1 ≤ d) {res : Option Value × sm_H}   {h : sm_H} {r : (Int32 × sm_H)} (hf : F_419_243  h = some r) (hs : (fun (r : Int32 × sm_H) => res = (some (.int r.1), r.2)) r) : Ex (P_G L xs) (RUN L xs d) (sm_lk P_t419) 3 243 [some (.ref 67), none, none, none, none, none] [] h res := by
  unfold F_419_243 at hf
  refine Ex.seg 4 (pc' := 249) (lc' := [some (.ref 67), none, none, none, none, none]) (st' := [.int (h.1 67 81), .int 3, .ref 67]) (h' := h) (sg1 rfl rfl (sg1 rfl rfl (sg1 rfl rfl (sg1 rfl rfl rfl)))) ?_
  obtain ⟨q1, e_q1, hf⟩ := bnd hf
  refine Ex.callV (a := 67) (As := [.int 3, .int (h.1 67 81)]) (r := []) (v := some (.int q1.1)) (h' := q1.2) rfl rfl (by decide) rfl (Nat.le_of_ble_eq_true rfl) rfl (E_413 (Nat.le_trans (by decide) hd) e_q1) rfl ?_
  rcases Classical.em (q1.1 = 0 ∨ q1.1 = 1) with c0 | c0
  · rw [if_pos c0] at hf
    obtain rfl := Option.some.inj hf
    exact Ex.iret rfl rfl (fun _ => c0) hs
  · rw [if_neg c0] at hf
    cases hf
theorem B_419_216 {L : Nat} {xs : Nat → Int32} {d : Nat} (hd : 1 ≤ d) {res : Option Value × sm_H} {y4 : Int32} {y5 : Int32} {z1 : Int32}  {h : sm_H} {r : (Int32 × sm_H)} (hf : F_419_216 y4 y5 z1 h = some r) (hs : (fun (r : Int32 × sm_H) => res = (some (.int r.1), r.2)) r) : Ex (P_G L xs) (RUN L xs d) (sm_lk P_t419) 3 216 [some (.ref 67), none, none, none, some (.int y4), some (.int y5)] [.int z1, .ref 67] h res := by
  unfold F_419_216 at hf
  refine Ex.seg 1 (pc' := 219) (lc' := [some (.ref 67), none, none, none, some (.int y4), some (.int y5)]) (st' := []) (h' := (sm_wI h 67 85 z1)) (sg1 rfl rfl rfl) ?_
  obtain ⟨h2, e_h2, hf⟩ := bnd hf
  rw [Option.some.inj e_h2]
  refine Ex.seg 1 (pc' := 221) (lc' := [some (.ref 67), none, none, none, some (.int y4), some (.int y5)]) (st' := [.int y4]) (h' := h2) (sg1 rfl rfl rfl) ?_
  refine Ex.ifc rfl rfl (fun (c0 : ¬ (y4 = 0)) => ?_) (fun (c0 : ¬ ¬ (y4 = 0)) => ?_)
  · rw [if_neg c0] at hf
    exact Ex.weak (sm_le_s (sm_le_s (sm_le_s (sm_le_s (sm_le_n (sm_le_n sm_le_nil)))))) (B_419_243 hd  hf hs)
  · rw [if_pos (Classical.not_not.mp c0)] at hf
    refine Ex.seg 1 (pc' := 226) (lc' := [some (.ref 67), none, none, none, some (.int y4), some (.int y5)]) (st' := [.int y5]) (h' := h2) (sg1 rfl rfl rfl) ?_
    refine Ex.ifc rfl rfl (fun (c0 : ¬ (y5 = 0)) => ?_) (fun (c0 : ¬ ¬ (y5 = 0)) => ?_)
    · rw [if_neg c0] at hf
      exact Ex.weak (sm_le_n (sm_le_s (sm_le_s (sm_le_s (sm_le_n (sm_le_n sm_le_nil)))))) (B_419_253 hd  hf hs)
    · rw [if_pos (Classical.not_not.mp c0)] at hf
      refine Ex.seg 7 (pc' := 240) (lc' := [some (.ref 67), none, none, none, some (.int y4), some (.int y5)]) (st' := [.int (lg_cmp (h2.2.1 67 84) (Int32.toInt64 (Int64.toInt32 (h2.2.1 67 84))))]) (h' := h2) (sg1 rfl rfl (sg1 rfl rfl (sg1 rfl rfl (sg1 rfl rfl (sg1 rfl rfl (sg1 rfl rfl (sg1 rfl rfl rfl))))))) ?_
      refine Ex.ifc rfl rfl (fun (c0 : (lg_cmp (h2.2.1 67 84) (Int32.toInt64 (Int64.toInt32 (h2.2.1 67 84)))) = 0) => ?_) (fun (c0 : ¬ ((lg_cmp (h2.2.1 67 84) (Int32.toInt64 (Int64.toInt32 (h2.2.1 67 84)))) = 0)) => ?_)
      · rw [if_pos c0] at hf
        exact Ex.weak (sm_le_n (sm_le_s (sm_le_s (sm_le_s (sm_le_n (sm_le_n sm_le_nil)))))) (B_419_253 hd  hf hs)
      · rw [if_neg c0] at hf
        exact Ex.weak (sm_le_s (sm_le_s (sm_le_s (sm_le_s (sm_le_n (sm_le_n sm_le_nil)))))) (B_419_243 hd  hf hs)
theorem B_419_201 {L : Nat} {xs : Nat → Int32} {d : Nat} (hd : 1 ≤ d) {res : Option Value × sm_H} {y4 : Int32} {y5 : Int32} {z1 : Int64}  {h : sm_H} {r : (Int32 × sm_H)} (hf : F_419_201 y4 y5 z1 h = some r) (hs : (fun (r : Int32 × sm_H) => res = (some (.int r.1), r.2)) r) : Ex (P_G L xs) (RUN L xs d) (sm_lk P_t419) 3 201 [some (.ref 67), none, none, none, some (.int y4), some (.int y5)] [.long z1, .ref 67] h res := by
  unfold F_419_201 at hf
  refine Ex.seg 1 (pc' := 204) (lc' := [some (.ref 67), none, none, none, some (.int y4), some (.int y5)]) (st' := []) (h' := (sm_wJ h 67 84 z1)) (sg1 rfl rfl rfl) ?_
  obtain ⟨h3, e_h3, hf⟩ := bnd hf
  rw [Option.some.inj e_h3]
  refine Ex.seg 2 (pc' := 207) (lc' := [some (.ref 67), none, none, none, some (.int y4), some (.int y5)]) (st' := [.int y5, .ref 67]) (h' := h3) (sg1 rfl rfl (sg1 rfl rfl rfl)) ?_
  refine Ex.ifc rfl rfl (fun (c0 : y5 = 0) => ?_) (fun (c0 : ¬ (y5 = 0)) => ?_)
  · rw [if_pos c0] at hf
    refine Ex.seg 1 (pc' := 216) (lc' := [some (.ref 67), none, none, none, some (.int y4), some (.int y5)]) (st' := [.int 5, .ref 67]) (h' := h3) (sg1 rfl rfl rfl) ?_
    exact Ex.weak (sm_le_s (sm_le_s (sm_le_s (sm_le_s (sm_le_s (sm_le_s sm_le_nil)))))) (B_419_216 hd  hf hs)
  · rw [if_neg c0] at hf
    refine Ex.seg 2 (pc' := 216) (lc' := [some (.ref 67), none, none, none, some (.int y4), some (.int y5)]) (st' := [.int 6, .ref 67]) (h' := h3) (sg1 rfl rfl (sg1 rfl rfl rfl)) ?_
    exact Ex.weak (sm_le_s (sm_le_s (sm_le_s (sm_le_s (sm_le_s (sm_le_s sm_le_nil)))))) (B_419_216 hd  hf hs)
theorem B_419_188 {L : Nat} {xs : Nat → Int32} {d : Nat} (hd : 1 ≤ d) {res : Option Value × sm_H} {y1 : Int32} {y2 : Int64} {y5 : Int32} {z0 : Int32}  {h : sm_H} {r : (Int32 × sm_H)} (hf : F_419_188 y1 y2 y5 z0 h = some r) (hs : (fun (r : Int32 × sm_H) => res = (some (.int r.1), r.2)) r) : Ex (P_G L xs) (RUN L xs d) (sm_lk P_t419) 3 188 [some (.ref 67), some (.int y1), some (.long y2), none, none, some (.int y5)] [.int z0] h res := by
  unfold F_419_188 at hf
  refine Ex.seg 3 (pc' := 192) (lc' := [some (.ref 67), some (.int y1), some (.long y2), none, some (.int z0), some (.int y5)]) (st' := [.int y1, .ref 67]) (h' := h) (sg1 rfl rfl (sg1 rfl rfl (sg1 rfl rfl rfl))) ?_
  refine Ex.ifc rfl rfl (fun (c0 : y1 = 0) => ?_) (fun (c0 : ¬ (y1 = 0)) => ?_)
  · rw [if_pos c0] at hf
    refine Ex.seg 2 (pc' := 201) (lc' := [some (.ref 67), some (.int y1), some (.long y2), none, some (.int z0), some (.int y5)]) (st' := [.long (-y2), .ref 67]) (h' := h) (sg1 rfl rfl (sg1 rfl rfl rfl)) ?_
    exact Ex.weak (sm_le_s (sm_le_n (sm_le_n (sm_le_s (sm_le_s (sm_le_s sm_le_nil)))))) (B_419_201 hd  hf hs)
  · rw [if_neg c0] at hf
    refine Ex.seg 2 (pc' := 201) (lc' := [some (.ref 67), some (.int y1), some (.long y2), none, some (.int z0), some (.int y5)]) (st' := [.long y2, .ref 67]) (h' := h) (sg1 rfl rfl (sg1 rfl rfl rfl)) ?_
    exact Ex.weak (sm_le_s (sm_le_n (sm_le_n (sm_le_s (sm_le_s (sm_le_s sm_le_nil)))))) (B_419_201 hd  hf hs)
theorem B_419_187 {L : Nat} {xs : Nat → Int32} {d : Nat} (hd : 1 ≤ d) {res : Option Value × sm_H} {y1 : Int32} {y2 : Int64} {y5 : Int32}  {h : sm_H} {r : (Int32 × sm_H)} (hf : F_419_187 y1 y2 y5 h = some r) (hs : (fun (r : Int32 × sm_H) => res = (some (.int r.1), r.2)) r) : Ex (P_G L xs) (RUN L xs d) (sm_lk P_t419) 3 187 [some (.ref 67), some (.int y1), some (.long y2), none, none, some (.int y5)] [] h res := by
  unfold F_419_187 at hf
  refine Ex.seg 1 (pc' := 188) (lc' := [some (.ref 67), some (.int y1), some (.long y2), none, none, some (.int y5)]) (st' := [.int 0]) (h' := h) (sg1 rfl rfl rfl) ?_
  exact Ex.weak (sm_le_s (sm_le_s (sm_le_s (sm_le_s (sm_le_s (sm_le_s sm_le_nil)))))) (B_419_188 hd  hf hs)
theorem B_419_183 {L : Nat} {xs : Nat → Int32} {d : Nat} (hd : 1 ≤ d) {res : Option Value × sm_H} {y1 : Int32} {y2 : Int64} {y5 : Int32}  {h : sm_H} {r : (Int32 × sm_H)} (hf : F_419_183 y1 y2 y5 h = some r) (hs : (fun (r : Int32 × sm_H) => res = (some (.int r.1), r.2)) r) : Ex (P_G L xs) (RUN L xs d) (sm_lk P_t419) 3 183 [some (.ref 67), some (.int y1), some (.long y2), none, none, some (.int y5)] [] h res := by
  unfold F_419_183 at hf
  refine Ex.seg 2 (pc' := 188) (lc' := [some (.ref 67), some (.int y1), some (.long y2), none, none, some (.int y5)]) (st' := [.int 1]) (h' := h) (sg1 rfl rfl (sg1 rfl rfl rfl)) ?_
  exact Ex.weak (sm_le_s (sm_le_s (sm_le_s (sm_le_s (sm_le_s (sm_le_s sm_le_nil)))))) (B_419_188 hd  hf hs)
theorem B_419_166 {L : Nat} {xs : Nat → Int32} {d : Nat} (hd : 1 ≤ d) {res : Option Value × sm_H} {y1 : Int32} {y2 : Int64} {y4 : Int32} {y5 : Int32}  {h : sm_H} {r : (Int32 × sm_H)} (hf : F_419_166 y1 y2 y4 y5 h = some r) (hs : (fun (r : Int32 × sm_H) => res = (some (.int r.1), r.2)) r) : Ex (P_G L xs) (RUN L xs d) (sm_lk P_t419) 3 166 [some (.ref 67), some (.int y1), some (.long y2), none, some (.int y4), some (.int y5)] [] h res := by
  unfold F_419_166 at hf
  refine Ex.seg 1 (pc' := 168) (lc' := [some (.ref 67), some (.int y1), some (.long y2), none, some (.int y4), some (.int y5)]) (st' := [.int y4]) (h' := h) (sg1 rfl rfl rfl) ?_
  refine Ex.ifc rfl rfl (fun (c0 : ¬ (y4 = 0)) => ?_) (fun (c0 : ¬ ¬ (y4 = 0)) => ?_)
  · rw [if_neg c0] at hf
    exact Ex.weak (sm_le_s (sm_le_s (sm_le_s (sm_le_s (sm_le_n (sm_le_s sm_le_nil)))))) (B_419_183 hd  hf hs)
  · rw [if_pos (Classical.not_not.mp c0)] at hf
    refine Ex.seg 1 (pc' := 172) (lc' := [some (.ref 67), some (.int y1), some (.long y2), none, some (.int y4), some (.int y5)]) (st' := [.int y1]) (h' := h) (sg1 rfl rfl rfl) ?_
    refine Ex.ifc rfl rfl (fun (c0 : ¬ (y1 = 0)) => ?_) (fun (c0 : ¬ ¬ (y1 = 0)) => ?_)
    · rw [if_neg c0] at hf
      exact Ex.weak (sm_le_s (sm_le_s (sm_le_s (sm_le_s (sm_le_n (sm_le_s sm_le_nil)))))) (B_419_187 hd  hf hs)
    · rw [if_pos (Classical.not_not.mp c0)] at hf
      refine Ex.seg 3 (pc' := 180) (lc' := [some (.ref 67), some (.int y1), some (.long y2), none, some (.int y4), some (.int y5)]) (st' := [.int (lg_cmp y2 (-9223372036854775808))]) (h' := h) (sg1 rfl rfl (sg1 rfl rfl (sg1 rfl rfl rfl))) ?_
      refine Ex.ifc rfl rfl (fun (c0 : ¬ ((lg_cmp y2 (-9223372036854775808)) = 0)) => ?_) (fun (c0 : ¬ ¬ ((lg_cmp y2 (-9223372036854775808)) = 0)) => ?_)
      · rw [if_neg c0] at hf
        exact Ex.weak (sm_le_s (sm_le_s (sm_le_s (sm_le_s (sm_le_n (sm_le_s sm_le_nil)))))) (B_419_187 hd  hf hs)
      · rw [if_pos (Classical.not_not.mp c0)] at hf
        exact Ex.weak (sm_le_s (sm_le_s (sm_le_s (sm_le_s (sm_le_n (sm_le_s sm_le_nil)))))) (B_419_183 hd  hf hs)
theorem B_419_149 {L : Nat} {xs : Nat → Int32} {d : Nat} (hd : 1 ≤ d) {res : Option Value × sm_H} {y1 : Int32} {y2 : Int64} {y4 : Int32} {z0 : Int32}  {h : sm_H} {r : (Int32 × sm_H)} (hf : F_419_149 y1 y2 y4 z0 h = some r) (hs : (fun (r : Int32 × sm_H) => res = (some (.int r.1), r.2)) r) : Ex (P_G L xs) (RUN L xs d) (sm_lk P_t419) 3 149 [some (.ref 67), some (.int y1), some (.long y2), none, some (.int y4), none] [.int z0] h res := by
  unfold F_419_149 at hf
  refine Ex.seg 2 (pc' := 153) (lc' := [some (.ref 67), some (.int y1), some (.long y2), none, some (.int y4), some (.int z0)]) (st' := [.int z0]) (h' := h) (sg1 rfl rfl (sg1 rfl rfl rfl)) ?_
  refine Ex.ifc rfl rfl (fun (c0 : z0 = 0) => ?_) (fun (c0 : ¬ (z0 = 0)) => ?_)
  · rw [if_pos c0] at hf
    exact Ex.weak (sm_le_s (sm_le_s (sm_le_s (sm_le_s (sm_le_s (sm_le_s sm_le_nil)))))) (B_419_166 hd  hf hs)
  · rw [if_neg c0] at hf
    refine Ex.seg 6 (pc' := 166) (lc' := [some (.ref 67), some (.int y1), some (.long y2), none, some (.int y4), some (.int z0)]) (st' := []) (h' := (sm_wI h 67 82 ((h.1 67 82) + 1))) (sg1 rfl rfl (sg1 rfl rfl (sg1 rfl rfl (sg1 rfl rfl (sg1 rfl rfl (sg1 rfl rfl rfl)))))) ?_
    obtain ⟨h4, e_h4, hf⟩ := bnd hf
    rw [Option.some.inj e_h4]
    exact Ex.weak (sm_le_s (sm_le_s (sm_le_s (sm_le_s (sm_le_s (sm_le_s sm_le_nil)))))) (B_419_166 hd  hf hs)
theorem B_419_117 {L : Nat} {xs : Nat → Int32} {d : Nat} (hd : 1 ≤ d) {res : Option Value × sm_H} {S1 : (Int32 × Int64 × Int32 × sm_H) → Prop} (hS1 : ∀ s, S1 s → Ex (P_G L xs) (RUN L xs d) (sm_lk P_t419) 3 43 [some (.ref 67), some (.int s.1), some (.long s.2.1), none, some (.int s.2.2.1), none] [] s.2.2.2 res) {y1 : Int32} {y4 : Int32} {z0 : Int64}  {h : sm_H} {r : ((Int32 × Int64 × Int32 × sm_H) ⊕ (Int32 × sm_H))} (hf : F_419_117 y1 y4 z0 h = some r) (hs : (Sum.elim S1 (fun (r : Int32 × sm_H) => res = (some (.int r.1), r.2))) r) : Ex (P_G L xs) (RUN L xs d) (sm_lk P_t419) 3 117 [some (.ref 67), some (.int y1), none, none, some (.int y4), none] [.long z0] h res := by
  unfold F_419_117 at hf
  refine Ex.seg 7 (pc' := 128) (lc' := [some (.ref 67), some (.int y1), some (.long z0), none, some (.int y4), none]) (st' := []) (h' := (sm_wI h 67 82 ((h.1 67 82) + 1))) (sg1 rfl rfl (sg1 rfl rfl (sg1 rfl rfl (sg1 rfl rfl (sg1 rfl rfl (sg1 rfl rfl (sg1 rfl rfl rfl))))))) ?_
  obtain ⟨h5, e_h5, hf⟩ := bnd hf
  rw [Option.some.inj e_h5]
  refine Ex.seg 1 (pc' := 43) (lc' := [some (.ref 67), some (.int y1), some (.long z0), none, some (.int y4), none]) (st' := []) (h' := h5) (sg1 rfl rfl rfl) ?_
  obtain rfl := Option.some.inj hf
  exact Ex.weak (sm_le_s (sm_le_s (sm_le_s (sm_le_s (sm_le_s (sm_le_s sm_le_nil)))))) (hS1 _ hs)
theorem B_419_97 {L : Nat} {xs : Nat → Int32} {d : Nat} (hd : 1 ≤ d) {res : Option Value × sm_H} {S1 : (Int32 × Int64 × Int32 × sm_H) → Prop} (hS1 : ∀ s, S1 s → Ex (P_G L xs) (RUN L xs d) (sm_lk P_t419) 3 43 [some (.ref 67), some (.int s.1), some (.long s.2.1), none, some (.int s.2.2.1), none] [] s.2.2.2 res) {y1 : Int32} {y2 : Int64} {y5 : Int32} {z0 : Int32}  {h : sm_H} {r : ((Int32 × Int64 × Int32 × sm_H) ⊕ (Int32 × sm_H))} (hf : F_419_97 y1 y2 y5 z0 h = some r) (hs : (Sum.elim S1 (fun (r : Int32 × sm_H) => res = (some (.int r.1), r.2))) r) : Ex (P_G L xs) (RUN L xs d) (sm_lk P_t419) 3 97 [some (.ref 67), some (.int y1), some (.long y2), none, none, some (.int y5)] [.int z0] h res := by
  unfold F_419_97 at hf
  refine Ex.seg 2 (pc' := 101) (lc' := [some (.ref 67), some (.int y1), some (.long y2), none, some (.int z0), some (.int y5)]) (st' := [.int z0]) (h' := h) (sg1 rfl rfl (sg1 rfl rfl rfl)) ?_
  refine Ex.ifc rfl rfl (fun (c0 : z0 = 0) => ?_) (fun (c0 : ¬ (z0 = 0)) => ?_)
  · rw [if_pos c0] at hf
    refine Ex.seg 6 (pc' := 117) (lc' := [some (.ref 67), some (.int y1), some (.long y2), none, some (.int z0), some (.int y5)]) (st' := [.long ((10 * y2) - (Int32.toInt64 y5))]) (h' := h) (sg1 rfl rfl (sg1 rfl rfl (sg1 rfl rfl (sg1 rfl rfl (sg1 rfl rfl (sg1 rfl rfl rfl)))))) ?_
    exact Ex.weak (sm_le_s (sm_le_s (sm_le_n (sm_le_s (sm_le_s (sm_le_n sm_le_nil)))))) (B_419_117 hd hS1 hf hs)
  · rw [if_neg c0] at hf
    refine Ex.seg 2 (pc' := 117) (lc' := [some (.ref 67), some (.int y1), some (.long y2), none, some (.int z0), some (.int y5)]) (st' := [.long 0]) (h' := h) (sg1 rfl rfl (sg1 rfl rfl rfl)) ?_
    exact Ex.weak (sm_le_s (sm_le_s (sm_le_n (sm_le_s (sm_le_s (sm_le_n sm_le_nil)))))) (B_419_117 hd hS1 hf hs)
theorem B_419_92 {L : Nat} {xs : Nat → Int32} {d : Nat} (hd : 1 ≤ d) {res : Option Value × sm_H} {S1 : (Int32 × Int64 × Int32 × sm_H) → Prop} (hS1 : ∀ s, S1 s → Ex (P_G L xs) (RUN L xs d) (sm_lk P_t419) 3 43 [some (.ref 67), some (.int s.1), some (.long s.2.1), none, some (.int s.2.2.1), none] [] s.2.2.2 res) {y1 : Int32} {y2 : Int64} {y5 : Int32}  {h : sm_H} {r : ((Int32 × Int64 × Int32 × sm_H) ⊕ (Int32 × sm_H))} (hf : F_419_92 y1 y2 y5 h = some r) (hs : (Sum.elim S1 (fun (r : Int32 × sm_H) => res = (some (.int r.1), r.2))) r) : Ex (P_G L xs) (RUN L xs d) (sm_lk P_t419) 3 92 [some (.ref 67), some (.int y1), some (.long y2), none, none, some (.int y5)] [] h res := by
  unfold F_419_92 at hf
  refine Ex.seg 2 (pc' := 97) (lc' := [some (.ref 67), some (.int y1), some (.long y2), none, none, some (.int y5)]) (st' := [.int 1]) (h' := h) (sg1 rfl rfl (sg1 rfl rfl rfl)) ?_
  exact Ex.weak (sm_le_s (sm_le_s (sm_le_s (sm_le_s (sm_le_s (sm_le_s sm_le_nil)))))) (B_419_97 hd hS1 hf hs)
theorem B_419_43B {L : Nat} {xs : Nat → Int32} {d : Nat} (hd : 1 ≤ d) {res : Option Value × sm_H} {S1 : (Int32 × Int64 × Int32 × sm_H) → Prop} (hS1 : ∀ s, S1 s → Ex (P_G L xs) (RUN L xs d) (sm_lk P_t419) 3 43 [some (.ref 67), some (.int s.1), some (.long s.2.1), none, some (.int s.2.2.1), none] [] s.2.2.2 res) {s : (Int32 × Int64 × Int32 × sm_H)}  {r : ((Int32 × Int64 × Int32 × sm_H) ⊕ (Int32 × sm_H))} (hf : F_419_43B s = some r) (hs : (Sum.elim S1 (fun (r : Int32 × sm_H) => res = (some (.int r.1), r.2))) r) : Ex (P_G L xs) (RUN L xs d) (sm_lk P_t419) 3 43 [some (.ref 67), some (.int s.1), some (.long s.2.1), none, some (.int s.2.2.1), none] [] s.2.2.2 res := by
  unfold F_419_43B at hf
  refine Ex.seg 3 (pc' := 48) (lc' := [some (.ref 67), some (.int s.1), some (.long s.2.1), none, some (.int s.2.2.1), none]) (st' := [.int (s.2.2.2.1 67 82), .ref 67]) (h' := s.2.2.2) (sg1 rfl rfl (sg1 rfl rfl (sg1 rfl rfl rfl))) ?_
  obtain ⟨q6, e_q6, hf⟩ := bnd hf
  refine Ex.callV (a := 67) (As := [.int (s.2.2.2.1 67 82)]) (r := []) (v := some (.int q6.1)) (h' := q6.2) rfl rfl (by decide) rfl (Nat.le_of_ble_eq_true rfl) rfl (E_414 (Nat.le_trans (by decide) hd) e_q6) rfl ?_
  obtain ⟨q7, e_q7, hf⟩ := bnd hf
  refine Ex.callS (As := [.int q6.1]) (r := []) (v := some (.int q7.1)) (h' := q7.2) rfl rfl rfl rfl (Nat.le_of_ble_eq_true rfl) (E_416 (Nat.le_trans (by decide) hd) e_q7) rfl ?_
  refine Ex.ifc rfl rfl (fun (c0 : q7.1 = 0) => ?_) (fun (c0 : ¬ (q7.1 = 0)) => ?_)
  · rw [if_pos c0] at hf
    refine Ex.seg 3 (pc' := 136) (lc' := [some (.ref 67), some (.int s.1), some (.long s.2.1), none, some (.int s.2.2.1), none]) (st' := [.int (q7.2.1 67 82), .ref 67]) (h' := q7.2) (sg1 rfl rfl (sg1 rfl rfl (sg1 rfl rfl rfl))) ?_
    obtain ⟨q8, e_q8, hf⟩ := bnd hf
    refine Ex.callV (a := 67) (As := [.int (q7.2.1 67 82)]) (r := []) (v := some (.int q8.1)) (h' := q8.2) rfl rfl (by decide) rfl (Nat.le_of_ble_eq_true rfl) rfl (E_414 (Nat.le_trans (by decide) hd) e_q8) rfl ?_
    refine Ex.seg 1 (pc' := 141) (lc' := [some (.ref 67), some (.int s.1), some (.long s.2.1), none, some (.int s.2.2.1), none]) (st' := [.int 108, .int q8.1]) (h' := q8.2) (sg1 rfl rfl rfl) ?_
    refine Ex.icmp rfl rfl (fun (c0 : ¬ (q8.1 = 108)) => ?_) (fun (c0 : ¬ ¬ (q8.1 = 108)) => ?_)
    · rw [if_neg c0] at hf
      refine Ex.seg 1 (pc' := 149) (lc' := [some (.ref 67), some (.int s.1), some (.long s.2.1), none, some (.int s.2.2.1), none]) (st' := [.int 0]) (h' := q8.2) (sg1 rfl rfl rfl) ?_
      obtain ⟨r0, hf0, rfl⟩ := Option.map_eq_some_iff.mp hf
      exact Ex.weak (sm_le_s (sm_le_s (sm_le_s (sm_le_s (sm_le_s (sm_le_s sm_le_nil)))))) (B_419_149 hd  hf0 hs)
    · rw [if_pos (Classical.not_not.mp c0)] at hf
      refine Ex.seg 2 (pc' := 149) (lc' := [some (.ref 67), some (.int s.1), some (.long s.2.1), none, some (.int s.2.2.1), none]) (st' := [.int 1]) (h' := q8.2) (sg1 rfl rfl (sg1 rfl rfl rfl)) ?_
      obtain ⟨r0, hf0, rfl⟩ := Option.map_eq_some_iff.mp hf
      exact Ex.weak (sm_le_s (sm_le_s (sm_le_s (sm_le_s (sm_le_s (sm_le_s sm_le_nil)))))) (B_419_149 hd  hf0 hs)
  · rw [if_neg c0] at hf
    refine Ex.seg 4 (pc' := 65) (lc' := [some (.ref 67), some (.int s.1), some (.long s.2.1), none, some (.int s.2.2.1), none]) (st' := [.int (q7.2.1 67 82), .ref 112]) (h' := q7.2) (sg1 rfl rfl (sg1 rfl rfl (sg1 rfl rfl (sg1 rfl rfl rfl)))) ?_
    obtain ⟨v9, e_v9, hf⟩ := bnd hf
    refine Ex.iald e_v9 rfl rfl ?_
    refine Ex.seg 3 (pc' := 71) (lc' := [some (.ref 67), some (.int s.1), some (.long s.2.1), none, some (.int s.2.2.1), some (.int (v9 - 48))]) (st' := []) (h' := q7.2) (sg1 rfl rfl (sg1 rfl rfl (sg1 rfl rfl rfl))) ?_
    obtain ⟨v10, e_v10, hf⟩ := bnd hf
    rw [Option.some.inj e_v10]
    refine Ex.seg 1 (pc' := 73) (lc' := [some (.ref 67), some (.int s.1), some (.long s.2.1), none, some (.int s.2.2.1), some (.int v10)]) (st' := [.int s.2.2.1]) (h' := q7.2) (sg1 rfl rfl rfl) ?_
    refine Ex.ifc rfl rfl (fun (c0 : ¬ (s.2.2.1 = 0)) => ?_) (fun (c0 : ¬ ¬ (s.2.2.1 = 0)) => ?_)
    · rw [if_neg c0] at hf
      exact Ex.weak (sm_le_s (sm_le_s (sm_le_s (sm_le_s (sm_le_n (sm_le_s sm_le_nil)))))) (B_419_92 hd hS1 hf hs)
    · rw [if_pos (Classical.not_not.mp c0)] at hf
      refine Ex.seg 6 (pc' := 87) (lc' := [some (.ref 67), some (.int s.1), some (.long s.2.1), none, some (.int s.2.2.1), some (.int v10)]) (st' := [.long 10, .long ((-9223372036854775808) + (Int32.toInt64 v10)), .long s.2.1]) (h' := q7.2) (sg1 rfl rfl (sg1 rfl rfl (sg1 rfl rfl (sg1 rfl rfl (sg1 rfl rfl (sg1 rfl rfl rfl)))))) ?_
      rcases Classical.em ((10 : Int64) = 0) with c0 | c0
      · rw [if_pos c0] at hf
        cases hf
      rw [if_neg c0] at hf
      refine Ex.ldiv c0 rfl rfl ?_
      refine Ex.seg 1 (pc' := 89) (lc' := [some (.ref 67), some (.int s.1), some (.long s.2.1), none, some (.int s.2.2.1), some (.int v10)]) (st' := [.int (lg_cmp s.2.1 (((-9223372036854775808) + (Int32.toInt64 v10)) / 10))]) (h' := q7.2) (sg1 rfl rfl rfl) ?_
      refine Ex.ifc rfl rfl (fun (c0 : 0 ≤ (lg_cmp s.2.1 (((-9223372036854775808) + (Int32.toInt64 v10)) / 10))) => ?_) (fun (c0 : ¬ (0 ≤ (lg_cmp s.2.1 (((-9223372036854775808) + (Int32.toInt64 v10)) / 10)))) => ?_)
      · rw [if_pos c0] at hf
        refine Ex.seg 1 (pc' := 97) (lc' := [some (.ref 67), some (.int s.1), some (.long s.2.1), none, some (.int s.2.2.1), some (.int v10)]) (st' := [.int 0]) (h' := q7.2) (sg1 rfl rfl rfl) ?_
        exact Ex.weak (sm_le_s (sm_le_s (sm_le_s (sm_le_s (sm_le_n (sm_le_s sm_le_nil)))))) (B_419_97 hd hS1 hf hs)
      · rw [if_neg c0] at hf
        exact Ex.weak (sm_le_s (sm_le_s (sm_le_s (sm_le_s (sm_le_n (sm_le_s sm_le_nil)))))) (B_419_92 hd hS1 hf hs)
theorem B_419_43 {L : Nat} {xs : Nat → Int32} {d : Nat} (hd : 1 ≤ d) {res : Option Value × sm_H} {y1 : Int32} {y2 : Int64} {y4 : Int32}  {h : sm_H} {r : (Int32 × sm_H)} (hf : F_419_43 y1 y2 y4 h = some r) (hs : (fun (r : Int32 × sm_H) => res = (some (.int r.1), r.2)) r) : Ex (P_G L xs) (RUN L xs d) (sm_lk P_t419) 3 43 [some (.ref 67), some (.int y1), some (.long y2), none, some (.int y4), none] [] h res := by
  unfold F_419_43 at hf
  exact lp_ok (P := fun (s : (Int32 × Int64 × Int32 × sm_H)) => Ex (P_G L xs) (RUN L xs d) (sm_lk P_t419) 3 43 [some (.ref 67), some (.int s.1), some (.long s.2.1), none, some (.int s.2.2.1), none] [] s.2.2.2 res) (S := (fun (r : Int32 × sm_H) => res = (some (.int r.1), r.2))) (fun s x hx hsx => by
    intros
    exact B_419_43B hd  (fun _ q => q) hx hsx) 1000000 _ r hf hs
theorem B_419_38 {L : Nat} {xs : Nat → Int32} {d : Nat} (hd : 1 ≤ d) {res : Option Value × sm_H} {y1 : Int32}  {h : sm_H} {r : (Int32 × sm_H)} (hf : F_419_38 y1 h = some r) (hs : (fun (r : Int32 × sm_H) => res = (some (.int r.1), r.2)) r) : Ex (P_G L xs) (RUN L xs d) (sm_lk P_t419) 3 38 [some (.ref 67), some (.int y1), none, none, none, none] [] h res := by
  unfold F_419_38 at hf
  refine Ex.seg 4 (pc' := 43) (lc' := [some (.ref 67), some (.int y1), some (.long 0), none, some (.int 0), none]) (st' := []) (h' := h) (sg1 rfl rfl (sg1 rfl rfl (sg1 rfl rfl (sg1 rfl rfl rfl)))) ?_
  exact Ex.weak (sm_le_s (sm_le_s (sm_le_s (sm_le_s (sm_le_s (sm_le_s sm_le_nil)))))) (B_419_43 hd  hf hs)
theorem B_419_23 {L : Nat} {xs : Nat → Int32} {d : Nat} (hd : 1 ≤ d) {res : Option Value × sm_H} {z0 : Int32}  {h : sm_H} {r : (Int32 × sm_H)} (hf : F_419_23 z0 h = some r) (hs : (fun (r : Int32 × sm_H) => res = (some (.int r.1), r.2)) r) : Ex (P_G L xs) (RUN L xs d) (sm_lk P_t419) 3 23 [some (.ref 67), none, none, none, none, none] [.int z0] h res := by
  unfold F_419_23 at hf
  refine Ex.seg 2 (pc' := 25) (lc' := [some (.ref 67), some (.int z0), none, none, none, none]) (st' := [.int z0]) (h' := h) (sg1 rfl rfl (sg1 rfl rfl rfl)) ?_
  refine Ex.ifc rfl rfl (fun (c0 : z0 = 0) => ?_) (fun (c0 : ¬ (z0 = 0)) => ?_)
  · rw [if_pos c0] at hf
    exact Ex.weak (sm_le_s (sm_le_s (sm_le_s (sm_le_s (sm_le_s (sm_le_s sm_le_nil)))))) (B_419_38 hd  hf hs)
  · rw [if_neg c0] at hf
    refine Ex.seg 6 (pc' := 38) (lc' := [some (.ref 67), some (.int z0), none, none, none, none]) (st' := []) (h' := (sm_wI h 67 82 ((h.1 67 82) + 1))) (sg1 rfl rfl (sg1 rfl rfl (sg1 rfl rfl (sg1 rfl rfl (sg1 rfl rfl (sg1 rfl rfl rfl)))))) ?_
    obtain ⟨h11, e_h11, hf⟩ := bnd hf
    rw [Option.some.inj e_h11]
    exact Ex.weak (sm_le_s (sm_le_s (sm_le_s (sm_le_s (sm_le_s (sm_le_s sm_le_nil)))))) (B_419_38 hd  hf hs)
theorem B_419_0 {L : Nat} {xs : Nat → Int32} {d : Nat} (hd : 1 ≤ d) {res : Option Value × sm_H}   {h : sm_H} {r : (Int32 × sm_H)} (hf : F_419_0  h = some r) (hs : (fun (r : Int32 × sm_H) => res = (some (.int r.1), r.2)) r) : Ex (P_G L xs) (RUN L xs d) (sm_lk P_t419) 3 0 [some (.ref 67), none, none, none, none, none] [] h res := by
  unfold F_419_0 at hf
  refine Ex.seg 3 (pc' := 5) (lc' := [some (.ref 67), none, none, none, none, none]) (st' := []) (h' := (sm_wI h 67 80 2)) (sg1 rfl rfl (sg1 rfl rfl (sg1 rfl rfl rfl))) ?_
  obtain ⟨h12, e_h12, hf⟩ := bnd hf
  rw [Option.some.inj e_h12]
  refine Ex.seg 3 (pc' := 10) (lc' := [some (.ref 67), none, none, none, none, none]) (st' := [.int (h12.1 67 79), .ref 67]) (h' := h12) (sg1 rfl rfl (sg1 rfl rfl (sg1 rfl rfl rfl))) ?_
  obtain ⟨q13, e_q13, hf⟩ := bnd hf
  refine Ex.callV (a := 67) (As := [.int (h12.1 67 79)]) (r := []) (v := some (.int q13.1)) (h' := q13.2) rfl rfl (by decide) rfl (Nat.le_of_ble_eq_true rfl) rfl (E_414 (Nat.le_trans (by decide) hd) e_q13) rfl ?_
  refine Ex.seg 1 (pc' := 15) (lc' := [some (.ref 67), none, none, none, none, none]) (st' := [.int 45, .int q13.1]) (h' := q13.2) (sg1 rfl rfl rfl) ?_
  refine Ex.icmp rfl rfl (fun (c0 : ¬ (q13.1 = 45)) => ?_) (fun (c0 : ¬ ¬ (q13.1 = 45)) => ?_)
  · rw [if_neg c0] at hf
    refine Ex.seg 1 (pc' := 23) (lc' := [some (.ref 67), none, none, none, none, none]) (st' := [.int 0]) (h' := q13.2) (sg1 rfl rfl rfl) ?_
    exact Ex.weak (sm_le_s (sm_le_s (sm_le_s (sm_le_s (sm_le_s (sm_le_s sm_le_nil)))))) (B_419_23 hd  hf hs)
  · rw [if_pos (Classical.not_not.mp c0)] at hf
    refine Ex.seg 2 (pc' := 23) (lc' := [some (.ref 67), none, none, none, none, none]) (st' := [.int 1]) (h' := q13.2) (sg1 rfl rfl (sg1 rfl rfl rfl)) ?_
    exact Ex.weak (sm_le_s (sm_le_s (sm_le_s (sm_le_s (sm_le_s (sm_le_s sm_le_nil)))))) (B_419_23 hd  hf hs)
theorem E_419 {L : Nat} {xs : Nat → Int32} {d : Nat} (hd : 2 ≤ d)  {h : sm_H} {r : Int32 × sm_H} (hf : F_419  h = some r) : RUN L xs d 419 [.ref 67] h (some (.int r.1), r.2) := by
  obtain ⟨d, rfl⟩ : ∃ e, d = e + 1 := ⟨d - 1, by omega⟩
  exact ⟨Nat.le_of_ble_eq_true rfl, B_419_0 (by omega) hf rfl⟩
theorem B_420_0 {L : Nat} {xs : Nat → Int32} {d : Nat} (hd : 0 ≤ d) {res : Option Value × sm_H}   {h : sm_H} {r : (sm_H)} (hf : F_420_0  h = some r) (hs : (fun (r : sm_H) => res = (none, r)) r) : Ex (P_G L xs) (RUN L xs d) (sm_lk P_t420) 0 0 [some (.ref 67)] [] h res := by
  unfold F_420_0 at hf
  refine Ex.seg 4 (pc' := 8) (lc' := [some (.ref 67)]) (st' := []) (h' := (sm_wI h 67 79 (h.1 67 82))) (sg1 rfl rfl (sg1 rfl rfl (sg1 rfl rfl (sg1 rfl rfl rfl)))) ?_
  obtain ⟨h1, e_h1, hf⟩ := bnd hf
  rw [Option.some.inj e_h1]
  obtain rfl := Option.some.inj hf
  exact Ex.vret rfl rfl hs
theorem E_420 {L : Nat} {xs : Nat → Int32} {d : Nat} (hd : 1 ≤ d)  {h : sm_H} {r : sm_H} (hf : F_420  h = some r) : RUN L xs d 420 [.ref 67] h (none, r) := by
  obtain ⟨d, rfl⟩ : ∃ e, d = e + 1 := ⟨d - 1, by omega⟩
  exact ⟨Nat.le_of_ble_eq_true rfl, B_420_0 (by omega) hf rfl⟩
