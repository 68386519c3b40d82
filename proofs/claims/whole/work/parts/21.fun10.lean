theorem B_464_191 {L : Nat} {xs : Nat → Int32} {d : Nat} (hd : 5 ≤ d) {res : Option Value × sm_H}   {h : sm_H} {r : (Int32 × sm_H)} (hf : F_464_191  h = some r) (hs : (fun (r : Int32 × sm_H) => res = (some (.int r.1), r.2)) r) : Ex (P_G L xs) (RUN L xs d) (sm_lk P_t464) 3 191 [none, none, none, none] [] h res := by
  unfold F_464_191 at hf
  refine Ex.seg 1 (pc' := 192) (lc' := [none, none, none, none]) (st' := [.int 0]) (h' := h) (sg1 rfl rfl rfl) ?_
  obtain rfl := Option.some.inj hf
  exact Ex.iret rfl rfl (fun _ => by decide) hs
theorem B_464_131 {L : Nat} {xs : Nat → Int32} {d : Nat} (hd : 5 ≤ d) {res : Option Value × sm_H} {S1 : (Int32 × sm_H) → Prop} (hS1 : ∀ s, S1 s → Ex (P_G L xs) (RUN L xs d) (sm_lk P_t464) 3 25 [some (.ref 67), some (.int s.1), none, none] [] s.2 res) {S2 : (Int32 × Int32 × Int32 × sm_H) → Prop} (hS2 : ∀ s, S2 s → Ex (P_G L xs) (RUN L xs d) (sm_lk P_t464) 3 94 [some (.ref 67), some (.int s.1), some (.int s.2.1), some (.int s.2.2.1)] [] s.2.2.2 res) {y1 : Int32} {y3 : Int32} {z0 : Int32}  {h : sm_H} {r : ((Int32 × Int32 × Int32 × sm_H) ⊕ ((Int32 × sm_H) ⊕ (Int32 × sm_H)))} (hf : F_464_131 y1 y3 z0 h = some r) (hs : (Sum.elim S2 (Sum.elim S1 (fun (r : Int32 × sm_H) => res = (some (.int r.1), r.2)))) r) : Ex (P_G L xs) (RUN L xs d) (sm_lk P_t464) 3 131 [some (.ref 67), some (.int y1), none, some (.int y3)] [.int z0] h res := by
  unfold F_464_131 at hf
  refine Ex.seg 2 (pc' := 135) (lc' := [some (.ref 67), some (.int y1), some (.int z0), some (.int (y3 + 1))]) (st' := []) (h' := h) (sg1 rfl rfl (sg1 rfl rfl rfl)) ?_
  obtain ⟨v1, e_v1, hf⟩ := bnd hf
  rw [Option.some.inj e_v1]
  refine Ex.seg 1 (pc' := 94) (lc' := [some (.ref 67), some (.int y1), some (.int z0), some (.int v1)]) (st' := []) (h' := h) (sg1 rfl rfl rfl) ?_
  obtain rfl := Option.some.inj hf
  exact Ex.weak (sm_le_s (sm_le_s (sm_le_s (sm_le_s sm_le_nil)))) (hS2 _ hs)
theorem B_464_126 {L : Nat} {xs : Nat → Int32} {d : Nat} (hd : 5 ≤ d) {res : Option Value × sm_H} {S1 : (Int32 × sm_H) → Prop} (hS1 : ∀ s, S1 s → Ex (P_G L xs) (RUN L xs d) (sm_lk P_t464) 3 25 [some (.ref 67), some (.int s.1), none, none] [] s.2 res) {S2 : (Int32 × Int32 × Int32 × sm_H) → Prop} (hS2 : ∀ s, S2 s → Ex (P_G L xs) (RUN L xs d) (sm_lk P_t464) 3 94 [some (.ref 67), some (.int s.1), some (.int s.2.1), some (.int s.2.2.1)] [] s.2.2.2 res) {y1 : Int32} {y3 : Int32}  {h : sm_H} {r : ((Int32 × Int32 × Int32 × sm_H) ⊕ ((Int32 × sm_H) ⊕ (Int32 × sm_H)))} (hf : F_464_126 y1 y3 h = some r) (hs : (Sum.elim S2 (Sum.elim S1 (fun (r : Int32 × sm_H) => res = (some (.int r.1), r.2)))) r) : Ex (P_G L xs) (RUN L xs d) (sm_lk P_t464) 3 126 [some (.ref 67), some (.int y1), none, some (.int y3)] [] h res := by
  unfold F_464_126 at hf
  refine Ex.seg 2 (pc' := 131) (lc' := [some (.ref 67), some (.int y1), none, some (.int y3)]) (st' := [.int 1]) (h' := h) (sg1 rfl rfl (sg1 rfl rfl rfl)) ?_
  exact Ex.weak (sm_le_s (sm_le_s (sm_le_s (sm_le_s sm_le_nil)))) (B_464_131 hd hS1 hS2 hf hs)
theorem B_464_94B {L : Nat} {xs : Nat → Int32} {d : Nat} (hd : 5 ≤ d) {res : Option Value × sm_H} {S1 : (Int32 × sm_H) → Prop} (hS1 : ∀ s, S1 s → Ex (P_G L xs) (RUN L xs d) (sm_lk P_t464) 3 25 [some (.ref 67), some (.int s.1), none, none] [] s.2 res) {S2 : (Int32 × Int32 × Int32 × sm_H) → Prop} (hS2 : ∀ s, S2 s → Ex (P_G L xs) (RUN L xs d) (sm_lk P_t464) 3 94 [some (.ref 67), some (.int s.1), some (.int s.2.1), some (.int s.2.2.1)] [] s.2.2.2 res) {s : (Int32 × Int32 × Int32 × sm_H)}  {r : ((Int32 × Int32 × Int32 × sm_H) ⊕ ((Int32 × sm_H) ⊕ (Int32 × sm_H)))} (hf : F_464_94B s = some r) (hs : (Sum.elim S2 (Sum.elim S1 (fun (r : Int32 × sm_H) => res = (some (.int r.1), r.2)))) r) : Ex (P_G L xs) (RUN L xs d) (sm_lk P_t464) 3 94 [some (.ref 67), some (.int s.1), some (.int s.2.1), some (.int s.2.2.1)] [] s.2.2.2 res := by
  unfold F_464_94B at hf
  refine Ex.seg 4 (pc' := 100) (lc' := [some (.ref 67), some (.int s.1), some (.int s.2.1), some (.int s.2.2.1)]) (st' := [.int s.1, .ref 115, .int s.2.2.1]) (h' := s.2.2.2) (sg1 rfl rfl (sg1 rfl rfl (sg1 rfl rfl (sg1 rfl rfl rfl)))) ?_
  obtain ⟨v2, e_v2, hf⟩ := bnd hf
  refine Ex.iald e_v2 rfl rfl ?_
  refine Ex.icmp rfl rfl (fun (c0 : v2 ≤ s.2.2.1) => ?_) (fun (c0 : ¬ (v2 ≤ s.2.2.1)) => ?_)
  · rw [if_pos c0] at hf
    refine Ex.seg 1 (pc' := 139) (lc' := [some (.ref 67), some (.int s.1), some (.int s.2.1), some (.int s.2.2.1)]) (st' := [.int s.2.1]) (h' := s.2.2.2) (sg1 rfl rfl rfl) ?_
    refine Ex.ifc rfl rfl (fun (c0 : s.2.1 = 0) => ?_) (fun (c0 : ¬ (s.2.1 = 0)) => ?_)
    · rw [if_pos c0] at hf
      refine Ex.seg 6 (pc' := 165) (lc' := [some (.ref 67), some (.int s.1), some (.int s.2.1), some (.int s.2.2.1)]) (st' := [.int s.1, .ref 115, .int 390, .ref 117]) (h' := s.2.2.2) (sg1 rfl rfl (sg1 rfl rfl (sg1 rfl rfl (sg1 rfl rfl (sg1 rfl rfl (sg1 rfl rfl rfl)))))) ?_
      obtain ⟨v3, e_v3, hf⟩ := bnd hf
      refine Ex.iald e_v3 rfl rfl ?_
      refine Ex.seg 3 (pc' := 171) (lc' := [some (.ref 67), some (.int s.1), some (.int s.2.1), some (.int s.2.2.1)]) (st' := [.long (s.2.2.2.2.1 67 83), .int (390 + v3), .ref 117]) (h' := s.2.2.2) (sg1 rfl rfl (sg1 rfl rfl (sg1 rfl rfl rfl))) ?_
      obtain ⟨h4, e_h4, hf⟩ := bnd hf
      refine Ex.last e_h4 rfl rfl ?_
      refine Ex.seg 1 (pc' := 173) (lc' := [some (.ref 67), some (.int s.1), some (.int s.2.1), some (.int s.2.2.1)]) (st' := [.ref 67]) (h' := h4) (sg1 rfl rfl rfl) ?_
      obtain ⟨q5, e_q5, hf⟩ := bnd hf
      refine Ex.callV (a := 67) (As := []) (r := []) (v := none) (h' := q5) rfl rfl (by decide) rfl (Nat.le_of_ble_eq_true rfl) rfl (E_420 (Nat.le_trans (by decide) hd) e_q5) rfl ?_
      refine Ex.seg 2 (pc' := 178) (lc' := [some (.ref 67), some (.int s.1), some (.int s.2.1), some (.int s.2.2.1)]) (st' := [.int 0, .ref 67]) (h' := q5) (sg1 rfl rfl (sg1 rfl rfl rfl)) ?_
      obtain ⟨q6, e_q6, hf⟩ := bnd hf
      refine Ex.callV (a := 67) (As := [.int 0]) (r := []) (v := some (.int q6.1)) (h' := q6.2) rfl rfl (by decide) rfl (Nat.le_of_ble_eq_true rfl) rfl (E_424 (Nat.le_trans (by decide) hd) e_q6) rfl ?_
      refine Ex.ifc rfl rfl (fun (c0 : q6.1 = 0) => ?_) (fun (c0 : ¬ (q6.1 = 0)) => ?_)
      · rw [if_pos c0] at hf
        obtain ⟨r0, hf0, rfl⟩ := Option.map_eq_some_iff.mp hf
        exact Ex.weak (sm_le_n (sm_le_n (sm_le_n (sm_le_n sm_le_nil)))) (B_464_191 hd  hf0 hs)
      · rw [if_neg c0] at hf
        refine Ex.seg 1 (pc' := 185) (lc' := [some (.ref 67), some (.int s.1), some (.int s.2.1), some (.int s.2.2.1)]) (st' := [.ref 67]) (h' := q6.2) (sg1 rfl rfl rfl) ?_
        obtain ⟨q7, e_q7, hf⟩ := bnd hf
        refine Ex.callV (a := 67) (As := []) (r := []) (v := some (.int q7.1)) (h' := q7.2) rfl rfl (by decide) rfl (Nat.le_of_ble_eq_true rfl) rfl (E_427 (Nat.le_trans (by decide) hd) e_q7) rfl ?_
        refine Ex.ifc rfl rfl (fun (c0 : ¬ (q7.1 = 0)) => ?_) (fun (c0 : ¬ ¬ (q7.1 = 0)) => ?_)
        · rw [if_neg c0] at hf
          refine Ex.seg 8 (pc' := 206) (lc' := [some (.ref 67), some (.int s.1), some (.int s.2.1), some (.int s.2.2.1)]) (st' := [.int s.1, .ref 115, .int (6 * s.1), .ref 116]) (h' := q7.2) (sg1 rfl rfl (sg1 rfl rfl (sg1 rfl rfl (sg1 rfl rfl (sg1 rfl rfl (sg1 rfl rfl (sg1 rfl rfl (sg1 rfl rfl rfl)))))))) ?_
          obtain ⟨v8, e_v8, hf⟩ := bnd hf
          refine Ex.iald e_v8 rfl rfl ?_
          refine Ex.seg 3 (pc' := 212) (lc' := [some (.ref 67), some (.int s.1), some (.int s.2.1), some (.int s.2.2.1)]) (st' := [.int (q7.2.1 67 105), .int ((6 * s.1) + v8), .ref 116]) (h' := q7.2) (sg1 rfl rfl (sg1 rfl rfl (sg1 rfl rfl rfl))) ?_
          obtain ⟨h9, e_h9, hf⟩ := bnd hf
          refine Ex.iast e_h9 rfl rfl ?_
          refine Ex.seg 4 (pc' := 219) (lc' := [some (.ref 67), some (.int s.1), some (.int s.2.1), some (.int s.2.2.1)]) (st' := [.int s.1, .ref 115, .int s.1, .ref 115]) (h' := h9) (sg1 rfl rfl (sg1 rfl rfl (sg1 rfl rfl (sg1 rfl rfl rfl)))) ?_
          obtain ⟨v10, e_v10, hf⟩ := bnd hf
          refine Ex.iald e_v10 rfl rfl ?_
          refine Ex.seg 2 (pc' := 222) (lc' := [some (.ref 67), some (.int s.1), some (.int s.2.1), some (.int s.2.2.1)]) (st' := [.int (v10 + 1), .int s.1, .ref 115]) (h' := h9) (sg1 rfl rfl (sg1 rfl rfl rfl)) ?_
          obtain ⟨h11, e_h11, hf⟩ := bnd hf
          refine Ex.iast e_h11 rfl rfl ?_
          refine Ex.seg 1 (pc' := 224) (lc' := [some (.ref 67), some (.int s.1), some (.int s.2.1), some (.int s.2.2.1)]) (st' := [.ref 67]) (h' := h11) (sg1 rfl rfl rfl) ?_
          obtain ⟨q12, e_q12, hf⟩ := bnd hf
          refine Ex.callV (a := 67) (As := []) (r := []) (v := some (.int q12.1)) (h' := q12.2) rfl rfl (by decide) rfl (Nat.le_of_ble_eq_true rfl) rfl (E_418 (Nat.le_trans (by decide) hd) e_q12) rfl ?_
          refine Ex.ifc rfl rfl (fun (c0 : ¬ (q12.1 = 0)) => ?_) (fun (c0 : ¬ ¬ (q12.1 = 0)) => ?_)
          · rw [if_neg c0] at hf
            refine Ex.seg 1 (pc' := 25) (lc' := [some (.ref 67), some (.int s.1), some (.int s.2.1), some (.int s.2.2.1)]) (st' := []) (h' := q12.2) (sg1 rfl rfl rfl) ?_
            obtain rfl := Option.some.inj hf
            exact Ex.weak (sm_le_s (sm_le_s (sm_le_n (sm_le_n sm_le_nil)))) (hS1 _ hs)
          · rw [if_pos (Classical.not_not.mp c0)] at hf
            refine Ex.seg 1 (pc' := 231) (lc' := [some (.ref 67), some (.int s.1), some (.int s.2.1), some (.int s.2.2.1)]) (st' := [.int 0]) (h' := q12.2) (sg1 rfl rfl rfl) ?_
            obtain rfl := Option.some.inj hf
            exact Ex.iret rfl rfl (fun _ => by decide) hs
        · rw [if_pos (Classical.not_not.mp c0)] at hf
          obtain ⟨r0, hf0, rfl⟩ := Option.map_eq_some_iff.mp hf
          exact Ex.weak (sm_le_n (sm_le_n (sm_le_n (sm_le_n sm_le_nil)))) (B_464_191 hd  hf0 hs)
    · rw [if_neg c0] at hf
      refine Ex.seg 4 (pc' := 149) (lc' := [some (.ref 67), some (.int s.1), some (.int s.2.1), some (.int s.2.2.1)]) (st' := [.int (s.2.2.2.1 67 81), .int 6, .ref 67]) (h' := s.2.2.2) (sg1 rfl rfl (sg1 rfl rfl (sg1 rfl rfl (sg1 rfl rfl rfl)))) ?_
      obtain ⟨q13, e_q13, hf⟩ := bnd hf
      refine Ex.callV (a := 67) (As := [.int 6, .int (s.2.2.2.1 67 81)]) (r := []) (v := some (.int q13.1)) (h' := q13.2) rfl rfl (by decide) rfl (Nat.le_of_ble_eq_true rfl) rfl (E_413 (Nat.le_trans (by decide) hd) e_q13) rfl ?_
      rcases Classical.em (q13.1 = 0 ∨ q13.1 = 1) with c0 | c0
      · rw [if_pos c0] at hf
        obtain rfl := Option.some.inj hf
        exact Ex.iret rfl rfl (fun _ => c0) hs
      · rw [if_neg c0] at hf
        cases hf
  · rw [if_neg c0] at hf
    refine Ex.seg 1 (pc' := 105) (lc' := [some (.ref 67), some (.int s.1), some (.int s.2.1), some (.int s.2.2.1)]) (st' := [.int s.2.1]) (h' := s.2.2.2) (sg1 rfl rfl rfl) ?_
    refine Ex.ifc rfl rfl (fun (c0 : ¬ (s.2.1 = 0)) => ?_) (fun (c0 : ¬ ¬ (s.2.1 = 0)) => ?_)
    · rw [if_neg c0] at hf
      exact Ex.weak (sm_le_s (sm_le_s (sm_le_n (sm_le_s sm_le_nil)))) (B_464_126 hd hS1 hS2 hf hs)
    · rw [if_pos (Classical.not_not.mp c0)] at hf
      refine Ex.seg 5 (pc' := 117) (lc' := [some (.ref 67), some (.int s.1), some (.int s.2.1), some (.int s.2.2.1)]) (st' := [.int (390 + s.2.2.1), .ref 117]) (h' := s.2.2.2) (sg1 rfl rfl (sg1 rfl rfl (sg1 rfl rfl (sg1 rfl rfl (sg1 rfl rfl rfl))))) ?_
      obtain ⟨v14, e_v14, hf⟩ := bnd hf
      refine Ex.lald e_v14 rfl rfl ?_
      refine Ex.seg 3 (pc' := 123) (lc' := [some (.ref 67), some (.int s.1), some (.int s.2.1), some (.int s.2.2.1)]) (st' := [.int (lg_cmp v14 (s.2.2.2.2.1 67 83))]) (h' := s.2.2.2) (sg1 rfl rfl (sg1 rfl rfl (sg1 rfl rfl rfl))) ?_
      refine Ex.ifc rfl rfl (fun (c0 : ¬ ((lg_cmp v14 (s.2.2.2.2.1 67 83)) = 0)) => ?_) (fun (c0 : ¬ ¬ ((lg_cmp v14 (s.2.2.2.2.1 67 83)) = 0)) => ?_)
      · rw [if_neg c0] at hf
        refine Ex.seg 1 (pc' := 131) (lc' := [some (.ref 67), some (.int s.1), some (.int s.2.1), some (.int s.2.2.1)]) (st' := [.int 0]) (h' := s.2.2.2) (sg1 rfl rfl rfl) ?_
        exact Ex.weak (sm_le_s (sm_le_s (sm_le_n (sm_le_s sm_le_nil)))) (B_464_131 hd hS1 hS2 hf hs)
      · rw [if_pos (Classical.not_not.mp c0)] at hf
        exact Ex.weak (sm_le_s (sm_le_s (sm_le_n (sm_le_s sm_le_nil)))) (B_464_126 hd hS1 hS2 hf hs)
theorem B_464_94 {L : Nat} {xs : Nat → Int32} {d : Nat} (hd : 5 ≤ d) {res : Option Value × sm_H} {S1 : (Int32 × sm_H) → Prop} (hS1 : ∀ s, S1 s → Ex (P_G L xs) (RUN L xs d) (sm_lk P_t464) 3 25 [some (.ref 67), some (.int s.1), none, none] [] s.2 res) {y1 : Int32} {y2 : Int32} {y3 : Int32}  {h : sm_H} {r : ((Int32 × sm_H) ⊕ (Int32 × sm_H))} (hf : F_464_94 y1 y2 y3 h = some r) (hs : (Sum.elim S1 (fun (r : Int32 × sm_H) => res = (some (.int r.1), r.2))) r) : Ex (P_G L xs) (RUN L xs d) (sm_lk P_t464) 3 94 [some (.ref 67), some (.int y1), some (.int y2), some (.int y3)] [] h res := by
  unfold F_464_94 at hf
  exact lp_ok (P := fun (s : (Int32 × Int32 × Int32 × sm_H)) => Ex (P_G L xs) (RUN L xs d) (sm_lk P_t464) 3 94 [some (.ref 67), some (.int s.1), some (.int s.2.1), some (.int s.2.2.1)] [] s.2.2.2 res) (S := (Sum.elim S1 (fun (r : Int32 × sm_H) => res = (some (.int r.1), r.2)))) (fun s x hx hsx => by
    intros
    exact B_464_94B hd hS1 (fun _ q => q) hx hsx) 1000000 _ r hf hs
theorem B_464_91 {L : Nat} {xs : Nat → Int32} {d : Nat} (hd : 5 ≤ d) {res : Option Value × sm_H} {S1 : (Int32 × sm_H) → Prop} (hS1 : ∀ s, S1 s → Ex (P_G L xs) (RUN L xs d) (sm_lk P_t464) 3 25 [some (.ref 67), some (.int s.1), none, none] [] s.2 res) {y1 : Int32} {z0 : Int32}  {h : sm_H} {r : ((Int32 × sm_H) ⊕ (Int32 × sm_H))} (hf : F_464_91 y1 z0 h = some r) (hs : (Sum.elim S1 (fun (r : Int32 × sm_H) => res = (some (.int r.1), r.2))) r) : Ex (P_G L xs) (RUN L xs d) (sm_lk P_t464) 3 91 [some (.ref 67), some (.int y1), none, none] [.int z0] h res := by
  unfold F_464_91 at hf
  refine Ex.seg 3 (pc' := 94) (lc' := [some (.ref 67), some (.int y1), some (.int z0), some (.int 0)]) (st' := []) (h' := h) (sg1 rfl rfl (sg1 rfl rfl (sg1 rfl rfl rfl))) ?_
  exact Ex.weak (sm_le_s (sm_le_s (sm_le_s (sm_le_s sm_le_nil)))) (B_464_94 hd hS1 hf hs)
theorem B_464_60 {L : Nat} {xs : Nat → Int32} {d : Nat} (hd : 5 ≤ d) {res : Option Value × sm_H}   {h : sm_H} {r : (Int32 × sm_H)} (hf : F_464_60  h = some r) (hs : (fun (r : Int32 × sm_H) => res = (some (.int r.1), r.2)) r) : Ex (P_G L xs) (RUN L xs d) (sm_lk P_t464) 3 60 [none, none, none, none] [] h res := by
  unfold F_464_60 at hf
  refine Ex.seg 1 (pc' := 61) (lc' := [none, none, none, none]) (st' := [.int 0]) (h' := h) (sg1 rfl rfl rfl) ?_
  obtain rfl := Option.some.inj hf
  exact Ex.iret rfl rfl (fun _ => by decide) hs
theorem B_464_25B {L : Nat} {xs : Nat → Int32} {d : Nat} (hd : 5 ≤ d) {res : Option Value × sm_H} {S1 : (Int32 × sm_H) → Prop} (hS1 : ∀ s, S1 s → Ex (P_G L xs) (RUN L xs d) (sm_lk P_t464) 3 25 [some (.ref 67), some (.int s.1), none, none] [] s.2 res) {s : (Int32 × sm_H)}  {r : ((Int32 × sm_H) ⊕ (Int32 × sm_H))} (hf : F_464_25B s = some r) (hs : (Sum.elim S1 (fun (r : Int32 × sm_H) => res = (some (.int r.1), r.2))) r) : Ex (P_G L xs) (RUN L xs d) (sm_lk P_t464) 3 25 [some (.ref 67), some (.int s.1), none, none] [] s.2 res := by
  unfold F_464_25B at hf
  refine Ex.seg 3 (pc' := 30) (lc' := [some (.ref 67), some (.int s.1), none, none]) (st' := [.int 4, .int (s.2.1 67 80)]) (h' := s.2) (sg1 rfl rfl (sg1 rfl rfl (sg1 rfl rfl rfl))) ?_
  refine Ex.icmp rfl rfl (fun (c0 : (s.2.1 67 80) = 4) => ?_) (fun (c0 : ¬ ((s.2.1 67 80) = 4)) => ?_)
  · rw [if_pos c0] at hf
    refine Ex.seg 1 (pc' := 236) (lc' := [some (.ref 67), some (.int s.1), none, none]) (st' := [.ref 67]) (h' := s.2) (sg1 rfl rfl rfl) ?_
    obtain ⟨q15, e_q15, hf⟩ := bnd hf
    refine Ex.callV (a := 67) (As := []) (r := []) (v := none) (h' := q15) rfl rfl (by decide) rfl (Nat.le_of_ble_eq_true rfl) rfl (E_420 (Nat.le_trans (by decide) hd) e_q15) rfl ?_
    refine Ex.seg 6 (pc' := 249) (lc' := [some (.ref 67), some (.int s.1), none, none]) (st' := []) (h' := (sm_wI q15 67 86 ((q15.1 67 86) - 1))) (sg1 rfl rfl (sg1 rfl rfl (sg1 rfl rfl (sg1 rfl rfl (sg1 rfl rfl (sg1 rfl rfl rfl)))))) ?_
    obtain ⟨h16, e_h16, hf⟩ := bnd hf
    rw [Option.some.inj e_h16]
    refine Ex.seg 1 (pc' := 250) (lc' := [some (.ref 67), some (.int s.1), none, none]) (st' := [.int 1]) (h' := h16) (sg1 rfl rfl rfl) ?_
    obtain rfl := Option.some.inj hf
    exact Ex.iret rfl rfl (fun _ => by decide) hs
  · rw [if_neg c0] at hf
    refine Ex.seg 3 (pc' := 38) (lc' := [some (.ref 67), some (.int s.1), none, none]) (st' := [.int 3, .int (s.2.1 67 80)]) (h' := s.2) (sg1 rfl rfl (sg1 rfl rfl (sg1 rfl rfl rfl))) ?_
    refine Ex.icmp rfl rfl (fun (c0 : (s.2.1 67 80) = 3) => ?_) (fun (c0 : ¬ ((s.2.1 67 80) = 3)) => ?_)
    · rw [if_pos c0] at hf
      refine Ex.seg 1 (pc' := 47) (lc' := [some (.ref 67), some (.int s.1), none, none]) (st' := [.ref 67]) (h' := s.2) (sg1 rfl rfl rfl) ?_
      obtain ⟨q17, e_q17, hf⟩ := bnd hf
      refine Ex.callV (a := 67) (As := []) (r := []) (v := some (.int q17.1)) (h' := q17.2) rfl rfl (by decide) rfl (Nat.le_of_ble_eq_true rfl) rfl (E_425 (Nat.le_trans (by decide) hd) e_q17) rfl ?_
      refine Ex.ifc rfl rfl (fun (c0 : q17.1 = 0) => ?_) (fun (c0 : ¬ (q17.1 = 0)) => ?_)
      · rw [if_pos c0] at hf
        obtain ⟨r0, hf0, rfl⟩ := Option.map_eq_some_iff.mp hf
        exact Ex.weak (sm_le_n (sm_le_n (sm_le_s (sm_le_s sm_le_nil)))) (B_464_60 hd  hf0 hs)
      · rw [if_neg c0] at hf
        refine Ex.seg 1 (pc' := 54) (lc' := [some (.ref 67), some (.int s.1), none, none]) (st' := [.ref 67]) (h' := q17.2) (sg1 rfl rfl rfl) ?_
        obtain ⟨q18, e_q18, hf⟩ := bnd hf
        refine Ex.callV (a := 67) (As := []) (r := []) (v := some (.int q18.1)) (h' := q18.2) rfl rfl (by decide) rfl (Nat.le_of_ble_eq_true rfl) rfl (E_418 (Nat.le_trans (by decide) hd) e_q18) rfl ?_
        refine Ex.ifc rfl rfl (fun (c0 : ¬ (q18.1 = 0)) => ?_) (fun (c0 : ¬ ¬ (q18.1 = 0)) => ?_)
        · rw [if_neg c0] at hf
          refine Ex.seg 3 (pc' := 67) (lc' := [some (.ref 67), some (.int s.1), none, none]) (st' := [.int 1, .int (q18.2.1 67 80)]) (h' := q18.2) (sg1 rfl rfl (sg1 rfl rfl (sg1 rfl rfl rfl))) ?_
          refine Ex.icmp rfl rfl (fun (c0 : (q18.2.1 67 80) = 1) => ?_) (fun (c0 : ¬ ((q18.2.1 67 80) = 1)) => ?_)
          · rw [if_pos c0] at hf
            refine Ex.seg 3 (pc' := 80) (lc' := [some (.ref 67), some (.int s.1), none, none]) (st' := [.int s.1, .ref 115]) (h' := q18.2) (sg1 rfl rfl (sg1 rfl rfl (sg1 rfl rfl rfl))) ?_
            obtain ⟨v19, e_v19, hf⟩ := bnd hf
            refine Ex.iald e_v19 rfl rfl ?_
            refine Ex.seg 1 (pc' := 83) (lc' := [some (.ref 67), some (.int s.1), none, none]) (st' := [.int 6, .int v19]) (h' := q18.2) (sg1 rfl rfl rfl) ?_
            refine Ex.icmp rfl rfl (fun (c0 : ¬ (v19 = 6)) => ?_) (fun (c0 : ¬ ¬ (v19 = 6)) => ?_)
            · rw [if_neg c0] at hf
              refine Ex.seg 1 (pc' := 91) (lc' := [some (.ref 67), some (.int s.1), none, none]) (st' := [.int 0]) (h' := q18.2) (sg1 rfl rfl rfl) ?_
              exact Ex.weak (sm_le_s (sm_le_s (sm_le_s (sm_le_s sm_le_nil)))) (B_464_91 hd hS1 hf hs)
            · rw [if_pos (Classical.not_not.mp c0)] at hf
              refine Ex.seg 2 (pc' := 91) (lc' := [some (.ref 67), some (.int s.1), none, none]) (st' := [.int 1]) (h' := q18.2) (sg1 rfl rfl (sg1 rfl rfl rfl)) ?_
              exact Ex.weak (sm_le_s (sm_le_s (sm_le_s (sm_le_s sm_le_nil)))) (B_464_91 hd hS1 hf hs)
          · rw [if_neg c0] at hf
            refine Ex.seg 1 (pc' := 71) (lc' := [some (.ref 67), some (.int s.1), none, none]) (st' := [.ref 67]) (h' := q18.2) (sg1 rfl rfl rfl) ?_
            obtain ⟨q20, e_q20, hf⟩ := bnd hf
            refine Ex.callV (a := 67) (As := []) (r := []) (v := some (.int q20.1)) (h' := q20.2) rfl rfl (by decide) rfl (Nat.le_of_ble_eq_true rfl) rfl (E_421 (Nat.le_trans (by decide) hd) e_q20) rfl ?_
            rcases Classical.em (q20.1 = 0 ∨ q20.1 = 1) with c0 | c0
            · rw [if_pos c0] at hf
              obtain rfl := Option.some.inj hf
              exact Ex.iret rfl rfl (fun _ => c0) hs
            · rw [if_neg c0] at hf
              cases hf
        · rw [if_pos (Classical.not_not.mp c0)] at hf
          obtain ⟨r0, hf0, rfl⟩ := Option.map_eq_some_iff.mp hf
          exact Ex.weak (sm_le_n (sm_le_n (sm_le_s (sm_le_s sm_le_nil)))) (B_464_60 hd  hf0 hs)
    · rw [if_neg c0] at hf
      refine Ex.seg 1 (pc' := 42) (lc' := [some (.ref 67), some (.int s.1), none, none]) (st' := [.ref 67]) (h' := s.2) (sg1 rfl rfl rfl) ?_
      obtain ⟨q21, e_q21, hf⟩ := bnd hf
      refine Ex.callV (a := 67) (As := []) (r := []) (v := some (.int q21.1)) (h' := q21.2) rfl rfl (by decide) rfl (Nat.le_of_ble_eq_true rfl) rfl (E_421 (Nat.le_trans (by decide) hd) e_q21) rfl ?_
      rcases Classical.em (q21.1 = 0 ∨ q21.1 = 1) with c0 | c0
      · rw [if_pos c0] at hf
        obtain rfl := Option.some.inj hf
        exact Ex.iret rfl rfl (fun _ => c0) hs
      · rw [if_neg c0] at hf
        cases hf
theorem B_464_25 {L : Nat} {xs : Nat → Int32} {d : Nat} (hd : 5 ≤ d) {res : Option Value × sm_H} {y1 : Int32}  {h : sm_H} {r : (Int32 × sm_H)} (hf : F_464_25 y1 h = some r) (hs : (fun (r : Int32 × sm_H) => res = (some (.int r.1), r.2)) r) : Ex (P_G L xs) (RUN L xs d) (sm_lk P_t464) 3 25 [some (.ref 67), some (.int y1), none, none] [] h res := by
  unfold F_464_25 at hf
  exact lp_ok (P := fun (s : (Int32 × sm_H)) => Ex (P_G L xs) (RUN L xs d) (sm_lk P_t464) 3 25 [some (.ref 67), some (.int s.1), none, none] [] s.2 res) (S := (fun (r : Int32 × sm_H) => res = (some (.int r.1), r.2))) (fun s x hx hsx => by
    intros
    exact B_464_25B hd  (fun _ q => q) hx hsx) 1000000 _ r hf hs
theorem B_464_0 {L : Nat} {xs : Nat → Int32} {d : Nat} (hd : 5 ≤ d) {res : Option Value × sm_H} {x1 : Int32}  {h : sm_H} {r : (Int32 × sm_H)} (hf : F_464_0 x1 h = some r) (hs : (fun (r : Int32 × sm_H) => res = (some (.int r.1), r.2)) r) : Ex (P_G L xs) (RUN L xs d) (sm_lk P_t464) 3 0 [some (.ref 67), some (.int x1), none, none] [] h res := by
  unfold F_464_0 at hf
  refine Ex.seg 1 (pc' := 1) (lc' := [some (.ref 67), some (.int x1), none, none]) (st' := [.ref 67]) (h' := h) (sg1 rfl rfl rfl) ?_
  obtain ⟨q22, e_q22, hf⟩ := bnd hf
  refine Ex.callV (a := 67) (As := []) (r := []) (v := some (.int q22.1)) (h' := q22.2) rfl rfl (by decide) rfl (Nat.le_of_ble_eq_true rfl) rfl (E_426 (Nat.le_trans (by decide) hd) e_q22) rfl ?_
  refine Ex.ifc rfl rfl (fun (c0 : ¬ (q22.1 = 0)) => ?_) (fun (c0 : ¬ ¬ (q22.1 = 0)) => ?_)
  · rw [if_neg c0] at hf
    refine Ex.seg 4 (pc' := 15) (lc' := [some (.ref 67), some (.int x1), none, none]) (st' := [.int 0, .int x1, .ref 115]) (h' := q22.2) (sg1 rfl rfl (sg1 rfl rfl (sg1 rfl rfl (sg1 rfl rfl rfl)))) ?_
    obtain ⟨h23, e_h23, hf⟩ := bnd hf
    refine Ex.iast e_h23 rfl rfl ?_
    refine Ex.seg 1 (pc' := 17) (lc' := [some (.ref 67), some (.int x1), none, none]) (st' := [.ref 67]) (h' := h23) (sg1 rfl rfl rfl) ?_
    obtain ⟨q24, e_q24, hf⟩ := bnd hf
    refine Ex.callV (a := 67) (As := []) (r := []) (v := some (.int q24.1)) (h' := q24.2) rfl rfl (by decide) rfl (Nat.le_of_ble_eq_true rfl) rfl (E_418 (Nat.le_trans (by decide) hd) e_q24) rfl ?_
    refine Ex.ifc rfl rfl (fun (c0 : ¬ (q24.1 = 0)) => ?_) (fun (c0 : ¬ ¬ (q24.1 = 0)) => ?_)
    · rw [if_neg c0] at hf
      exact Ex.weak (sm_le_s (sm_le_s (sm_le_s (sm_le_s sm_le_nil)))) (B_464_25 hd  hf hs)
    · rw [if_pos (Classical.not_not.mp c0)] at hf
      refine Ex.seg 1 (pc' := 24) (lc' := [some (.ref 67), some (.int x1), none, none]) (st' := [.int 0]) (h' := q24.2) (sg1 rfl rfl rfl) ?_
      obtain rfl := Option.some.inj hf
      exact Ex.iret rfl rfl (fun _ => by decide) hs
  · rw [if_pos (Classical.not_not.mp c0)] at hf
    refine Ex.seg 1 (pc' := 8) (lc' := [some (.ref 67), some (.int x1), none, none]) (st' := [.int 0]) (h' := q22.2) (sg1 rfl rfl rfl) ?_
    obtain rfl := Option.some.inj hf
    exact Ex.iret rfl rfl (fun _ => by decide) hs
theorem E_464 {L : Nat} {xs : Nat → Int32} {d : Nat} (hd : 6 ≤ d) {x1 : Int32} {h : sm_H} {r : Int32 × sm_H} (hf : F_464 x1 h = some r) : RUN L xs d 464 [.ref 67, .int x1] h (some (.int r.1), r.2) := by
  obtain ⟨d, rfl⟩ : ∃ e, d = e + 1 := ⟨d - 1, by omega⟩
  exact ⟨Nat.le_of_ble_eq_true rfl, B_464_0 (by omega) hf rfl⟩
theorem B_371_154 {L : Nat} {xs : Nat → Int32} {d : Nat} (hd : 4 ≤ d) {res : Option Value × sm_H} {S1 : (Int32 × Int32 × sm_H) → Prop} (hS1 : ∀ s, S1 s → Ex (P_G L xs) (RUN L xs d) (sm_lk P_t371) 0 20 [some (.ref 67), some (.int s.1), some (.int s.2.1), none, none, none, none] [] s.2.2 res) {y1 : Int32} {y2 : Int32}  {h : sm_H} {r : ((Int32 × Int32 × sm_H) ⊕ (sm_H))} (hf : F_371_154 y1 y2 h = some r) (hs : (Sum.elim S1 (fun (r : sm_H) => res = (none, r))) r) : Ex (P_G L xs) (RUN L xs d) (sm_lk P_t371) 0 154 [some (.ref 67), some (.int y1), some (.int y2), none, none, none, none] [] h res := by
  unfold F_371_154 at hf
  refine Ex.seg 4 (pc' := 160) (lc' := [some (.ref 67), some (.int y1), some (.int y2), none, none, none, none]) (st' := [.int y1, .ref 107, .int y1, .ref 107]) (h' := h) (sg1 rfl rfl (sg1 rfl rfl (sg1 rfl rfl (sg1 rfl rfl rfl)))) ?_
  obtain ⟨v1, e_v1, hf⟩ := bnd hf
  refine Ex.iald e_v1 rfl rfl ?_
  refine Ex.seg 2 (pc' := 163) (lc' := [some (.ref 67), some (.int y1), some (.int y2), none, none, none, none]) (st' := [.int (v1 + 1), .int y1, .ref 107]) (h' := h) (sg1 rfl rfl (sg1 rfl rfl rfl)) ?_
  obtain ⟨h2, e_h2, hf⟩ := bnd hf
  refine Ex.iast e_h2 rfl rfl ?_
  refine Ex.seg 1 (pc' := 20) (lc' := [some (.ref 67), some (.int y1), some (.int y2), none, none, none, none]) (st' := []) (h' := h2) (sg1 rfl rfl rfl) ?_
  obtain rfl := Option.some.inj hf
  exact Ex.weak (sm_le_s (sm_le_s (sm_le_s (sm_le_s (sm_le_s (sm_le_s (sm_le_s sm_le_nil))))))) (hS1 _ hs)
theorem B_371_20B {L : Nat} {xs : Nat → Int32} {d : Nat} (hd : 4 ≤ d) {res : Option Value × sm_H} {S1 : (Int32 × Int32 × sm_H) → Prop} (hS1 : ∀ s, S1 s → Ex (P_G L xs) (RUN L xs d) (sm_lk P_t371) 0 20 [some (.ref 67), some (.int s.1), some (.int s.2.1), none, none, none, none] [] s.2.2 res) {s : (Int32 × Int32 × sm_H)}  {r : ((Int32 × Int32 × sm_H) ⊕ (sm_H))} (hf : F_371_20B s = some r) (hs : (Sum.elim S1 (fun (r : sm_H) => res = (none, r))) r) : Ex (P_G L xs) (RUN L xs d) (sm_lk P_t371) 0 20 [some (.ref 67), some (.int s.1), some (.int s.2.1), none, none, none, none] [] s.2.2 res := by
  unfold F_371_20B at hf
  refine Ex.seg 3 (pc' := 25) (lc' := [some (.ref 67), some (.int s.1), some (.int s.2.1), none, none, none, none]) (st' := [.int s.1, .ref 107]) (h' := s.2.2) (sg1 rfl rfl (sg1 rfl rfl (sg1 rfl rfl rfl))) ?_
  obtain ⟨v3, e_v3, hf⟩ := bnd hf
  refine Ex.iald e_v3 rfl rfl ?_
  refine Ex.seg 3 (pc' := 31) (lc' := [some (.ref 67), some (.int s.1), some (.int s.2.1), none, none, none, none]) (st' := [.int s.2.1, .ref 80, .int v3]) (h' := s.2.2) (sg1 rfl rfl (sg1 rfl rfl (sg1 rfl rfl rfl))) ?_
  obtain ⟨v4, e_v4, hf⟩ := bnd hf
  refine Ex.iald e_v4 rfl rfl ?_
  refine Ex.seg 1 (pc' := 33) (lc' := [some (.ref 67), some (.int s.1), some (.int s.2.1), none, none, none, none]) (st' := [.int 4, .int v4, .int v3]) (h' := s.2.2) (sg1 rfl rfl rfl) ?_
  rcases Classical.em ((4 : Int32) = 0) with c0 | c0
  · rw [if_pos c0] at hf
    cases hf
  rw [if_neg c0] at hf
  refine Ex.idiv c0 rfl rfl ?_
  refine Ex.icmp rfl rfl (fun (c0 : (v4 / 4) ≤ v3) => ?_) (fun (c0 : ¬ ((v4 / 4) ≤ v3)) => ?_)
  · rw [if_pos c0] at hf
    refine Ex.seg 4 (pc' := 173) (lc' := [some (.ref 67), some (.int s.1), some (.int s.2.1), none, none, none, none]) (st' := [.int 0, .int s.1, .ref 107]) (h' := s.2.2) (sg1 rfl rfl (sg1 rfl rfl (sg1 rfl rfl (sg1 rfl rfl rfl)))) ?_
    obtain ⟨h5, e_h5, hf⟩ := bnd hf
    refine Ex.iast e_h5 rfl rfl ?_
    refine Ex.seg 2 (pc' := 176) (lc' := [some (.ref 67), some (.int s.1), some (.int s.2.1), none, none, none, none]) (st' := [.int 0, .ref 67]) (h' := h5) (sg1 rfl rfl (sg1 rfl rfl rfl)) ?_
    obtain ⟨q6, e_q6, hf⟩ := bnd hf
    refine Ex.callV (a := 67) (As := [.int 0]) (r := []) (v := none) (h' := q6) rfl rfl (by decide) rfl (Nat.le_of_ble_eq_true rfl) rfl (E_374 (Nat.le_trans (by decide) hd) e_q6) rfl ?_
    obtain rfl := Option.some.inj hf
    exact Ex.vret rfl rfl hs
  · rw [if_neg c0] at hf
    refine Ex.seg 4 (pc' := 43) (lc' := [some (.ref 67), some (.int s.1), some (.int s.2.1), none, none, none, none]) (st' := [.int s.1, .ref 107, .int 4]) (h' := s.2.2) (sg1 rfl rfl (sg1 rfl rfl (sg1 rfl rfl (sg1 rfl rfl rfl)))) ?_
    obtain ⟨v7, e_v7, hf⟩ := bnd hf
    refine Ex.iald e_v7 rfl rfl ?_
    refine Ex.seg 2 (pc' := 47) (lc' := [some (.ref 67), some (.int s.1), some (.int s.2.1), none, some (.int (4 * v7)), none, none]) (st' := []) (h' := s.2.2) (sg1 rfl rfl (sg1 rfl rfl rfl)) ?_
    obtain ⟨v8, e_v8, hf⟩ := bnd hf
    rw [Option.some.inj e_v8]
    refine Ex.seg 7 (pc' := 58) (lc' := [some (.ref 67), some (.int s.1), some (.int s.2.1), none, some (.int v8), none, none]) (st' := [.int ((24 * s.2.1) + v8), .ref 81]) (h' := s.2.2) (sg1 rfl rfl (sg1 rfl rfl (sg1 rfl rfl (sg1 rfl rfl (sg1 rfl rfl (sg1 rfl rfl (sg1 rfl rfl rfl))))))) ?_
    obtain ⟨v9, e_v9, hf⟩ := bnd hf
    refine Ex.iald e_v9 rfl rfl ?_
    refine Ex.seg 3 (pc' := 64) (lc' := [some (.ref 67), some (.int s.1), some (.int s.2.1), none, some (.int v8), some (.int v9), none]) (st' := [.int (-1), .int v9]) (h' := s.2.2) (sg1 rfl rfl (sg1 rfl rfl (sg1 rfl rfl rfl))) ?_
    refine Ex.icmp rfl rfl (fun (c0 : v9 = (-1)) => ?_) (fun (c0 : ¬ (v9 = (-1))) => ?_)
    · rw [if_pos c0] at hf
      refine Ex.seg 11 (pc' := 115) (lc' := [some (.ref 67), some (.int s.1), some (.int s.2.1), none, some (.int v8), some (.int v9), none]) (st' := [.int (((24 * s.2.1) + v8) + 1), .ref 81, .int v9, .ref 67]) (h' := s.2.2) (sg1 rfl rfl (sg1 rfl rfl (sg1 rfl rfl (sg1 rfl rfl (sg1 rfl rfl (sg1 rfl rfl (sg1 rfl rfl (sg1 rfl rfl (sg1 rfl rfl (sg1 rfl rfl (sg1 rfl rfl rfl))))))))))) ?_
      obtain ⟨v10, e_v10, hf⟩ := bnd hf
      refine Ex.iald e_v10 rfl rfl ?_
      obtain ⟨q11, e_q11, hf⟩ := bnd hf
      refine Ex.callV (a := 67) (As := [.int v9, .int v10]) (r := []) (v := some (.int q11.1)) (h' := q11.2) rfl rfl (by decide) rfl (Nat.le_of_ble_eq_true rfl) rfl (E_332 (Nat.le_trans (by decide) hd) e_q11) rfl ?_
      refine Ex.seg 2 (pc' := 123) (lc' := [some (.ref 67), some (.int s.1), some (.int s.2.1), none, some (.int v8), some (.int v9), some (.int q11.1)]) (st' := [.int q11.1]) (h' := q11.2) (sg1 rfl rfl (sg1 rfl rfl rfl)) ?_
      refine Ex.ifc rfl rfl (fun (c0 : q11.1 = 0) => ?_) (fun (c0 : ¬ (q11.1 = 0)) => ?_)
      · rw [if_pos c0] at hf
        exact Ex.weak (sm_le_s (sm_le_s (sm_le_s (sm_le_s (sm_le_n (sm_le_n (sm_le_n sm_le_nil))))))) (B_371_154 hd hS1 hf hs)
      · rw [if_neg c0] at hf
        refine Ex.seg 2 (pc' := 129) (lc' := [some (.ref 67), some (.int s.1), some (.int s.2.1), none, some (.int v8), some (.int v9), some (.int q11.1)]) (st' := [.int q11.1, .ref 67]) (h' := q11.2) (sg1 rfl rfl (sg1 rfl rfl rfl)) ?_
        obtain ⟨q12, e_q12, hf⟩ := bnd hf
        refine Ex.callV (a := 67) (As := [.int q11.1]) (r := []) (v := none) (h' := q12) rfl rfl (by decide) rfl (Nat.le_of_ble_eq_true rfl) rfl (E_299 (Nat.le_trans (by decide) hd) e_q12) rfl ?_
        refine Ex.seg 5 (pc' := 141) (lc' := [some (.ref 67), some (.int s.1), some (.int s.2.1), none, some (.int v8), some (.int v9), some (.int q11.1)]) (st' := [.long (q12.2.1 67 49), .int (q12.1 67 48), .ref 67]) (h' := q12) (sg1 rfl rfl (sg1 rfl rfl (sg1 rfl rfl (sg1 rfl rfl (sg1 rfl rfl rfl))))) ?_
        obtain ⟨q13, e_q13, hf⟩ := bnd hf
        refine Ex.callV (a := 67) (As := [.int (q12.1 67 48), .long (q12.2.1 67 49)]) (r := []) (v := none) (h' := q13) rfl rfl (by decide) rfl (Nat.le_of_ble_eq_true rfl) rfl (E_342 (Nat.le_trans (by decide) hd) e_q13) rfl ?_
        refine Ex.seg 4 (pc' := 150) (lc' := [some (.ref 67), some (.int s.1), some (.int s.2.1), none, some (.int v8), some (.int v9), some (.int q11.1)]) (st' := [.int s.1, .ref 106, .int s.1, .ref 106]) (h' := q13) (sg1 rfl rfl (sg1 rfl rfl (sg1 rfl rfl (sg1 rfl rfl rfl)))) ?_
        obtain ⟨v14, e_v14, hf⟩ := bnd hf
        refine Ex.iald e_v14 rfl rfl ?_
        refine Ex.seg 2 (pc' := 153) (lc' := [some (.ref 67), some (.int s.1), some (.int s.2.1), none, some (.int v8), some (.int v9), some (.int q11.1)]) (st' := [.int (v14 + 1), .int s.1, .ref 106]) (h' := q13) (sg1 rfl rfl (sg1 rfl rfl rfl)) ?_
        obtain ⟨h15, e_h15, hf⟩ := bnd hf
        refine Ex.iast e_h15 rfl rfl ?_
        exact Ex.weak (sm_le_s (sm_le_s (sm_le_s (sm_le_s (sm_le_n (sm_le_n (sm_le_n sm_le_nil))))))) (B_371_154 hd hS1 hf hs)
    · rw [if_neg c0] at hf
      refine Ex.seg 4 (pc' := 73) (lc' := [some (.ref 67), some (.int s.1), some (.int s.2.1), none, some (.int v8), some (.int v9), none]) (st' := [.int s.1, .ref 105, .ref 67]) (h' := s.2.2) (sg1 rfl rfl (sg1 rfl rfl (sg1 rfl rfl (sg1 rfl rfl rfl)))) ?_
      obtain ⟨v16, e_v16, hf⟩ := bnd hf
      refine Ex.iald e_v16 rfl rfl ?_
      refine Ex.seg 3 (pc' := 79) (lc' := [some (.ref 67), some (.int s.1), some (.int s.2.1), none, some (.int v8), some (.int v9), none]) (st' := [.int s.1, .ref 105, .int v16, .ref 67]) (h' := s.2.2) (sg1 rfl rfl (sg1 rfl rfl (sg1 rfl rfl rfl))) ?_
      obtain ⟨v17, e_v17, hf⟩ := bnd hf
      refine Ex.iald e_v17 rfl rfl ?_
      refine Ex.seg 2 (pc' := 83) (lc' := [some (.ref 67), some (.int s.1), some (.int s.2.1), none, some (.int v8), some (.int v9), none]) (st' := [.int v9, .ref 67, .int v17, .int v16, .ref 67]) (h' := s.2.2) (sg1 rfl rfl (sg1 rfl rfl rfl)) ?_
      obtain ⟨q18, e_q18, hf⟩ := bnd hf
      refine Ex.callV (a := 67) (As := [.int v9]) (r := [.int v17, .int v16, .ref 67]) (v := some (.int q18.1)) (h' := q18.2) rfl rfl (by decide) rfl (Nat.le_of_ble_eq_true rfl) rfl (E_305 (Nat.le_trans (by decide) hd) e_q18) rfl ?_
      refine Ex.seg 1 (pc' := 87) (lc' := [some (.ref 67), some (.int s.1), some (.int s.2.1), none, some (.int v8), some (.int v9), none]) (st' := [.int (v17 + q18.1), .int v16, .ref 67]) (h' := q18.2) (sg1 rfl rfl rfl) ?_
      obtain ⟨q19, e_q19, hf⟩ := bnd hf
      refine Ex.callV (a := 67) (As := [.int v16, .int (v17 + q18.1)]) (r := []) (v := none) (h' := q19) rfl rfl (by decide) rfl (Nat.le_of_ble_eq_true rfl) rfl (E_343 (Nat.le_trans (by decide) hd) e_q19) rfl ?_
      refine Ex.seg 3 (pc' := 95) (lc' := [some (.ref 67), some (.int s.1), some (.int s.2.1), none, some (.int v8), some (.int v9), none]) (st' := [.int 20, .int v9, .ref 67]) (h' := q19) (sg1 rfl rfl (sg1 rfl rfl (sg1 rfl rfl rfl))) ?_
      obtain ⟨q20, e_q20, hf⟩ := bnd hf
      refine Ex.callV (a := 67) (As := [.int v9, .int 20]) (r := []) (v := none) (h' := q20) rfl rfl (by decide) rfl (Nat.le_of_ble_eq_true rfl) rfl (E_350 (Nat.le_trans (by decide) hd) e_q20) rfl ?_
      obtain rfl := Option.some.inj hf
      exact Ex.vret rfl rfl hs
theorem B_371_20 {L : Nat} {xs : Nat → Int32} {d : Nat} (hd : 4 ≤ d) {res : Option Value × sm_H} {y1 : Int32} {y2 : Int32}  {h : sm_H} {r : (sm_H)} (hf : F_371_20 y1 y2 h = some r) (hs : (fun (r : sm_H) => res = (none, r)) r) : Ex (P_G L xs) (RUN L xs d) (sm_lk P_t371) 0 20 [some (.ref 67), some (.int y1), some (.int y2), none, none, none, none] [] h res := by
  unfold F_371_20 at hf
  exact lp_ok (P := fun (s : (Int32 × Int32 × sm_H)) => Ex (P_G L xs) (RUN L xs d) (sm_lk P_t371) 0 20 [some (.ref 67), some (.int s.1), some (.int s.2.1), none, none, none, none] [] s.2.2 res) (S := (fun (r : sm_H) => res = (none, r))) (fun s x hx hsx => by
    intros
    exact B_371_20B hd  (fun _ q => q) hx hsx) 1000000 _ r hf hs
theorem B_371_0 {L : Nat} {xs : Nat → Int32} {d : Nat} (hd : 4 ≤ d) {res : Option Value × sm_H}   {h : sm_H} {r : (sm_H)} (hf : F_371_0  h = some r) (hs : (fun (r : sm_H) => res = (none, r)) r) : Ex (P_G L xs) (RUN L xs d) (sm_lk P_t371) 0 0 [some (.ref 67), none, none, none, none, none, none] [] h res := by
  unfold F_371_0 at hf
  refine Ex.seg 5 (pc' := 7) (lc' := [some (.ref 67), some (.int ((h.1 67 56) - 1)), none, none, none, none, none]) (st' := []) (h' := h) (sg1 rfl rfl (sg1 rfl rfl (sg1 rfl rfl (sg1 rfl rfl (sg1 rfl rfl rfl))))) ?_
  obtain ⟨v21, e_v21, hf⟩ := bnd hf
  rw [Option.some.inj e_v21]
  refine Ex.seg 3 (pc' := 12) (lc' := [some (.ref 67), some (.int v21), none, none, none, none, none]) (st' := [.int v21, .ref 103]) (h' := h) (sg1 rfl rfl (sg1 rfl rfl (sg1 rfl rfl rfl))) ?_
  obtain ⟨v22, e_v22, hf⟩ := bnd hf
  refine Ex.iald e_v22 rfl rfl ?_
  refine Ex.seg 3 (pc' := 16) (lc' := [some (.ref 67), some (.int v21), some (.int v22), none, none, none, none]) (st' := [.int v22, .ref 67]) (h' := h) (sg1 rfl rfl (sg1 rfl rfl (sg1 rfl rfl rfl))) ?_
  obtain ⟨q23, e_q23, hf⟩ := bnd hf
  refine Ex.callV (a := 67) (As := [.int v22]) (r := []) (v := some (.int q23.1)) (h' := q23.2) rfl rfl (by decide) rfl (Nat.le_of_ble_eq_true rfl) rfl (E_305 (Nat.le_trans (by decide) hd) e_q23) rfl ?_
  refine Ex.seg 1 (pc' := 20) (lc' := [some (.ref 67), some (.int v21), some (.int v22), some (.int q23.1), none, none, none]) (st' := []) (h' := q23.2) (sg1 rfl rfl rfl) ?_
  exact Ex.weak (sm_le_s (sm_le_s (sm_le_s (sm_le_n (sm_le_s (sm_le_s (sm_le_s sm_le_nil))))))) (B_371_20 hd  hf hs)
theorem E_371 {L : Nat} {xs : Nat → Int32} {d : Nat} (hd : 5 ≤ d)  {h : sm_H} {r : sm_H} (hf : F_371  h = some r) : RUN L xs d 371 [.ref 67] h (none, r) := by
  obtain ⟨d, rfl⟩ : ∃ e, d = e + 1 := ⟨d - 1, by omega⟩
  exact ⟨Nat.le_of_ble_eq_true rfl, B_371_0 (by omega) hf rfl⟩
theorem B_376_302 {L : Nat} {xs : Nat → Int32} {d : Nat} (hd : 5 ≤ d) {res : Option Value × sm_H}   {h : sm_H} {r : (sm_H)} (hf : F_376_302  h = some r) (hs : (fun (r : sm_H) => res = (none, r)) r) : Ex (P_G L xs) (RUN L xs d) (sm_lk P_t376) 0 302 [none, none, none, none, none, none] [] h res := by
  unfold F_376_302 at hf
  obtain rfl := Option.some.inj hf
  exact Ex.vret rfl rfl hs
theorem B_376_223 {L : Nat} {xs : Nat → Int32} {d : Nat} (hd : 5 ≤ d) {res : Option Value × sm_H}   {h : sm_H} {r : (sm_H)} (hf : F_376_223  h = some r) (hs : (fun (r : sm_H) => res = (none, r)) r) : Ex (P_G L xs) (RUN L xs d) (sm_lk P_t376) 0 223 [some (.ref 67), none, none, none, none, none] [] h res := by
  unfold F_376_223 at hf
  refine Ex.seg 2 (pc' := 225) (lc' := [some (.ref 67), none, none, none, none, none]) (st' := [.int 1, .ref 67]) (h' := h) (sg1 rfl rfl (sg1 rfl rfl rfl)) ?_
  obtain ⟨q1, e_q1, hf⟩ := bnd hf
  refine Ex.callV (a := 67) (As := [.int 1]) (r := []) (v := none) (h' := q1) rfl rfl (by decide) rfl (Nat.le_of_ble_eq_true rfl) rfl (E_374 (Nat.le_trans (by decide) hd) e_q1) rfl ?_
  refine Ex.seg 1 (pc' := 302) (lc' := [some (.ref 67), none, none, none, none, none]) (st' := []) (h' := q1) (sg1 rfl rfl rfl) ?_
  exact Ex.weak (sm_le_n (sm_le_s (sm_le_s (sm_le_s (sm_le_s (sm_le_s sm_le_nil)))))) (B_376_302 hd  hf hs)
theorem B_376_142 {L : Nat} {xs : Nat → Int32} {d : Nat} (hd : 5 ≤ d) {res : Option Value × sm_H} {y1 : Int32}  {h : sm_H} {r : (sm_H)} (hf : F_376_142 y1 h = some r) (hs : (fun (r : sm_H) => res = (none, r)) r) : Ex (P_G L xs) (RUN L xs d) (sm_lk P_t376) 0 142 [some (.ref 67), some (.int y1), none, none, none, none] [] h res := by
  unfold F_376_142 at hf
  refine Ex.seg 4 (pc' := 148) (lc' := [some (.ref 67), some (.int y1), none, none, none, none]) (st' := [.int y1, .ref 107, .int y1, .ref 107]) (h' := h) (sg1 rfl rfl (sg1 rfl rfl (sg1 rfl rfl (sg1 rfl rfl rfl)))) ?_
  obtain ⟨v2, e_v2, hf⟩ := bnd hf
  refine Ex.iald e_v2 rfl rfl ?_
  refine Ex.seg 2 (pc' := 151) (lc' := [some (.ref 67), some (.int y1), none, none, none, none]) (st' := [.int (v2 + 1), .int y1, .ref 107]) (h' := h) (sg1 rfl rfl (sg1 rfl rfl rfl)) ?_
  obtain ⟨h3, e_h3, hf⟩ := bnd hf
  refine Ex.iast e_h3 rfl rfl ?_
  refine Ex.seg 1 (pc' := 153) (lc' := [some (.ref 67), some (.int y1), none, none, none, none]) (st' := [.ref 67]) (h' := h3) (sg1 rfl rfl rfl) ?_
  obtain ⟨q4, e_q4, hf⟩ := bnd hf
  refine Ex.callV (a := 67) (As := []) (r := []) (v := none) (h' := q4) rfl rfl (by decide) rfl (Nat.le_of_ble_eq_true rfl) rfl (E_371 (Nat.le_trans (by decide) hd) e_q4) rfl ?_
  refine Ex.seg 1 (pc' := 302) (lc' := [some (.ref 67), some (.int y1), none, none, none, none]) (st' := []) (h' := q4) (sg1 rfl rfl rfl) ?_
  exact Ex.weak (sm_le_n (sm_le_n (sm_le_s (sm_le_s (sm_le_s (sm_le_s sm_le_nil)))))) (B_376_302 hd  hf hs)
theorem B_376_0 {L : Nat} {xs : Nat → Int32} {d : Nat} (hd : 5 ≤ d) {res : Option Value × sm_H} {x1 : Int32} {x2 : Int32}  {h : sm_H} {r : (sm_H)} (hf : F_376_0 x1 x2 h = some r) (hs : (fun (r : sm_H) => res = (none, r)) r) : Ex (P_G L xs) (RUN L xs d) (sm_lk P_t376) 0 0 [some (.ref 67), some (.int x1), some (.int x2), none, none, none] [] h res := by
  unfold F_376_0 at hf
  refine Ex.seg 7 (pc' := 10) (lc' := [some (.ref 67), some (.int x1), some (.int x2), none, none, none]) (st' := [.int x1, .ref 107, .int 4, .int (24 * x2)]) (h' := h) (sg1 rfl rfl (sg1 rfl rfl (sg1 rfl rfl (sg1 rfl rfl (sg1 rfl rfl (sg1 rfl rfl (sg1 rfl rfl rfl))))))) ?_
  obtain ⟨v5, e_v5, hf⟩ := bnd hf
  refine Ex.iald e_v5 rfl rfl ?_
  refine Ex.seg 3 (pc' := 14) (lc' := [some (.ref 67), some (.int x1), some (.int x2), some (.int ((24 * x2) + (4 * v5))), none, none]) (st' := []) (h' := h) (sg1 rfl rfl (sg1 rfl rfl (sg1 rfl rfl rfl))) ?_
  obtain ⟨v6, e_v6, hf⟩ := bnd hf
  rw [Option.some.inj e_v6]
  refine Ex.seg 3 (pc' := 19) (lc' := [some (.ref 67), some (.int x1), some (.int x2), some (.int v6), none, none]) (st' := [.int x1, .ref 105]) (h' := h) (sg1 rfl rfl (sg1 rfl rfl (sg1 rfl rfl rfl))) ?_
  obtain ⟨v7, e_v7, hf⟩ := bnd hf
  refine Ex.iald e_v7 rfl rfl ?_
  refine Ex.seg 2 (pc' := 22) (lc' := [some (.ref 67), some (.int x1), some (.int x2), some (.int v6), none, none]) (st' := [.int x2, .ref 67, .int v7]) (h' := h) (sg1 rfl rfl (sg1 rfl rfl rfl)) ?_
  obtain ⟨q8, e_q8, hf⟩ := bnd hf
  refine Ex.callV (a := 67) (As := [.int x2]) (r := [.int v7]) (v := some (.int q8.1)) (h' := q8.2) rfl rfl (by decide) rfl (Nat.le_of_ble_eq_true rfl) rfl (E_305 (Nat.le_trans (by decide) hd) e_q8) rfl ?_
  refine Ex.seg 2 (pc' := 28) (lc' := [some (.ref 67), some (.int x1), some (.int x2), some (.int v6), some (.int (v7 + q8.1)), none]) (st' := []) (h' := q8.2) (sg1 rfl rfl (sg1 rfl rfl rfl)) ?_
  obtain ⟨v9, e_v9, hf⟩ := bnd hf
  rw [Option.some.inj e_v9]
  refine Ex.seg 3 (pc' := 33) (lc' := [some (.ref 67), some (.int x1), some (.int x2), some (.int v6), some (.int v9), none]) (st' := [.int x1, .ref 104]) (h' := q8.2) (sg1 rfl rfl (sg1 rfl rfl (sg1 rfl rfl rfl))) ?_
  obtain ⟨v10, e_v10, hf⟩ := bnd hf
  refine Ex.iald e_v10 rfl rfl ?_
  refine Ex.seg 1 (pc' := 36) (lc' := [some (.ref 67), some (.int x1), some (.int x2), some (.int v6), some (.int v9), none]) (st' := [.int 20, .int v10]) (h' := q8.2) (sg1 rfl rfl rfl) ?_
  refine Ex.icmp rfl rfl (fun (c0 : ¬ (v10 = 20)) => ?_) (fun (c0 : ¬ ¬ (v10 = 20)) => ?_)
  · rw [if_neg c0] at hf
    refine Ex.seg 3 (pc' := 164) (lc' := [some (.ref 67), some (.int x1), some (.int x2), some (.int v6), some (.int v9), none]) (st' := [.int x1, .ref 104]) (h' := q8.2) (sg1 rfl rfl (sg1 rfl rfl (sg1 rfl rfl rfl))) ?_
    obtain ⟨v11, e_v11, hf⟩ := bnd hf
    refine Ex.iald e_v11 rfl rfl ?_
    refine Ex.seg 1 (pc' := 167) (lc' := [some (.ref 67), some (.int x1), some (.int x2), some (.int v6), some (.int v9), none]) (st' := [.int 21, .int v11]) (h' := q8.2) (sg1 rfl rfl rfl) ?_
    refine Ex.icmp rfl rfl (fun (c0 : ¬ (v11 = 21)) => ?_) (fun (c0 : ¬ ¬ (v11 = 21)) => ?_)
    · rw [if_neg c0] at hf
      refine Ex.seg 4 (pc' := 237) (lc' := [some (.ref 67), some (.int x1), some (.int x2), some (.int v6), some (.int v9), none]) (st' := [.int (lg_cmp (q8.2.2.1 67 61) 1)]) (h' := q8.2) (sg1 rfl rfl (sg1 rfl rfl (sg1 rfl rfl (sg1 rfl rfl rfl)))) ?_
      refine Ex.ifc rfl rfl (fun (c0 : ¬ ((lg_cmp (q8.2.2.1 67 61) 1) = 0)) => ?_) (fun (c0 : ¬ ¬ ((lg_cmp (q8.2.2.1 67 61) 1) = 0)) => ?_)
      · rw [if_neg c0] at hf
        refine Ex.seg 5 (pc' := 261) (lc' := [some (.ref 67), some (.int x1), some (.int x2), some (.int v6), some (.int v9), none]) (st' := [.int (v6 + 3), .ref 81]) (h' := q8.2) (sg1 rfl rfl (sg1 rfl rfl (sg1 rfl rfl (sg1 rfl rfl (sg1 rfl rfl rfl))))) ?_
        obtain ⟨v12, e_v12, hf⟩ := bnd hf
        refine Ex.iald e_v12 rfl rfl ?_
        refine Ex.seg 1 (pc' := 263) (lc' := [some (.ref 67), some (.int x1), some (.int x2), some (.int v6), some (.int v9), none]) (st' := [.int (-1), .int v12]) (h' := q8.2) (sg1 rfl rfl rfl) ?_
        refine Ex.icmp rfl rfl (fun (c0 : ¬ (v12 = (-1))) => ?_) (fun (c0 : ¬ ¬ (v12 = (-1))) => ?_)
        · rw [if_neg c0] at hf
          refine Ex.seg 6 (pc' := 286) (lc' := [some (.ref 67), some (.int x1), some (.int x2), some (.int v6), some (.int v9), none]) (st' := [.int (v6 + 3), .ref 81, .ref 67]) (h' := q8.2) (sg1 rfl rfl (sg1 rfl rfl (sg1 rfl rfl (sg1 rfl rfl (sg1 rfl rfl (sg1 rfl rfl rfl)))))) ?_
          obtain ⟨v13, e_v13, hf⟩ := bnd hf
          refine Ex.iald e_v13 rfl rfl ?_
          obtain ⟨q14, e_q14, hf⟩ := bnd hf
          refine Ex.callV (a := 67) (As := [.int v13]) (r := []) (v := none) (h' := q14) rfl rfl (by decide) rfl (Nat.le_of_ble_eq_true rfl) rfl (E_373 (Nat.le_trans (by decide) hd) e_q14) rfl ?_
          refine Ex.seg 6 (pc' := 298) (lc' := [some (.ref 67), some (.int x1), some (.int x2), some (.int v6), some (.int v9), none]) (st' := [.int (v6 + 3), .ref 81, .ref 67]) (h' := q14) (sg1 rfl rfl (sg1 rfl rfl (sg1 rfl rfl (sg1 rfl rfl (sg1 rfl rfl (sg1 rfl rfl rfl)))))) ?_
          obtain ⟨v15, e_v15, hf⟩ := bnd hf
          refine Ex.iald e_v15 rfl rfl ?_
          obtain ⟨q16, e_q16, hf⟩ := bnd hf
          refine Ex.callV (a := 67) (As := [.int v15]) (r := []) (v := none) (h' := q16) rfl rfl (by decide) rfl (Nat.le_of_ble_eq_true rfl) rfl (E_349 (Nat.le_trans (by decide) hd) e_q16) rfl ?_
          exact Ex.weak (sm_le_n (sm_le_n (sm_le_n (sm_le_n (sm_le_n (sm_le_s sm_le_nil)))))) (B_376_302 hd  hf hs)
        · rw [if_pos (Classical.not_not.mp c0)] at hf
          refine Ex.seg 3 (pc' := 269) (lc' := [some (.ref 67), some (.int x1), some (.int x2), some (.int v6), some (.int v9), none]) (st' := [.int x2, .ref 67, .ref 67]) (h' := q8.2) (sg1 rfl rfl (sg1 rfl rfl (sg1 rfl rfl rfl))) ?_
          obtain ⟨q17, e_q17, hf⟩ := bnd hf
          refine Ex.callV (a := 67) (As := [.int x2]) (r := [.ref 67]) (v := some (.int q17.1)) (h' := q17.2) rfl rfl (by decide) rfl (Nat.le_of_ble_eq_true rfl) rfl (E_307 (Nat.le_trans (by decide) hd) e_q17) rfl ?_
          obtain ⟨q18, e_q18, hf⟩ := bnd hf
          refine Ex.callV (a := 67) (As := [.int q17.1]) (r := []) (v := none) (h' := q18) rfl rfl (by decide) rfl (Nat.le_of_ble_eq_true rfl) rfl (E_346 (Nat.le_trans (by decide) hd) e_q18) rfl ?_
          refine Ex.seg 1 (pc' := 302) (lc' := [some (.ref 67), some (.int x1), some (.int x2), some (.int v6), some (.int v9), none]) (st' := []) (h' := q18) (sg1 rfl rfl rfl) ?_
          exact Ex.weak (sm_le_n (sm_le_n (sm_le_n (sm_le_n (sm_le_n (sm_le_s sm_le_nil)))))) (B_376_302 hd  hf hs)
      · rw [if_pos (Classical.not_not.mp c0)] at hf
        refine Ex.seg 3 (pc' := 243) (lc' := [some (.ref 67), some (.int x1), some (.int x2), some (.int v6), some (.int v9), none]) (st' := [.int x2, .int x1, .ref 67]) (h' := q8.2) (sg1 rfl rfl (sg1 rfl rfl (sg1 rfl rfl rfl))) ?_
        obtain ⟨q19, e_q19, hf⟩ := bnd hf
        refine Ex.callV (a := 67) (As := [.int x1, .int x2]) (r := []) (v := none) (h' := q19) rfl rfl (by decide) rfl (Nat.le_of_ble_eq_true rfl) rfl (E_375 (Nat.le_trans (by decide) hd) e_q19) rfl ?_
        refine Ex.seg 2 (pc' := 248) (lc' := [some (.ref 67), some (.int x1), some (.int x2), some (.int v6), some (.int v9), none]) (st' := [.int 0, .ref 67]) (h' := q19) (sg1 rfl rfl (sg1 rfl rfl rfl)) ?_
        obtain ⟨q20, e_q20, hf⟩ := bnd hf
        refine Ex.callV (a := 67) (As := [.int 0]) (r := []) (v := none) (h' := q20) rfl rfl (by decide) rfl (Nat.le_of_ble_eq_true rfl) rfl (E_374 (Nat.le_trans (by decide) hd) e_q20) rfl ?_
        refine Ex.seg 1 (pc' := 302) (lc' := [some (.ref 67), some (.int x1), some (.int x2), some (.int v6), some (.int v9), none]) (st' := []) (h' := q20) (sg1 rfl rfl rfl) ?_
        exact Ex.weak (sm_le_n (sm_le_n (sm_le_n (sm_le_n (sm_le_n (sm_le_s sm_le_nil)))))) (B_376_302 hd  hf hs)
    · rw [if_pos (Classical.not_not.mp c0)] at hf
      refine Ex.seg 6 (pc' := 178) (lc' := [some (.ref 67), some (.int x1), some (.int x2), some (.int v6), some (.int v9), none]) (st' := [.int (v6 + 1), .ref 81, .ref 67]) (h' := q8.2) (sg1 rfl rfl (sg1 rfl rfl (sg1 rfl rfl (sg1 rfl rfl (sg1 rfl rfl (sg1 rfl rfl rfl)))))) ?_
      obtain ⟨v21, e_v21, hf⟩ := bnd hf
      refine Ex.iald e_v21 rfl rfl ?_
      obtain ⟨q22, e_q22, hf⟩ := bnd hf
      refine Ex.callV (a := 67) (As := [.int v21]) (r := []) (v := some (.int q22.1)) (h' := q22.2) rfl rfl (by decide) rfl (Nat.le_of_ble_eq_true rfl) rfl (E_307 (Nat.le_trans (by decide) hd) e_q22) rfl ?_
      refine Ex.ifc rfl rfl (fun (c0 : q22.1 = 0) => ?_) (fun (c0 : ¬ (q22.1 = 0)) => ?_)
      · rw [if_pos c0] at hf
        exact Ex.weak (sm_le_s (sm_le_n (sm_le_n (sm_le_n (sm_le_n (sm_le_s sm_le_nil)))))) (B_376_223 hd  hf hs)
      · rw [if_neg c0] at hf
        refine Ex.seg 6 (pc' := 194) (lc' := [some (.ref 67), some (.int x1), some (.int x2), some (.int v6), some (.int v9), none]) (st' := [.int x1, .ref 107, .int x2, .ref 67, .int v9]) (h' := q22.2) (sg1 rfl rfl (sg1 rfl rfl (sg1 rfl rfl (sg1 rfl rfl (sg1 rfl rfl (sg1 rfl rfl rfl)))))) ?_
        obtain ⟨v23, e_v23, hf⟩ := bnd hf
        refine Ex.iald e_v23 rfl rfl ?_
        obtain ⟨q24, e_q24, hf⟩ := bnd hf
        refine Ex.callV (a := 67) (As := [.int x2, .int v23]) (r := [.int v9]) (v := some (.int q24.1)) (h' := q24.2) rfl rfl (by decide) rfl (Nat.le_of_ble_eq_true rfl) rfl (E_372 (Nat.le_trans (by decide) hd) e_q24) rfl ?_
        refine Ex.seg 2 (pc' := 201) (lc' := [some (.ref 67), some (.int x1), some (.int x2), some (.int v6), some (.int v9), some (.int (v9 + q24.1))]) (st' := []) (h' := q24.2) (sg1 rfl rfl (sg1 rfl rfl rfl)) ?_
        obtain ⟨v25, e_v25, hf⟩ := bnd hf
        rw [Option.some.inj e_v25]
        refine Ex.seg 5 (pc' := 211) (lc' := [some (.ref 67), some (.int x1), some (.int x2), some (.int v6), some (.int v9), some (.int v25)]) (st' := [.int (q24.2.1 67 60), .int v25, .ref 108]) (h' := q24.2) (sg1 rfl rfl (sg1 rfl rfl (sg1 rfl rfl (sg1 rfl rfl (sg1 rfl rfl rfl))))) ?_
        obtain ⟨h26, e_h26, hf⟩ := bnd hf
        refine Ex.iast e_h26 rfl rfl ?_
        refine Ex.seg 5 (pc' := 222) (lc' := [some (.ref 67), some (.int x1), some (.int x2), some (.int v6), some (.int v9), some (.int v25)]) (st' := [.long (h26.2.1 67 61), .int v25, .ref 109]) (h' := h26) (sg1 rfl rfl (sg1 rfl rfl (sg1 rfl rfl (sg1 rfl rfl (sg1 rfl rfl rfl))))) ?_
        obtain ⟨h27, e_h27, hf⟩ := bnd hf
        refine Ex.last e_h27 rfl rfl ?_
        exact Ex.weak (sm_le_s (sm_le_n (sm_le_n (sm_le_n (sm_le_n (sm_le_n sm_le_nil)))))) (B_376_223 hd  hf hs)
  · rw [if_pos (Classical.not_not.mp c0)] at hf
    refine Ex.seg 4 (pc' := 45) (lc' := [some (.ref 67), some (.int x1), some (.int x2), some (.int v6), some (.int v9), none]) (st' := [.int v6, .ref 81, .ref 67]) (h' := q8.2) (sg1 rfl rfl (sg1 rfl rfl (sg1 rfl rfl (sg1 rfl rfl rfl)))) ?_
    obtain ⟨v28, e_v28, hf⟩ := bnd hf
    refine Ex.iald e_v28 rfl rfl ?_
    obtain ⟨q29, e_q29, hf⟩ := bnd hf
    refine Ex.callV (a := 67) (As := [.int v28]) (r := []) (v := some (.int q29.1)) (h' := q29.2) rfl rfl (by decide) rfl (Nat.le_of_ble_eq_true rfl) rfl (E_307 (Nat.le_trans (by decide) hd) e_q29) rfl ?_
    refine Ex.ifc rfl rfl (fun (c0 : q29.1 = 0) => ?_) (fun (c0 : ¬ (q29.1 = 0)) => ?_)
    · rw [if_pos c0] at hf
      refine Ex.seg 4 (pc' := 83) (lc' := [some (.ref 67), some (.int x1), some (.int x2), some (.int v6), some (.int v9), none]) (st' := [.int v6, .ref 81, .ref 67]) (h' := q29.2) (sg1 rfl rfl (sg1 rfl rfl (sg1 rfl rfl (sg1 rfl rfl rfl)))) ?_
      obtain ⟨v30, e_v30, hf⟩ := bnd hf
      refine Ex.iald e_v30 rfl rfl ?_
      refine Ex.seg 5 (pc' := 91) (lc' := [some (.ref 67), some (.int x1), some (.int x2), some (.int v6), some (.int v9), none]) (st' := [.int (v6 + 1), .ref 81, .int v30, .ref 67]) (h' := q29.2) (sg1 rfl rfl (sg1 rfl rfl (sg1 rfl rfl (sg1 rfl rfl (sg1 rfl rfl rfl))))) ?_
      obtain ⟨v31, e_v31, hf⟩ := bnd hf
      refine Ex.iald e_v31 rfl rfl ?_
      obtain ⟨q32, e_q32, hf⟩ := bnd hf
      refine Ex.callV (a := 67) (As := [.int v30, .int v31]) (r := []) (v := some (.int q32.1)) (h' := q32.2) rfl rfl (by decide) rfl (Nat.le_of_ble_eq_true rfl) rfl (E_332 (Nat.le_trans (by decide) hd) e_q32) rfl ?_
      refine Ex.ifc rfl rfl (fun (c0 : q32.1 = 0) => ?_) (fun (c0 : ¬ (q32.1 = 0)) => ?_)
      · rw [if_pos c0] at hf
        exact Ex.weak (sm_le_s (sm_le_s (sm_le_n (sm_le_n (sm_le_n (sm_le_s sm_le_nil)))))) (B_376_142 hd  hf hs)
      · rw [if_neg c0] at hf
        refine Ex.seg 5 (pc' := 105) (lc' := [some (.ref 67), some (.int x1), some (.int x2), some (.int v6), some (.int v9), none]) (st' := [.int v6, .ref 81, .ref 67, .ref 67]) (h' := q32.2) (sg1 rfl rfl (sg1 rfl rfl (sg1 rfl rfl (sg1 rfl rfl (sg1 rfl rfl rfl))))) ?_
        obtain ⟨v33, e_v33, hf⟩ := bnd hf
        refine Ex.iald e_v33 rfl rfl ?_
        refine Ex.seg 5 (pc' := 113) (lc' := [some (.ref 67), some (.int x1), some (.int x2), some (.int v6), some (.int v9), none]) (st' := [.int (v6 + 1), .ref 81, .int v33, .ref 67, .ref 67]) (h' := q32.2) (sg1 rfl rfl (sg1 rfl rfl (sg1 rfl rfl (sg1 rfl rfl (sg1 rfl rfl rfl))))) ?_
        obtain ⟨v34, e_v34, hf⟩ := bnd hf
        refine Ex.iald e_v34 rfl rfl ?_
        obtain ⟨q35, e_q35, hf⟩ := bnd hf
        refine Ex.callV (a := 67) (As := [.int v33, .int v34]) (r := [.ref 67]) (v := some (.int q35.1)) (h' := q35.2) rfl rfl (by decide) rfl (Nat.le_of_ble_eq_true rfl) rfl (E_332 (Nat.le_trans (by decide) hd) e_q35) rfl ?_
        obtain ⟨q36, e_q36, hf⟩ := bnd hf
        refine Ex.callV (a := 67) (As := [.int q35.1]) (r := []) (v := none) (h' := q36) rfl rfl (by decide) rfl (Nat.le_of_ble_eq_true rfl) rfl (E_299 (Nat.le_trans (by decide) hd) e_q36) rfl ?_
        refine Ex.seg 5 (pc' := 129) (lc' := [some (.ref 67), some (.int x1), some (.int x2), some (.int v6), some (.int v9), none]) (st' := [.long (q36.2.1 67 49), .int (q36.1 67 48), .ref 67]) (h' := q36) (sg1 rfl rfl (sg1 rfl rfl (sg1 rfl rfl (sg1 rfl rfl (sg1 rfl rfl rfl))))) ?_
        obtain ⟨q37, e_q37, hf⟩ := bnd hf
        refine Ex.callV (a := 67) (As := [.int (q36.1 67 48), .long (q36.2.1 67 49)]) (r := []) (v := none) (h' := q37) rfl rfl (by decide) rfl (Nat.le_of_ble_eq_true rfl) rfl (E_342 (Nat.le_trans (by decide) hd) e_q37) rfl ?_
        refine Ex.seg 4 (pc' := 138) (lc' := [some (.ref 67), some (.int x1), some (.int x2), some (.int v6), some (.int v9), none]) (st' := [.int x1, .ref 106, .int x1, .ref 106]) (h' := q37) (sg1 rfl rfl (sg1 rfl rfl (sg1 rfl rfl (sg1 rfl rfl rfl)))) ?_
        obtain ⟨v38, e_v38, hf⟩ := bnd hf
        refine Ex.iald e_v38 rfl rfl ?_
        refine Ex.seg 2 (pc' := 141) (lc' := [some (.ref 67), some (.int x1), some (.int x2), some (.int v6), some (.int v9), none]) (st' := [.int (v38 + 1), .int x1, .ref 106]) (h' := q37) (sg1 rfl rfl (sg1 rfl rfl rfl)) ?_
        obtain ⟨h39, e_h39, hf⟩ := bnd hf
        refine Ex.iast e_h39 rfl rfl ?_
        exact Ex.weak (sm_le_s (sm_le_s (sm_le_n (sm_le_n (sm_le_n (sm_le_s sm_le_nil)))))) (B_376_142 hd  hf hs)
    · rw [if_neg c0] at hf
      refine Ex.seg 5 (pc' := 61) (lc' := [some (.ref 67), some (.int x1), some (.int x2), some (.int v6), some (.int v9), none]) (st' := [.long (q29.2.2.1 67 61), .int (q29.2.1 67 60), .ref 67]) (h' := q29.2) (sg1 rfl rfl (sg1 rfl rfl (sg1 rfl rfl (sg1 rfl rfl (sg1 rfl rfl rfl))))) ?_
      obtain ⟨q40, e_q40, hf⟩ := bnd hf
      refine Ex.callV (a := 67) (As := [.int (q29.2.1 67 60), .long (q29.2.2.1 67 61)]) (r := []) (v := none) (h' := q40) rfl rfl (by decide) rfl (Nat.le_of_ble_eq_true rfl) rfl (E_342 (Nat.le_trans (by decide) hd) e_q40) rfl ?_
      refine Ex.seg 4 (pc' := 70) (lc' := [some (.ref 67), some (.int x1), some (.int x2), some (.int v6), some (.int v9), none]) (st' := [.int x1, .ref 106, .int x1, .ref 106]) (h' := q40) (sg1 rfl rfl (sg1 rfl rfl (sg1 rfl rfl (sg1 rfl rfl rfl)))) ?_
      obtain ⟨v41, e_v41, hf⟩ := bnd hf
      refine Ex.iald e_v41 rfl rfl ?_
      refine Ex.seg 2 (pc' := 73) (lc' := [some (.ref 67), some (.int x1), some (.int x2), some (.int v6), some (.int v9), none]) (st' := [.int (v41 + 1), .int x1, .ref 106]) (h' := q40) (sg1 rfl rfl (sg1 rfl rfl rfl)) ?_
      obtain ⟨h42, e_h42, hf⟩ := bnd hf
      refine Ex.iast e_h42 rfl rfl ?_
      refine Ex.seg 1 (pc' := 142) (lc' := [some (.ref 67), some (.int x1), some (.int x2), some (.int v6), some (.int v9), none]) (st' := []) (h' := h42) (sg1 rfl rfl rfl) ?_
      exact Ex.weak (sm_le_s (sm_le_s (sm_le_n (sm_le_n (sm_le_n (sm_le_s sm_le_nil)))))) (B_376_142 hd  hf hs)
theorem E_376 {L : Nat} {xs : Nat → Int32} {d : Nat} (hd : 6 ≤ d) {x1 : Int32} {x2 : Int32} {h : sm_H} {r : sm_H} (hf : F_376 x1 x2 h = some r) : RUN L xs d 376 [.ref 67, .int x1, .int x2] h (none, r) := by
  obtain ⟨d, rfl⟩ : ∃ e, d = e + 1 := ⟨d - 1, by omega⟩
  exact ⟨Nat.le_of_ble_eq_true rfl, B_376_0 (by omega) hf rfl⟩
theorem B_377_622 {L : Nat} {xs : Nat → Int32} {d : Nat} (hd : 6 ≤ d) {res : Option Value × sm_H} {y8 : Int32} {y9 : Int64}  {h : sm_H} {r : (sm_H)} (hf : F_377_622 y8 y9 h = some r) (hs : (fun (r : sm_H) => res = (none, r)) r) : Ex (P_G L xs) (RUN L xs d) (sm_lk P_t377) 0 622 [some (.ref 67), none, none, none, none, none, none, none, some (.int y8), some (.long y9), none, none] [] h res := by
  unfold F_377_622 at hf
  refine Ex.seg 3 (pc' := 627) (lc' := [some (.ref 67), none, none, none, none, none, none, none, some (.int y8), some (.long y9), none, none]) (st' := [.long y9, .int y8, .ref 67]) (h' := h) (sg1 rfl rfl (sg1 rfl rfl (sg1 rfl rfl rfl))) ?_
  obtain ⟨q1, e_q1, hf⟩ := bnd hf
  refine Ex.callV (a := 67) (As := [.int y8, .long y9]) (r := []) (v := none) (h' := q1) rfl rfl (by decide) rfl (Nat.le_of_ble_eq_true rfl) rfl (E_345 (Nat.le_trans (by decide) hd) e_q1) rfl ?_
  obtain rfl := Option.some.inj hf
  exact Ex.vret rfl rfl hs
theorem B_377_611 {L : Nat} {xs : Nat → Int32} {d : Nat} (hd : 6 ≤ d) {res : Option Value × sm_H} {y7 : Int32} {z1 : Int32} {z2 : Int32} {z3 : Int32}  {h : sm_H} {r : (sm_H)} (hf : F_377_611 y7 z1 z2 z3 h = some r) (hs : (fun (r : sm_H) => res = (none, r)) r) : Ex (P_G L xs) (RUN L xs d) (sm_lk P_t377) 0 611 [some (.ref 67), none, none, none, none, none, none, some (.int y7), none, none, none, none] [.int z3, .int z2, .int z1, .ref 67] h res := by
  unfold F_377_611 at hf
  refine Ex.seg 1 (pc' := 612) (lc' := [some (.ref 67), none, none, none, none, none, none, some (.int y7), none, none, none, none]) (st' := [.int (z2 - z3), .int z1, .ref 67]) (h' := h) (sg1 rfl rfl rfl) ?_
  obtain ⟨q2, e_q2, hf⟩ := bnd hf
  refine Ex.callV (a := 67) (As := [.int z1, .int (z2 - z3)]) (r := []) (v := none) (h' := q2) rfl rfl (by decide) rfl (Nat.le_of_ble_eq_true rfl) rfl (E_343 (Nat.le_trans (by decide) hd) e_q2) rfl ?_
  refine Ex.seg 2 (pc' := 618) (lc' := [some (.ref 67), none, none, none, none, none, none, some (.int y7), none, none, none, none]) (st' := [.int y7, .ref 67]) (h' := q2) (sg1 rfl rfl (sg1 rfl rfl rfl)) ?_
  obtain ⟨q3, e_q3, hf⟩ := bnd hf
  refine Ex.callV (a := 67) (As := [.int y7]) (r := []) (v := none) (h' := q3) rfl rfl (by decide) rfl (Nat.le_of_ble_eq_true rfl) rfl (E_349 (Nat.le_trans (by decide) hd) e_q3) rfl ?_
  obtain rfl := Option.some.inj hf
  exact Ex.vret rfl rfl hs
theorem B_377_588 {L : Nat} {xs : Nat → Int32} {d : Nat} (hd : 6 ≤ d) {res : Option Value × sm_H} {y2 : Int32} {y3 : Int32} {y7 : Int32}  {h : sm_H} {r : (sm_H)} (hf : F_377_588 y2 y3 y7 h = some r) (hs : (fun (r : sm_H) => res = (none, r)) r) : Ex (P_G L xs) (RUN L xs d) (sm_lk P_t377) 0 588 [some (.ref 67), none, some (.int y2), some (.int y3), none, none, none, some (.int y7), none, none, none, none] [] h res := by
  unfold F_377_588 at hf
  refine Ex.seg 5 (pc' := 594) (lc' := [some (.ref 67), none, some (.int y2), some (.int y3), none, none, none, some (.int y7), none, none, none, none]) (st' := [.int y7, .ref 67, .int y3, .int y3, .ref 67]) (h' := h) (sg1 rfl rfl (sg1 rfl rfl (sg1 rfl rfl (sg1 rfl rfl (sg1 rfl rfl rfl))))) ?_
  obtain ⟨q4, e_q4, hf⟩ := bnd hf
  refine Ex.callV (a := 67) (As := [.int y7]) (r := [.int y3, .int y3, .ref 67]) (v := some (.int q4.1)) (h' := q4.2) rfl rfl (by decide) rfl (Nat.le_of_ble_eq_true rfl) rfl (E_305 (Nat.le_trans (by decide) hd) e_q4) rfl ?_
  refine Ex.seg 3 (pc' := 600) (lc' := [some (.ref 67), none, some (.int y2), some (.int y3), none, none, none, some (.int y7), none, none, none, none]) (st' := [.int y2, .ref 67, .int (y3 + q4.1), .int y3, .ref 67]) (h' := q4.2) (sg1 rfl rfl (sg1 rfl rfl (sg1 rfl rfl rfl))) ?_
  obtain ⟨q5, e_q5, hf⟩ := bnd hf
  refine Ex.callV (a := 67) (As := [.int y2]) (r := [.int (y3 + q4.1), .int y3, .ref 67]) (v := some (.int q5.1)) (h' := q5.2) rfl rfl (by decide) rfl (Nat.le_of_ble_eq_true rfl) rfl (E_307 (Nat.le_trans (by decide) hd) e_q5) rfl ?_
  refine Ex.ifc rfl rfl (fun (c0 : q5.1 = 0) => ?_) (fun (c0 : ¬ (q5.1 = 0)) => ?_)
  · rw [if_pos c0] at hf
    refine Ex.seg 1 (pc' := 611) (lc' := [some (.ref 67), none, some (.int y2), some (.int y3), none, none, none, some (.int y7), none, none, none, none]) (st' := [.int 1, .int (y3 + q4.1), .int y3, .ref 67]) (h' := q5.2) (sg1 rfl rfl rfl) ?_
    exact Ex.weak (sm_le_s (sm_le_s (sm_le_n (sm_le_n (sm_le_s (sm_le_s (sm_le_s (sm_le_s (sm_le_s (sm_le_s (sm_le_s (sm_le_s sm_le_nil)))))))))))) (B_377_611 hd  hf hs)
  · rw [if_neg c0] at hf
    refine Ex.seg 2 (pc' := 611) (lc' := [some (.ref 67), none, some (.int y2), some (.int y3), none, none, none, some (.int y7), none, none, none, none]) (st' := [.int 2, .int (y3 + q4.1), .int y3, .ref 67]) (h' := q5.2) (sg1 rfl rfl (sg1 rfl rfl rfl)) ?_
    exact Ex.weak (sm_le_s (sm_le_s (sm_le_n (sm_le_n (sm_le_s (sm_le_s (sm_le_s (sm_le_s (sm_le_s (sm_le_s (sm_le_s (sm_le_s sm_le_nil)))))))))))) (B_377_611 hd  hf hs)
theorem B_377_562 {L : Nat} {xs : Nat → Int32} {d : Nat} (hd : 6 ≤ d) {res : Option Value × sm_H} {z1 : Int32}  {h : sm_H} {r : (sm_H)} (hf : F_377_562 z1 h = some r) (hs : (fun (r : sm_H) => res = (none, r)) r) : Ex (P_G L xs) (RUN L xs d) (sm_lk P_t377) 0 562 [none, none, none, none, none, none, none, none, none, none, none, none] [.int z1, .ref 67] h res := by
  unfold F_377_562 at hf
  obtain ⟨q6, e_q6, hf⟩ := bnd hf
  refine Ex.callV (a := 67) (As := [.int z1]) (r := []) (v := none) (h' := q6) rfl rfl (by decide) rfl (Nat.le_of_ble_eq_true rfl) rfl (E_349 (Nat.le_trans (by decide) hd) e_q6) rfl ?_
  obtain rfl := Option.some.inj hf
  exact Ex.vret rfl rfl hs
theorem B_377_528 {L : Nat} {xs : Nat → Int32} {d : Nat} (hd : 6 ≤ d) {res : Option Value × sm_H}   {h : sm_H} {r : (sm_H)} (hf : F_377_528  h = some r) (hs : (fun (r : sm_H) => res = (none, r)) r) : Ex (P_G L xs) (RUN L xs d) (sm_lk P_t377) 0 528 [none, none, none, none, none, none, none, none, none, none, none, none] [] h res := by
  unfold F_377_528 at hf
  obtain rfl := Option.some.inj hf
  exact Ex.vret rfl rfl hs
theorem B_377_497 {L : Nat} {xs : Nat → Int32} {d : Nat} (hd : 6 ≤ d) {res : Option Value × sm_H} {z1 : Int32} {z2 : Int32} {z3 : Int32} {z4 : Int64} {z5 : Int32}  {h : sm_H} {r : (sm_H)} (hf : F_377_497 z1 z2 z3 z4 z5 h = some r) (hs : (fun (r : sm_H) => res = (none, r)) r) : Ex (P_G L xs) (RUN L xs d) (sm_lk P_t377) 0 497 [some (.ref 67), none, none, none, none, none, none, none, none, none, none, none] [.int z5, .long z4, .int z3, .int z2, .int z1, .ref 67] h res := by
  unfold F_377_497 at hf
  obtain ⟨q7, e_q7, hf⟩ := bnd hf
  refine Ex.callV (a := 67) (As := [.int z1, .int z2, .int z3, .long z4, .int z5]) (r := []) (v := some (.int q7.1)) (h' := q7.2) rfl rfl (by decide) rfl (Nat.le_of_ble_eq_true rfl) rfl (E_300 (Nat.le_trans (by decide) hd) e_q7) rfl ?_
  refine Ex.seg 2 (pc' := 504) (lc' := [some (.ref 67), none, none, none, none, none, none, none, none, none, none, some (.int q7.1)]) (st' := [.int q7.1]) (h' := q7.2) (sg1 rfl rfl (sg1 rfl rfl rfl)) ?_
  refine Ex.ifc rfl rfl (fun (c0 : q7.1 = 0) => ?_) (fun (c0 : ¬ (q7.1 = 0)) => ?_)
  · rw [if_pos c0] at hf
    refine Ex.seg 5 (pc' := 525) (lc' := [some (.ref 67), none, none, none, none, none, none, none, none, none, none, some (.int q7.1)]) (st' := [.long (q7.2.2.1 67 49), .int (q7.2.1 67 48), .ref 67]) (h' := q7.2) (sg1 rfl rfl (sg1 rfl rfl (sg1 rfl rfl (sg1 rfl rfl (sg1 rfl rfl rfl))))) ?_
    obtain ⟨q8, e_q8, hf⟩ := bnd hf
    refine Ex.callV (a := 67) (As := [.int (q7.2.1 67 48), .long (q7.2.2.1 67 49)]) (r := []) (v := none) (h' := q8) rfl rfl (by decide) rfl (Nat.le_of_ble_eq_true rfl) rfl (E_345 (Nat.le_trans (by decide) hd) e_q8) rfl ?_
    exact Ex.weak (sm_le_n (sm_le_s (sm_le_s (sm_le_s (sm_le_s (sm_le_s (sm_le_s (sm_le_s (sm_le_s (sm_le_s (sm_le_s (sm_le_n sm_le_nil)))))))))))) (B_377_528 hd  hf hs)
  · rw [if_neg c0] at hf
    refine Ex.seg 2 (pc' := 510) (lc' := [some (.ref 67), none, none, none, none, none, none, none, none, none, none, some (.int q7.1)]) (st' := [.int q7.1, .ref 67]) (h' := q7.2) (sg1 rfl rfl (sg1 rfl rfl rfl)) ?_
    obtain ⟨q9, e_q9, hf⟩ := bnd hf
    refine Ex.callV (a := 67) (As := [.int q7.1]) (r := []) (v := none) (h' := q9) rfl rfl (by decide) rfl (Nat.le_of_ble_eq_true rfl) rfl (E_348 (Nat.le_trans (by decide) hd) e_q9) rfl ?_
    refine Ex.seg 1 (pc' := 528) (lc' := [some (.ref 67), none, none, none, none, none, none, none, none, none, none, some (.int q7.1)]) (st' := []) (h' := q9) (sg1 rfl rfl rfl) ?_
    exact Ex.weak (sm_le_n (sm_le_s (sm_le_s (sm_le_s (sm_le_s (sm_le_s (sm_le_s (sm_le_s (sm_le_s (sm_le_s (sm_le_s (sm_le_n sm_le_nil)))))))))))) (B_377_528 hd  hf hs)
theorem B_377_465 {L : Nat} {xs : Nat → Int32} {d : Nat} (hd : 6 ≤ d) {res : Option Value × sm_H} {y2 : Int32} {y6 : Int32} {y8 : Int32} {y9 : Int64}  {h : sm_H} {r : (sm_H)} (hf : F_377_465 y2 y6 y8 y9 h = some r) (hs : (fun (r : sm_H) => res = (none, r)) r) : Ex (P_G L xs) (RUN L xs d) (sm_lk P_t377) 0 465 [some (.ref 67), none, some (.int y2), none, none, none, some (.int y6), none, some (.int y8), some (.long y9), none, none] [] h res := by
  unfold F_377_465 at hf
  refine Ex.seg 3 (pc' := 469) (lc' := [some (.ref 67), none, some (.int y2), none, none, none, some (.int y6), none, some (.int y8), some (.long y9), none, none]) (st' := [.int y6, .ref 67, .ref 67]) (h' := h) (sg1 rfl rfl (sg1 rfl rfl (sg1 rfl rfl rfl))) ?_
  obtain ⟨q10, e_q10, hf⟩ := bnd hf
  refine Ex.callV (a := 67) (As := [.int y6]) (r := [.ref 67]) (v := some (.int q10.1)) (h' := q10.2) rfl rfl (by decide) rfl (Nat.le_of_ble_eq_true rfl) rfl (E_307 (Nat.le_trans (by decide) hd) e_q10) rfl ?_
  refine Ex.seg 2 (pc' := 474) (lc' := [some (.ref 67), none, some (.int y2), none, none, none, some (.int y6), none, some (.int y8), some (.long y9), none, none]) (st' := [.int y2, .ref 67, .int q10.1, .ref 67]) (h' := q10.2) (sg1 rfl rfl (sg1 rfl rfl rfl)) ?_
  obtain ⟨q11, e_q11, hf⟩ := bnd hf
  refine Ex.callV (a := 67) (As := [.int y2]) (r := [.int q10.1, .ref 67]) (v := some (.int q11.1)) (h' := q11.2) rfl rfl (by decide) rfl (Nat.le_of_ble_eq_true rfl) rfl (E_307 (Nat.le_trans (by decide) hd) e_q11) rfl ?_
  refine Ex.seg 5 (pc' := 486) (lc' := [some (.ref 67), none, some (.int y2), none, none, none, some (.int y6), none, some (.int y8), some (.long y9), none, none]) (st' := [.int y2, .ref 75, .long y9, .int y8, .int q11.1, .int q10.1, .ref 67]) (h' := q11.2) (sg1 rfl rfl (sg1 rfl rfl (sg1 rfl rfl (sg1 rfl rfl (sg1 rfl rfl rfl))))) ?_
  obtain ⟨v12, e_v12, hf⟩ := bnd hf
  refine Ex.iald e_v12 rfl rfl ?_
  refine Ex.seg 1 (pc' := 489) (lc' := [some (.ref 67), none, some (.int y2), none, none, none, some (.int y6), none, some (.int y8), some (.long y9), none, none]) (st' := [.int 13, .int v12, .long y9, .int y8, .int q11.1, .int q10.1, .ref 67]) (h' := q11.2) (sg1 rfl rfl rfl) ?_
  refine Ex.icmp rfl rfl (fun (c0 : ¬ (v12 = 13)) => ?_) (fun (c0 : ¬ ¬ (v12 = 13)) => ?_)
  · rw [if_neg c0] at hf
    refine Ex.seg 1 (pc' := 497) (lc' := [some (.ref 67), none, some (.int y2), none, none, none, some (.int y6), none, some (.int y8), some (.long y9), none, none]) (st' := [.int 0, .long y9, .int y8, .int q11.1, .int q10.1, .ref 67]) (h' := q11.2) (sg1 rfl rfl rfl) ?_
    exact Ex.weak (sm_le_s (sm_le_s (sm_le_n (sm_le_s (sm_le_s (sm_le_s (sm_le_n (sm_le_s (sm_le_n (sm_le_n (sm_le_s (sm_le_s sm_le_nil)))))))))))) (B_377_497 hd  hf hs)
  · rw [if_pos (Classical.not_not.mp c0)] at hf
    refine Ex.seg 2 (pc' := 497) (lc' := [some (.ref 67), none, some (.int y2), none, none, none, some (.int y6), none, some (.int y8), some (.long y9), none, none]) (st' := [.int 1, .long y9, .int y8, .int q11.1, .int q10.1, .ref 67]) (h' := q11.2) (sg1 rfl rfl (sg1 rfl rfl rfl)) ?_
    exact Ex.weak (sm_le_s (sm_le_s (sm_le_n (sm_le_s (sm_le_s (sm_le_s (sm_le_n (sm_le_s (sm_le_n (sm_le_n (sm_le_s (sm_le_s sm_le_nil)))))))))))) (B_377_497 hd  hf hs)
theorem B_377_458 {L : Nat} {xs : Nat → Int32} {d : Nat} (hd : 6 ≤ d) {res : Option Value × sm_H} {y7 : Int32}  {h : sm_H} {r : (sm_H)} (hf : F_377_458 y7 h = some r) (hs : (fun (r : sm_H) => res = (none, r)) r) : Ex (P_G L xs) (RUN L xs d) (sm_lk P_t377) 0 458 [some (.ref 67), none, none, none, none, none, none, some (.int y7), none, none, none, none] [] h res := by
  unfold F_377_458 at hf
  refine Ex.seg 2 (pc' := 461) (lc' := [some (.ref 67), none, none, none, none, none, none, some (.int y7), none, none, none, none]) (st' := [.int y7, .ref 67]) (h' := h) (sg1 rfl rfl (sg1 rfl rfl rfl)) ?_
  obtain ⟨q13, e_q13, hf⟩ := bnd hf
  refine Ex.callV (a := 67) (As := [.int y7]) (r := []) (v := none) (h' := q13) rfl rfl (by decide) rfl (Nat.le_of_ble_eq_true rfl) rfl (E_349 (Nat.le_trans (by decide) hd) e_q13) rfl ?_
  obtain rfl := Option.some.inj hf
  exact Ex.vret rfl rfl hs
theorem B_377_422 {L : Nat} {xs : Nat → Int32} {d : Nat} (hd : 6 ≤ d) {res : Option Value × sm_H} {y3 : Int32} {y4 : Int32} {y5 : Int32} {y6 : Int32}  {h : sm_H} {r : (sm_H)} (hf : F_377_422 y3 y4 y5 y6 h = some r) (hs : (fun (r : sm_H) => res = (none, r)) r) : Ex (P_G L xs) (RUN L xs d) (sm_lk P_t377) 0 422 [some (.ref 67), none, none, some (.int y3), some (.int y4), some (.int y5), some (.int y6), none, none, none, none, none] [] h res := by
  unfold F_377_422 at hf
  refine Ex.seg 7 (pc' := 431) (lc' := [some (.ref 67), none, none, some (.int y3), some (.int y4), some (.int y5), some (.int y6), none, none, none, none, none]) (st' := [.int (y3 + y4), .int (y3 + y5), .ref 67]) (h' := h) (sg1 rfl rfl (sg1 rfl rfl (sg1 rfl rfl (sg1 rfl rfl (sg1 rfl rfl (sg1 rfl rfl (sg1 rfl rfl rfl))))))) ?_
  obtain ⟨q14, e_q14, hf⟩ := bnd hf
  refine Ex.callV (a := 67) (As := [.int (y3 + y5), .int (y3 + y4)]) (r := []) (v := none) (h' := q14) rfl rfl (by decide) rfl (Nat.le_of_ble_eq_true rfl) rfl (E_343 (Nat.le_trans (by decide) hd) e_q14) rfl ?_
  refine Ex.seg 2 (pc' := 437) (lc' := [some (.ref 67), none, none, some (.int y3), some (.int y4), some (.int y5), some (.int y6), none, none, none, none, none]) (st' := [.int y6, .ref 67]) (h' := q14) (sg1 rfl rfl (sg1 rfl rfl rfl)) ?_
  obtain ⟨q15, e_q15, hf⟩ := bnd hf
  refine Ex.callV (a := 67) (As := [.int y6]) (r := []) (v := none) (h' := q15) rfl rfl (by decide) rfl (Nat.le_of_ble_eq_true rfl) rfl (E_349 (Nat.le_trans (by decide) hd) e_q15) rfl ?_
  obtain rfl := Option.some.inj hf
  exact Ex.vret rfl rfl hs
theorem B_377_370 {L : Nat} {xs : Nat → Int32} {d : Nat} (hd : 6 ≤ d) {res : Option Value × sm_H} {y3 : Int32} {y4 : Int32} {y5 : Int32} {y6 : Int32} {y7 : Int32}  {h : sm_H} {r : (sm_H)} (hf : F_377_370 y3 y4 y5 y6 y7 h = some r) (hs : (fun (r : sm_H) => res = (none, r)) r) : Ex (P_G L xs) (RUN L xs d) (sm_lk P_t377) 0 370 [some (.ref 67), none, none, some (.int y3), some (.int y4), some (.int y5), some (.int y6), some (.int y7), none, none, none, none] [] h res := by
  unfold F_377_370 at hf
  refine Ex.seg 6 (pc' := 378) (lc' := [some (.ref 67), none, none, some (.int y3), some (.int y4), some (.int y5), some (.int y6), some (.int y7), none, none, none, none]) (st' := [.int y7, .ref 67, .int (y3 + y5), .ref 67]) (h' := h) (sg1 rfl rfl (sg1 rfl rfl (sg1 rfl rfl (sg1 rfl rfl (sg1 rfl rfl (sg1 rfl rfl rfl)))))) ?_
  obtain ⟨q16, e_q16, hf⟩ := bnd hf
  refine Ex.callV (a := 67) (As := [.int y7]) (r := [.int (y3 + y5), .ref 67]) (v := some (.int q16.1)) (h' := q16.2) rfl rfl (by decide) rfl (Nat.le_of_ble_eq_true rfl) rfl (E_305 (Nat.le_trans (by decide) hd) e_q16) rfl ?_
  refine Ex.seg 4 (pc' := 386) (lc' := [some (.ref 67), none, none, some (.int y3), some (.int y4), some (.int y5), some (.int y6), some (.int y7), none, none, none, none]) (st' := [.int (y3 + y4), .int ((y3 + y5) + q16.1), .ref 67]) (h' := q16.2) (sg1 rfl rfl (sg1 rfl rfl (sg1 rfl rfl (sg1 rfl rfl rfl)))) ?_
  obtain ⟨q17, e_q17, hf⟩ := bnd hf
  refine Ex.callV (a := 67) (As := [.int ((y3 + y5) + q16.1), .int (y3 + y4)]) (r := []) (v := none) (h' := q17) rfl rfl (by decide) rfl (Nat.le_of_ble_eq_true rfl) rfl (E_343 (Nat.le_trans (by decide) hd) e_q17) rfl ?_
  refine Ex.seg 2 (pc' := 392) (lc' := [some (.ref 67), none, none, some (.int y3), some (.int y4), some (.int y5), some (.int y6), some (.int y7), none, none, none, none]) (st' := [.int y6, .ref 67]) (h' := q17) (sg1 rfl rfl (sg1 rfl rfl rfl)) ?_
  obtain ⟨q18, e_q18, hf⟩ := bnd hf
  refine Ex.callV (a := 67) (As := [.int y6]) (r := []) (v := none) (h' := q18) rfl rfl (by decide) rfl (Nat.le_of_ble_eq_true rfl) rfl (E_349 (Nat.le_trans (by decide) hd) e_q18) rfl ?_
  obtain rfl := Option.some.inj hf
  exact Ex.vret rfl rfl hs
theorem B_377_276 {L : Nat} {xs : Nat → Int32} {d : Nat} (hd : 6 ≤ d) {res : Option Value × sm_H} {y1 : Int32} {y2 : Int32}  {h : sm_H} {r : (sm_H)} (hf : F_377_276 y1 y2 h = some r) (hs : (fun (r : sm_H) => res = (none, r)) r) : Ex (P_G L xs) (RUN L xs d) (sm_lk P_t377) 0 276 [some (.ref 67), some (.int y1), some (.int y2), none, none, none, none, none, none, none, none, none] [] h res := by
  unfold F_377_276 at hf
  refine Ex.seg 3 (pc' := 279) (lc' := [some (.ref 67), some (.int y1), some (.int y2), none, none, none, none, none, none, none, none, none]) (st' := [.int y2, .int y1, .ref 67]) (h' := h) (sg1 rfl rfl (sg1 rfl rfl (sg1 rfl rfl rfl))) ?_
  obtain ⟨q19, e_q19, hf⟩ := bnd hf
  refine Ex.callV (a := 67) (As := [.int y1, .int y2]) (r := []) (v := none) (h' := q19) rfl rfl (by decide) rfl (Nat.le_of_ble_eq_true rfl) rfl (E_376 (Nat.le_trans (by decide) hd) e_q19) rfl ?_
  obtain rfl := Option.some.inj hf
  exact Ex.vret rfl rfl hs
theorem B_377_252 {L : Nat} {xs : Nat → Int32} {d : Nat} (hd : 6 ≤ d) {res : Option Value × sm_H}   {h : sm_H} {r : (sm_H)} (hf : F_377_252  h = some r) (hs : (fun (r : sm_H) => res = (none, r)) r) : Ex (P_G L xs) (RUN L xs d) (sm_lk P_t377) 0 252 [none, none, none, none, none, none, none, none, none, none, none, none] [] h res := by
  unfold F_377_252 at hf
  obtain rfl := Option.some.inj hf
  exact Ex.vret rfl rfl hs
theorem B_377_0 {L : Nat} {xs : Nat → Int32} {d : Nat} (hd : 6 ≤ d) {res : Option Value × sm_H}   {h : sm_H} {r : (sm_H)} (hf : F_377_0  h = some r) (hs : (fun (r : sm_H) => res = (none, r)) r) : Ex (P_G L xs) (RUN L xs d) (sm_lk P_t377) 0 0 [some (.ref 67), none, none, none, none, none, none, none, none, none, none, none] [] h res := by
  unfold F_377_0 at hf
  refine Ex.seg 5 (pc' := 7) (lc' := [some (.ref 67), some (.int ((h.1 67 56) - 1)), none, none, none, none, none, none, none, none, none, none]) (st' := []) (h' := h) (sg1 rfl rfl (sg1 rfl rfl (sg1 rfl rfl (sg1 rfl rfl (sg1 rfl rfl rfl))))) ?_
  obtain ⟨v20, e_v20, hf⟩ := bnd hf
  rw [Option.some.inj e_v20]
  refine Ex.seg 3 (pc' := 12) (lc' := [some (.ref 67), some (.int v20), none, none, none, none, none, none, none, none, none, none]) (st' := [.int v20, .ref 103]) (h' := h) (sg1 rfl rfl (sg1 rfl rfl (sg1 rfl rfl rfl))) ?_
  obtain ⟨v21, e_v21, hf⟩ := bnd hf
  refine Ex.iald e_v21 rfl rfl ?_
  refine Ex.seg 4 (pc' := 19) (lc' := [some (.ref 67), some (.int v20), some (.int v21), none, none, none, none, none, none, none, none, none]) (st' := [.int v20, .ref 105]) (h' := h) (sg1 rfl rfl (sg1 rfl rfl (sg1 rfl rfl (sg1 rfl rfl rfl)))) ?_
  obtain ⟨v22, e_v22, hf⟩ := bnd hf
  refine Ex.iald e_v22 rfl rfl ?_
  refine Ex.seg 3 (pc' := 23) (lc' := [some (.ref 67), some (.int v20), some (.int v21), some (.int v22), none, none, none, none, none, none, none, none]) (st' := [.int v21, .ref 67]) (h' := h) (sg1 rfl rfl (sg1 rfl rfl (sg1 rfl rfl rfl))) ?_
  obtain ⟨q23, e_q23, hf⟩ := bnd hf
  refine Ex.callV (a := 67) (As := [.int v21]) (r := []) (v := some (.int q23.1)) (h' := q23.2) rfl rfl (by decide) rfl (Nat.le_of_ble_eq_true rfl) rfl (E_305 (Nat.le_trans (by decide) hd) e_q23) rfl ?_
  refine Ex.seg 4 (pc' := 33) (lc' := [some (.ref 67), some (.int v20), some (.int v21), some (.int v22), some (.int q23.1), none, none, none, none, none, none, none]) (st' := [.int v21, .ref 77]) (h' := q23.2) (sg1 rfl rfl (sg1 rfl rfl (sg1 rfl rfl (sg1 rfl rfl rfl)))) ?_
  obtain ⟨v24, e_v24, hf⟩ := bnd hf
  refine Ex.iald e_v24 rfl rfl ?_
  refine Ex.seg 6 (pc' := 44) (lc' := [some (.ref 67), some (.int v20), some (.int v21), some (.int v22), some (.int q23.1), some (.int v24), none, none, none, none, none, none]) (st' := [.int (24 * v21), .ref 81]) (h' := q23.2) (sg1 rfl rfl (sg1 rfl rfl (sg1 rfl rfl (sg1 rfl rfl (sg1 rfl rfl (sg1 rfl rfl rfl)))))) ?_
  obtain ⟨v25, e_v25, hf⟩ := bnd hf
  refine Ex.iald e_v25 rfl rfl ?_
  refine Ex.seg 8 (pc' := 57) (lc' := [some (.ref 67), some (.int v20), some (.int v21), some (.int v22), some (.int q23.1), some (.int v24), some (.int v25), none, none, none, none, none]) (st' := [.int ((24 * v21) + 1), .ref 81]) (h' := q23.2) (sg1 rfl rfl (sg1 rfl rfl (sg1 rfl rfl (sg1 rfl rfl (sg1 rfl rfl (sg1 rfl rfl (sg1 rfl rfl (sg1 rfl rfl rfl)))))))) ?_
  obtain ⟨v26, e_v26, hf⟩ := bnd hf
  refine Ex.iald e_v26 rfl rfl ?_
  refine Ex.seg 4 (pc' := 65) (lc' := [some (.ref 67), some (.int v20), some (.int v21), some (.int v22), some (.int q23.1), some (.int v24), some (.int v25), some (.int v26), none, none, none, none]) (st' := []) (h' := (sm_wI q23.2 67 63 0)) (sg1 rfl rfl (sg1 rfl rfl (sg1 rfl rfl (sg1 rfl rfl rfl)))) ?_
  obtain ⟨h27, e_h27, hf⟩ := bnd hf
  rw [Option.some.inj e_h27]
  refine Ex.seg 2 (pc' := 69) (lc' := [some (.ref 67), some (.int v20), some (.int v21), some (.int v22), some (.int q23.1), some (.int v24), some (.int v25), some (.int v26), none, none, none, none]) (st' := [.int (h27.1 67 62)]) (h' := h27) (sg1 rfl rfl (sg1 rfl rfl rfl)) ?_
  refine Ex.ifc rfl rfl (fun (c0 : (h27.1 67 62) = 0) => ?_) (fun (c0 : ¬ ((h27.1 67 62) = 0)) => ?_)
  · rw [if_pos c0] at hf
    refine Ex.seg 3 (pc' := 88) (lc' := [some (.ref 67), some (.int v20), some (.int v21), some (.int v22), some (.int q23.1), some (.int v24), some (.int v25), some (.int v26), some (.int (h27.1 67 60)), none, none, none]) (st' := []) (h' := h27) (sg1 rfl rfl (sg1 rfl rfl (sg1 rfl rfl rfl))) ?_
    obtain ⟨v28, e_v28, hf⟩ := bnd hf
    rw [Option.some.inj e_v28]
    refine Ex.seg 3 (pc' := 94) (lc' := [some (.ref 67), some (.int v20), some (.int v21), some (.int v22), some (.int q23.1), some (.int v24), some (.int v25), some (.int v26), some (.int v28), some (.long (h27.2.1 67 61)), none, none]) (st' := []) (h' := h27) (sg1 rfl rfl (sg1 rfl rfl (sg1 rfl rfl rfl))) ?_
    obtain ⟨v29, e_v29, hf⟩ := bnd hf
    rw [Option.some.inj e_v29]
    refine Ex.seg 3 (pc' := 99) (lc' := [some (.ref 67), some (.int v20), some (.int v21), some (.int v22), some (.int q23.1), some (.int v24), some (.int v25), some (.int v26), some (.int v28), some (.long v29), none, none]) (st' := [.int v20, .ref 104]) (h' := h27) (sg1 rfl rfl (sg1 rfl rfl (sg1 rfl rfl rfl))) ?_
    obtain ⟨v30, e_v30, hf⟩ := bnd hf
    refine Ex.iald e_v30 rfl rfl ?_
    rcases Classical.em (v30 = 2) with n1 | n1
    · rw [if_pos n1] at hf
      refine Ex.swl (t := 177) rfl rfl (by rw [n1]; exact ⟨by decide, by decide⟩) ?_
      refine Ex.seg 6 (pc' := 186) (lc' := [some (.ref 67), some (.int v20), some (.int v21), some (.int v22), some (.int q23.1), some (.int v24), some (.int v25), some (.int v26), some (.int v28), some (.long v29), none, none]) (st' := [.int (v22 + q23.1), .ref 108, .ref 67]) (h' := h27) (sg1 rfl rfl (sg1 rfl rfl (sg1 rfl rfl (sg1 rfl rfl (sg1 rfl rfl (sg1 rfl rfl rfl)))))) ?_
      obtain ⟨v31, e_v31, hf⟩ := bnd hf
      refine Ex.iald e_v31 rfl rfl ?_
      refine Ex.seg 5 (pc' := 195) (lc' := [some (.ref 67), some (.int v20), some (.int v21), some (.int v22), some (.int q23.1), some (.int v24), some (.int v25), some (.int v26), some (.int v28), some (.long v29), none, none]) (st' := [.int (v22 + q23.1), .ref 109, .int v31, .ref 67]) (h' := h27) (sg1 rfl rfl (sg1 rfl rfl (sg1 rfl rfl (sg1 rfl rfl (sg1 rfl rfl rfl))))) ?_
      obtain ⟨v32, e_v32, hf⟩ := bnd hf
      refine Ex.lald e_v32 rfl rfl ?_
      obtain ⟨q33, e_q33, hf⟩ := bnd hf
      refine Ex.callV (a := 67) (As := [.int v31, .long v32]) (r := []) (v := none) (h' := q33) rfl rfl (by decide) rfl (Nat.le_of_ble_eq_true rfl) rfl (E_347 (Nat.le_trans (by decide) hd) e_q33) rfl ?_
      obtain rfl := Option.some.inj hf
      exact Ex.vret rfl rfl hs
    rw [if_neg n1] at hf
    rcases Classical.em (v30 = 12) with n2 | n2
    · rw [if_pos n2] at hf
      refine Ex.swl (t := 200) rfl rfl (by rw [n2]; exact ⟨by decide, by decide⟩) ?_
      refine Ex.seg 5 (pc' := 207) (lc' := [some (.ref 67), some (.int v20), some (.int v21), some (.int v22), some (.int q23.1), some (.int v24), some (.int v25), some (.int v26), some (.int v28), some (.long v29), none, none]) (st' := [.int v20, .ref 106, .ref 67, .ref 67]) (h' := h27) (sg1 rfl rfl (sg1 rfl rfl (sg1 rfl rfl (sg1 rfl rfl (sg1 rfl rfl rfl))))) ?_
      obtain ⟨v34, e_v34, hf⟩ := bnd hf
      refine Ex.iald e_v34 rfl rfl ?_
      obtain ⟨q35, e_q35, hf⟩ := bnd hf
      refine Ex.callV (a := 67) (As := [.int v34]) (r := [.ref 67]) (v := some (.int q35.1)) (h' := q35.2) rfl rfl (by decide) rfl (Nat.le_of_ble_eq_true rfl) rfl (E_307 (Nat.le_trans (by decide) hd) e_q35) rfl ?_
      refine Ex.seg 2 (pc' := 213) (lc' := [some (.ref 67), some (.int v20), some (.int v21), some (.int v22), some (.int q23.1), some (.int v24), some (.int v25), some (.int v26), some (.int v28), some (.long v29), none, none]) (st' := [.int v21, .ref 67, .int q35.1, .ref 67]) (h' := q35.2) (sg1 rfl rfl (sg1 rfl rfl rfl)) ?_
      obtain ⟨q36, e_q36, hf⟩ := bnd hf
      refine Ex.callV (a := 67) (As := [.int v21]) (r := [.int q35.1, .ref 67]) (v := some (.int q36.1)) (h' := q36.2) rfl rfl (by decide) rfl (Nat.le_of_ble_eq_true rfl) rfl (E_307 (Nat.le_trans (by decide) hd) e_q36) rfl ?_
      refine Ex.seg 3 (pc' := 221) (lc' := [some (.ref 67), some (.int v20), some (.int v21), some (.int v22), some (.int q23.1), some (.int v24), some (.int v25), some (.int v26), some (.int v28), some (.long v29), none, none]) (st' := [.int 0, .long v29, .int v28, .int q36.1, .int q35.1, .ref 67]) (h' := q36.2) (sg1 rfl rfl (sg1 rfl rfl (sg1 rfl rfl rfl))) ?_
      obtain ⟨q37, e_q37, hf⟩ := bnd hf
      refine Ex.callV (a := 67) (As := [.int q35.1, .int q36.1, .int v28, .long v29, .int 0]) (r := []) (v := some (.int q37.1)) (h' := q37.2) rfl rfl (by decide) rfl (Nat.le_of_ble_eq_true rfl) rfl (E_300 (Nat.le_trans (by decide) hd) e_q37) rfl ?_
      refine Ex.seg 2 (pc' := 228) (lc' := [some (.ref 67), some (.int v20), some (.int v21), some (.int v22), some (.int q23.1), some (.int v24), some (.int v25), some (.int v26), some (.int v28), some (.long v29), none, some (.int q37.1)]) (st' := [.int q37.1]) (h' := q37.2) (sg1 rfl rfl (sg1 rfl rfl rfl)) ?_
      refine Ex.ifc rfl rfl (fun (c0 : q37.1 = 0) => ?_) (fun (c0 : ¬ (q37.1 = 0)) => ?_)
      · rw [if_pos c0] at hf
        refine Ex.seg 5 (pc' := 249) (lc' := [some (.ref 67), some (.int v20), some (.int v21), some (.int v22), some (.int q23.1), some (.int v24), some (.int v25), some (.int v26), some (.int v28), some (.long v29), none, some (.int q37.1)]) (st' := [.long (q37.2.2.1 67 49), .int (q37.2.1 67 48), .ref 67]) (h' := q37.2) (sg1 rfl rfl (sg1 rfl rfl (sg1 rfl rfl (sg1 rfl rfl (sg1 rfl rfl rfl))))) ?_
        obtain ⟨q38, e_q38, hf⟩ := bnd hf
        refine Ex.callV (a := 67) (As := [.int (q37.2.1 67 48), .long (q37.2.2.1 67 49)]) (r := []) (v := none) (h' := q38) rfl rfl (by decide) rfl (Nat.le_of_ble_eq_true rfl) rfl (E_345 (Nat.le_trans (by decide) hd) e_q38) rfl ?_
        exact Ex.weak (sm_le_n (sm_le_n (sm_le_n (sm_le_n (sm_le_n (sm_le_n (sm_le_n (sm_le_n (sm_le_n (sm_le_n (sm_le_s (sm_le_n sm_le_nil)))))))))))) (B_377_252 hd  hf hs)
      · rw [if_neg c0] at hf
        refine Ex.seg 2 (pc' := 234) (lc' := [some (.ref 67), some (.int v20), some (.int v21), some (.int v22), some (.int q23.1), some (.int v24), some (.int v25), some (.int v26), some (.int v28), some (.long v29), none, some (.int q37.1)]) (st' := [.int q37.1, .ref 67]) (h' := q37.2) (sg1 rfl rfl (sg1 rfl rfl rfl)) ?_
        obtain ⟨q39, e_q39, hf⟩ := bnd hf
        refine Ex.callV (a := 67) (As := [.int q37.1]) (r := []) (v := none) (h' := q39) rfl rfl (by decide) rfl (Nat.le_of_ble_eq_true rfl) rfl (E_348 (Nat.le_trans (by decide) hd) e_q39) rfl ?_
        refine Ex.seg 1 (pc' := 252) (lc' := [some (.ref 67), some (.int v20), some (.int v21), some (.int v22), some (.int q23.1), some (.int v24), some (.int v25), some (.int v26), some (.int v28), some (.long v29), none, some (.int q37.1)]) (st' := []) (h' := q39) (sg1 rfl rfl rfl) ?_
        exact Ex.weak (sm_le_n (sm_le_n (sm_le_n (sm_le_n (sm_le_n (sm_le_n (sm_le_n (sm_le_n (sm_le_n (sm_le_n (sm_le_s (sm_le_n sm_le_nil)))))))))))) (B_377_252 hd  hf hs)
    rw [if_neg n2] at hf
    rcases Classical.em (v30 = 14) with n3 | n3
    · rw [if_pos n3] at hf
      refine Ex.swl (t := 253) rfl rfl (by rw [n3]; exact ⟨by decide, by decide⟩) ?_
      refine Ex.seg 6 (pc' := 263) (lc' := [some (.ref 67), some (.int v20), some (.int v21), some (.int v22), some (.int q23.1), some (.int v24), some (.int v25), some (.int v26), some (.int v28), some (.long v29), none, none]) (st' := [.int v20, .ref 106, .ref 96, .ref 67]) (h' := h27) (sg1 rfl rfl (sg1 rfl rfl (sg1 rfl rfl (sg1 rfl rfl (sg1 rfl rfl (sg1 rfl rfl rfl)))))) ?_
      obtain ⟨v40, e_v40, hf⟩ := bnd hf
      refine Ex.iald e_v40 rfl rfl ?_
      obtain ⟨v41, e_v41, hf⟩ := bnd hf
      refine Ex.iald e_v41 rfl rfl ?_
      refine Ex.seg 3 (pc' := 270) (lc' := [some (.ref 67), some (.int v20), some (.int v21), some (.int v22), some (.int q23.1), some (.int v24), some (.int v25), some (.int v26), some (.int v28), some (.long v29), none, none]) (st' := [.int v20, .ref 106, .int v41, .ref 67]) (h' := h27) (sg1 rfl rfl (sg1 rfl rfl (sg1 rfl rfl rfl))) ?_
      obtain ⟨v42, e_v42, hf⟩ := bnd hf
      refine Ex.iald e_v42 rfl rfl ?_
      refine Ex.seg 1 (pc' := 272) (lc' := [some (.ref 67), some (.int v20), some (.int v21), some (.int v22), some (.int q23.1), some (.int v24), some (.int v25), some (.int v26), some (.int v28), some (.long v29), none, none]) (st' := [.long (Int32.toInt64 v42), .int v41, .ref 67]) (h' := h27) (sg1 rfl rfl rfl) ?_
      obtain ⟨q43, e_q43, hf⟩ := bnd hf
      refine Ex.callV (a := 67) (As := [.int v41, .long (Int32.toInt64 v42)]) (r := []) (v := none) (h' := q43) rfl rfl (by decide) rfl (Nat.le_of_ble_eq_true rfl) rfl (E_345 (Nat.le_trans (by decide) hd) e_q43) rfl ?_
      obtain rfl := Option.some.inj hf
      exact Ex.vret rfl rfl hs
    rw [if_neg n3] at hf
    rcases Classical.em (v30 = 20) with n4 | n4
    · rw [if_pos n4] at hf
      refine Ex.swl (t := 276) rfl rfl (by rw [n4]; exact ⟨by decide, by decide⟩) ?_
      exact Ex.weak (sm_le_s (sm_le_s (sm_le_s (sm_le_n (sm_le_n (sm_le_n (sm_le_n (sm_le_n (sm_le_n (sm_le_n (sm_le_s (sm_le_s sm_le_nil)))))))))))) (B_377_276 hd  hf hs)
    rw [if_neg n4] at hf
    rcases Classical.em (v30 = 21) with n5 | n5
    · rw [if_pos n5] at hf
      refine Ex.swl (t := 276) rfl rfl (by rw [n5]; exact ⟨by decide, by decide⟩) ?_
      exact Ex.weak (sm_le_s (sm_le_s (sm_le_s (sm_le_n (sm_le_n (sm_le_n (sm_le_n (sm_le_n (sm_le_n (sm_le_n (sm_le_s (sm_le_s sm_le_nil)))))))))))) (B_377_276 hd  hf hs)
    rw [if_neg n5] at hf
    rcases Classical.em (v30 = 22) with n6 | n6
    · rw [if_pos n6] at hf
      refine Ex.swl (t := 276) rfl rfl (by rw [n6]; exact ⟨by decide, by decide⟩) ?_
      exact Ex.weak (sm_le_s (sm_le_s (sm_le_s (sm_le_n (sm_le_n (sm_le_n (sm_le_n (sm_le_n (sm_le_n (sm_le_n (sm_le_s (sm_le_s sm_le_nil)))))))))))) (B_377_276 hd  hf hs)
    rw [if_neg n6] at hf
    rcases Classical.em (v30 = 90) with n7 | n7
    · rw [if_pos n7] at hf
      refine Ex.swl (t := 168) rfl rfl (by rw [n7]; exact ⟨by decide, by decide⟩) ?_
      refine Ex.seg 3 (pc' := 173) (lc' := [some (.ref 67), some (.int v20), some (.int v21), some (.int v22), some (.int q23.1), some (.int v24), some (.int v25), some (.int v26), some (.int v28), some (.long v29), none, none]) (st' := [.long v29, .int v28, .ref 67]) (h' := h27) (sg1 rfl rfl (sg1 rfl rfl (sg1 rfl rfl rfl))) ?_
      obtain ⟨q44, e_q44, hf⟩ := bnd hf
      refine Ex.callV (a := 67) (As := [.int v28, .long v29]) (r := []) (v := none) (h' := q44) rfl rfl (by decide) rfl (Nat.le_of_ble_eq_true rfl) rfl (E_345 (Nat.le_trans (by decide) hd) e_q44) rfl ?_
      obtain rfl := Option.some.inj hf
      exact Ex.vret rfl rfl hs
    rw [if_neg n7] at hf
    refine Ex.swl (t := 283) rfl rfl ?_ ?_
    · refine ⟨by decide, ?_⟩
      have m1 : ¬ Int32.toInt v30 = 2 := fun z => n1 (Int32.toInt_inj.mp (z.trans (by decide : (_ : Int) = Int32.toInt 2)))
      have m2 : ¬ Int32.toInt v30 = 12 := fun z => n2 (Int32.toInt_inj.mp (z.trans (by decide : (_ : Int) = Int32.toInt 12)))
      have m3 : ¬ Int32.toInt v30 = 14 := fun z => n3 (Int32.toInt_inj.mp (z.trans (by decide : (_ : Int) = Int32.toInt 14)))
      have m4 : ¬ Int32.toInt v30 = 20 := fun z => n4 (Int32.toInt_inj.mp (z.trans (by decide : (_ : Int) = Int32.toInt 20)))
      have m5 : ¬ Int32.toInt v30 = 21 := fun z => n5 (Int32.toInt_inj.mp (z.trans (by decide : (_ : Int) = Int32.toInt 21)))
      have m6 : ¬ Int32.toInt v30 = 22 := fun z => n6 (Int32.toInt_inj.mp (z.trans (by decide : (_ : Int) = Int32.toInt 22)))
      have m7 : ¬ Int32.toInt v30 = 90 := fun z => n7 (Int32.toInt_inj.mp (z.trans (by decide : (_ : Int) = Int32.toInt 90)))
      simp [Op.lookupswitch.offset]
      rw [if_neg (fun z => m1 z.symm), if_neg (fun z => m2 z.symm), if_neg (fun z => m3 z.symm), if_neg (fun z => m4 z.symm), if_neg (fun z => m5 z.symm), if_neg (fun z => m6 z.symm), if_neg (fun z => m7 z.symm)]
      all_goals decide
    refine Ex.seg 3 (pc' := 288) (lc' := [some (.ref 67), some (.int v20), some (.int v21), some (.int v22), some (.int q23.1), some (.int v24), some (.int v25), some (.int v26), some (.int v28), some (.long v29), none, none]) (st' := [.int v21, .ref 75]) (h' := h27) (sg1 rfl rfl (sg1 rfl rfl (sg1 rfl rfl rfl))) ?_
    obtain ⟨v45, e_v45, hf⟩ := bnd hf
    refine Ex.iald e_v45 rfl rfl ?_
    rcases Classical.em (v45 = 7) with n1 | n1
    · rw [if_pos n1] at hf
      refine Ex.swt (t := 344) rfl rfl (by rw [n1]; exact Or.inr ⟨by decide, by decide, _, rfl, by decide⟩) ?_
      refine Ex.seg 5 (pc' := 350) (lc' := [some (.ref 67), some (.int v20), some (.int v21), some (.int v22), some (.int q23.1), some (.int v24), some (.int v25), some (.int v26), some (.int v28), some (.long v29), none, none]) (st' := [.int (v22 + v24), .int v22, .ref 67]) (h' := h27) (sg1 rfl rfl (sg1 rfl rfl (sg1 rfl rfl (sg1 rfl rfl (sg1 rfl rfl rfl))))) ?_
      obtain ⟨q46, e_q46, hf⟩ := bnd hf
      refine Ex.callV (a := 67) (As := [.int v22, .int (v22 + v24)]) (r := []) (v := none) (h' := q46) rfl rfl (by decide) rfl (Nat.le_of_ble_eq_true rfl) rfl (E_343 (Nat.le_trans (by decide) hd) e_q46) rfl ?_
      refine Ex.seg 2 (pc' := 356) (lc' := [some (.ref 67), some (.int v20), some (.int v21), some (.int v22), some (.int q23.1), some (.int v24), some (.int v25), some (.int v26), some (.int v28), some (.long v29), none, none]) (st' := [.int v26, .ref 67]) (h' := q46) (sg1 rfl rfl (sg1 rfl rfl rfl)) ?_
      obtain ⟨q47, e_q47, hf⟩ := bnd hf
      refine Ex.callV (a := 67) (As := [.int v26]) (r := []) (v := some (.int q47.1)) (h' := q47.2) rfl rfl (by decide) rfl (Nat.le_of_ble_eq_true rfl) rfl (E_307 (Nat.le_trans (by decide) hd) e_q47) rfl ?_
      refine Ex.ifc rfl rfl (fun (c0 : q47.1 = 0) => ?_) (fun (c0 : ¬ (q47.1 = 0)) => ?_)
      · rw [if_pos c0] at hf
        exact Ex.weak (sm_le_s (sm_le_n (sm_le_n (sm_le_s (sm_le_s (sm_le_s (sm_le_s (sm_le_s (sm_le_n (sm_le_n (sm_le_s (sm_le_s sm_le_nil)))))))))))) (B_377_370 hd  hf hs)
      · rw [if_neg c0] at hf
        refine Ex.seg 3 (pc' := 367) (lc' := [some (.ref 67), some (.int v20), some (.int v21), some (.int v22), some (.int q23.1), some (.int v24), some (.int v25), some (.int v26), some (.int v28), some (.long v29), none, none]) (st' := [.long v29, .int v28, .ref 67]) (h' := q47.2) (sg1 rfl rfl (sg1 rfl rfl (sg1 rfl rfl rfl))) ?_
        obtain ⟨q48, e_q48, hf⟩ := bnd hf
        refine Ex.callV (a := 67) (As := [.int v28, .long v29]) (r := []) (v := none) (h' := q48) rfl rfl (by decide) rfl (Nat.le_of_ble_eq_true rfl) rfl (E_342 (Nat.le_trans (by decide) hd) e_q48) rfl ?_
        exact Ex.weak (sm_le_s (sm_le_n (sm_le_n (sm_le_s (sm_le_s (sm_le_s (sm_le_s (sm_le_s (sm_le_n (sm_le_n (sm_le_s (sm_le_s sm_le_nil)))))))))))) (B_377_370 hd  hf hs)
    rw [if_neg n1] at hf
    rcases Classical.em (v45 = 8) with n2 | n2
    · rw [if_pos n2] at hf
      refine Ex.swt (t := 396) rfl rfl (by rw [n2]; exact Or.inr ⟨by decide, by decide, _, rfl, by decide⟩) ?_
      refine Ex.seg 5 (pc' := 402) (lc' := [some (.ref 67), some (.int v20), some (.int v21), some (.int v22), some (.int q23.1), some (.int v24), some (.int v25), some (.int v26), some (.int v28), some (.long v29), none, none]) (st' := [.int (v22 + v24), .int v22, .ref 67]) (h' := h27) (sg1 rfl rfl (sg1 rfl rfl (sg1 rfl rfl (sg1 rfl rfl (sg1 rfl rfl rfl))))) ?_
      obtain ⟨q49, e_q49, hf⟩ := bnd hf
      refine Ex.callV (a := 67) (As := [.int v22, .int (v22 + v24)]) (r := []) (v := none) (h' := q49) rfl rfl (by decide) rfl (Nat.le_of_ble_eq_true rfl) rfl (E_343 (Nat.le_trans (by decide) hd) e_q49) rfl ?_
      refine Ex.seg 2 (pc' := 408) (lc' := [some (.ref 67), some (.int v20), some (.int v21), some (.int v22), some (.int q23.1), some (.int v24), some (.int v25), some (.int v26), some (.int v28), some (.long v29), none, none]) (st' := [.int v26, .ref 67]) (h' := q49) (sg1 rfl rfl (sg1 rfl rfl rfl)) ?_
      obtain ⟨q50, e_q50, hf⟩ := bnd hf
      refine Ex.callV (a := 67) (As := [.int v26]) (r := []) (v := some (.int q50.1)) (h' := q50.2) rfl rfl (by decide) rfl (Nat.le_of_ble_eq_true rfl) rfl (E_307 (Nat.le_trans (by decide) hd) e_q50) rfl ?_
      refine Ex.ifc rfl rfl (fun (c0 : q50.1 = 0) => ?_) (fun (c0 : ¬ (q50.1 = 0)) => ?_)
      · rw [if_pos c0] at hf
        exact Ex.weak (sm_le_s (sm_le_n (sm_le_n (sm_le_s (sm_le_s (sm_le_s (sm_le_s (sm_le_n (sm_le_n (sm_le_n (sm_le_s (sm_le_s sm_le_nil)))))))))))) (B_377_422 hd  hf hs)
      · rw [if_neg c0] at hf
        refine Ex.seg 3 (pc' := 419) (lc' := [some (.ref 67), some (.int v20), some (.int v21), some (.int v22), some (.int q23.1), some (.int v24), some (.int v25), some (.int v26), some (.int v28), some (.long v29), none, none]) (st' := [.long v29, .int v28, .ref 67]) (h' := q50.2) (sg1 rfl rfl (sg1 rfl rfl (sg1 rfl rfl rfl))) ?_
        obtain ⟨q51, e_q51, hf⟩ := bnd hf
        refine Ex.callV (a := 67) (As := [.int v28, .long v29]) (r := []) (v := none) (h' := q51) rfl rfl (by decide) rfl (Nat.le_of_ble_eq_true rfl) rfl (E_342 (Nat.le_trans (by decide) hd) e_q51) rfl ?_
        exact Ex.weak (sm_le_s (sm_le_n (sm_le_n (sm_le_s (sm_le_s (sm_le_s (sm_le_s (sm_le_n (sm_le_n (sm_le_n (sm_le_s (sm_le_s sm_le_nil)))))))))))) (B_377_422 hd  hf hs)
    rw [if_neg n2] at hf
    rcases Classical.em (v45 = 9) with n3 | n3
    · rw [if_pos n3] at hf
      refine Ex.swt (t := 441) rfl rfl (by rw [n3]; exact Or.inr ⟨by decide, by decide, _, rfl, by decide⟩) ?_
      refine Ex.seg 2 (pc' := 444) (lc' := [some (.ref 67), some (.int v20), some (.int v21), some (.int v22), some (.int q23.1), some (.int v24), some (.int v25), some (.int v26), some (.int v28), some (.long v29), none, none]) (st' := [.int v25, .ref 67]) (h' := h27) (sg1 rfl rfl (sg1 rfl rfl rfl)) ?_
      obtain ⟨q52, e_q52, hf⟩ := bnd hf
      refine Ex.callV (a := 67) (As := [.int v25]) (r := []) (v := some (.int q52.1)) (h' := q52.2) rfl rfl (by decide) rfl (Nat.le_of_ble_eq_true rfl) rfl (E_307 (Nat.le_trans (by decide) hd) e_q52) rfl ?_
      refine Ex.ifc rfl rfl (fun (c0 : q52.1 = 0) => ?_) (fun (c0 : ¬ (q52.1 = 0)) => ?_)
      · rw [if_pos c0] at hf
        exact Ex.weak (sm_le_s (sm_le_n (sm_le_n (sm_le_n (sm_le_n (sm_le_n (sm_le_n (sm_le_s (sm_le_n (sm_le_n (sm_le_s (sm_le_s sm_le_nil)))))))))))) (B_377_458 hd  hf hs)
      · rw [if_neg c0] at hf
        refine Ex.seg 3 (pc' := 455) (lc' := [some (.ref 67), some (.int v20), some (.int v21), some (.int v22), some (.int q23.1), some (.int v24), some (.int v25), some (.int v26), some (.int v28), some (.long v29), none, none]) (st' := [.long v29, .int v28, .ref 67]) (h' := q52.2) (sg1 rfl rfl (sg1 rfl rfl (sg1 rfl rfl rfl))) ?_
        obtain ⟨q53, e_q53, hf⟩ := bnd hf
        refine Ex.callV (a := 67) (As := [.int v28, .long v29]) (r := []) (v := none) (h' := q53) rfl rfl (by decide) rfl (Nat.le_of_ble_eq_true rfl) rfl (E_342 (Nat.le_trans (by decide) hd) e_q53) rfl ?_
        exact Ex.weak (sm_le_s (sm_le_n (sm_le_n (sm_le_n (sm_le_n (sm_le_n (sm_le_n (sm_le_s (sm_le_n (sm_le_n (sm_le_s (sm_le_s sm_le_nil)))))))))))) (B_377_458 hd  hf hs)
    rw [if_neg n3] at hf
    rcases Classical.em (v45 = 12) with n4 | n4
    · rw [if_pos n4] at hf
      refine Ex.swt (t := 465) rfl rfl (by rw [n4]; exact Or.inr ⟨by decide, by decide, _, rfl, by decide⟩) ?_
      exact Ex.weak (sm_le_s (sm_le_n (sm_le_s (sm_le_n (sm_le_n (sm_le_n (sm_le_s (sm_le_n (sm_le_s (sm_le_s (sm_le_s (sm_le_s sm_le_nil)))))))))))) (B_377_465 hd  hf hs)
    rw [if_neg n4] at hf
    rcases Classical.em (v45 = 13) with n5 | n5
    · rw [if_pos n5] at hf
      refine Ex.swt (t := 465) rfl rfl (by rw [n5]; exact Or.inr ⟨by decide, by decide, _, rfl, by decide⟩) ?_
      exact Ex.weak (sm_le_s (sm_le_n (sm_le_s (sm_le_n (sm_le_n (sm_le_n (sm_le_s (sm_le_n (sm_le_s (sm_le_s (sm_le_s (sm_le_s sm_le_nil)))))))))))) (B_377_465 hd  hf hs)
    rw [if_neg n5] at hf
    rcases Classical.em (v45 = 14) with n6 | n6
    · rw [if_pos n6] at hf
      refine Ex.swt (t := 529) rfl rfl (by rw [n6]; exact Or.inr ⟨by decide, by decide, _, rfl, by decide⟩) ?_
      refine Ex.seg 5 (pc' := 535) (lc' := [some (.ref 67), some (.int v20), some (.int v21), some (.int v22), some (.int q23.1), some (.int v24), some (.int v25), some (.int v26), some (.int v28), some (.long v29), none, none]) (st' := [.int (v22 + q23.1), .int v22, .ref 67]) (h' := h27) (sg1 rfl rfl (sg1 rfl rfl (sg1 rfl rfl (sg1 rfl rfl (sg1 rfl rfl rfl))))) ?_
      obtain ⟨q54, e_q54, hf⟩ := bnd hf
      refine Ex.callV (a := 67) (As := [.int v22, .int (v22 + q23.1)]) (r := []) (v := none) (h' := q54) rfl rfl (by decide) rfl (Nat.le_of_ble_eq_true rfl) rfl (E_343 (Nat.le_trans (by decide) hd) e_q54) rfl ?_
      refine Ex.seg 4 (pc' := 543) (lc' := [some (.ref 67), some (.int v20), some (.int v21), some (.int v22), some (.int q23.1), some (.int v24), some (.int v25), some (.int v26), some (.int v28), some (.long v29), none, none]) (st' := [.int (lg_cmp v29 1), .ref 67]) (h' := q54) (sg1 rfl rfl (sg1 rfl rfl (sg1 rfl rfl (sg1 rfl rfl rfl)))) ?_
      refine Ex.ifc rfl rfl (fun (c0 : ¬ ((lg_cmp v29 1) = 0)) => ?_) (fun (c0 : ¬ ¬ ((lg_cmp v29 1) = 0)) => ?_)
      · rw [if_neg c0] at hf
        refine Ex.seg 7 (pc' := 561) (lc' := [some (.ref 67), some (.int v20), some (.int v21), some (.int v22), some (.int q23.1), some (.int v24), some (.int v25), some (.int v26), some (.int v28), some (.long v29), none, none]) (st' := [.int ((24 * v21) + 2), .ref 81, .ref 67]) (h' := q54) (sg1 rfl rfl (sg1 rfl rfl (sg1 rfl rfl (sg1 rfl rfl (sg1 rfl rfl (sg1 rfl rfl (sg1 rfl rfl rfl))))))) ?_
        obtain ⟨v55, e_v55, hf⟩ := bnd hf
        refine Ex.iald e_v55 rfl rfl ?_
        exact Ex.weak (sm_le_n (sm_le_n (sm_le_n (sm_le_n (sm_le_n (sm_le_n (sm_le_n (sm_le_n (sm_le_n (sm_le_n (sm_le_s (sm_le_s sm_le_nil)))))))))))) (B_377_562 hd  hf hs)
      · rw [if_pos (Classical.not_not.mp c0)] at hf
        refine Ex.seg 2 (pc' := 562) (lc' := [some (.ref 67), some (.int v20), some (.int v21), some (.int v22), some (.int q23.1), some (.int v24), some (.int v25), some (.int v26), some (.int v28), some (.long v29), none, none]) (st' := [.int v26, .ref 67]) (h' := q54) (sg1 rfl rfl (sg1 rfl rfl rfl)) ?_
        exact Ex.weak (sm_le_n (sm_le_n (sm_le_n (sm_le_n (sm_le_n (sm_le_n (sm_le_n (sm_le_n (sm_le_n (sm_le_n (sm_le_s (sm_le_s sm_le_nil)))))))))))) (B_377_562 hd  hf hs)
    rw [if_neg n6] at hf
    rcases Classical.em (v45 = 16) with n7 | n7
    · rw [if_pos n7] at hf
      refine Ex.swt (t := 566) rfl rfl (by rw [n7]; exact Or.inr ⟨by decide, by decide, _, rfl, by decide⟩) ?_
      refine Ex.seg 3 (pc' := 569) (lc' := [some (.ref 67), some (.int v20), some (.int v21), some (.int v22), some (.int q23.1), some (.int v24), some (.int v25), some (.int v26), some (.int v28), some (.long v29), none, none]) (st' := [.long 0, .int 0, .ref 67]) (h' := h27) (sg1 rfl rfl (sg1 rfl rfl (sg1 rfl rfl rfl))) ?_
      obtain ⟨q56, e_q56, hf⟩ := bnd hf
      refine Ex.callV (a := 67) (As := [.int 0, .long 0]) (r := []) (v := none) (h' := q56) rfl rfl (by decide) rfl (Nat.le_of_ble_eq_true rfl) rfl (E_342 (Nat.le_trans (by decide) hd) e_q56) rfl ?_
      refine Ex.seg 2 (pc' := 574) (lc' := [some (.ref 67), some (.int v20), some (.int v21), some (.int v22), some (.int q23.1), some (.int v24), some (.int v25), some (.int v26), some (.int v28), some (.long v29), none, none]) (st' := [.int v21, .ref 67]) (h' := q56) (sg1 rfl rfl (sg1 rfl rfl rfl)) ?_
      obtain ⟨q57, e_q57, hf⟩ := bnd hf
      refine Ex.callV (a := 67) (As := [.int v21]) (r := []) (v := some (.int q57.1)) (h' := q57.2) rfl rfl (by decide) rfl (Nat.le_of_ble_eq_true rfl) rfl (E_307 (Nat.le_trans (by decide) hd) e_q57) rfl ?_
      refine Ex.ifc rfl rfl (fun (c0 : q57.1 = 0) => ?_) (fun (c0 : ¬ (q57.1 = 0)) => ?_)
      · rw [if_pos c0] at hf
        exact Ex.weak (sm_le_s (sm_le_n (sm_le_s (sm_le_s (sm_le_n (sm_le_n (sm_le_n (sm_le_s (sm_le_n (sm_le_n (sm_le_s (sm_le_s sm_le_nil)))))))))))) (B_377_588 hd  hf hs)
      · rw [if_neg c0] at hf
        refine Ex.seg 3 (pc' := 585) (lc' := [some (.ref 67), some (.int v20), some (.int v21), some (.int v22), some (.int q23.1), some (.int v24), some (.int v25), some (.int v26), some (.int v28), some (.long v29), none, none]) (st' := [.long v29, .int v28, .ref 67]) (h' := q57.2) (sg1 rfl rfl (sg1 rfl rfl (sg1 rfl rfl rfl))) ?_
        obtain ⟨q58, e_q58, hf⟩ := bnd hf
        refine Ex.callV (a := 67) (As := [.int v28, .long v29]) (r := []) (v := none) (h' := q58) rfl rfl (by decide) rfl (Nat.le_of_ble_eq_true rfl) rfl (E_342 (Nat.le_trans (by decide) hd) e_q58) rfl ?_
        exact Ex.weak (sm_le_s (sm_le_n (sm_le_s (sm_le_s (sm_le_n (sm_le_n (sm_le_n (sm_le_s (sm_le_n (sm_le_n (sm_le_s (sm_le_s sm_le_nil)))))))))))) (B_377_588 hd  hf hs)
    rw [if_neg n7] at hf
    refine Ex.swt (t := 622) rfl rfl (sw_dflt (by decide) (by decide) (fun k hk he => ?_)) ?_
    · have hk : k < 10 := hk
      rcases (show k = 0 ∨ k = 1 ∨ k = 2 ∨ k = 3 ∨ k = 4 ∨ k = 5 ∨ k = 6 ∨ k = 7 ∨ k = 8 ∨ k = 9 by omega) with rfl | rfl | rfl | rfl | rfl | rfl | rfl | rfl | rfl | rfl
      · exact absurd (Int32.toInt_inj.mp (he.symm.trans (by decide : (_ : Int) = Int32.toInt 7))) n1
      · exact absurd (Int32.toInt_inj.mp (he.symm.trans (by decide : (_ : Int) = Int32.toInt 8))) n2
      · exact absurd (Int32.toInt_inj.mp (he.symm.trans (by decide : (_ : Int) = Int32.toInt 9))) n3
      · rfl
      · rfl
      · exact absurd (Int32.toInt_inj.mp (he.symm.trans (by decide : (_ : Int) = Int32.toInt 12))) n4
      · exact absurd (Int32.toInt_inj.mp (he.symm.trans (by decide : (_ : Int) = Int32.toInt 13))) n5
      · exact absurd (Int32.toInt_inj.mp (he.symm.trans (by decide : (_ : Int) = Int32.toInt 14))) n6
      · rfl
      · exact absurd (Int32.toInt_inj.mp (he.symm.trans (by decide : (_ : Int) = Int32.toInt 16))) n7
    exact Ex.weak (sm_le_s (sm_le_n (sm_le_n (sm_le_n (sm_le_n (sm_le_n (sm_le_n (sm_le_n (sm_le_s (sm_le_s (sm_le_s (sm_le_s sm_le_nil)))))))))))) (B_377_622 hd  hf hs)
  · rw [if_neg c0] at hf
    refine Ex.seg 5 (pc' := 78) (lc' := [some (.ref 67), some (.int v20), some (.int v21), some (.int v22), some (.int q23.1), some (.int v24), some (.int v25), some (.int v26), none, none, none, none]) (st' := [.int q23.1, .int v22, .int v21, .int v20, .ref 67]) (h' := h27) (sg1 rfl rfl (sg1 rfl rfl (sg1 rfl rfl (sg1 rfl rfl (sg1 rfl rfl rfl))))) ?_
    obtain ⟨q59, e_q59, hf⟩ := bnd hf
    refine Ex.callV (a := 67) (As := [.int v20, .int v21, .int v22, .int q23.1]) (r := []) (v := none) (h' := q59) rfl rfl (by decide) rfl (Nat.le_of_ble_eq_true rfl) rfl (E_378 (Nat.le_trans (by decide) hd) e_q59) rfl ?_
    obtain rfl := Option.some.inj hf
    exact Ex.vret rfl rfl hs
theorem E_377 {L : Nat} {xs : Nat → Int32} {d : Nat} (hd : 7 ≤ d)  {h : sm_H} {r : sm_H} (hf : F_377  h = some r) : RUN L xs d 377 [.ref 67] h (none, r) := by
  obtain ⟨d, rfl⟩ : ∃ e, d = e + 1 := ⟨d - 1, by omega⟩
  exact ⟨Nat.le_of_ble_eq_true rfl, B_377_0 (by omega) hf rfl⟩
theorem B_457_44 {L : Nat} {xs : Nat → Int32} {d : Nat} (hd : 12 ≤ d) {res : Option Value × sm_H}   {h : sm_H} {r : (Int32 × sm_H)} (hf : F_457_44  h = some r) (hs : (fun (r : Int32 × sm_H) => res = (some (.int r.1), r.2)) r) : Ex (P_G L xs) (RUN L xs d) (sm_lk P_t457) 3 44 [none, none, none] [] h res := by
  unfold F_457_44 at hf
  refine Ex.seg 1 (pc' := 45) (lc' := [none, none, none]) (st' := [.int 0]) (h' := h) (sg1 rfl rfl rfl) ?_
  obtain rfl := Option.some.inj hf
  exact Ex.iret rfl rfl (fun _ => by decide) hs
theorem B_457_0 {L : Nat} {xs : Nat → Int32} {d : Nat} (hd : 12 ≤ d) {res : Option Value × sm_H}   {h : sm_H} {r : (Int32 × sm_H)} (hf : F_457_0  h = some r) (hs : (fun (r : Int32 × sm_H) => res = (some (.int r.1), r.2)) r) : Ex (P_G L xs) (RUN L xs d) (sm_lk P_t457) 3 0 [some (.ref 67), none, none] [] h res := by
  unfold F_457_0 at hf
  refine Ex.seg 1 (pc' := 1) (lc' := [some (.ref 67), none, none]) (st' := [.ref 67]) (h' := h) (sg1 rfl rfl rfl) ?_
  obtain ⟨q1, e_q1, hf⟩ := bnd hf
  refine Ex.callV (a := 67) (As := []) (r := []) (v := some (.int q1.1)) (h' := q1.2) rfl rfl (by decide) rfl (Nat.le_of_ble_eq_true rfl) rfl (E_427 (Nat.le_trans (by decide) hd) e_q1) rfl ?_
  refine Ex.ifc rfl rfl (fun (c0 : ¬ (q1.1 = 0)) => ?_) (fun (c0 : ¬ ¬ (q1.1 = 0)) => ?_)
  · rw [if_neg c0] at hf
    refine Ex.seg 5 (pc' := 16) (lc' := [some (.ref 67), some (.int ((q1.2.1 67 102) - 1)), none]) (st' := []) (h' := q1.2) (sg1 rfl rfl (sg1 rfl rfl (sg1 rfl rfl (sg1 rfl rfl (sg1 rfl rfl rfl))))) ?_
    obtain ⟨v2, e_v2, hf⟩ := bnd hf
    rw [Option.some.inj e_v2]
    refine Ex.seg 4 (pc' := 22) (lc' := [some (.ref 67), some (.int v2), none]) (st' := [.int v2, .ref 120, .ref 67]) (h' := q1.2) (sg1 rfl rfl (sg1 rfl rfl (sg1 rfl rfl (sg1 rfl rfl rfl)))) ?_
    obtain ⟨v3, e_v3, hf⟩ := bnd hf
    refine Ex.iald e_v3 rfl rfl ?_
    refine Ex.seg 1 (pc' := 26) (lc' := [some (.ref 67), some (.int v2), none]) (st' := []) (h' := (sm_wI q1.2 67 106 v3)) (sg1 rfl rfl rfl) ?_
    obtain ⟨h4, e_h4, hf⟩ := bnd hf
    rw [Option.some.inj e_h4]
    refine Ex.seg 2 (pc' := 28) (lc' := [some (.ref 67), some (.int v2), none]) (st' := [.int v2, .ref 67]) (h' := h4) (sg1 rfl rfl (sg1 rfl rfl rfl)) ?_
    obtain ⟨q5, e_q5, hf⟩ := bnd hf
    refine Ex.callV (a := 67) (As := [.int v2]) (r := []) (v := some (.int q5.1)) (h' := q5.2) rfl rfl (by decide) rfl (Nat.le_of_ble_eq_true rfl) rfl (E_460 (Nat.le_trans (by decide) hd) e_q5) rfl ?_
    refine Ex.seg 3 (pc' := 34) (lc' := [some (.ref 67), some (.int v2), some (.int q5.1)]) (st' := [.int (-1), .int q5.1]) (h' := q5.2) (sg1 rfl rfl (sg1 rfl rfl (sg1 rfl rfl rfl))) ?_
    refine Ex.icmp rfl rfl (fun (c0 : q5.1 = (-1)) => ?_) (fun (c0 : ¬ (q5.1 = (-1))) => ?_)
    · rw [if_pos c0] at hf
      exact Ex.weak (sm_le_n (sm_le_n (sm_le_n sm_le_nil))) (B_457_44 hd  hf hs)
    · rw [if_neg c0] at hf
      refine Ex.seg 2 (pc' := 41) (lc' := [some (.ref 67), some (.int v2), some (.int q5.1)]) (st' := [.int (q5.2.1 67 77)]) (h' := q5.2) (sg1 rfl rfl (sg1 rfl rfl rfl)) ?_
      refine Ex.ifc rfl rfl (fun (c0 : (q5.2.1 67 77) = 0) => ?_) (fun (c0 : ¬ ((q5.2.1 67 77) = 0)) => ?_)
      · rw [if_pos c0] at hf
        refine Ex.seg 6 (pc' := 56) (lc' := [some (.ref 67), some (.int v2), some (.int q5.1)]) (st' := []) (h' := (sm_wI q5.2 67 102 ((q5.2.1 67 102) - 1))) (sg1 rfl rfl (sg1 rfl rfl (sg1 rfl rfl (sg1 rfl rfl (sg1 rfl rfl (sg1 rfl rfl rfl)))))) ?_
        obtain ⟨h6, e_h6, hf⟩ := bnd hf
        rw [Option.some.inj e_h6]
        refine Ex.seg 4 (pc' := 62) (lc' := [some (.ref 67), some (.int v2), some (.int q5.1)]) (st' := [.int v2, .ref 123, .ref 67]) (h' := h6) (sg1 rfl rfl (sg1 rfl rfl (sg1 rfl rfl (sg1 rfl rfl rfl)))) ?_
        obtain ⟨v7, e_v7, hf⟩ := bnd hf
        refine Ex.iald e_v7 rfl rfl ?_
        refine Ex.seg 1 (pc' := 66) (lc' := [some (.ref 67), some (.int v2), some (.int q5.1)]) (st' := []) (h' := (sm_wI h6 67 94 v7)) (sg1 rfl rfl rfl) ?_
        obtain ⟨h8, e_h8, hf⟩ := bnd hf
        rw [Option.some.inj e_h8]
        refine Ex.seg 2 (pc' := 68) (lc' := [some (.ref 67), some (.int v2), some (.int q5.1)]) (st' := [.int q5.1, .ref 67]) (h' := h8) (sg1 rfl rfl (sg1 rfl rfl rfl)) ?_
        obtain ⟨q9, e_q9, hf⟩ := bnd hf
        refine Ex.callV (a := 67) (As := [.int q5.1]) (r := []) (v := some (.int q9.1)) (h' := q9.2) rfl rfl (by decide) rfl (Nat.le_of_ble_eq_true rfl) rfl (E_447 (Nat.le_trans (by decide) hd) e_q9) rfl ?_
        rcases Classical.em (q9.1 = 0 ∨ q9.1 = 1) with c0 | c0
        · rw [if_pos c0] at hf
          obtain rfl := Option.some.inj hf
          exact Ex.iret rfl rfl (fun _ => c0) hs
        · rw [if_neg c0] at hf
          cases hf
      · rw [if_neg c0] at hf
        exact Ex.weak (sm_le_n (sm_le_n (sm_le_n sm_le_nil))) (B_457_44 hd  hf hs)
  · rw [if_pos (Classical.not_not.mp c0)] at hf
    refine Ex.seg 1 (pc' := 8) (lc' := [some (.ref 67), none, none]) (st' := [.int 0]) (h' := q1.2) (sg1 rfl rfl rfl) ?_
    obtain rfl := Option.some.inj hf
    exact Ex.iret rfl rfl (fun _ => by decide) hs
theorem E_457 {L : Nat} {xs : Nat → Int32} {d : Nat} (hd : 13 ≤ d)  {h : sm_H} {r : Int32 × sm_H} (hf : F_457  h = some r) : RUN L xs d 457 [.ref 67] h (some (.int r.1), r.2) := by
  obtain ⟨d, rfl⟩ : ∃ e, d = e + 1 := ⟨d - 1, by omega⟩
  exact ⟨Nat.le_of_ble_eq_true rfl, B_457_0 (by omega) hf rfl⟩
theorem B_370_977 {L : Nat} {xs : Nat → Int32} {d : Nat} (hd : 5 ≤ d) {res : Option Value × sm_H} {z1 : Int32}  {h : sm_H} {r : (sm_H)} (hf : F_370_977 z1 h = some r) (hs : (fun (r : sm_H) => res = (none, r)) r) : Ex (P_G L xs) (RUN L xs d) (sm_lk P_t370) 0 977 [none, none, none, none, none, none, none, none, none, none, none] [.int z1, .ref 67] h res := by
  unfold F_370_977 at hf
  obtain ⟨q1, e_q1, hf⟩ := bnd hf
  refine Ex.callV (a := 67) (As := [.int z1]) (r := []) (v := none) (h' := q1) rfl rfl (by decide) rfl (Nat.le_of_ble_eq_true rfl) rfl (E_368 (Nat.le_trans (by decide) hd) e_q1) rfl ?_
  obtain rfl := Option.some.inj hf
  exact Ex.vret rfl rfl hs
theorem B_370_926 {L : Nat} {xs : Nat → Int32} {d : Nat} (hd : 5 ≤ d) {res : Option Value × sm_H}   {h : sm_H} {r : (sm_H)} (hf : F_370_926  h = some r) (hs : (fun (r : sm_H) => res = (none, r)) r) : Ex (P_G L xs) (RUN L xs d) (sm_lk P_t370) 0 926 [none, none, none, none, none, none, none, none, none, none, none] [] h res := by
  unfold F_370_926 at hf
  obtain rfl := Option.some.inj hf
  exact Ex.vret rfl rfl hs
theorem B_370_923 {L : Nat} {xs : Nat → Int32} {d : Nat} (hd : 5 ≤ d) {res : Option Value × sm_H} {z1 : Int32} {z2 : Int64}  {h : sm_H} {r : (sm_H)} (hf : F_370_923 z1 z2 h = some r) (hs : (fun (r : sm_H) => res = (none, r)) r) : Ex (P_G L xs) (RUN L xs d) (sm_lk P_t370) 0 923 [none, none, none, none, none, none, none, none, none, none, none] [.long z2, .int z1, .ref 67] h res := by
  unfold F_370_923 at hf
  obtain ⟨q2, e_q2, hf⟩ := bnd hf
  refine Ex.callV (a := 67) (As := [.int z1, .long z2]) (r := []) (v := none) (h' := q2) rfl rfl (by decide) rfl (Nat.le_of_ble_eq_true rfl) rfl (E_345 (Nat.le_trans (by decide) hd) e_q2) rfl ?_
  exact Ex.weak (sm_le_s (sm_le_s (sm_le_s (sm_le_s (sm_le_s (sm_le_s (sm_le_s (sm_le_s (sm_le_s (sm_le_s (sm_le_s sm_le_nil))))))))))) (B_370_926 hd  hf hs)
theorem B_370_882 {L : Nat} {xs : Nat → Int32} {d : Nat} (hd : 5 ≤ d) {res : Option Value × sm_H} {z1 : Int32} {z2 : Int64}  {h : sm_H} {r : (sm_H)} (hf : F_370_882 z1 z2 h = some r) (hs : (fun (r : sm_H) => res = (none, r)) r) : Ex (P_G L xs) (RUN L xs d) (sm_lk P_t370) 0 882 [none, none, none, none, none, none, none, none, none, none, none] [.long z2, .int z1, .ref 67] h res := by
  unfold F_370_882 at hf
  obtain ⟨q3, e_q3, hf⟩ := bnd hf
  refine Ex.callV (a := 67) (As := [.int z1, .long z2]) (r := []) (v := none) (h' := q3) rfl rfl (by decide) rfl (Nat.le_of_ble_eq_true rfl) rfl (E_345 (Nat.le_trans (by decide) hd) e_q3) rfl ?_
  obtain rfl := Option.some.inj hf
  exact Ex.vret rfl rfl hs
theorem B_370_881 {L : Nat} {xs : Nat → Int32} {d : Nat} (hd : 5 ≤ d) {res : Option Value × sm_H} {z1 : Int32}  {h : sm_H} {r : (sm_H)} (hf : F_370_881 z1 h = some r) (hs : (fun (r : sm_H) => res = (none, r)) r) : Ex (P_G L xs) (RUN L xs d) (sm_lk P_t370) 0 881 [none, none, none, none, none, none, none, none, none, none, none] [.int z1, .ref 67] h res := by
  unfold F_370_881 at hf
  refine Ex.seg 1 (pc' := 882) (lc' := [none, none, none, none, none, none, none, none, none, none, none]) (st' := [.long 0, .int z1, .ref 67]) (h' := h) (sg1 rfl rfl rfl) ?_
  exact Ex.weak (sm_le_s (sm_le_s (sm_le_s (sm_le_s (sm_le_s (sm_le_s (sm_le_s (sm_le_s (sm_le_s (sm_le_s (sm_le_s sm_le_nil))))))))))) (B_370_882 hd  hf hs)
theorem B_370_877 {L : Nat} {xs : Nat → Int32} {d : Nat} (hd : 5 ≤ d) {res : Option Value × sm_H} {z1 : Int32}  {h : sm_H} {r : (sm_H)} (hf : F_370_877 z1 h = some r) (hs : (fun (r : sm_H) => res = (none, r)) r) : Ex (P_G L xs) (RUN L xs d) (sm_lk P_t370) 0 877 [none, none, none, none, none, none, none, none, none, none, none] [.int z1, .ref 67] h res := by
  unfold F_370_877 at hf
  refine Ex.seg 2 (pc' := 882) (lc' := [none, none, none, none, none, none, none, none, none, none, none]) (st' := [.long 1, .int z1, .ref 67]) (h' := h) (sg1 rfl rfl (sg1 rfl rfl rfl)) ?_
  exact Ex.weak (sm_le_s (sm_le_s (sm_le_s (sm_le_s (sm_le_s (sm_le_s (sm_le_s (sm_le_s (sm_le_s (sm_le_s (sm_le_s sm_le_nil))))))))))) (B_370_882 hd  hf hs)
theorem B_370_836 {L : Nat} {xs : Nat → Int32} {d : Nat} (hd : 5 ≤ d) {res : Option Value × sm_H} {z1 : Int32} {z2 : Int64}  {h : sm_H} {r : (sm_H)} (hf : F_370_836 z1 z2 h = some r) (hs : (fun (r : sm_H) => res = (none, r)) r) : Ex (P_G L xs) (RUN L xs d) (sm_lk P_t370) 0 836 [none, none, none, none, none, none, none, none, none, none, none] [.long z2, .int z1, .ref 67] h res := by
  unfold F_370_836 at hf
  obtain ⟨q4, e_q4, hf⟩ := bnd hf
  refine Ex.callV (a := 67) (As := [.int z1, .long z2]) (r := []) (v := none) (h' := q4) rfl rfl (by decide) rfl (Nat.le_of_ble_eq_true rfl) rfl (E_345 (Nat.le_trans (by decide) hd) e_q4) rfl ?_
  obtain rfl := Option.some.inj hf
  exact Ex.vret rfl rfl hs
theorem B_370_835 {L : Nat} {xs : Nat → Int32} {d : Nat} (hd : 5 ≤ d) {res : Option Value × sm_H} {z1 : Int32}  {h : sm_H} {r : (sm_H)} (hf : F_370_835 z1 h = some r) (hs : (fun (r : sm_H) => res = (none, r)) r) : Ex (P_G L xs) (RUN L xs d) (sm_lk P_t370) 0 835 [none, none, none, none, none, none, none, none, none, none, none] [.int z1, .ref 67] h res := by
  unfold F_370_835 at hf
  refine Ex.seg 1 (pc' := 836) (lc' := [none, none, none, none, none, none, none, none, none, none, none]) (st' := [.long 0, .int z1, .ref 67]) (h' := h) (sg1 rfl rfl rfl) ?_
  exact Ex.weak (sm_le_s (sm_le_s (sm_le_s (sm_le_s (sm_le_s (sm_le_s (sm_le_s (sm_le_s (sm_le_s (sm_le_s (sm_le_s sm_le_nil))))))))))) (B_370_836 hd  hf hs)
theorem B_370_803 {L : Nat} {xs : Nat → Int32} {d : Nat} (hd : 5 ≤ d) {res : Option Value × sm_H} {z1 : Int32}  {h : sm_H} {r : (sm_H)} (hf : F_370_803 z1 h = some r) (hs : (fun (r : sm_H) => res = (none, r)) r) : Ex (P_G L xs) (RUN L xs d) (sm_lk P_t370) 0 803 [none, none, none, none, none, none, none, none, none, none, none] [.int z1, .ref 67] h res := by
  unfold F_370_803 at hf
  obtain ⟨q5, e_q5, hf⟩ := bnd hf
  refine Ex.callV (a := 67) (As := [.int z1]) (r := []) (v := none) (h' := q5) rfl rfl (by decide) rfl (Nat.le_of_ble_eq_true rfl) rfl (E_349 (Nat.le_trans (by decide) hd) e_q5) rfl ?_
  obtain rfl := Option.some.inj hf
  exact Ex.vret rfl rfl hs
theorem B_370_726 {L : Nat} {xs : Nat → Int32} {d : Nat} (hd : 5 ≤ d) {res : Option Value × sm_H} {y2 : Int32} {y5 : Int32}  {h : sm_H} {r : (sm_H)} (hf : F_370_726 y2 y5 h = some r) (hs : (fun (r : sm_H) => res = (none, r)) r) : Ex (P_G L xs) (RUN L xs d) (sm_lk P_t370) 0 726 [some (.ref 67), none, some (.int y2), none, none, some (.int y5), none, none, none, none, none] [] h res := by
  unfold F_370_726 at hf
  refine Ex.seg 4 (pc' := 732) (lc' := [some (.ref 67), none, some (.int y2), none, none, some (.int y5), none, none, none, none, none]) (st' := [.int y2, .ref 75, .ref 67]) (h' := h) (sg1 rfl rfl (sg1 rfl rfl (sg1 rfl rfl (sg1 rfl rfl rfl)))) ?_
  obtain ⟨v6, e_v6, hf⟩ := bnd hf
  refine Ex.iald e_v6 rfl rfl ?_
  refine Ex.seg 1 (pc' := 735) (lc' := [some (.ref 67), none, some (.int y2), none, none, some (.int y5), none, none, none, none, none]) (st' := [.int y5, .int v6, .ref 67]) (h' := h) (sg1 rfl rfl rfl) ?_
  obtain ⟨q7, e_q7, hf⟩ := bnd hf
  refine Ex.callV (a := 67) (As := [.int v6, .int y5]) (r := []) (v := none) (h' := q7) rfl rfl (by decide) rfl (Nat.le_of_ble_eq_true rfl) rfl (E_361 (Nat.le_trans (by decide) hd) e_q7) rfl ?_
  obtain rfl := Option.some.inj hf
  exact Ex.vret rfl rfl hs
theorem B_370_718 {L : Nat} {xs : Nat → Int32} {d : Nat} (hd : 5 ≤ d) {res : Option Value × sm_H}   {h : sm_H} {r : (sm_H)} (hf : F_370_718  h = some r) (hs : (fun (r : sm_H) => res = (none, r)) r) : Ex (P_G L xs) (RUN L xs d) (sm_lk P_t370) 0 718 [none, none, none, none, none, none, none, none, none, none, none] [] h res := by
  unfold F_370_718 at hf
  obtain rfl := Option.some.inj hf
  exact Ex.vret rfl rfl hs
theorem B_370_665 {L : Nat} {xs : Nat → Int32} {d : Nat} (hd : 5 ≤ d) {res : Option Value × sm_H} {z1 : Int32}  {h : sm_H} {r : (sm_H)} (hf : F_370_665 z1 h = some r) (hs : (fun (r : sm_H) => res = (none, r)) r) : Ex (P_G L xs) (RUN L xs d) (sm_lk P_t370) 0 665 [none, none, none, none, none, none, none, none, none, none, none] [.int z1, .ref 67] h res := by
  unfold F_370_665 at hf
  obtain ⟨q8, e_q8, hf⟩ := bnd hf
  refine Ex.callV (a := 67) (As := [.int z1]) (r := []) (v := none) (h' := q8) rfl rfl (by decide) rfl (Nat.le_of_ble_eq_true rfl) rfl (E_349 (Nat.le_trans (by decide) hd) e_q8) rfl ?_
  obtain rfl := Option.some.inj hf
  exact Ex.vret rfl rfl hs
theorem B_370_663 {L : Nat} {xs : Nat → Int32} {d : Nat} (hd : 5 ≤ d) {res : Option Value × sm_H} {y7 : Int32}  {h : sm_H} {r : (sm_H)} (hf : F_370_663 y7 h = some r) (hs : (fun (r : sm_H) => res = (none, r)) r) : Ex (P_G L xs) (RUN L xs d) (sm_lk P_t370) 0 663 [none, none, none, none, none, none, none, some (.int y7), none, none, none] [.ref 67] h res := by
  unfold F_370_663 at hf
  refine Ex.seg 1 (pc' := 665) (lc' := [none, none, none, none, none, none, none, some (.int y7), none, none, none]) (st' := [.int y7, .ref 67]) (h' := h) (sg1 rfl rfl rfl) ?_
  exact Ex.weak (sm_le_s (sm_le_s (sm_le_s (sm_le_s (sm_le_s (sm_le_s (sm_le_s (sm_le_n (sm_le_s (sm_le_s (sm_le_s sm_le_nil))))))))))) (B_370_665 hd  hf hs)
theorem B_370_584 {L : Nat} {xs : Nat → Int32} {d : Nat} (hd : 5 ≤ d) {res : Option Value × sm_H}   {h : sm_H} {r : (sm_H)} (hf : F_370_584  h = some r) (hs : (fun (r : sm_H) => res = (none, r)) r) : Ex (P_G L xs) (RUN L xs d) (sm_lk P_t370) 0 584 [none, none, none, none, none, none, none, none, none, none, none] [] h res := by
  unfold F_370_584 at hf
  obtain rfl := Option.some.inj hf
  exact Ex.vret rfl rfl hs
theorem B_370_570 {L : Nat} {xs : Nat → Int32} {d : Nat} (hd : 5 ≤ d) {res : Option Value × sm_H} {y7 : Int32} {z1 : Int32} {z2 : Int32} {z3 : Int32}  {h : sm_H} {r : (sm_H)} (hf : F_370_570 y7 z1 z2 z3 h = some r) (hs : (fun (r : sm_H) => res = (none, r)) r) : Ex (P_G L xs) (RUN L xs d) (sm_lk P_t370) 0 570 [some (.ref 67), none, none, none, none, none, none, some (.int y7), none, none, none] [.int z3, .int z2, .int z1, .ref 67] h res := by
  unfold F_370_570 at hf
  refine Ex.seg 1 (pc' := 571) (lc' := [some (.ref 67), none, none, none, none, none, none, some (.int y7), none, none, none]) (st' := [.int 0, .int z3, .int z2, .int z1, .ref 67]) (h' := h) (sg1 rfl rfl rfl) ?_
  obtain ⟨q9, e_q9, hf⟩ := bnd hf
  refine Ex.callV (a := 67) (As := [.int z1, .int z2, .int z3, .int 0]) (r := []) (v := some (.int q9.1)) (h' := q9.2) rfl rfl (by decide) rfl (Nat.le_of_ble_eq_true rfl) rfl (E_356 (Nat.le_trans (by decide) hd) e_q9) rfl ?_
  refine Ex.ifc rfl rfl (fun (c0 : q9.1 = 0) => ?_) (fun (c0 : ¬ (q9.1 = 0)) => ?_)
  · rw [if_pos c0] at hf
    exact Ex.weak (sm_le_n (sm_le_s (sm_le_s (sm_le_s (sm_le_s (sm_le_s (sm_le_s (sm_le_n (sm_le_s (sm_le_s (sm_le_s sm_le_nil))))))))))) (B_370_584 hd  hf hs)
  · rw [if_neg c0] at hf
    refine Ex.seg 3 (pc' := 581) (lc' := [some (.ref 67), none, none, none, none, none, none, some (.int y7), none, none, none]) (st' := [.int 1, .int y7, .ref 67]) (h' := q9.2) (sg1 rfl rfl (sg1 rfl rfl (sg1 rfl rfl rfl))) ?_
    obtain ⟨q10, e_q10, hf⟩ := bnd hf
    refine Ex.callV (a := 67) (As := [.int y7, .int 1]) (r := []) (v := none) (h' := q10) rfl rfl (by decide) rfl (Nat.le_of_ble_eq_true rfl) rfl (E_350 (Nat.le_trans (by decide) hd) e_q10) rfl ?_
    exact Ex.weak (sm_le_n (sm_le_s (sm_le_s (sm_le_s (sm_le_s (sm_le_s (sm_le_s (sm_le_n (sm_le_s (sm_le_s (sm_le_s sm_le_nil))))))))))) (B_370_584 hd  hf hs)
theorem B_370_549 {L : Nat} {xs : Nat → Int32} {d : Nat} (hd : 5 ≤ d) {res : Option Value × sm_H} {y2 : Int32} {y6 : Int32} {y7 : Int32}  {h : sm_H} {r : (sm_H)} (hf : F_370_549 y2 y6 y7 h = some r) (hs : (fun (r : sm_H) => res = (none, r)) r) : Ex (P_G L xs) (RUN L xs d) (sm_lk P_t370) 0 549 [some (.ref 67), none, some (.int y2), none, none, none, some (.int y6), some (.int y7), none, none, none] [] h res := by
  unfold F_370_549 at hf
  refine Ex.seg 6 (pc' := 559) (lc' := [some (.ref 67), none, some (.int y2), none, none, none, some (.int y6), some (.int y7), none, none, none]) (st' := [.int y2, .ref 75, .int y6, .int y7, .ref 67]) (h' := h) (sg1 rfl rfl (sg1 rfl rfl (sg1 rfl rfl (sg1 rfl rfl (sg1 rfl rfl (sg1 rfl rfl rfl)))))) ?_
  obtain ⟨v11, e_v11, hf⟩ := bnd hf
  refine Ex.iald e_v11 rfl rfl ?_
  refine Ex.seg 1 (pc' := 562) (lc' := [some (.ref 67), none, some (.int y2), none, none, none, some (.int y6), some (.int y7), none, none, none]) (st' := [.int 13, .int v11, .int y6, .int y7, .ref 67]) (h' := h) (sg1 rfl rfl rfl) ?_
  refine Ex.icmp rfl rfl (fun (c0 : ¬ (v11 = 13)) => ?_) (fun (c0 : ¬ ¬ (v11 = 13)) => ?_)
  · rw [if_neg c0] at hf
    refine Ex.seg 1 (pc' := 570) (lc' := [some (.ref 67), none, some (.int y2), none, none, none, some (.int y6), some (.int y7), none, none, none]) (st' := [.int 0, .int y6, .int y7, .ref 67]) (h' := h) (sg1 rfl rfl rfl) ?_
    exact Ex.weak (sm_le_s (sm_le_s (sm_le_n (sm_le_s (sm_le_s (sm_le_s (sm_le_n (sm_le_s (sm_le_s (sm_le_s (sm_le_s sm_le_nil))))))))))) (B_370_570 hd  hf hs)
  · rw [if_pos (Classical.not_not.mp c0)] at hf
    refine Ex.seg 2 (pc' := 570) (lc' := [some (.ref 67), none, some (.int y2), none, none, none, some (.int y6), some (.int y7), none, none, none]) (st' := [.int 1, .int y6, .int y7, .ref 67]) (h' := h) (sg1 rfl rfl (sg1 rfl rfl rfl)) ?_
    exact Ex.weak (sm_le_s (sm_le_s (sm_le_n (sm_le_s (sm_le_s (sm_le_s (sm_le_n (sm_le_s (sm_le_s (sm_le_s (sm_le_s sm_le_nil))))))))))) (B_370_570 hd  hf hs)
theorem B_370_514 {L : Nat} {xs : Nat → Int32} {d : Nat} (hd : 5 ≤ d) {res : Option Value × sm_H} {y3 : Int32} {y4 : Int32} {y7 : Int32}  {h : sm_H} {r : (sm_H)} (hf : F_370_514 y3 y4 y7 h = some r) (hs : (fun (r : sm_H) => res = (none, r)) r) : Ex (P_G L xs) (RUN L xs d) (sm_lk P_t370) 0 514 [some (.ref 67), none, none, some (.int y3), some (.int y4), none, none, some (.int y7), none, none, none] [] h res := by
  unfold F_370_514 at hf
  refine Ex.seg 5 (pc' := 520) (lc' := [some (.ref 67), none, none, some (.int y3), some (.int y4), none, none, some (.int y7), none, none, none]) (st' := [.int (y3 + y4), .int y3, .ref 67]) (h' := h) (sg1 rfl rfl (sg1 rfl rfl (sg1 rfl rfl (sg1 rfl rfl (sg1 rfl rfl rfl))))) ?_
  obtain ⟨q12, e_q12, hf⟩ := bnd hf
  refine Ex.callV (a := 67) (As := [.int y3, .int (y3 + y4)]) (r := []) (v := none) (h' := q12) rfl rfl (by decide) rfl (Nat.le_of_ble_eq_true rfl) rfl (E_343 (Nat.le_trans (by decide) hd) e_q12) rfl ?_
  refine Ex.seg 3 (pc' := 527) (lc' := [some (.ref 67), none, none, some (.int y3), some (.int y4), none, none, some (.int y7), none, none, none]) (st' := [.int 1, .int y7, .ref 67]) (h' := q12) (sg1 rfl rfl (sg1 rfl rfl (sg1 rfl rfl rfl))) ?_
  obtain ⟨q13, e_q13, hf⟩ := bnd hf
  refine Ex.callV (a := 67) (As := [.int y7, .int 1]) (r := []) (v := none) (h' := q13) rfl rfl (by decide) rfl (Nat.le_of_ble_eq_true rfl) rfl (E_350 (Nat.le_trans (by decide) hd) e_q13) rfl ?_
  obtain rfl := Option.some.inj hf
  exact Ex.vret rfl rfl hs
theorem B_370_338B {L : Nat} {xs : Nat → Int32} {d : Nat} (hd : 5 ≤ d) {res : Option Value × sm_H} {S1 : (Int32 × Int32 × Int32 × sm_H) → Prop} (hS1 : ∀ s, S1 s → Ex (P_G L xs) (RUN L xs d) (sm_lk P_t370) 0 338 [some (.ref 67), none, some (.int s.1), none, none, none, none, some (.int s.2.1), none, some (.int s.2.2.1), none] [] s.2.2.2 res) {s : (Int32 × Int32 × Int32 × sm_H)}  {r : ((Int32 × Int32 × Int32 × sm_H) ⊕ (sm_H))} (hf : F_370_338B s = some r) (hs : (Sum.elim S1 (fun (r : sm_H) => res = (none, r))) r) : Ex (P_G L xs) (RUN L xs d) (sm_lk P_t370) 0 338 [some (.ref 67), none, some (.int s.1), none, none, none, none, some (.int s.2.1), none, some (.int s.2.2.1), none] [] s.2.2.2 res := by
  unfold F_370_338B at hf
  refine Ex.seg 3 (pc' := 343) (lc' := [some (.ref 67), none, some (.int s.1), none, none, none, none, some (.int s.2.1), none, some (.int s.2.2.1), none]) (st' := [.int s.2.1, .ref 67, .int s.2.2.1]) (h' := s.2.2.2) (sg1 rfl rfl (sg1 rfl rfl (sg1 rfl rfl rfl))) ?_
  obtain ⟨q14, e_q14, hf⟩ := bnd hf
  refine Ex.callV (a := 67) (As := [.int s.2.1]) (r := [.int s.2.2.1]) (v := some (.int q14.1)) (h' := q14.2) rfl rfl (by decide) rfl (Nat.le_of_ble_eq_true rfl) rfl (E_305 (Nat.le_trans (by decide) hd) e_q14) rfl ?_
  refine Ex.icmp rfl rfl (fun (c0 : q14.1 ≤ s.2.2.1) => ?_) (fun (c0 : ¬ (q14.1 ≤ s.2.2.1)) => ?_)
  · rw [if_pos c0] at hf
    refine Ex.seg 2 (pc' := 398) (lc' := [some (.ref 67), none, some (.int s.1), none, none, none, none, some (.int s.2.1), none, some (.int s.2.2.1), none]) (st' := [.int s.2.1, .ref 67]) (h' := q14.2) (sg1 rfl rfl (sg1 rfl rfl rfl)) ?_
    obtain ⟨q15, e_q15, hf⟩ := bnd hf
    refine Ex.callV (a := 67) (As := [.int s.2.1]) (r := []) (v := none) (h' := q15) rfl rfl (by decide) rfl (Nat.le_of_ble_eq_true rfl) rfl (E_349 (Nat.le_trans (by decide) hd) e_q15) rfl ?_
    obtain rfl := Option.some.inj hf
    exact Ex.vret rfl rfl hs
  · rw [if_neg c0] at hf
    refine Ex.seg 11 (pc' := 364) (lc' := [some (.ref 67), none, some (.int s.1), none, none, none, none, some (.int s.2.1), none, some (.int s.2.2.1), none]) (st' := [.int (((24 * s.1) + 1) + s.2.2.1), .ref 81, .ref 67, .ref 67]) (h' := q14.2) (sg1 rfl rfl (sg1 rfl rfl (sg1 rfl rfl (sg1 rfl rfl (sg1 rfl rfl (sg1 rfl rfl (sg1 rfl rfl (sg1 rfl rfl (sg1 rfl rfl (sg1 rfl rfl (sg1 rfl rfl rfl))))))))))) ?_
    obtain ⟨v16, e_v16, hf⟩ := bnd hf
    refine Ex.iald e_v16 rfl rfl ?_
    obtain ⟨q17, e_q17, hf⟩ := bnd hf
    refine Ex.callV (a := 67) (As := [.int v16]) (r := [.ref 67]) (v := some (.int q17.1)) (h' := q17.2) rfl rfl (by decide) rfl (Nat.le_of_ble_eq_true rfl) rfl (E_351 (Nat.le_trans (by decide) hd) e_q17) rfl ?_
    refine Ex.seg 10 (pc' := 382) (lc' := [some (.ref 67), none, some (.int s.1), none, none, none, none, some (.int s.2.1), none, some (.int s.2.2.1), none]) (st' := [.int (((24 * s.1) + 1) + s.2.2.1), .ref 81, .ref 67, .int q17.1, .ref 67]) (h' := q17.2) (sg1 rfl rfl (sg1 rfl rfl (sg1 rfl rfl (sg1 rfl rfl (sg1 rfl rfl (sg1 rfl rfl (sg1 rfl rfl (sg1 rfl rfl (sg1 rfl rfl (sg1 rfl rfl rfl)))))))))) ?_
    obtain ⟨v18, e_v18, hf⟩ := bnd hf
    refine Ex.iald e_v18 rfl rfl ?_
    obtain ⟨q19, e_q19, hf⟩ := bnd hf
    refine Ex.callV (a := 67) (As := [.int v18]) (r := [.int q17.1, .ref 67]) (v := some (.long q19.1)) (h' := q19.2) rfl rfl (by decide) rfl (Nat.le_of_ble_eq_true rfl) rfl (E_352 (Nat.le_trans (by decide) hd) e_q19) rfl ?_
    obtain ⟨q20, e_q20, hf⟩ := bnd hf
    refine Ex.callV (a := 67) (As := [.int q17.1, .long q19.1]) (r := []) (v := none) (h' := q20) rfl rfl (by decide) rfl (Nat.le_of_ble_eq_true rfl) rfl (E_342 (Nat.le_trans (by decide) hd) e_q20) rfl ?_
    refine Ex.seg 1 (pc' := 392) (lc' := [some (.ref 67), none, some (.int s.1), none, none, none, none, some (.int s.2.1), none, some (.int (s.2.2.1 + 1)), none]) (st' := []) (h' := q20) (sg1 rfl rfl rfl) ?_
    obtain ⟨v21, e_v21, hf⟩ := bnd hf
    rw [Option.some.inj e_v21]
    refine Ex.seg 1 (pc' := 338) (lc' := [some (.ref 67), none, some (.int s.1), none, none, none, none, some (.int s.2.1), none, some (.int v21), none]) (st' := []) (h' := q20) (sg1 rfl rfl rfl) ?_
    obtain rfl := Option.some.inj hf
    exact Ex.weak (sm_le_s (sm_le_s (sm_le_s (sm_le_s (sm_le_s (sm_le_s (sm_le_s (sm_le_s (sm_le_s (sm_le_s (sm_le_s sm_le_nil))))))))))) (hS1 _ hs)
theorem B_370_338 {L : Nat} {xs : Nat → Int32} {d : Nat} (hd : 5 ≤ d) {res : Option Value × sm_H} {y2 : Int32} {y7 : Int32} {y9 : Int32}  {h : sm_H} {r : (sm_H)} (hf : F_370_338 y2 y7 y9 h = some r) (hs : (fun (r : sm_H) => res = (none, r)) r) : Ex (P_G L xs) (RUN L xs d) (sm_lk P_t370) 0 338 [some (.ref 67), none, some (.int y2), none, none, none, none, some (.int y7), none, some (.int y9), none] [] h res := by
  unfold F_370_338 at hf
  exact lp_ok (P := fun (s : (Int32 × Int32 × Int32 × sm_H)) => Ex (P_G L xs) (RUN L xs d) (sm_lk P_t370) 0 338 [some (.ref 67), none, some (.int s.1), none, none, none, none, some (.int s.2.1), none, some (.int s.2.2.1), none] [] s.2.2.2 res) (S := (fun (r : sm_H) => res = (none, r))) (fun s x hx hsx => by
    intros
    exact B_370_338B hd  (fun _ q => q) hx hsx) 1000000 _ r hf hs
theorem B_370_0 {L : Nat} {xs : Nat → Int32} {d : Nat} (hd : 5 ≤ d) {res : Option Value × sm_H}   {h : sm_H} {r : (sm_H)} (hf : F_370_0  h = some r) (hs : (fun (r : sm_H) => res = (none, r)) r) : Ex (P_G L xs) (RUN L xs d) (sm_lk P_t370) 0 0 [some (.ref 67), none, none, none, none, none, none, none, none, none, none] [] h res := by
  unfold F_370_0 at hf
  refine Ex.seg 5 (pc' := 7) (lc' := [some (.ref 67), some (.int ((h.1 67 56) - 1)), none, none, none, none, none, none, none, none, none]) (st' := []) (h' := h) (sg1 rfl rfl (sg1 rfl rfl (sg1 rfl rfl (sg1 rfl rfl (sg1 rfl rfl rfl))))) ?_
  obtain ⟨v22, e_v22, hf⟩ := bnd hf
  rw [Option.some.inj e_v22]
  refine Ex.seg 3 (pc' := 12) (lc' := [some (.ref 67), some (.int v22), none, none, none, none, none, none, none, none, none]) (st' := [.int v22, .ref 103]) (h' := h) (sg1 rfl rfl (sg1 rfl rfl (sg1 rfl rfl rfl))) ?_
  obtain ⟨v23, e_v23, hf⟩ := bnd hf
  refine Ex.iald e_v23 rfl rfl ?_
  refine Ex.seg 4 (pc' := 19) (lc' := [some (.ref 67), some (.int v22), some (.int v23), none, none, none, none, none, none, none, none]) (st' := [.int v22, .ref 105]) (h' := h) (sg1 rfl rfl (sg1 rfl rfl (sg1 rfl rfl (sg1 rfl rfl rfl)))) ?_
  obtain ⟨v24, e_v24, hf⟩ := bnd hf
  refine Ex.iald e_v24 rfl rfl ?_
  refine Ex.seg 3 (pc' := 23) (lc' := [some (.ref 67), some (.int v22), some (.int v23), some (.int v24), none, none, none, none, none, none, none]) (st' := [.int v23, .ref 67]) (h' := h) (sg1 rfl rfl (sg1 rfl rfl (sg1 rfl rfl rfl))) ?_
  obtain ⟨q25, e_q25, hf⟩ := bnd hf
  refine Ex.callV (a := 67) (As := [.int v23]) (r := []) (v := some (.int q25.1)) (h' := q25.2) rfl rfl (by decide) rfl (Nat.le_of_ble_eq_true rfl) rfl (E_305 (Nat.le_trans (by decide) hd) e_q25) rfl ?_
  refine Ex.seg 4 (pc' := 33) (lc' := [some (.ref 67), some (.int v22), some (.int v23), some (.int v24), some (.int q25.1), none, none, none, none, none, none]) (st' := [.int v23, .ref 77]) (h' := q25.2) (sg1 rfl rfl (sg1 rfl rfl (sg1 rfl rfl (sg1 rfl rfl rfl)))) ?_
  obtain ⟨v26, e_v26, hf⟩ := bnd hf
  refine Ex.iald e_v26 rfl rfl ?_
  refine Ex.seg 4 (pc' := 41) (lc' := [some (.ref 67), some (.int v22), some (.int v23), some (.int v24), some (.int q25.1), some (.int v26), none, none, none, none, none]) (st' := [.int v23, .ref 78]) (h' := q25.2) (sg1 rfl rfl (sg1 rfl rfl (sg1 rfl rfl (sg1 rfl rfl rfl)))) ?_
  obtain ⟨v27, e_v27, hf⟩ := bnd hf
  refine Ex.iald e_v27 rfl rfl ?_
  refine Ex.seg 6 (pc' := 52) (lc' := [some (.ref 67), some (.int v22), some (.int v23), some (.int v24), some (.int q25.1), some (.int v26), some (.int v27), none, none, none, none]) (st' := [.int (24 * v23), .ref 81]) (h' := q25.2) (sg1 rfl rfl (sg1 rfl rfl (sg1 rfl rfl (sg1 rfl rfl (sg1 rfl rfl (sg1 rfl rfl rfl)))))) ?_
  obtain ⟨v28, e_v28, hf⟩ := bnd hf
  refine Ex.iald e_v28 rfl rfl ?_
  refine Ex.seg 8 (pc' := 65) (lc' := [some (.ref 67), some (.int v22), some (.int v23), some (.int v24), some (.int q25.1), some (.int v26), some (.int v27), some (.int v28), none, none, none]) (st' := [.int ((24 * v23) + 1), .ref 81]) (h' := q25.2) (sg1 rfl rfl (sg1 rfl rfl (sg1 rfl rfl (sg1 rfl rfl (sg1 rfl rfl (sg1 rfl rfl (sg1 rfl rfl (sg1 rfl rfl rfl)))))))) ?_
  obtain ⟨v29, e_v29, hf⟩ := bnd hf
  refine Ex.iald e_v29 rfl rfl ?_
  refine Ex.seg 4 (pc' := 73) (lc' := [some (.ref 67), some (.int v22), some (.int v23), some (.int v24), some (.int q25.1), some (.int v26), some (.int v27), some (.int v28), some (.int v29), none, none]) (st' := [.int v23, .ref 75]) (h' := q25.2) (sg1 rfl rfl (sg1 rfl rfl (sg1 rfl rfl (sg1 rfl rfl rfl)))) ?_
  obtain ⟨v30, e_v30, hf⟩ := bnd hf
  refine Ex.iald e_v30 rfl rfl ?_
  rcases Classical.em (v30 = 0) with n1 | n1
  · rw [if_pos n1] at hf
    refine Ex.swt (t := 240) rfl rfl (by rw [n1]; exact Or.inr ⟨by decide, by decide, _, rfl, by decide⟩) ?_
    refine Ex.seg 5 (pc' := 248) (lc' := [some (.ref 67), some (.int v22), some (.int v23), some (.int v24), some (.int q25.1), some (.int v26), some (.int v27), some (.int v28), some (.int v29), none, none]) (st' := [.int v23, .ref 79, .int v26, .ref 67]) (h' := q25.2) (sg1 rfl rfl (sg1 rfl rfl (sg1 rfl rfl (sg1 rfl rfl (sg1 rfl rfl rfl))))) ?_
    obtain ⟨v31, e_v31, hf⟩ := bnd hf
    refine Ex.lald e_v31 rfl rfl ?_
    obtain ⟨q32, e_q32, hf⟩ := bnd hf
    refine Ex.callV (a := 67) (As := [.int v26, .long v31]) (r := []) (v := none) (h' := q32) rfl rfl (by decide) rfl (Nat.le_of_ble_eq_true rfl) rfl (E_353 (Nat.le_trans (by decide) hd) e_q32) rfl ?_
    refine Ex.seg 5 (pc' := 261) (lc' := [some (.ref 67), some (.int v22), some (.int v23), some (.int v24), some (.int q25.1), some (.int v26), some (.int v27), some (.int v28), some (.int v29), none, none]) (st' := [.long (q32.2.1 67 49), .int (q32.1 67 48), .ref 67]) (h' := q32) (sg1 rfl rfl (sg1 rfl rfl (sg1 rfl rfl (sg1 rfl rfl (sg1 rfl rfl rfl))))) ?_
    obtain ⟨q33, e_q33, hf⟩ := bnd hf
    refine Ex.callV (a := 67) (As := [.int (q32.1 67 48), .long (q32.2.1 67 49)]) (r := []) (v := none) (h' := q33) rfl rfl (by decide) rfl (Nat.le_of_ble_eq_true rfl) rfl (E_345 (Nat.le_trans (by decide) hd) e_q33) rfl ?_
    obtain rfl := Option.some.inj hf
    exact Ex.vret rfl rfl hs
  rw [if_neg n1] at hf
  rcases Classical.em (v30 = 1) with n2 | n2
  · rw [if_pos n2] at hf
    refine Ex.swt (t := 265) rfl rfl (by rw [n2]; exact Or.inr ⟨by decide, by decide, _, rfl, by decide⟩) ?_
    refine Ex.seg 4 (pc' := 271) (lc' := [some (.ref 67), some (.int v22), some (.int v23), some (.int v24), some (.int q25.1), some (.int v26), some (.int v27), some (.int v28), some (.int v29), none, none]) (st' := [.long (Int32.toInt64 v28), .int 18, .ref 67]) (h' := q25.2) (sg1 rfl rfl (sg1 rfl rfl (sg1 rfl rfl (sg1 rfl rfl rfl)))) ?_
    obtain ⟨q34, e_q34, hf⟩ := bnd hf
    refine Ex.callV (a := 67) (As := [.int 18, .long (Int32.toInt64 v28)]) (r := []) (v := none) (h' := q34) rfl rfl (by decide) rfl (Nat.le_of_ble_eq_true rfl) rfl (E_345 (Nat.le_trans (by decide) hd) e_q34) rfl ?_
    obtain rfl := Option.some.inj hf
    exact Ex.vret rfl rfl hs
  rw [if_neg n2] at hf
  rcases Classical.em (v30 = 2) with n3 | n3
  · rw [if_pos n3] at hf
    refine Ex.swt (t := 275) rfl rfl (by rw [n3]; exact Or.inr ⟨by decide, by decide, _, rfl, by decide⟩) ?_
    refine Ex.seg 3 (pc' := 278) (lc' := [some (.ref 67), some (.int v22), some (.int v23), some (.int v24), some (.int q25.1), some (.int v26), some (.int v27), some (.int v28), some (.int v29), none, none]) (st' := [.int 0, .ref 67, .ref 67]) (h' := q25.2) (sg1 rfl rfl (sg1 rfl rfl (sg1 rfl rfl rfl))) ?_
    obtain ⟨q35, e_q35, hf⟩ := bnd hf
    refine Ex.callV (a := 67) (As := [.int 0]) (r := [.ref 67]) (v := some (.int q35.1)) (h' := q35.2) rfl rfl (by decide) rfl (Nat.le_of_ble_eq_true rfl) rfl (E_351 (Nat.le_trans (by decide) hd) e_q35) rfl ?_
    refine Ex.seg 2 (pc' := 283) (lc' := [some (.ref 67), some (.int v22), some (.int v23), some (.int v24), some (.int q25.1), some (.int v26), some (.int v27), some (.int v28), some (.int v29), none, none]) (st' := [.int 0, .ref 67, .int q35.1, .ref 67]) (h' := q35.2) (sg1 rfl rfl (sg1 rfl rfl rfl)) ?_
    obtain ⟨q36, e_q36, hf⟩ := bnd hf
    refine Ex.callV (a := 67) (As := [.int 0]) (r := [.int q35.1, .ref 67]) (v := some (.long q36.1)) (h' := q36.2) rfl rfl (by decide) rfl (Nat.le_of_ble_eq_true rfl) rfl (E_352 (Nat.le_trans (by decide) hd) e_q36) rfl ?_
    obtain ⟨q37, e_q37, hf⟩ := bnd hf
    refine Ex.callV (a := 67) (As := [.int q35.1, .long q36.1]) (r := []) (v := none) (h' := q37) rfl rfl (by decide) rfl (Nat.le_of_ble_eq_true rfl) rfl (E_345 (Nat.le_trans (by decide) hd) e_q37) rfl ?_
    obtain rfl := Option.some.inj hf
    exact Ex.vret rfl rfl hs
  rw [if_neg n3] at hf
  rcases Classical.em (v30 = 3) with n4 | n4
  · rw [if_pos n4] at hf
    refine Ex.swt (t := 290) rfl rfl (by rw [n4]; exact Or.inr ⟨by decide, by decide, _, rfl, by decide⟩) ?_
    refine Ex.seg 3 (pc' := 295) (lc' := [some (.ref 67), some (.int v22), some (.int v23), some (.int v24), some (.int q25.1), some (.int v26), some (.int v27), some (.int v28), some (.int v29), none, none]) (st' := [.int v27, .int v26, .ref 67]) (h' := q25.2) (sg1 rfl rfl (sg1 rfl rfl (sg1 rfl rfl rfl))) ?_
    obtain ⟨q38, e_q38, hf⟩ := bnd hf
    refine Ex.callV (a := 67) (As := [.int v26, .int v27]) (r := []) (v := none) (h' := q38) rfl rfl (by decide) rfl (Nat.le_of_ble_eq_true rfl) rfl (E_355 (Nat.le_trans (by decide) hd) e_q38) rfl ?_
    obtain rfl := Option.some.inj hf
    exact Ex.vret rfl rfl hs
  rw [if_neg n4] at hf
  rcases Classical.em (v30 = 4) with n5 | n5
  · rw [if_pos n5] at hf
    refine Ex.swt (t := 299) rfl rfl (by rw [n5]; exact Or.inr ⟨by decide, by decide, _, rfl, by decide⟩) ?_
    refine Ex.seg 5 (pc' := 305) (lc' := [some (.ref 67), some (.int v22), some (.int v23), some (.int v24), some (.int q25.1), some (.int v26), some (.int v27), some (.int v28), some (.int v29), none, none]) (st' := [.int (v24 + v26), .int v24, .ref 67]) (h' := q25.2) (sg1 rfl rfl (sg1 rfl rfl (sg1 rfl rfl (sg1 rfl rfl (sg1 rfl rfl rfl))))) ?_
    obtain ⟨q39, e_q39, hf⟩ := bnd hf
    refine Ex.callV (a := 67) (As := [.int v24, .int (v24 + v26)]) (r := []) (v := none) (h' := q39) rfl rfl (by decide) rfl (Nat.le_of_ble_eq_true rfl) rfl (E_343 (Nat.le_trans (by decide) hd) e_q39) rfl ?_
    refine Ex.seg 7 (pc' := 319) (lc' := [some (.ref 67), some (.int v22), some (.int v23), some (.int v24), some (.int q25.1), some (.int v26), some (.int v27), some (.int v28), some (.int v29), none, none]) (st' := [.int v27, .ref 73, .int (v24 + v26), .ref 67]) (h' := q39) (sg1 rfl rfl (sg1 rfl rfl (sg1 rfl rfl (sg1 rfl rfl (sg1 rfl rfl (sg1 rfl rfl (sg1 rfl rfl rfl))))))) ?_
    obtain ⟨v40, e_v40, hf⟩ := bnd hf
    refine Ex.iald e_v40 rfl rfl ?_
    refine Ex.seg 4 (pc' := 325) (lc' := [some (.ref 67), some (.int v22), some (.int v23), some (.int v24), some (.int q25.1), some (.int v26), some (.int v27), some (.int v28), some (.int v29), none, none]) (st' := [.int (v24 + q25.1), .int ((v24 + v26) + v40), .ref 67]) (h' := q39) (sg1 rfl rfl (sg1 rfl rfl (sg1 rfl rfl (sg1 rfl rfl rfl)))) ?_
    obtain ⟨q41, e_q41, hf⟩ := bnd hf
    refine Ex.callV (a := 67) (As := [.int ((v24 + v26) + v40), .int (v24 + q25.1)]) (r := []) (v := none) (h' := q41) rfl rfl (by decide) rfl (Nat.le_of_ble_eq_true rfl) rfl (E_343 (Nat.le_trans (by decide) hd) e_q41) rfl ?_
    refine Ex.seg 2 (pc' := 331) (lc' := [some (.ref 67), some (.int v22), some (.int v23), some (.int v24), some (.int q25.1), some (.int v26), some (.int v27), some (.int v28), some (.int v29), none, none]) (st' := [.int v28, .ref 67]) (h' := q41) (sg1 rfl rfl (sg1 rfl rfl rfl)) ?_
    obtain ⟨q42, e_q42, hf⟩ := bnd hf
    refine Ex.callV (a := 67) (As := [.int v28]) (r := []) (v := none) (h' := q42) rfl rfl (by decide) rfl (Nat.le_of_ble_eq_true rfl) rfl (E_349 (Nat.le_trans (by decide) hd) e_q42) rfl ?_
    obtain rfl := Option.some.inj hf
    exact Ex.vret rfl rfl hs
  rw [if_neg n5] at hf
  rcases Classical.em (v30 = 5) with n6 | n6
  · rw [if_pos n6] at hf
    refine Ex.swt (t := 335) rfl rfl (by rw [n6]; exact Or.inr ⟨by decide, by decide, _, rfl, by decide⟩) ?_
    refine Ex.seg 2 (pc' := 338) (lc' := [some (.ref 67), some (.int v22), some (.int v23), some (.int v24), some (.int q25.1), some (.int v26), some (.int v27), some (.int v28), some (.int v29), some (.int 0), none]) (st' := []) (h' := q25.2) (sg1 rfl rfl (sg1 rfl rfl rfl)) ?_
    exact Ex.weak (sm_le_s (sm_le_n (sm_le_s (sm_le_n (sm_le_n (sm_le_n (sm_le_n (sm_le_s (sm_le_n (sm_le_s (sm_le_s sm_le_nil))))))))))) (B_370_338 hd  hf hs)
  rw [if_neg n6] at hf
  rcases Classical.em (v30 = 6) with n7 | n7
  · rw [if_pos n7] at hf
    refine Ex.swt (t := 402) rfl rfl (by rw [n7]; exact Or.inr ⟨by decide, by decide, _, rfl, by decide⟩) ?_
    refine Ex.seg 5 (pc' := 408) (lc' := [some (.ref 67), some (.int v22), some (.int v23), some (.int v24), some (.int q25.1), some (.int v26), some (.int v27), some (.int v28), some (.int v29), none, none]) (st' := [.int (v24 + v26), .int v24, .ref 67]) (h' := q25.2) (sg1 rfl rfl (sg1 rfl rfl (sg1 rfl rfl (sg1 rfl rfl (sg1 rfl rfl rfl))))) ?_
    obtain ⟨q43, e_q43, hf⟩ := bnd hf
    refine Ex.callV (a := 67) (As := [.int v24, .int (v24 + v26)]) (r := []) (v := none) (h' := q43) rfl rfl (by decide) rfl (Nat.le_of_ble_eq_true rfl) rfl (E_343 (Nat.le_trans (by decide) hd) e_q43) rfl ?_
    refine Ex.seg 4 (pc' := 417) (lc' := [some (.ref 67), some (.int v22), some (.int v23), some (.int v24), some (.int q25.1), some (.int v26), some (.int v27), some (.int v28), some (.int v29), none, none]) (st' := [.int v26, .int v28, .ref 67, .ref 67]) (h' := q43) (sg1 rfl rfl (sg1 rfl rfl (sg1 rfl rfl (sg1 rfl rfl rfl)))) ?_
    obtain ⟨q44, e_q44, hf⟩ := bnd hf
    refine Ex.callV (a := 67) (As := [.int v28, .int v26]) (r := [.ref 67]) (v := some (.int q44.1)) (h' := q44.2) rfl rfl (by decide) rfl (Nat.le_of_ble_eq_true rfl) rfl (E_306 (Nat.le_trans (by decide) hd) e_q44) rfl ?_
    refine Ex.seg 3 (pc' := 425) (lc' := [some (.ref 67), some (.int v22), some (.int v23), some (.int v24), some (.int q25.1), some (.int v26), some (.int v27), some (.int v28), some (.int v29), none, none]) (st' := [.int v23, .ref 79, .int q44.1, .ref 67]) (h' := q44.2) (sg1 rfl rfl (sg1 rfl rfl (sg1 rfl rfl rfl))) ?_
    obtain ⟨v45, e_v45, hf⟩ := bnd hf
    refine Ex.lald e_v45 rfl rfl ?_
    obtain ⟨q46, e_q46, hf⟩ := bnd hf
    refine Ex.callV (a := 67) (As := [.int q44.1, .long v45]) (r := []) (v := none) (h' := q46) rfl rfl (by decide) rfl (Nat.le_of_ble_eq_true rfl) rfl (E_353 (Nat.le_trans (by decide) hd) e_q46) rfl ?_
    refine Ex.seg 5 (pc' := 438) (lc' := [some (.ref 67), some (.int v22), some (.int v23), some (.int v24), some (.int q25.1), some (.int v26), some (.int v27), some (.int v28), some (.int v29), none, none]) (st' := [.long (q46.2.1 67 49), .int (q46.1 67 48), .ref 67]) (h' := q46) (sg1 rfl rfl (sg1 rfl rfl (sg1 rfl rfl (sg1 rfl rfl (sg1 rfl rfl rfl))))) ?_
    obtain ⟨q47, e_q47, hf⟩ := bnd hf
    refine Ex.callV (a := 67) (As := [.int (q46.1 67 48), .long (q46.2.1 67 49)]) (r := []) (v := none) (h' := q47) rfl rfl (by decide) rfl (Nat.le_of_ble_eq_true rfl) rfl (E_342 (Nat.le_trans (by decide) hd) e_q47) rfl ?_
    refine Ex.seg 7 (pc' := 450) (lc' := [some (.ref 67), some (.int v22), some (.int v23), some (.int v24), some (.int q25.1), some (.int v26), some (.int v27), some (.int v28), some (.int v29), none, none]) (st' := [.int (v24 + q25.1), .int (v24 + v26), .ref 67]) (h' := q47) (sg1 rfl rfl (sg1 rfl rfl (sg1 rfl rfl (sg1 rfl rfl (sg1 rfl rfl (sg1 rfl rfl (sg1 rfl rfl rfl))))))) ?_
    obtain ⟨q48, e_q48, hf⟩ := bnd hf
    refine Ex.callV (a := 67) (As := [.int (v24 + v26), .int (v24 + q25.1)]) (r := []) (v := none) (h' := q48) rfl rfl (by decide) rfl (Nat.le_of_ble_eq_true rfl) rfl (E_343 (Nat.le_trans (by decide) hd) e_q48) rfl ?_
    refine Ex.seg 2 (pc' := 456) (lc' := [some (.ref 67), some (.int v22), some (.int v23), some (.int v24), some (.int q25.1), some (.int v26), some (.int v27), some (.int v28), some (.int v29), none, none]) (st' := [.int v28, .ref 67]) (h' := q48) (sg1 rfl rfl (sg1 rfl rfl rfl)) ?_
    obtain ⟨q49, e_q49, hf⟩ := bnd hf
    refine Ex.callV (a := 67) (As := [.int v28]) (r := []) (v := none) (h' := q49) rfl rfl (by decide) rfl (Nat.le_of_ble_eq_true rfl) rfl (E_349 (Nat.le_trans (by decide) hd) e_q49) rfl ?_
    obtain rfl := Option.some.inj hf
    exact Ex.vret rfl rfl hs
  rw [if_neg n7] at hf
  rcases Classical.em (v30 = 7) with n8 | n8
  · rw [if_pos n8] at hf
    refine Ex.swt (t := 460) rfl rfl (by rw [n8]; exact Or.inr ⟨by decide, by decide, _, rfl, by decide⟩) ?_
    refine Ex.seg 9 (pc' := 472) (lc' := [some (.ref 67), some (.int v22), some (.int v23), some (.int v24), some (.int q25.1), some (.int v26), some (.int v27), some (.int v28), some (.int v29), none, none]) (st' := [.int v29, .ref 67, .int (v24 + v26), .int (v24 + v26), .ref 67]) (h' := q25.2) (sg1 rfl rfl (sg1 rfl rfl (sg1 rfl rfl (sg1 rfl rfl (sg1 rfl rfl (sg1 rfl rfl (sg1 rfl rfl (sg1 rfl rfl (sg1 rfl rfl rfl))))))))) ?_
    obtain ⟨q50, e_q50, hf⟩ := bnd hf
    refine Ex.callV (a := 67) (As := [.int v29]) (r := [.int (v24 + v26), .int (v24 + v26), .ref 67]) (v := some (.int q50.1)) (h' := q50.2) rfl rfl (by decide) rfl (Nat.le_of_ble_eq_true rfl) rfl (E_305 (Nat.le_trans (by decide) hd) e_q50) rfl ?_
    refine Ex.seg 1 (pc' := 476) (lc' := [some (.ref 67), some (.int v22), some (.int v23), some (.int v24), some (.int q25.1), some (.int v26), some (.int v27), some (.int v28), some (.int v29), none, none]) (st' := [.int ((v24 + v26) + q50.1), .int (v24 + v26), .ref 67]) (h' := q50.2) (sg1 rfl rfl rfl) ?_
    obtain ⟨q51, e_q51, hf⟩ := bnd hf
    refine Ex.callV (a := 67) (As := [.int (v24 + v26), .int ((v24 + v26) + q50.1)]) (r := []) (v := none) (h' := q51) rfl rfl (by decide) rfl (Nat.le_of_ble_eq_true rfl) rfl (E_343 (Nat.le_trans (by decide) hd) e_q51) rfl ?_
    refine Ex.seg 3 (pc' := 483) (lc' := [some (.ref 67), some (.int v22), some (.int v23), some (.int v24), some (.int q25.1), some (.int v26), some (.int v27), some (.int v28), some (.int v29), none, none]) (st' := [.int 1, .int v29, .ref 67]) (h' := q51) (sg1 rfl rfl (sg1 rfl rfl (sg1 rfl rfl rfl))) ?_
    obtain ⟨q52, e_q52, hf⟩ := bnd hf
    refine Ex.callV (a := 67) (As := [.int v29, .int 1]) (r := []) (v := none) (h' := q52) rfl rfl (by decide) rfl (Nat.le_of_ble_eq_true rfl) rfl (E_350 (Nat.le_trans (by decide) hd) e_q52) rfl ?_
    obtain rfl := Option.some.inj hf
    exact Ex.vret rfl rfl hs
  rw [if_neg n8] at hf
  rcases Classical.em (v30 = 8) with n9 | n9
  · rw [if_pos n9] at hf
    refine Ex.swt (t := 487) rfl rfl (by rw [n9]; exact Or.inr ⟨by decide, by decide, _, rfl, by decide⟩) ?_
    refine Ex.seg 9 (pc' := 499) (lc' := [some (.ref 67), some (.int v22), some (.int v23), some (.int v24), some (.int q25.1), some (.int v26), some (.int v27), some (.int v28), some (.int v29), none, none]) (st' := [.int v29, .ref 67, .int (v24 + v26), .int (v24 + v26), .ref 67]) (h' := q25.2) (sg1 rfl rfl (sg1 rfl rfl (sg1 rfl rfl (sg1 rfl rfl (sg1 rfl rfl (sg1 rfl rfl (sg1 rfl rfl (sg1 rfl rfl (sg1 rfl rfl rfl))))))))) ?_
    obtain ⟨q53, e_q53, hf⟩ := bnd hf
    refine Ex.callV (a := 67) (As := [.int v29]) (r := [.int (v24 + v26), .int (v24 + v26), .ref 67]) (v := some (.int q53.1)) (h' := q53.2) rfl rfl (by decide) rfl (Nat.le_of_ble_eq_true rfl) rfl (E_305 (Nat.le_trans (by decide) hd) e_q53) rfl ?_
    refine Ex.seg 1 (pc' := 503) (lc' := [some (.ref 67), some (.int v22), some (.int v23), some (.int v24), some (.int q25.1), some (.int v26), some (.int v27), some (.int v28), some (.int v29), none, none]) (st' := [.int ((v24 + v26) + q53.1), .int (v24 + v26), .ref 67]) (h' := q53.2) (sg1 rfl rfl rfl) ?_
    obtain ⟨q54, e_q54, hf⟩ := bnd hf
    refine Ex.callV (a := 67) (As := [.int (v24 + v26), .int ((v24 + v26) + q53.1)]) (r := []) (v := none) (h' := q54) rfl rfl (by decide) rfl (Nat.le_of_ble_eq_true rfl) rfl (E_343 (Nat.le_trans (by decide) hd) e_q54) rfl ?_
    refine Ex.seg 3 (pc' := 510) (lc' := [some (.ref 67), some (.int v22), some (.int v23), some (.int v24), some (.int q25.1), some (.int v26), some (.int v27), some (.int v28), some (.int v29), none, none]) (st' := [.int 1, .int v29, .ref 67]) (h' := q54) (sg1 rfl rfl (sg1 rfl rfl (sg1 rfl rfl rfl))) ?_
    obtain ⟨q55, e_q55, hf⟩ := bnd hf
    refine Ex.callV (a := 67) (As := [.int v29, .int 1]) (r := []) (v := none) (h' := q55) rfl rfl (by decide) rfl (Nat.le_of_ble_eq_true rfl) rfl (E_350 (Nat.le_trans (by decide) hd) e_q55) rfl ?_
    obtain rfl := Option.some.inj hf
    exact Ex.vret rfl rfl hs
  rw [if_neg n9] at hf
  rcases Classical.em (v30 = 9) with n10 | n10
  · rw [if_pos n10] at hf
    refine Ex.swt (t := 514) rfl rfl (by rw [n10]; exact Or.inr ⟨by decide, by decide, _, rfl, by decide⟩) ?_
    exact Ex.weak (sm_le_s (sm_le_n (sm_le_n (sm_le_s (sm_le_s (sm_le_n (sm_le_n (sm_le_s (sm_le_n (sm_le_s (sm_le_s sm_le_nil))))))))))) (B_370_514 hd  hf hs)
  rw [if_neg n10] at hf
  rcases Classical.em (v30 = 10) with n11 | n11
  · rw [if_pos n11] at hf
    refine Ex.swt (t := 531) rfl rfl (by rw [n11]; exact Or.inr ⟨by decide, by decide, _, rfl, by decide⟩) ?_
    refine Ex.seg 3 (pc' := 536) (lc' := [some (.ref 67), some (.int v22), some (.int v23), some (.int v24), some (.int q25.1), some (.int v26), some (.int v27), some (.int v28), some (.int v29), none, none]) (st' := [.int v27, .int v28, .ref 67]) (h' := q25.2) (sg1 rfl rfl (sg1 rfl rfl (sg1 rfl rfl rfl))) ?_
    obtain ⟨q56, e_q56, hf⟩ := bnd hf
    refine Ex.callV (a := 67) (As := [.int v28, .int v27]) (r := []) (v := none) (h' := q56) rfl rfl (by decide) rfl (Nat.le_of_ble_eq_true rfl) rfl (E_366 (Nat.le_trans (by decide) hd) e_q56) rfl ?_
    obtain rfl := Option.some.inj hf
    exact Ex.vret rfl rfl hs
  rw [if_neg n11] at hf
  rcases Classical.em (v30 = 11) with n12 | n12
  · rw [if_pos n12] at hf
    refine Ex.swt (t := 540) rfl rfl (by rw [n12]; exact Or.inr ⟨by decide, by decide, _, rfl, by decide⟩) ?_
    refine Ex.seg 3 (pc' := 545) (lc' := [some (.ref 67), some (.int v22), some (.int v23), some (.int v24), some (.int q25.1), some (.int v26), some (.int v27), some (.int v28), some (.int v29), none, none]) (st' := [.int v27, .int v28, .ref 67]) (h' := q25.2) (sg1 rfl rfl (sg1 rfl rfl (sg1 rfl rfl rfl))) ?_
    obtain ⟨q57, e_q57, hf⟩ := bnd hf
    refine Ex.callV (a := 67) (As := [.int v28, .int v27]) (r := []) (v := none) (h' := q57) rfl rfl (by decide) rfl (Nat.le_of_ble_eq_true rfl) rfl (E_367 (Nat.le_trans (by decide) hd) e_q57) rfl ?_
    obtain rfl := Option.some.inj hf
    exact Ex.vret rfl rfl hs
  rw [if_neg n12] at hf
  rcases Classical.em (v30 = 12) with n13 | n13
  · rw [if_pos n13] at hf
    refine Ex.swt (t := 549) rfl rfl (by rw [n13]; exact Or.inr ⟨by decide, by decide, _, rfl, by decide⟩) ?_
    exact Ex.weak (sm_le_s (sm_le_n (sm_le_s (sm_le_n (sm_le_n (sm_le_n (sm_le_s (sm_le_s (sm_le_n (sm_le_s (sm_le_s sm_le_nil))))))))))) (B_370_549 hd  hf hs)
  rw [if_neg n13] at hf
  rcases Classical.em (v30 = 13) with n14 | n14
  · rw [if_pos n14] at hf
    refine Ex.swt (t := 549) rfl rfl (by rw [n14]; exact Or.inr ⟨by decide, by decide, _, rfl, by decide⟩) ?_
    exact Ex.weak (sm_le_s (sm_le_n (sm_le_s (sm_le_n (sm_le_n (sm_le_n (sm_le_s (sm_le_s (sm_le_n (sm_le_s (sm_le_s sm_le_nil))))))))))) (B_370_549 hd  hf hs)
  rw [if_neg n14] at hf
  rcases Classical.em (v30 = 14) with n15 | n15
  · rw [if_pos n15] at hf
    refine Ex.swt (t := 585) rfl rfl (by rw [n15]; exact Or.inr ⟨by decide, by decide, _, rfl, by decide⟩) ?_
    refine Ex.seg 5 (pc' := 591) (lc' := [some (.ref 67), some (.int v22), some (.int v23), some (.int v24), some (.int q25.1), some (.int v26), some (.int v27), some (.int v28), some (.int v29), none, none]) (st' := [.int v28, .ref 67, .int v24, .int v24, .ref 67]) (h' := q25.2) (sg1 rfl rfl (sg1 rfl rfl (sg1 rfl rfl (sg1 rfl rfl (sg1 rfl rfl rfl))))) ?_
    obtain ⟨q58, e_q58, hf⟩ := bnd hf
    refine Ex.callV (a := 67) (As := [.int v28]) (r := [.int v24, .int v24, .ref 67]) (v := some (.int q58.1)) (h' := q58.2) rfl rfl (by decide) rfl (Nat.le_of_ble_eq_true rfl) rfl (E_305 (Nat.le_trans (by decide) hd) e_q58) rfl ?_
    refine Ex.seg 1 (pc' := 595) (lc' := [some (.ref 67), some (.int v22), some (.int v23), some (.int v24), some (.int q25.1), some (.int v26), some (.int v27), some (.int v28), some (.int v29), none, none]) (st' := [.int (v24 + q58.1), .int v24, .ref 67]) (h' := q58.2) (sg1 rfl rfl rfl) ?_
    obtain ⟨q59, e_q59, hf⟩ := bnd hf
    refine Ex.callV (a := 67) (As := [.int v24, .int (v24 + q58.1)]) (r := []) (v := none) (h' := q59) rfl rfl (by decide) rfl (Nat.le_of_ble_eq_true rfl) rfl (E_343 (Nat.le_trans (by decide) hd) e_q59) rfl ?_
    refine Ex.seg 3 (pc' := 602) (lc' := [some (.ref 67), some (.int v22), some (.int v23), some (.int v24), some (.int q25.1), some (.int v26), some (.int v27), some (.int v28), some (.int v29), none, none]) (st' := [.int 1, .int v28, .ref 67]) (h' := q59) (sg1 rfl rfl (sg1 rfl rfl (sg1 rfl rfl rfl))) ?_
    obtain ⟨q60, e_q60, hf⟩ := bnd hf
    refine Ex.callV (a := 67) (As := [.int v28, .int 1]) (r := []) (v := none) (h' := q60) rfl rfl (by decide) rfl (Nat.le_of_ble_eq_true rfl) rfl (E_350 (Nat.le_trans (by decide) hd) e_q60) rfl ?_
    obtain rfl := Option.some.inj hf
    exact Ex.vret rfl rfl hs
  rw [if_neg n15] at hf
  rcases Classical.em (v30 = 15) with n16 | n16
  · rw [if_pos n16] at hf
    refine Ex.swt (t := 514) rfl rfl (by rw [n16]; exact Or.inr ⟨by decide, by decide, _, rfl, by decide⟩) ?_
    exact Ex.weak (sm_le_s (sm_le_n (sm_le_n (sm_le_s (sm_le_s (sm_le_n (sm_le_n (sm_le_s (sm_le_n (sm_le_s (sm_le_s sm_le_nil))))))))))) (B_370_514 hd  hf hs)
  rw [if_neg n16] at hf
  rcases Classical.em (v30 = 16) with n17 | n17
  · rw [if_pos n17] at hf
    refine Ex.swt (t := 514) rfl rfl (by rw [n17]; exact Or.inr ⟨by decide, by decide, _, rfl, by decide⟩) ?_
    exact Ex.weak (sm_le_s (sm_le_n (sm_le_n (sm_le_s (sm_le_s (sm_le_n (sm_le_n (sm_le_s (sm_le_n (sm_le_s (sm_le_s sm_le_nil))))))))))) (B_370_514 hd  hf hs)
  rw [if_neg n17] at hf
  rcases Classical.em (v30 = 17) with n18 | n18
  · rw [if_pos n18] at hf
    refine Ex.swt (t := 606) rfl rfl (by rw [n18]; exact Or.inr ⟨by decide, by decide, _, rfl, by decide⟩) ?_
    refine Ex.seg 2 (pc' := 608) (lc' := [some (.ref 67), some (.int v22), some (.int v23), some (.int v24), some (.int q25.1), some (.int v26), some (.int v27), some (.int v28), some (.int v29), none, none]) (st' := [.int 0, .ref 67]) (h' := q25.2) (sg1 rfl rfl (sg1 rfl rfl rfl)) ?_
    obtain ⟨q61, e_q61, hf⟩ := bnd hf
    refine Ex.callV (a := 67) (As := [.int 0]) (r := []) (v := some (.long q61.1)) (h' := q61.2) rfl rfl (by decide) rfl (Nat.le_of_ble_eq_true rfl) rfl (E_352 (Nat.le_trans (by decide) hd) e_q61) rfl ?_
    refine Ex.seg 6 (pc' := 619) (lc' := [some (.ref 67), some (.int v22), some (.int v23), some (.int v24), some (.int q25.1), some (.int v26), some (.int v27), some (.int v28), some (.int v29), some (.long q61.1), none]) (st' := [.int (v24 + q25.1), .int v24, .ref 67]) (h' := q61.2) (sg1 rfl rfl (sg1 rfl rfl (sg1 rfl rfl (sg1 rfl rfl (sg1 rfl rfl (sg1 rfl rfl rfl)))))) ?_
    obtain ⟨q62, e_q62, hf⟩ := bnd hf
    refine Ex.callV (a := 67) (As := [.int v24, .int (v24 + q25.1)]) (r := []) (v := none) (h' := q62) rfl rfl (by decide) rfl (Nat.le_of_ble_eq_true rfl) rfl (E_343 (Nat.le_trans (by decide) hd) e_q62) rfl ?_
    refine Ex.seg 4 (pc' := 627) (lc' := [some (.ref 67), some (.int v22), some (.int v23), some (.int v24), some (.int q25.1), some (.int v26), some (.int v27), some (.int v28), some (.int v29), some (.long q61.1), none]) (st' := [.int (lg_cmp q61.1 0), .ref 67]) (h' := q62) (sg1 rfl rfl (sg1 rfl rfl (sg1 rfl rfl (sg1 rfl rfl rfl)))) ?_
    refine Ex.ifc rfl rfl (fun (c0 : (lg_cmp q61.1 0) < 0) => ?_) (fun (c0 : ¬ ((lg_cmp q61.1 0) < 0)) => ?_)
    · rw [if_pos c0] at hf
      exact Ex.weak (sm_le_n (sm_le_n (sm_le_n (sm_le_n (sm_le_n (sm_le_n (sm_le_n (sm_le_s (sm_le_n (sm_le_n (sm_le_s sm_le_nil))))))))))) (B_370_663 hd  hf hs)
    · rw [if_neg c0] at hf
      refine Ex.seg 4 (pc' := 637) (lc' := [some (.ref 67), some (.int v22), some (.int v23), some (.int v24), some (.int q25.1), some (.int v26), some (.int v27), some (.int v28), some (.int v29), some (.long q61.1), none]) (st' := [.int v23, .ref 80, .long q61.1, .ref 67]) (h' := q62) (sg1 rfl rfl (sg1 rfl rfl (sg1 rfl rfl (sg1 rfl rfl rfl)))) ?_
      obtain ⟨v63, e_v63, hf⟩ := bnd hf
      refine Ex.iald e_v63 rfl rfl ?_
      refine Ex.seg 4 (pc' := 642) (lc' := [some (.ref 67), some (.int v22), some (.int v23), some (.int v24), some (.int q25.1), some (.int v26), some (.int v27), some (.int v28), some (.int v29), some (.long q61.1), none]) (st' := [.int (lg_cmp q61.1 (Int32.toInt64 (v63 - 1))), .ref 67]) (h' := q62) (sg1 rfl rfl (sg1 rfl rfl (sg1 rfl rfl (sg1 rfl rfl rfl)))) ?_
      refine Ex.ifc rfl rfl (fun (c0 : 0 ≤ (lg_cmp q61.1 (Int32.toInt64 (v63 - 1)))) => ?_) (fun (c0 : ¬ (0 ≤ (lg_cmp q61.1 (Int32.toInt64 (v63 - 1))))) => ?_)
      · rw [if_pos c0] at hf
        exact Ex.weak (sm_le_n (sm_le_n (sm_le_n (sm_le_n (sm_le_n (sm_le_n (sm_le_n (sm_le_s (sm_le_n (sm_le_n (sm_le_s sm_le_nil))))))))))) (B_370_663 hd  hf hs)
      · rw [if_neg c0] at hf
        refine Ex.seg 10 (pc' := 659) (lc' := [some (.ref 67), some (.int v22), some (.int v23), some (.int v24), some (.int q25.1), some (.int v26), some (.int v27), some (.int v28), some (.int v29), some (.long q61.1), none]) (st' := [.int (((24 * v23) + 1) + (Int64.toInt32 q61.1)), .ref 81, .ref 67]) (h' := q62) (sg1 rfl rfl (sg1 rfl rfl (sg1 rfl rfl (sg1 rfl rfl (sg1 rfl rfl (sg1 rfl rfl (sg1 rfl rfl (sg1 rfl rfl (sg1 rfl rfl (sg1 rfl rfl rfl)))))))))) ?_
        obtain ⟨v64, e_v64, hf⟩ := bnd hf
        refine Ex.iald e_v64 rfl rfl ?_
        refine Ex.seg 1 (pc' := 665) (lc' := [some (.ref 67), some (.int v22), some (.int v23), some (.int v24), some (.int q25.1), some (.int v26), some (.int v27), some (.int v28), some (.int v29), some (.long q61.1), none]) (st' := [.int v64, .ref 67]) (h' := q62) (sg1 rfl rfl rfl) ?_
        exact Ex.weak (sm_le_n (sm_le_n (sm_le_n (sm_le_n (sm_le_n (sm_le_n (sm_le_n (sm_le_n (sm_le_n (sm_le_n (sm_le_s sm_le_nil))))))))))) (B_370_665 hd  hf hs)
  rw [if_neg n18] at hf
  rcases Classical.em (v30 = 18) with n19 | n19
  · rw [if_pos n19] at hf
    refine Ex.swt (t := 669) rfl rfl (by rw [n19]; exact Or.inr ⟨by decide, by decide, _, rfl, by decide⟩) ?_
    refine Ex.seg 4 (pc' := 675) (lc' := [some (.ref 67), some (.int v22), some (.int v23), some (.int v24), some (.int q25.1), some (.int v26), some (.int v27), some (.int v28), some (.int v29), none, none]) (st' := [.int 0, .int v22, .ref 106]) (h' := q25.2) (sg1 rfl rfl (sg1 rfl rfl (sg1 rfl rfl (sg1 rfl rfl rfl)))) ?_
    obtain ⟨h65, e_h65, hf⟩ := bnd hf
    refine Ex.iast e_h65 rfl rfl ?_
    refine Ex.seg 4 (pc' := 682) (lc' := [some (.ref 67), some (.int v22), some (.int v23), some (.int v24), some (.int q25.1), some (.int v26), some (.int v27), some (.int v28), some (.int v29), none, none]) (st' := [.int 0, .int v22, .ref 107]) (h' := h65) (sg1 rfl rfl (sg1 rfl rfl (sg1 rfl rfl (sg1 rfl rfl rfl)))) ?_
    obtain ⟨h66, e_h66, hf⟩ := bnd hf
    refine Ex.iast e_h66 rfl rfl ?_
    refine Ex.seg 1 (pc' := 684) (lc' := [some (.ref 67), some (.int v22), some (.int v23), some (.int v24), some (.int q25.1), some (.int v26), some (.int v27), some (.int v28), some (.int v29), none, none]) (st' := [.ref 67]) (h' := h66) (sg1 rfl rfl rfl) ?_
    obtain ⟨q67, e_q67, hf⟩ := bnd hf
    refine Ex.callV (a := 67) (As := []) (r := []) (v := none) (h' := q67) rfl rfl (by decide) rfl (Nat.le_of_ble_eq_true rfl) rfl (E_371 (Nat.le_trans (by decide) hd) e_q67) rfl ?_
    obtain rfl := Option.some.inj hf
    exact Ex.vret rfl rfl hs
  rw [if_neg n19] at hf
  rcases Classical.em (v30 = 19) with n20 | n20
  · rw [if_pos n20] at hf
    refine Ex.swt (t := 688) rfl rfl (by rw [n20]; exact Or.inr ⟨by decide, by decide, _, rfl, by decide⟩) ?_
    refine Ex.seg 2 (pc' := 690) (lc' := [some (.ref 67), some (.int v22), some (.int v23), some (.int v24), some (.int q25.1), some (.int v26), some (.int v27), some (.int v28), some (.int v29), none, none]) (st' := [.int 0, .ref 67]) (h' := q25.2) (sg1 rfl rfl (sg1 rfl rfl rfl)) ?_
    obtain ⟨q68, e_q68, hf⟩ := bnd hf
    refine Ex.callV (a := 67) (As := [.int 0]) (r := []) (v := some (.int q68.1)) (h' := q68.2) rfl rfl (by decide) rfl (Nat.le_of_ble_eq_true rfl) rfl (E_351 (Nat.le_trans (by decide) hd) e_q68) rfl ?_
    refine Ex.ifc rfl rfl (fun (c0 : ¬ (q68.1 = 0)) => ?_) (fun (c0 : ¬ ¬ (q68.1 = 0)) => ?_)
    · rw [if_neg c0] at hf
      refine Ex.seg 3 (pc' := 707) (lc' := [some (.ref 67), some (.int v22), some (.int v23), some (.int v24), some (.int q25.1), some (.int v26), some (.int v27), some (.int v28), some (.int v29), none, none]) (st' := [.int 0, .ref 67, .ref 67]) (h' := q68.2) (sg1 rfl rfl (sg1 rfl rfl (sg1 rfl rfl rfl))) ?_
      obtain ⟨q69, e_q69, hf⟩ := bnd hf
      refine Ex.callV (a := 67) (As := [.int 0]) (r := [.ref 67]) (v := some (.int q69.1)) (h' := q69.2) rfl rfl (by decide) rfl (Nat.le_of_ble_eq_true rfl) rfl (E_351 (Nat.le_trans (by decide) hd) e_q69) rfl ?_
      refine Ex.seg 2 (pc' := 712) (lc' := [some (.ref 67), some (.int v22), some (.int v23), some (.int v24), some (.int q25.1), some (.int v26), some (.int v27), some (.int v28), some (.int v29), none, none]) (st' := [.int 0, .ref 67, .int q69.1, .ref 67]) (h' := q69.2) (sg1 rfl rfl (sg1 rfl rfl rfl)) ?_
      obtain ⟨q70, e_q70, hf⟩ := bnd hf
      refine Ex.callV (a := 67) (As := [.int 0]) (r := [.int q69.1, .ref 67]) (v := some (.long q70.1)) (h' := q70.2) rfl rfl (by decide) rfl (Nat.le_of_ble_eq_true rfl) rfl (E_352 (Nat.le_trans (by decide) hd) e_q70) rfl ?_
      obtain ⟨q71, e_q71, hf⟩ := bnd hf
      refine Ex.callV (a := 67) (As := [.int q69.1, .long q70.1]) (r := []) (v := none) (h' := q71) rfl rfl (by decide) rfl (Nat.le_of_ble_eq_true rfl) rfl (E_347 (Nat.le_trans (by decide) hd) e_q71) rfl ?_
      exact Ex.weak (sm_le_n (sm_le_n (sm_le_n (sm_le_n (sm_le_n (sm_le_n (sm_le_n (sm_le_n (sm_le_n (sm_le_s (sm_le_s sm_le_nil))))))))))) (B_370_718 hd  hf hs)
    · rw [if_pos (Classical.not_not.mp c0)] at hf
      refine Ex.seg 2 (pc' := 698) (lc' := [some (.ref 67), some (.int v22), some (.int v23), some (.int v24), some (.int q25.1), some (.int v26), some (.int v27), some (.int v28), some (.int v29), none, none]) (st' := [.int 1, .ref 67]) (h' := q68.2) (sg1 rfl rfl (sg1 rfl rfl rfl)) ?_
      obtain ⟨q72, e_q72, hf⟩ := bnd hf
      refine Ex.callV (a := 67) (As := [.int 1]) (r := []) (v := none) (h' := q72) rfl rfl (by decide) rfl (Nat.le_of_ble_eq_true rfl) rfl (E_348 (Nat.le_trans (by decide) hd) e_q72) rfl ?_
      refine Ex.seg 1 (pc' := 718) (lc' := [some (.ref 67), some (.int v22), some (.int v23), some (.int v24), some (.int q25.1), some (.int v26), some (.int v27), some (.int v28), some (.int v29), none, none]) (st' := []) (h' := q72) (sg1 rfl rfl rfl) ?_
      exact Ex.weak (sm_le_n (sm_le_n (sm_le_n (sm_le_n (sm_le_n (sm_le_n (sm_le_n (sm_le_n (sm_le_n (sm_le_s (sm_le_s sm_le_nil))))))))))) (B_370_718 hd  hf hs)
  rw [if_neg n20] at hf
  rcases Classical.em (v30 = 20) with n21 | n21
  · rw [if_pos n21] at hf
    refine Ex.swt (t := 719) rfl rfl (by rw [n21]; exact Or.inr ⟨by decide, by decide, _, rfl, by decide⟩) ?_
    refine Ex.seg 2 (pc' := 722) (lc' := [some (.ref 67), some (.int v22), some (.int v23), some (.int v24), some (.int q25.1), some (.int v26), some (.int v27), some (.int v28), some (.int v29), none, none]) (st' := [.int v26, .ref 67]) (h' := q25.2) (sg1 rfl rfl (sg1 rfl rfl rfl)) ?_
    obtain ⟨q73, e_q73, hf⟩ := bnd hf
    refine Ex.callV (a := 67) (As := [.int v26]) (r := []) (v := none) (h' := q73) rfl rfl (by decide) rfl (Nat.le_of_ble_eq_true rfl) rfl (E_359 (Nat.le_trans (by decide) hd) e_q73) rfl ?_
    obtain rfl := Option.some.inj hf
    exact Ex.vret rfl rfl hs
  rw [if_neg n21] at hf
  rcases Classical.em (v30 = 21) with n22 | n22
  · rw [if_pos n22] at hf
    refine Ex.swt (t := 726) rfl rfl (by rw [n22]; exact Or.inr ⟨by decide, by decide, _, rfl, by decide⟩) ?_
    exact Ex.weak (sm_le_s (sm_le_n (sm_le_s (sm_le_n (sm_le_n (sm_le_s (sm_le_n (sm_le_n (sm_le_n (sm_le_s (sm_le_s sm_le_nil))))))))))) (B_370_726 hd  hf hs)
  rw [if_neg n22] at hf
  rcases Classical.em (v30 = 22) with n23 | n23
  · rw [if_pos n23] at hf
    refine Ex.swt (t := 726) rfl rfl (by rw [n23]; exact Or.inr ⟨by decide, by decide, _, rfl, by decide⟩) ?_
    exact Ex.weak (sm_le_s (sm_le_n (sm_le_s (sm_le_n (sm_le_n (sm_le_s (sm_le_n (sm_le_n (sm_le_n (sm_le_s (sm_le_s sm_le_nil))))))))))) (B_370_726 hd  hf hs)
  rw [if_neg n23] at hf
  rcases Classical.em (v30 = 23) with n24 | n24
  · rw [if_pos n24] at hf
    refine Ex.swt (t := 726) rfl rfl (by rw [n24]; exact Or.inr ⟨by decide, by decide, _, rfl, by decide⟩) ?_
    exact Ex.weak (sm_le_s (sm_le_n (sm_le_s (sm_le_n (sm_le_n (sm_le_s (sm_le_n (sm_le_n (sm_le_n (sm_le_s (sm_le_s sm_le_nil))))))))))) (B_370_726 hd  hf hs)
  rw [if_neg n24] at hf
  rcases Classical.em (v30 = 24) with n25 | n25
  · rw [if_pos n25] at hf
    refine Ex.swt (t := 726) rfl rfl (by rw [n25]; exact Or.inr ⟨by decide, by decide, _, rfl, by decide⟩) ?_
    exact Ex.weak (sm_le_s (sm_le_n (sm_le_s (sm_le_n (sm_le_n (sm_le_s (sm_le_n (sm_le_n (sm_le_n (sm_le_s (sm_le_s sm_le_nil))))))))))) (B_370_726 hd  hf hs)
  rw [if_neg n25] at hf
  rcases Classical.em (v30 = 25) with n26 | n26
  · rw [if_pos n26] at hf
    refine Ex.swt (t := 726) rfl rfl (by rw [n26]; exact Or.inr ⟨by decide, by decide, _, rfl, by decide⟩) ?_
    exact Ex.weak (sm_le_s (sm_le_n (sm_le_s (sm_le_n (sm_le_n (sm_le_s (sm_le_n (sm_le_n (sm_le_n (sm_le_s (sm_le_s sm_le_nil))))))))))) (B_370_726 hd  hf hs)
  rw [if_neg n26] at hf
  rcases Classical.em (v30 = 26) with n27 | n27
  · rw [if_pos n27] at hf
    refine Ex.swt (t := 726) rfl rfl (by rw [n27]; exact Or.inr ⟨by decide, by decide, _, rfl, by decide⟩) ?_
    exact Ex.weak (sm_le_s (sm_le_n (sm_le_s (sm_le_n (sm_le_n (sm_le_s (sm_le_n (sm_le_n (sm_le_n (sm_le_s (sm_le_s sm_le_nil))))))))))) (B_370_726 hd  hf hs)
  rw [if_neg n27] at hf
  rcases Classical.em (v30 = 27) with n28 | n28
  · rw [if_pos n28] at hf
    refine Ex.swt (t := 739) rfl rfl (by rw [n28]; exact Or.inr ⟨by decide, by decide, _, rfl, by decide⟩) ?_
    refine Ex.seg 3 (pc' := 743) (lc' := [some (.ref 67), some (.int v22), some (.int v23), some (.int v24), some (.int q25.1), some (.int v26), some (.int v27), some (.int v28), some (.int v29), none, none]) (st' := [.int 0, .int v27, .ref 67]) (h' := q25.2) (sg1 rfl rfl (sg1 rfl rfl (sg1 rfl rfl rfl))) ?_
    obtain ⟨q74, e_q74, hf⟩ := bnd hf
    refine Ex.callV (a := 67) (As := [.int v27, .int 0]) (r := []) (v := none) (h' := q74) rfl rfl (by decide) rfl (Nat.le_of_ble_eq_true rfl) rfl (E_365 (Nat.le_trans (by decide) hd) e_q74) rfl ?_
    obtain rfl := Option.some.inj hf
    exact Ex.vret rfl rfl hs
  rw [if_neg n28] at hf
  rcases Classical.em (v30 = 28) with n29 | n29
  · rw [if_pos n29] at hf
    refine Ex.swt (t := 747) rfl rfl (by rw [n29]; exact Or.inr ⟨by decide, by decide, _, rfl, by decide⟩) ?_
    refine Ex.seg 3 (pc' := 751) (lc' := [some (.ref 67), some (.int v22), some (.int v23), some (.int v24), some (.int q25.1), some (.int v26), some (.int v27), some (.int v28), some (.int v29), none, none]) (st' := [.int 1, .int v27, .ref 67]) (h' := q25.2) (sg1 rfl rfl (sg1 rfl rfl (sg1 rfl rfl rfl))) ?_
    obtain ⟨q75, e_q75, hf⟩ := bnd hf
    refine Ex.callV (a := 67) (As := [.int v27, .int 1]) (r := []) (v := none) (h' := q75) rfl rfl (by decide) rfl (Nat.le_of_ble_eq_true rfl) rfl (E_365 (Nat.le_trans (by decide) hd) e_q75) rfl ?_
    obtain rfl := Option.some.inj hf
    exact Ex.vret rfl rfl hs
  rw [if_neg n29] at hf
  rcases Classical.em (v30 = 29) with n30 | n30
  · rw [if_pos n30] at hf
    refine Ex.swt (t := 755) rfl rfl (by rw [n30]; exact Or.inr ⟨by decide, by decide, _, rfl, by decide⟩) ?_
    refine Ex.seg 5 (pc' := 761) (lc' := [some (.ref 67), some (.int v22), some (.int v23), some (.int v24), some (.int q25.1), some (.int v26), some (.int v27), some (.int v28), some (.int v29), none, none]) (st' := [.int (v24 + q25.1), .int v24, .ref 67]) (h' := q25.2) (sg1 rfl rfl (sg1 rfl rfl (sg1 rfl rfl (sg1 rfl rfl (sg1 rfl rfl rfl))))) ?_
    obtain ⟨q76, e_q76, hf⟩ := bnd hf
    refine Ex.callV (a := 67) (As := [.int v24, .int (v24 + q25.1)]) (r := []) (v := none) (h' := q76) rfl rfl (by decide) rfl (Nat.le_of_ble_eq_true rfl) rfl (E_343 (Nat.le_trans (by decide) hd) e_q76) rfl ?_
    refine Ex.seg 4 (pc' := 771) (lc' := [some (.ref 67), some (.int v22), some (.int v23), some (.int v24), some (.int q25.1), some (.int v26), some (.int v27), some (.int v28), some (.int v29), none, none]) (st' := [.int v26, .ref 92, .ref 67]) (h' := q76) (sg1 rfl rfl (sg1 rfl rfl (sg1 rfl rfl (sg1 rfl rfl rfl)))) ?_
    obtain ⟨v77, e_v77, hf⟩ := bnd hf
    refine Ex.iald e_v77 rfl rfl ?_
    obtain ⟨q78, e_q78, hf⟩ := bnd hf
    refine Ex.callV (a := 67) (As := [.int v77]) (r := []) (v := none) (h' := q78) rfl rfl (by decide) rfl (Nat.le_of_ble_eq_true rfl) rfl (E_349 (Nat.le_trans (by decide) hd) e_q78) rfl ?_
    obtain rfl := Option.some.inj hf
    exact Ex.vret rfl rfl hs
  rw [if_neg n30] at hf
  rcases Classical.em (v30 = 30) with n31 | n31
  · rw [if_pos n31] at hf
    refine Ex.swt (t := 776) rfl rfl (by rw [n31]; exact Or.inr ⟨by decide, by decide, _, rfl, by decide⟩) ?_
    refine Ex.seg 5 (pc' := 782) (lc' := [some (.ref 67), some (.int v22), some (.int v23), some (.int v24), some (.int q25.1), some (.int v26), some (.int v27), some (.int v28), some (.int v29), none, none]) (st' := [.int (v24 + q25.1), .int v24, .ref 67]) (h' := q25.2) (sg1 rfl rfl (sg1 rfl rfl (sg1 rfl rfl (sg1 rfl rfl (sg1 rfl rfl rfl))))) ?_
    obtain ⟨q79, e_q79, hf⟩ := bnd hf
    refine Ex.callV (a := 67) (As := [.int v24, .int (v24 + q25.1)]) (r := []) (v := none) (h' := q79) rfl rfl (by decide) rfl (Nat.le_of_ble_eq_true rfl) rfl (E_343 (Nat.le_trans (by decide) hd) e_q79) rfl ?_
    refine Ex.seg 4 (pc' := 792) (lc' := [some (.ref 67), some (.int v22), some (.int v23), some (.int v24), some (.int q25.1), some (.int v26), some (.int v27), some (.int v28), some (.int v29), none, none]) (st' := [.int v26, .ref 93, .ref 67]) (h' := q79) (sg1 rfl rfl (sg1 rfl rfl (sg1 rfl rfl (sg1 rfl rfl rfl)))) ?_
    obtain ⟨v80, e_v80, hf⟩ := bnd hf
    refine Ex.zald e_v80 rfl rfl ?_
    refine Ex.ifc rfl rfl (fun (c0 : v80 = 0) => ?_) (fun (c0 : ¬ (v80 = 0)) => ?_)
    · rw [if_pos c0] at hf
      refine Ex.seg 1 (pc' := 803) (lc' := [some (.ref 67), some (.int v22), some (.int v23), some (.int v24), some (.int q25.1), some (.int v26), some (.int v27), some (.int v28), some (.int v29), none, none]) (st' := [.int v28, .ref 67]) (h' := q79) (sg1 rfl rfl rfl) ?_
      exact Ex.weak (sm_le_n (sm_le_n (sm_le_n (sm_le_n (sm_le_n (sm_le_n (sm_le_n (sm_le_n (sm_le_n (sm_le_s (sm_le_s sm_le_nil))))))))))) (B_370_803 hd  hf hs)
    · rw [if_neg c0] at hf
      refine Ex.seg 2 (pc' := 803) (lc' := [some (.ref 67), some (.int v22), some (.int v23), some (.int v24), some (.int q25.1), some (.int v26), some (.int v27), some (.int v28), some (.int v29), none, none]) (st' := [.int v29, .ref 67]) (h' := q79) (sg1 rfl rfl (sg1 rfl rfl rfl)) ?_
      exact Ex.weak (sm_le_n (sm_le_n (sm_le_n (sm_le_n (sm_le_n (sm_le_n (sm_le_n (sm_le_n (sm_le_n (sm_le_s (sm_le_s sm_le_nil))))))))))) (B_370_803 hd  hf hs)
  rw [if_neg n31] at hf
  rcases Classical.em (v30 = 31) with n32 | n32
  · rw [if_pos n32] at hf
    refine Ex.swt (t := 807) rfl rfl (by rw [n32]; exact Or.inr ⟨by decide, by decide, _, rfl, by decide⟩) ?_
    refine Ex.seg 4 (pc' := 811) (lc' := [some (.ref 67), some (.int v22), some (.int v23), some (.int v24), some (.int q25.1), some (.int v26), some (.int v27), some (.int v28), some (.int v29), none, none]) (st' := [.int 0, .ref 67, .int 1, .ref 67]) (h' := q25.2) (sg1 rfl rfl (sg1 rfl rfl (sg1 rfl rfl (sg1 rfl rfl rfl)))) ?_
    obtain ⟨q81, e_q81, hf⟩ := bnd hf
    refine Ex.callV (a := 67) (As := [.int 0]) (r := [.int 1, .ref 67]) (v := some (.int q81.1)) (h' := q81.2) rfl rfl (by decide) rfl (Nat.le_of_ble_eq_true rfl) rfl (E_351 (Nat.le_trans (by decide) hd) e_q81) rfl ?_
    refine Ex.ifc rfl rfl (fun (c0 : q81.1 = 0) => ?_) (fun (c0 : ¬ (q81.1 = 0)) => ?_)
    · rw [if_pos c0] at hf
      exact Ex.weak (sm_le_n (sm_le_n (sm_le_n (sm_le_n (sm_le_n (sm_le_n (sm_le_n (sm_le_n (sm_le_n (sm_le_s (sm_le_s sm_le_nil))))))))))) (B_370_835 hd  hf hs)
    · rw [if_neg c0] at hf
      refine Ex.seg 3 (pc' := 820) (lc' := [some (.ref 67), some (.int v22), some (.int v23), some (.int v24), some (.int q25.1), some (.int v26), some (.int v27), some (.int v28), some (.int v29), none, none]) (st' := [.int 0, .ref 67, .ref 67, .int 1, .ref 67]) (h' := q81.2) (sg1 rfl rfl (sg1 rfl rfl (sg1 rfl rfl rfl))) ?_
      obtain ⟨q82, e_q82, hf⟩ := bnd hf
      refine Ex.callV (a := 67) (As := [.int 0]) (r := [.ref 67, .int 1, .ref 67]) (v := some (.int q82.1)) (h' := q82.2) rfl rfl (by decide) rfl (Nat.le_of_ble_eq_true rfl) rfl (E_351 (Nat.le_trans (by decide) hd) e_q82) rfl ?_
      refine Ex.seg 1 (pc' := 825) (lc' := [some (.ref 67), some (.int v22), some (.int v23), some (.int v24), some (.int q25.1), some (.int v26), some (.int v27), some (.int v28), some (.int v29), none, none]) (st' := [.int v26, .int q82.1, .ref 67, .int 1, .ref 67]) (h' := q82.2) (sg1 rfl rfl rfl) ?_
      obtain ⟨q83, e_q83, hf⟩ := bnd hf
      refine Ex.callV (a := 67) (As := [.int q82.1, .int v26]) (r := [.int 1, .ref 67]) (v := some (.int q83.1)) (h' := q83.2) rfl rfl (by decide) rfl (Nat.le_of_ble_eq_true rfl) rfl (E_295 (Nat.le_trans (by decide) hd) e_q83) rfl ?_
      refine Ex.ifc rfl rfl (fun (c0 : q83.1 = 0) => ?_) (fun (c0 : ¬ (q83.1 = 0)) => ?_)
      · rw [if_pos c0] at hf
        exact Ex.weak (sm_le_n (sm_le_n (sm_le_n (sm_le_n (sm_le_n (sm_le_n (sm_le_n (sm_le_n (sm_le_n (sm_le_s (sm_le_s sm_le_nil))))))))))) (B_370_835 hd  hf hs)
      · rw [if_neg c0] at hf
        refine Ex.seg 2 (pc' := 836) (lc' := [some (.ref 67), some (.int v22), some (.int v23), some (.int v24), some (.int q25.1), some (.int v26), some (.int v27), some (.int v28), some (.int v29), none, none]) (st' := [.long 1, .int 1, .ref 67]) (h' := q83.2) (sg1 rfl rfl (sg1 rfl rfl rfl)) ?_
        exact Ex.weak (sm_le_n (sm_le_n (sm_le_n (sm_le_n (sm_le_n (sm_le_n (sm_le_n (sm_le_n (sm_le_n (sm_le_s (sm_le_s sm_le_nil))))))))))) (B_370_836 hd  hf hs)
  rw [if_neg n32] at hf
  rcases Classical.em (v30 = 32) with n33 | n33
  · rw [if_pos n33] at hf
    refine Ex.swt (t := 840) rfl rfl (by rw [n33]; exact Or.inr ⟨by decide, by decide, _, rfl, by decide⟩) ?_
    refine Ex.seg 4 (pc' := 844) (lc' := [some (.ref 67), some (.int v22), some (.int v23), some (.int v24), some (.int q25.1), some (.int v26), some (.int v27), some (.int v28), some (.int v29), none, none]) (st' := [.int 0, .ref 67, .int 1, .ref 67]) (h' := q25.2) (sg1 rfl rfl (sg1 rfl rfl (sg1 rfl rfl (sg1 rfl rfl rfl)))) ?_
    obtain ⟨q84, e_q84, hf⟩ := bnd hf
    refine Ex.callV (a := 67) (As := [.int 0]) (r := [.int 1, .ref 67]) (v := some (.int q84.1)) (h' := q84.2) rfl rfl (by decide) rfl (Nat.le_of_ble_eq_true rfl) rfl (E_351 (Nat.le_trans (by decide) hd) e_q84) rfl ?_
    refine Ex.seg 2 (pc' := 849) (lc' := [some (.ref 67), some (.int v22), some (.int v23), some (.int v24), some (.int q25.1), some (.int v26), some (.int v27), some (.int v28), some (.int v29), none, none]) (st' := [.int 1, .ref 67, .int q84.1, .int 1, .ref 67]) (h' := q84.2) (sg1 rfl rfl (sg1 rfl rfl rfl)) ?_
    obtain ⟨q85, e_q85, hf⟩ := bnd hf
    refine Ex.callV (a := 67) (As := [.int 1]) (r := [.int q84.1, .int 1, .ref 67]) (v := some (.int q85.1)) (h' := q85.2) rfl rfl (by decide) rfl (Nat.le_of_ble_eq_true rfl) rfl (E_351 (Nat.le_trans (by decide) hd) e_q85) rfl ?_
    refine Ex.icmp rfl rfl (fun (c0 : ¬ (q84.1 = q85.1)) => ?_) (fun (c0 : ¬ ¬ (q84.1 = q85.1)) => ?_)
    · rw [if_neg c0] at hf
      exact Ex.weak (sm_le_n (sm_le_n (sm_le_n (sm_le_n (sm_le_n (sm_le_n (sm_le_n (sm_le_n (sm_le_n (sm_le_s (sm_le_s sm_le_nil))))))))))) (B_370_881 hd  hf hs)
    · rw [if_pos (Classical.not_not.mp c0)] at hf
      refine Ex.seg 2 (pc' := 857) (lc' := [some (.ref 67), some (.int v22), some (.int v23), some (.int v24), some (.int q25.1), some (.int v26), some (.int v27), some (.int v28), some (.int v29), none, none]) (st' := [.int 0, .ref 67, .int 1, .ref 67]) (h' := q85.2) (sg1 rfl rfl (sg1 rfl rfl rfl)) ?_
      obtain ⟨q86, e_q86, hf⟩ := bnd hf
      refine Ex.callV (a := 67) (As := [.int 0]) (r := [.int 1, .ref 67]) (v := some (.int q86.1)) (h' := q86.2) rfl rfl (by decide) rfl (Nat.le_of_ble_eq_true rfl) rfl (E_351 (Nat.le_trans (by decide) hd) e_q86) rfl ?_
      refine Ex.ifc rfl rfl (fun (c0 : q86.1 = 0) => ?_) (fun (c0 : ¬ (q86.1 = 0)) => ?_)
      · rw [if_pos c0] at hf
        exact Ex.weak (sm_le_n (sm_le_n (sm_le_n (sm_le_n (sm_le_n (sm_le_n (sm_le_n (sm_le_n (sm_le_n (sm_le_s (sm_le_s sm_le_nil))))))))))) (B_370_877 hd  hf hs)
      · rw [if_neg c0] at hf
        refine Ex.seg 2 (pc' := 865) (lc' := [some (.ref 67), some (.int v22), some (.int v23), some (.int v24), some (.int q25.1), some (.int v26), some (.int v27), some (.int v28), some (.int v29), none, none]) (st' := [.int 0, .ref 67, .int 1, .ref 67]) (h' := q86.2) (sg1 rfl rfl (sg1 rfl rfl rfl)) ?_
        obtain ⟨q87, e_q87, hf⟩ := bnd hf
        refine Ex.callV (a := 67) (As := [.int 0]) (r := [.int 1, .ref 67]) (v := some (.long q87.1)) (h' := q87.2) rfl rfl (by decide) rfl (Nat.le_of_ble_eq_true rfl) rfl (E_352 (Nat.le_trans (by decide) hd) e_q87) rfl ?_
        refine Ex.seg 2 (pc' := 870) (lc' := [some (.ref 67), some (.int v22), some (.int v23), some (.int v24), some (.int q25.1), some (.int v26), some (.int v27), some (.int v28), some (.int v29), none, none]) (st' := [.int 1, .ref 67, .long q87.1, .int 1, .ref 67]) (h' := q87.2) (sg1 rfl rfl (sg1 rfl rfl rfl)) ?_
        obtain ⟨q88, e_q88, hf⟩ := bnd hf
        refine Ex.callV (a := 67) (As := [.int 1]) (r := [.long q87.1, .int 1, .ref 67]) (v := some (.long q88.1)) (h' := q88.2) rfl rfl (by decide) rfl (Nat.le_of_ble_eq_true rfl) rfl (E_352 (Nat.le_trans (by decide) hd) e_q88) rfl ?_
        refine Ex.seg 1 (pc' := 874) (lc' := [some (.ref 67), some (.int v22), some (.int v23), some (.int v24), some (.int q25.1), some (.int v26), some (.int v27), some (.int v28), some (.int v29), none, none]) (st' := [.int (lg_cmp q87.1 q88.1), .int 1, .ref 67]) (h' := q88.2) (sg1 rfl rfl rfl) ?_
        refine Ex.ifc rfl rfl (fun (c0 : ¬ ((lg_cmp q87.1 q88.1) = 0)) => ?_) (fun (c0 : ¬ ¬ ((lg_cmp q87.1 q88.1) = 0)) => ?_)
        · rw [if_neg c0] at hf
          exact Ex.weak (sm_le_n (sm_le_n (sm_le_n (sm_le_n (sm_le_n (sm_le_n (sm_le_n (sm_le_n (sm_le_n (sm_le_s (sm_le_s sm_le_nil))))))))))) (B_370_881 hd  hf hs)
        · rw [if_pos (Classical.not_not.mp c0)] at hf
          exact Ex.weak (sm_le_n (sm_le_n (sm_le_n (sm_le_n (sm_le_n (sm_le_n (sm_le_n (sm_le_n (sm_le_n (sm_le_s (sm_le_s sm_le_nil))))))))))) (B_370_877 hd  hf hs)
  rw [if_neg n33] at hf
  rcases Classical.em (v30 = 33) with n34 | n34
  · rw [if_pos n34] at hf
    refine Ex.swt (t := 886) rfl rfl (by rw [n34]; exact Or.inr ⟨by decide, by decide, _, rfl, by decide⟩) ?_
    refine Ex.seg 2 (pc' := 888) (lc' := [some (.ref 67), some (.int v22), some (.int v23), some (.int v24), some (.int q25.1), some (.int v26), some (.int v27), some (.int v28), some (.int v29), none, none]) (st' := [.int 0, .ref 67]) (h' := q25.2) (sg1 rfl rfl (sg1 rfl rfl rfl)) ?_
    obtain ⟨q89, e_q89, hf⟩ := bnd hf
    refine Ex.callV (a := 67) (As := [.int 0]) (r := []) (v := some (.int q89.1)) (h' := q89.2) rfl rfl (by decide) rfl (Nat.le_of_ble_eq_true rfl) rfl (E_351 (Nat.le_trans (by decide) hd) e_q89) rfl ?_
    refine Ex.ifc rfl rfl (fun (c0 : ¬ (q89.1 = 0)) => ?_) (fun (c0 : ¬ ¬ (q89.1 = 0)) => ?_)
    · rw [if_neg c0] at hf
      refine Ex.seg 4 (pc' := 906) (lc' := [some (.ref 67), some (.int v22), some (.int v23), some (.int v24), some (.int q25.1), some (.int v26), some (.int v27), some (.int v28), some (.int v29), none, none]) (st' := [.int 0, .ref 67, .int 5, .ref 67]) (h' := q89.2) (sg1 rfl rfl (sg1 rfl rfl (sg1 rfl rfl (sg1 rfl rfl rfl)))) ?_
      obtain ⟨q90, e_q90, hf⟩ := bnd hf
      refine Ex.callV (a := 67) (As := [.int 0]) (r := [.int 5, .ref 67]) (v := some (.int q90.1)) (h' := q90.2) rfl rfl (by decide) rfl (Nat.le_of_ble_eq_true rfl) rfl (E_351 (Nat.le_trans (by decide) hd) e_q90) rfl ?_
      refine Ex.seg 1 (pc' := 911) (lc' := [some (.ref 67), some (.int v22), some (.int v23), some (.int v24), some (.int q25.1), some (.int v26), some (.int v27), some (.int v28), some (.int v29), none, none]) (st' := [.int 19, .int q90.1, .int 5, .ref 67]) (h' := q90.2) (sg1 rfl rfl rfl) ?_
      refine Ex.icmp rfl rfl (fun (c0 : ¬ (q90.1 = 19)) => ?_) (fun (c0 : ¬ ¬ (q90.1 = 19)) => ?_)
      · rw [if_neg c0] at hf
        refine Ex.seg 1 (pc' := 923) (lc' := [some (.ref 67), some (.int v22), some (.int v23), some (.int v24), some (.int q25.1), some (.int v26), some (.int v27), some (.int v28), some (.int v29), none, none]) (st' := [.long 0, .int 5, .ref 67]) (h' := q90.2) (sg1 rfl rfl rfl) ?_
        exact Ex.weak (sm_le_n (sm_le_n (sm_le_n (sm_le_n (sm_le_n (sm_le_n (sm_le_n (sm_le_n (sm_le_n (sm_le_s (sm_le_s sm_le_nil))))))))))) (B_370_923 hd  hf hs)
      · rw [if_pos (Classical.not_not.mp c0)] at hf
        refine Ex.seg 2 (pc' := 916) (lc' := [some (.ref 67), some (.int v22), some (.int v23), some (.int v24), some (.int q25.1), some (.int v26), some (.int v27), some (.int v28), some (.int v29), none, none]) (st' := [.int 0, .ref 67, .int 5, .ref 67]) (h' := q90.2) (sg1 rfl rfl (sg1 rfl rfl rfl)) ?_
        obtain ⟨q91, e_q91, hf⟩ := bnd hf
        refine Ex.callV (a := 67) (As := [.int 0]) (r := [.int 5, .ref 67]) (v := some (.long q91.1)) (h' := q91.2) rfl rfl (by decide) rfl (Nat.le_of_ble_eq_true rfl) rfl (E_352 (Nat.le_trans (by decide) hd) e_q91) rfl ?_
        refine Ex.seg 1 (pc' := 923) (lc' := [some (.ref 67), some (.int v22), some (.int v23), some (.int v24), some (.int q25.1), some (.int v26), some (.int v27), some (.int v28), some (.int v29), none, none]) (st' := [.long q91.1, .int 5, .ref 67]) (h' := q91.2) (sg1 rfl rfl rfl) ?_
        exact Ex.weak (sm_le_n (sm_le_n (sm_le_n (sm_le_n (sm_le_n (sm_le_n (sm_le_n (sm_le_n (sm_le_n (sm_le_s (sm_le_s sm_le_nil))))))))))) (B_370_923 hd  hf hs)
    · rw [if_pos (Classical.not_not.mp c0)] at hf
      refine Ex.seg 2 (pc' := 896) (lc' := [some (.ref 67), some (.int v22), some (.int v23), some (.int v24), some (.int q25.1), some (.int v26), some (.int v27), some (.int v28), some (.int v29), none, none]) (st' := [.int 1, .ref 67]) (h' := q89.2) (sg1 rfl rfl (sg1 rfl rfl rfl)) ?_
      obtain ⟨q92, e_q92, hf⟩ := bnd hf
      refine Ex.callV (a := 67) (As := [.int 1]) (r := []) (v := none) (h' := q92) rfl rfl (by decide) rfl (Nat.le_of_ble_eq_true rfl) rfl (E_348 (Nat.le_trans (by decide) hd) e_q92) rfl ?_
      refine Ex.seg 1 (pc' := 926) (lc' := [some (.ref 67), some (.int v22), some (.int v23), some (.int v24), some (.int q25.1), some (.int v26), some (.int v27), some (.int v28), some (.int v29), none, none]) (st' := []) (h' := q92) (sg1 rfl rfl rfl) ?_
      exact Ex.weak (sm_le_n (sm_le_n (sm_le_n (sm_le_n (sm_le_n (sm_le_n (sm_le_n (sm_le_n (sm_le_n (sm_le_s (sm_le_s sm_le_nil))))))))))) (B_370_926 hd  hf hs)
  rw [if_neg n34] at hf
  rcases Classical.em (v30 = 34) with n35 | n35
  · rw [if_pos n35] at hf
    refine Ex.swt (t := 927) rfl rfl (by rw [n35]; exact Or.inr ⟨by decide, by decide, _, rfl, by decide⟩) ?_
    refine Ex.seg 3 (pc' := 930) (lc' := [some (.ref 67), some (.int v22), some (.int v23), some (.int v24), some (.int q25.1), some (.int v26), some (.int v27), some (.int v28), some (.int v29), none, none]) (st' := [.int v23, .ref 67, .ref 67]) (h' := q25.2) (sg1 rfl rfl (sg1 rfl rfl (sg1 rfl rfl rfl))) ?_
    obtain ⟨q93, e_q93, hf⟩ := bnd hf
    refine Ex.callV (a := 67) (As := [.int v23]) (r := [.ref 67]) (v := some (.int q93.1)) (h' := q93.2) rfl rfl (by decide) rfl (Nat.le_of_ble_eq_true rfl) rfl (E_307 (Nat.le_trans (by decide) hd) e_q93) rfl ?_
    obtain ⟨q94, e_q94, hf⟩ := bnd hf
    refine Ex.callV (a := 67) (As := [.int q93.1]) (r := []) (v := none) (h' := q94) rfl rfl (by decide) rfl (Nat.le_of_ble_eq_true rfl) rfl (E_346 (Nat.le_trans (by decide) hd) e_q94) rfl ?_
    obtain rfl := Option.some.inj hf
    exact Ex.vret rfl rfl hs
  rw [if_neg n35] at hf
  rcases Classical.em (v30 = 35) with n36 | n36
  · rw [if_pos n36] at hf
    refine Ex.swt (t := 937) rfl rfl (by rw [n36]; exact Or.inr ⟨by decide, by decide, _, rfl, by decide⟩) ?_
    refine Ex.seg 6 (pc' := 948) (lc' := [some (.ref 67), some (.int v22), some (.int v23), some (.int v24), some (.int q25.1), some (.int v26), some (.int v27), some (.int v28), some (.int v29), none, none]) (st' := [.int v26, .ref 86, .int v27, .int v26, .ref 67]) (h' := q25.2) (sg1 rfl rfl (sg1 rfl rfl (sg1 rfl rfl (sg1 rfl rfl (sg1 rfl rfl (sg1 rfl rfl rfl)))))) ?_
    obtain ⟨v95, e_v95, hf⟩ := bnd hf
    refine Ex.zald e_v95 rfl rfl ?_
    obtain ⟨q96, e_q96, hf⟩ := bnd hf
    refine Ex.callV (a := 67) (As := [.int v26, .int v27, .int v95]) (r := []) (v := none) (h' := q96) rfl rfl (by decide) rfl (Nat.le_of_ble_eq_true rfl) rfl (E_362 (Nat.le_trans (by decide) hd) e_q96) rfl ?_
    obtain rfl := Option.some.inj hf
    exact Ex.vret rfl rfl hs
  rw [if_neg n36] at hf
  rcases Classical.em (v30 = 36) with n37 | n37
  · rw [if_pos n37] at hf
    refine Ex.swt (t := 953) rfl rfl (by rw [n37]; exact Or.inr ⟨by decide, by decide, _, rfl, by decide⟩) ?_
    refine Ex.seg 3 (pc' := 956) (lc' := [some (.ref 67), some (.int v22), some (.int v23), some (.int v24), some (.int q25.1), some (.int v26), some (.int v27), some (.int v28), some (.int v29), none, none]) (st' := [.int 0, .ref 67, .ref 67]) (h' := q25.2) (sg1 rfl rfl (sg1 rfl rfl (sg1 rfl rfl rfl))) ?_
    obtain ⟨q97, e_q97, hf⟩ := bnd hf
    refine Ex.callV (a := 67) (As := [.int 0]) (r := [.ref 67]) (v := some (.int q97.1)) (h' := q97.2) rfl rfl (by decide) rfl (Nat.le_of_ble_eq_true rfl) rfl (E_351 (Nat.le_trans (by decide) hd) e_q97) rfl ?_
    refine Ex.ifc rfl rfl (fun (c0 : ¬ (q97.1 = 0)) => ?_) (fun (c0 : ¬ ¬ (q97.1 = 0)) => ?_)
    · rw [if_neg c0] at hf
      refine Ex.seg 4 (pc' := 971) (lc' := [some (.ref 67), some (.int v22), some (.int v23), some (.int v24), some (.int q25.1), some (.int v26), some (.int v27), some (.int v28), some (.int v29), none, none]) (st' := [.int 0, .ref 67, .int v26, .ref 67, .ref 67]) (h' := q97.2) (sg1 rfl rfl (sg1 rfl rfl (sg1 rfl rfl (sg1 rfl rfl rfl)))) ?_
      obtain ⟨q98, e_q98, hf⟩ := bnd hf
      refine Ex.callV (a := 67) (As := [.int 0]) (r := [.int v26, .ref 67, .ref 67]) (v := some (.int q98.1)) (h' := q98.2) rfl rfl (by decide) rfl (Nat.le_of_ble_eq_true rfl) rfl (E_351 (Nat.le_trans (by decide) hd) e_q98) rfl ?_
      obtain ⟨q99, e_q99, hf⟩ := bnd hf
      refine Ex.callV (a := 67) (As := [.int v26, .int q98.1]) (r := [.ref 67]) (v := some (.int q99.1)) (h' := q99.2) rfl rfl (by decide) rfl (Nat.le_of_ble_eq_true rfl) rfl (E_363 (Nat.le_trans (by decide) hd) e_q99) rfl ?_
      exact Ex.weak (sm_le_n (sm_le_n (sm_le_n (sm_le_n (sm_le_n (sm_le_n (sm_le_n (sm_le_n (sm_le_n (sm_le_s (sm_le_s sm_le_nil))))))))))) (B_370_977 hd  hf hs)
    · rw [if_pos (Classical.not_not.mp c0)] at hf
      refine Ex.seg 2 (pc' := 977) (lc' := [some (.ref 67), some (.int v22), some (.int v23), some (.int v24), some (.int q25.1), some (.int v26), some (.int v27), some (.int v28), some (.int v29), none, none]) (st' := [.int 0, .ref 67]) (h' := q97.2) (sg1 rfl rfl (sg1 rfl rfl rfl)) ?_
      exact Ex.weak (sm_le_n (sm_le_n (sm_le_n (sm_le_n (sm_le_n (sm_le_n (sm_le_n (sm_le_n (sm_le_n (sm_le_s (sm_le_s sm_le_nil))))))))))) (B_370_977 hd  hf hs)
  rw [if_neg n37] at hf
  rcases Classical.em (v30 = 37) with n38 | n38
  · rw [if_pos n38] at hf
    refine Ex.swt (t := 981) rfl rfl (by rw [n38]; exact Or.inr ⟨by decide, by decide, _, rfl, by decide⟩) ?_
    refine Ex.seg 4 (pc' := 988) (lc' := [some (.ref 67), some (.int v22), some (.int v23), some (.int v24), some (.int q25.1), some (.int v26), some (.int v27), some (.int v28), some (.int v29), none, none]) (st' := [.int v26, .ref 90, .ref 67]) (h' := q25.2) (sg1 rfl rfl (sg1 rfl rfl (sg1 rfl rfl (sg1 rfl rfl rfl)))) ?_
    obtain ⟨v100, e_v100, hf⟩ := bnd hf
    refine Ex.iald e_v100 rfl rfl ?_
    obtain ⟨q101, e_q101, hf⟩ := bnd hf
    refine Ex.callV (a := 67) (As := [.int v100]) (r := []) (v := none) (h' := q101) rfl rfl (by decide) rfl (Nat.le_of_ble_eq_true rfl) rfl (E_368 (Nat.le_trans (by decide) hd) e_q101) rfl ?_
    obtain rfl := Option.some.inj hf
    exact Ex.vret rfl rfl hs
  rw [if_neg n38] at hf
  refine Ex.swt (t := 993) rfl rfl (sw_dflt (by decide) (by decide) (fun k hk he => ?_)) ?_
  · have hk : k < 38 := hk
    rcases (show k = 0 ∨ k = 1 ∨ k = 2 ∨ k = 3 ∨ k = 4 ∨ k = 5 ∨ k = 6 ∨ k = 7 ∨ k = 8 ∨ k = 9 ∨ k = 10 ∨ k = 11 ∨ k = 12 ∨ k = 13 ∨ k = 14 ∨ k = 15 ∨ k = 16 ∨ k = 17 ∨ k = 18 ∨ k = 19 ∨ k = 20 ∨ k = 21 ∨ k = 22 ∨ k = 23 ∨ k = 24 ∨ k = 25 ∨ k = 26 ∨ k = 27 ∨ k = 28 ∨ k = 29 ∨ k = 30 ∨ k = 31 ∨ k = 32 ∨ k = 33 ∨ k = 34 ∨ k = 35 ∨ k = 36 ∨ k = 37 by omega) with rfl | rfl | rfl | rfl | rfl | rfl | rfl | rfl | rfl | rfl | rfl | rfl | rfl | rfl | rfl | rfl | rfl | rfl | rfl | rfl | rfl | rfl | rfl | rfl | rfl | rfl | rfl | rfl | rfl | rfl | rfl | rfl | rfl | rfl | rfl | rfl | rfl | rfl
    · exact absurd (Int32.toInt_inj.mp (he.symm.trans (by decide : (_ : Int) = Int32.toInt 0))) n1
    · exact absurd (Int32.toInt_inj.mp (he.symm.trans (by decide : (_ : Int) = Int32.toInt 1))) n2
    · exact absurd (Int32.toInt_inj.mp (he.symm.trans (by decide : (_ : Int) = Int32.toInt 2))) n3
    · exact absurd (Int32.toInt_inj.mp (he.symm.trans (by decide : (_ : Int) = Int32.toInt 3))) n4
    · exact absurd (Int32.toInt_inj.mp (he.symm.trans (by decide : (_ : Int) = Int32.toInt 4))) n5
    · exact absurd (Int32.toInt_inj.mp (he.symm.trans (by decide : (_ : Int) = Int32.toInt 5))) n6
    · exact absurd (Int32.toInt_inj.mp (he.symm.trans (by decide : (_ : Int) = Int32.toInt 6))) n7
    · exact absurd (Int32.toInt_inj.mp (he.symm.trans (by decide : (_ : Int) = Int32.toInt 7))) n8
    · exact absurd (Int32.toInt_inj.mp (he.symm.trans (by decide : (_ : Int) = Int32.toInt 8))) n9
    · exact absurd (Int32.toInt_inj.mp (he.symm.trans (by decide : (_ : Int) = Int32.toInt 9))) n10
    · exact absurd (Int32.toInt_inj.mp (he.symm.trans (by decide : (_ : Int) = Int32.toInt 10))) n11
    · exact absurd (Int32.toInt_inj.mp (he.symm.trans (by decide : (_ : Int) = Int32.toInt 11))) n12
    · exact absurd (Int32.toInt_inj.mp (he.symm.trans (by decide : (_ : Int) = Int32.toInt 12))) n13
    · exact absurd (Int32.toInt_inj.mp (he.symm.trans (by decide : (_ : Int) = Int32.toInt 13))) n14
    · exact absurd (Int32.toInt_inj.mp (he.symm.trans (by decide : (_ : Int) = Int32.toInt 14))) n15
    · exact absurd (Int32.toInt_inj.mp (he.symm.trans (by decide : (_ : Int) = Int32.toInt 15))) n16
    · exact absurd (Int32.toInt_inj.mp (he.symm.trans (by decide : (_ : Int) = Int32.toInt 16))) n17
    · exact absurd (Int32.toInt_inj.mp (he.symm.trans (by decide : (_ : Int) = Int32.toInt 17))) n18
    · exact absurd (Int32.toInt_inj.mp (he.symm.trans (by decide : (_ : Int) = Int32.toInt 18))) n19
    · exact absurd (Int32.toInt_inj.mp (he.symm.trans (by decide : (_ : Int) = Int32.toInt 19))) n20
    · exact absurd (Int32.toInt_inj.mp (he.symm.trans (by decide : (_ : Int) = Int32.toInt 20))) n21
    · exact absurd (Int32.toInt_inj.mp (he.symm.trans (by decide : (_ : Int) = Int32.toInt 21))) n22
    · exact absurd (Int32.toInt_inj.mp (he.symm.trans (by decide : (_ : Int) = Int32.toInt 22))) n23
    · exact absurd (Int32.toInt_inj.mp (he.symm.trans (by decide : (_ : Int) = Int32.toInt 23))) n24
    · exact absurd (Int32.toInt_inj.mp (he.symm.trans (by decide : (_ : Int) = Int32.toInt 24))) n25
    · exact absurd (Int32.toInt_inj.mp (he.symm.trans (by decide : (_ : Int) = Int32.toInt 25))) n26
    · exact absurd (Int32.toInt_inj.mp (he.symm.trans (by decide : (_ : Int) = Int32.toInt 26))) n27
    · exact absurd (Int32.toInt_inj.mp (he.symm.trans (by decide : (_ : Int) = Int32.toInt 27))) n28
    · exact absurd (Int32.toInt_inj.mp (he.symm.trans (by decide : (_ : Int) = Int32.toInt 28))) n29
    · exact absurd (Int32.toInt_inj.mp (he.symm.trans (by decide : (_ : Int) = Int32.toInt 29))) n30
    · exact absurd (Int32.toInt_inj.mp (he.symm.trans (by decide : (_ : Int) = Int32.toInt 30))) n31
    · exact absurd (Int32.toInt_inj.mp (he.symm.trans (by decide : (_ : Int) = Int32.toInt 31))) n32
    · exact absurd (Int32.toInt_inj.mp (he.symm.trans (by decide : (_ : Int) = Int32.toInt 32))) n33
    · exact absurd (Int32.toInt_inj.mp (he.symm.trans (by decide : (_ : Int) = Int32.toInt 33))) n34
    · exact absurd (Int32.toInt_inj.mp (he.symm.trans (by decide : (_ : Int) = Int32.toInt 34))) n35
    · exact absurd (Int32.toInt_inj.mp (he.symm.trans (by decide : (_ : Int) = Int32.toInt 35))) n36
    · exact absurd (Int32.toInt_inj.mp (he.symm.trans (by decide : (_ : Int) = Int32.toInt 36))) n37
    · exact absurd (Int32.toInt_inj.mp (he.symm.trans (by decide : (_ : Int) = Int32.toInt 37))) n38
  refine Ex.seg 2 (pc' := 996) (lc' := [some (.ref 67), some (.int v22), some (.int v23), some (.int v24), some (.int q25.1), some (.int v26), some (.int v27), some (.int v28), some (.int v29), none, none]) (st' := [.int v26, .ref 67]) (h' := q25.2) (sg1 rfl rfl (sg1 rfl rfl rfl)) ?_
  obtain ⟨q102, e_q102, hf⟩ := bnd hf
  refine Ex.callV (a := 67) (As := [.int v26]) (r := []) (v := none) (h' := q102) rfl rfl (by decide) rfl (Nat.le_of_ble_eq_true rfl) rfl (E_369 (Nat.le_trans (by decide) hd) e_q102) rfl ?_
  obtain rfl := Option.some.inj hf
  exact Ex.vret rfl rfl hs
theorem E_370 {L : Nat} {xs : Nat → Int32} {d : Nat} (hd : 6 ≤ d)  {h : sm_H} {r : sm_H} (hf : F_370  h = some r) : RUN L xs d 370 [.ref 67] h (none, r) := by
  obtain ⟨d, rfl⟩ : ∃ e, d = e + 1 := ⟨d - 1, by omega⟩
  exact ⟨Nat.le_of_ble_eq_true rfl, B_370_0 (by omega) hf rfl⟩
