theorem B_258_0 {L : Nat} {xs : Nat → Int32} {d : Nat} (hd : 1 ≤ d) {res : Option Value × sm_H} {x1 : Int32}  {h : sm_H} {r : (Int32 × sm_H)} (hf : F_258_0 x1 h = some r) (hs : (fun (r : Int32 × sm_H) => res = (some (.int r.1), r.2)) r) : Ex (P_G L xs) (RUN L xs d) (sm_lk P_t258) 3 0 [some (.ref 0), some (.int x1)] [] h res := by
  unfold F_258_0 at hf
  refine Ex.seg 3 (pc' := 5) (lc' := [some (.ref 0), some (.int x1)]) (st' := [.int x1, .ref 64]) (h' := h) (sg1 rfl rfl (sg1 rfl rfl (sg1 rfl rfl rfl))) ?_
  obtain ⟨q1, e_q1, hf⟩ := bnd hf
  refine Ex.callV (a := 64) (As := [.int x1]) (r := []) (v := some (.int q1.1)) (h' := q1.2) rfl rfl (by decide) rfl (Nat.le_of_ble_eq_true rfl) rfl (E_139 (Nat.le_trans (by decide) hd) e_q1) rfl ?_
  rcases Classical.em (q1.1 = 0 ∨ q1.1 = 1) with c0 | c0
  · rw [if_pos c0] at hf
    obtain rfl := Option.some.inj hf
    exact Ex.iret rfl rfl (fun _ => c0) hs
  · rw [if_neg c0] at hf
    cases hf
theorem E_258 {L : Nat} {xs : Nat → Int32} {d : Nat} (hd : 2 ≤ d) {x1 : Int32} {h : sm_H} {r : Int32 × sm_H} (hf : F_258 x1 h = some r) : RUN L xs d 258 [.ref 0, .int x1] h (some (.int r.1), r.2) := by
  obtain ⟨d, rfl⟩ : ∃ e, d = e + 1 := ⟨d - 1, by omega⟩
  exact ⟨Nat.le_of_ble_eq_true rfl, B_258_0 (by omega) hf rfl⟩
theorem B_261_9B {L : Nat} {xs : Nat → Int32} {d : Nat} (hd : 2 ≤ d) {res : Option Value × sm_H} {S1 : (Int32 × sm_H) → Prop} (hS1 : ∀ s, S1 s → Ex (P_G L xs) (RUN L xs d) (sm_lk P_t261) 3 9 [some (.ref 0), some (.int s.1)] [] s.2 res) {s : (Int32 × sm_H)}  {r : ((Int32 × sm_H) ⊕ (Int32 × sm_H))} (hf : F_261_9B s = some r) (hs : (Sum.elim S1 (fun (r : Int32 × sm_H) => res = (some (.int r.1), r.2))) r) : Ex (P_G L xs) (RUN L xs d) (sm_lk P_t261) 3 9 [some (.ref 0), some (.int s.1)] [] s.2 res := by
  unfold F_261_9B at hf
  refine Ex.seg 3 (pc' := 14) (lc' := [some (.ref 0), some (.int s.1)]) (st' := [.ref 64, .int s.1]) (h' := s.2) (sg1 rfl rfl (sg1 rfl rfl (sg1 rfl rfl rfl))) ?_
  obtain ⟨q1, e_q1, hf⟩ := bnd hf
  refine Ex.callV (a := 64) (As := []) (r := [.int s.1]) (v := some (.int q1.1)) (h' := q1.2) rfl rfl (by decide) rfl (Nat.le_of_ble_eq_true rfl) rfl (E_136 (Nat.le_trans (by decide) hd) e_q1) rfl ?_
  refine Ex.icmp rfl rfl (fun (c0 : q1.1 ≤ s.1) => ?_) (fun (c0 : ¬ (q1.1 ≤ s.1)) => ?_)
  · rw [if_pos c0] at hf
    refine Ex.seg 1 (pc' := 62) (lc' := [some (.ref 0), some (.int s.1)]) (st' := [.int 1]) (h' := q1.2) (sg1 rfl rfl rfl) ?_
    obtain rfl := Option.some.inj hf
    exact Ex.iret rfl rfl (fun _ => by decide) hs
  · rw [if_neg c0] at hf
    refine Ex.seg 5 (pc' := 29) (lc' := [some (.ref 0), some (.int s.1)]) (st' := [.int s.1, .ref 64, .ref 1]) (h' := q1.2) (sg1 rfl rfl (sg1 rfl rfl (sg1 rfl rfl (sg1 rfl rfl (sg1 rfl rfl rfl))))) ?_
    obtain ⟨q2, e_q2, hf⟩ := bnd hf
    refine Ex.callV (a := 64) (As := [.int s.1]) (r := [.ref 1]) (v := some (.int q2.1)) (h' := q2.2) rfl rfl (by decide) rfl (Nat.le_of_ble_eq_true rfl) rfl (E_137 (Nat.le_trans (by decide) hd) e_q2) rfl ?_
    obtain ⟨q3, e_q3, hf⟩ := bnd hf
    refine Ex.callV (a := 1) (As := [.int q2.1]) (r := []) (v := some (.int q3.1)) (h' := q3.2) rfl rfl (by decide) rfl (Nat.le_of_ble_eq_true rfl) rfl (E_54 (Nat.le_trans (by decide) hd) e_q3) rfl ?_
    refine Ex.ifc rfl rfl (fun (c0 : ¬ (q3.1 = 0)) => ?_) (fun (c0 : ¬ ¬ (q3.1 = 0)) => ?_)
    · rw [if_neg c0] at hf
      refine Ex.seg 5 (pc' := 49) (lc' := [some (.ref 0), some (.int s.1)]) (st' := [.int s.1, .ref 64, .ref 5]) (h' := q3.2) (sg1 rfl rfl (sg1 rfl rfl (sg1 rfl rfl (sg1 rfl rfl (sg1 rfl rfl rfl))))) ?_
      obtain ⟨q4, e_q4, hf⟩ := bnd hf
      refine Ex.callV (a := 64) (As := [.int s.1]) (r := [.ref 5]) (v := some (.int q4.1)) (h' := q4.2) rfl rfl (by decide) rfl (Nat.le_of_ble_eq_true rfl) rfl (E_137 (Nat.le_trans (by decide) hd) e_q4) rfl ?_
      obtain ⟨q5, e_q5, hf⟩ := bnd hf
      refine Ex.callV (a := 5) (As := [.int q4.1]) (r := []) (v := none) (h' := q5) rfl rfl (by decide) rfl (Nat.le_of_ble_eq_true rfl) rfl (E_229 (Nat.le_trans (by decide) hd) e_q5) rfl ?_
      refine Ex.seg 1 (pc' := 58) (lc' := [some (.ref 0), some (.int (s.1 + 1))]) (st' := []) (h' := q5) (sg1 rfl rfl rfl) ?_
      obtain ⟨v6, e_v6, hf⟩ := bnd hf
      rw [Option.some.inj e_v6]
      refine Ex.seg 1 (pc' := 9) (lc' := [some (.ref 0), some (.int v6)]) (st' := []) (h' := q5) (sg1 rfl rfl rfl) ?_
      obtain rfl := Option.some.inj hf
      exact Ex.weak (sm_le_s (sm_le_s sm_le_nil)) (hS1 _ hs)
    · rw [if_pos (Classical.not_not.mp c0)] at hf
      refine Ex.seg 1 (pc' := 39) (lc' := [some (.ref 0), some (.int s.1)]) (st' := [.int 0]) (h' := q3.2) (sg1 rfl rfl rfl) ?_
      obtain rfl := Option.some.inj hf
      exact Ex.iret rfl rfl (fun _ => by decide) hs
theorem B_261_9 {L : Nat} {xs : Nat → Int32} {d : Nat} (hd : 2 ≤ d) {res : Option Value × sm_H} {y1 : Int32}  {h : sm_H} {r : (Int32 × sm_H)} (hf : F_261_9 y1 h = some r) (hs : (fun (r : Int32 × sm_H) => res = (some (.int r.1), r.2)) r) : Ex (P_G L xs) (RUN L xs d) (sm_lk P_t261) 3 9 [some (.ref 0), some (.int y1)] [] h res := by
  unfold F_261_9 at hf
  exact lp_ok (P := fun (s : (Int32 × sm_H)) => Ex (P_G L xs) (RUN L xs d) (sm_lk P_t261) 3 9 [some (.ref 0), some (.int s.1)] [] s.2 res) (S := (fun (r : Int32 × sm_H) => res = (some (.int r.1), r.2))) (fun s x hx hsx => by
    intros
    exact B_261_9B hd  (fun _ q => q) hx hsx) 1000000 _ r hf hs
theorem B_261_0 {L : Nat} {xs : Nat → Int32} {d : Nat} (hd : 2 ≤ d) {res : Option Value × sm_H}   {h : sm_H} {r : (Int32 × sm_H)} (hf : F_261_0  h = some r) (hs : (fun (r : Int32 × sm_H) => res = (some (.int r.1), r.2)) r) : Ex (P_G L xs) (RUN L xs d) (sm_lk P_t261) 3 0 [some (.ref 0), none] [] h res := by
  unfold F_261_0 at hf
  refine Ex.seg 2 (pc' := 4) (lc' := [some (.ref 0), none]) (st' := [.ref 5]) (h' := h) (sg1 rfl rfl (sg1 rfl rfl rfl)) ?_
  obtain ⟨q7, e_q7, hf⟩ := bnd hf
  refine Ex.callV (a := 5) (As := []) (r := []) (v := none) (h' := q7) rfl rfl (by decide) rfl (Nat.le_of_ble_eq_true rfl) rfl (E_228 (Nat.le_trans (by decide) hd) e_q7) rfl ?_
  refine Ex.seg 2 (pc' := 9) (lc' := [some (.ref 0), some (.int 0)]) (st' := []) (h' := q7) (sg1 rfl rfl (sg1 rfl rfl rfl)) ?_
  exact Ex.weak (sm_le_s (sm_le_s sm_le_nil)) (B_261_9 hd  hf hs)
theorem E_261 {L : Nat} {xs : Nat → Int32} {d : Nat} (hd : 3 ≤ d)  {h : sm_H} {r : Int32 × sm_H} (hf : F_261  h = some r) : RUN L xs d 261 [.ref 0] h (some (.int r.1), r.2) := by
  obtain ⟨d, rfl⟩ : ∃ e, d = e + 1 := ⟨d - 1, by omega⟩
  exact ⟨Nat.le_of_ble_eq_true rfl, B_261_0 (by omega) hf rfl⟩
theorem B_262_43 {L : Nat} {xs : Nat → Int32} {d : Nat} (hd : 1 ≤ d) {res : Option Value × sm_H} {z0 : Int32}  {h : sm_H} {r : (Int32 × sm_H)} (hf : F_262_43 z0 h = some r) (hs : (fun (r : Int32 × sm_H) => res = (some (.int r.1), r.2)) r) : Ex (P_G L xs) (RUN L xs d) (sm_lk P_t262) 0 43 [none, none, none] [.int z0] h res := by
  unfold F_262_43 at hf
  obtain rfl := Option.some.inj hf
  exact Ex.iret rfl rfl (fun c0 => by cases c0) hs
theorem B_262_0 {L : Nat} {xs : Nat → Int32} {d : Nat} (hd : 1 ≤ d) {res : Option Value × sm_H} {x1 : Int32} {x2 : Int32}  {h : sm_H} {r : (Int32 × sm_H)} (hf : F_262_0 x1 x2 h = some r) (hs : (fun (r : Int32 × sm_H) => res = (some (.int r.1), r.2)) r) : Ex (P_G L xs) (RUN L xs d) (sm_lk P_t262) 0 0 [some (.ref 0), some (.int x1), some (.int x2)] [] h res := by
  unfold F_262_0 at hf
  refine Ex.seg 2 (pc' := 2) (lc' := [some (.ref 0), some (.int x1), some (.int x2)]) (st' := [.int (-1), .int x2]) (h' := h) (sg1 rfl rfl (sg1 rfl rfl rfl)) ?_
  refine Ex.icmp rfl rfl (fun (c0 : ¬ (x2 = (-1))) => ?_) (fun (c0 : ¬ ¬ (x2 = (-1))) => ?_)
  · rw [if_neg c0] at hf
    refine Ex.seg 2 (pc' := 17) (lc' := [some (.ref 0), some (.int x1), some (.int x2)]) (st' := [.int (-2), .int x2]) (h' := h) (sg1 rfl rfl (sg1 rfl rfl rfl)) ?_
    refine Ex.icmp rfl rfl (fun (c0 : ¬ (x2 = (-2))) => ?_) (fun (c0 : ¬ ¬ (x2 = (-2))) => ?_)
    · rw [if_neg c0] at hf
      refine Ex.seg 4 (pc' := 50) (lc' := [some (.ref 0), some (.int x1), some (.int x2)]) (st' := [.int x2, .int x1, .ref 5]) (h' := h) (sg1 rfl rfl (sg1 rfl rfl (sg1 rfl rfl (sg1 rfl rfl rfl)))) ?_
      obtain ⟨q1, e_q1, hf⟩ := bnd hf
      refine Ex.callV (a := 5) (As := [.int x1, .int x2]) (r := []) (v := some (.int q1.1)) (h' := q1.2) rfl rfl (by decide) rfl (Nat.le_of_ble_eq_true rfl) rfl (E_227 (Nat.le_trans (by decide) hd) e_q1) rfl ?_
      obtain rfl := Option.some.inj hf
      exact Ex.iret rfl rfl (fun c0 => by cases c0) hs
    · rw [if_pos (Classical.not_not.mp c0)] at hf
      refine Ex.seg 3 (pc' := 25) (lc' := [some (.ref 0), some (.int x1), some (.int x2)]) (st' := [.int x1, .ref 5]) (h' := h) (sg1 rfl rfl (sg1 rfl rfl (sg1 rfl rfl rfl))) ?_
      obtain ⟨q2, e_q2, hf⟩ := bnd hf
      refine Ex.callV (a := 5) (As := [.int x1]) (r := []) (v := some (.int q2.1)) (h' := q2.2) rfl rfl (by decide) rfl (Nat.le_of_ble_eq_true rfl) rfl (E_224 (Nat.le_trans (by decide) hd) e_q2) rfl ?_
      refine Ex.ifc rfl rfl (fun (c0 : q2.1 = 0) => ?_) (fun (c0 : ¬ (q2.1 = 0)) => ?_)
      · rw [if_pos c0] at hf
        refine Ex.seg 1 (pc' := 43) (lc' := [some (.ref 0), some (.int x1), some (.int x2)]) (st' := [.int (-1)]) (h' := q2.2) (sg1 rfl rfl rfl) ?_
        exact Ex.weak (sm_le_n (sm_le_n (sm_le_n sm_le_nil))) (B_262_43 hd  hf hs)
      · rw [if_neg c0] at hf
        refine Ex.seg 3 (pc' := 36) (lc' := [some (.ref 0), some (.int x1), some (.int x2)]) (st' := [.int x1, .ref 5]) (h' := q2.2) (sg1 rfl rfl (sg1 rfl rfl (sg1 rfl rfl rfl))) ?_
        obtain ⟨q3, e_q3, hf⟩ := bnd hf
        refine Ex.callV (a := 5) (As := [.int x1]) (r := []) (v := some (.int q3.1)) (h' := q3.2) rfl rfl (by decide) rfl (Nat.le_of_ble_eq_true rfl) rfl (E_226 (Nat.le_trans (by decide) hd) e_q3) rfl ?_
        refine Ex.seg 1 (pc' := 43) (lc' := [some (.ref 0), some (.int x1), some (.int x2)]) (st' := [.int q3.1]) (h' := q3.2) (sg1 rfl rfl rfl) ?_
        exact Ex.weak (sm_le_n (sm_le_n (sm_le_n sm_le_nil))) (B_262_43 hd  hf hs)
  · rw [if_pos (Classical.not_not.mp c0)] at hf
    refine Ex.seg 3 (pc' := 10) (lc' := [some (.ref 0), some (.int x1), some (.int x2)]) (st' := [.int x1, .ref 5]) (h' := h) (sg1 rfl rfl (sg1 rfl rfl (sg1 rfl rfl rfl))) ?_
    obtain ⟨q4, e_q4, hf⟩ := bnd hf
    refine Ex.callV (a := 5) (As := [.int x1]) (r := []) (v := some (.int q4.1)) (h' := q4.2) rfl rfl (by decide) rfl (Nat.le_of_ble_eq_true rfl) rfl (E_225 (Nat.le_trans (by decide) hd) e_q4) rfl ?_
    obtain rfl := Option.some.inj hf
    exact Ex.iret rfl rfl (fun c0 => by cases c0) hs
theorem E_262 {L : Nat} {xs : Nat → Int32} {d : Nat} (hd : 2 ≤ d) {x1 : Int32} {x2 : Int32} {h : sm_H} {r : Int32 × sm_H} (hf : F_262 x1 x2 h = some r) : RUN L xs d 262 [.ref 0, .int x1, .int x2] h (some (.int r.1), r.2) := by
  obtain ⟨d, rfl⟩ : ∃ e, d = e + 1 := ⟨d - 1, by omega⟩
  exact ⟨Nat.le_of_ble_eq_true rfl, B_262_0 (by omega) hf rfl⟩
theorem B_264_23 {L : Nat} {xs : Nat → Int32} {d : Nat} (hd : 0 ≤ d) {res : Option Value × sm_H} {z0 : Int32}  {h : sm_H} {r : (Int32 × sm_H)} (hf : F_264_23 z0 h = some r) (hs : (fun (r : Int32 × sm_H) => res = (some (.int r.1), r.2)) r) : Ex (P_G L xs) (RUN L xs d) (sm_lk P_t264) 0 23 [none, none] [.int z0] h res := by
  unfold F_264_23 at hf
  obtain rfl := Option.some.inj hf
  exact Ex.iret rfl rfl (fun c0 => by cases c0) hs
theorem B_264_11 {L : Nat} {xs : Nat → Int32} {d : Nat} (hd : 0 ≤ d) {res : Option Value × sm_H} {y1 : Int32} {z1 : Int32}  {h : sm_H} {r : (Int32 × sm_H)} (hf : F_264_11 y1 z1 h = some r) (hs : (fun (r : Int32 × sm_H) => res = (some (.int r.1), r.2)) r) : Ex (P_G L xs) (RUN L xs d) (sm_lk P_t264) 0 11 [none, some (.int y1)] [.int z1, .ref 0] h res := by
  unfold F_264_11 at hf
  refine Ex.seg 1 (pc' := 14) (lc' := [none, some (.int y1)]) (st' := []) (h' := (sm_wI h 0 12 z1)) (sg1 rfl rfl rfl) ?_
  obtain ⟨h1, e_h1, hf⟩ := bnd hf
  rw [Option.some.inj e_h1]
  refine Ex.seg 1 (pc' := 15) (lc' := [none, some (.int y1)]) (st' := [.int y1]) (h' := h1) (sg1 rfl rfl rfl) ?_
  refine Ex.ifc rfl rfl (fun (c0 : 0 ≤ y1) => ?_) (fun (c0 : ¬ (0 ≤ y1)) => ?_)
  · rw [if_pos c0] at hf
    refine Ex.seg 1 (pc' := 23) (lc' := [none, some (.int y1)]) (st' := [.int y1]) (h' := h1) (sg1 rfl rfl rfl) ?_
    exact Ex.weak (sm_le_s (sm_le_n sm_le_nil)) (B_264_23 hd  hf hs)
  · rw [if_neg c0] at hf
    refine Ex.seg 2 (pc' := 23) (lc' := [none, some (.int y1)]) (st' := [.int (-1)]) (h' := h1) (sg1 rfl rfl (sg1 rfl rfl rfl)) ?_
    exact Ex.weak (sm_le_s (sm_le_n sm_le_nil)) (B_264_23 hd  hf hs)
theorem B_264_0 {L : Nat} {xs : Nat → Int32} {d : Nat} (hd : 0 ≤ d) {res : Option Value × sm_H} {x1 : Int32}  {h : sm_H} {r : (Int32 × sm_H)} (hf : F_264_0 x1 h = some r) (hs : (fun (r : Int32 × sm_H) => res = (some (.int r.1), r.2)) r) : Ex (P_G L xs) (RUN L xs d) (sm_lk P_t264) 0 0 [some (.ref 0), some (.int x1)] [] h res := by
  unfold F_264_0 at hf
  refine Ex.seg 2 (pc' := 2) (lc' := [some (.ref 0), some (.int x1)]) (st' := [.int x1, .ref 0]) (h' := h) (sg1 rfl rfl (sg1 rfl rfl rfl)) ?_
  refine Ex.ifc rfl rfl (fun (c0 : 0 ≤ x1) => ?_) (fun (c0 : ¬ (0 ≤ x1)) => ?_)
  · rw [if_pos c0] at hf
    refine Ex.seg 1 (pc' := 11) (lc' := [some (.ref 0), some (.int x1)]) (st' := [.int 0, .ref 0]) (h' := h) (sg1 rfl rfl rfl) ?_
    exact Ex.weak (sm_le_n (sm_le_s sm_le_nil)) (B_264_11 hd  hf hs)
  · rw [if_neg c0] at hf
    refine Ex.seg 3 (pc' := 11) (lc' := [some (.ref 0), some (.int x1)]) (st' := [.int (-x1), .ref 0]) (h' := h) (sg1 rfl rfl (sg1 rfl rfl (sg1 rfl rfl rfl))) ?_
    exact Ex.weak (sm_le_n (sm_le_s sm_le_nil)) (B_264_11 hd  hf hs)
theorem E_264 {L : Nat} {xs : Nat → Int32} {d : Nat} (hd : 1 ≤ d) {x1 : Int32} {h : sm_H} {r : Int32 × sm_H} (hf : F_264 x1 h = some r) : RUN L xs d 264 [.ref 0, .int x1] h (some (.int r.1), r.2) := by
  obtain ⟨d, rfl⟩ : ∃ e, d = e + 1 := ⟨d - 1, by omega⟩
  exact ⟨Nat.le_of_ble_eq_true rfl, B_264_0 (by omega) hf rfl⟩
theorem B_265_15 {L : Nat} {xs : Nat → Int32} {d : Nat} (hd : 1 ≤ d) {res : Option Value × sm_H}   {h : sm_H} {r : (Int32 × sm_H)} (hf : F_265_15  h = some r) (hs : (fun (r : Int32 × sm_H) => res = (some (.int r.1), r.2)) r) : Ex (P_G L xs) (RUN L xs d) (sm_lk P_t265) 0 15 [none, none, none] [] h res := by
  unfold F_265_15 at hf
  refine Ex.seg 1 (pc' := 16) (lc' := [none, none, none]) (st' := [.int (-1)]) (h' := h) (sg1 rfl rfl rfl) ?_
  obtain rfl := Option.some.inj hf
  exact Ex.iret rfl rfl (fun c0 => by cases c0) hs
theorem B_265_0 {L : Nat} {xs : Nat → Int32} {d : Nat} (hd : 1 ≤ d) {res : Option Value × sm_H} {x1 : Int32} {x2 : Int32}  {h : sm_H} {r : (Int32 × sm_H)} (hf : F_265_0 x1 x2 h = some r) (hs : (fun (r : Int32 × sm_H) => res = (some (.int r.1), r.2)) r) : Ex (P_G L xs) (RUN L xs d) (sm_lk P_t265) 0 0 [some (.ref 0), some (.int x1), some (.int x2)] [] h res := by
  unfold F_265_0 at hf
  refine Ex.seg 3 (pc' := 5) (lc' := [some (.ref 0), some (.int x1), some (.int x2)]) (st' := [.int x1, .ref 10]) (h' := h) (sg1 rfl rfl (sg1 rfl rfl (sg1 rfl rfl rfl))) ?_
  obtain ⟨q1, e_q1, hf⟩ := bnd hf
  refine Ex.callV (a := 10) (As := [.int x1]) (r := []) (v := some (.int q1.1)) (h' := q1.2) rfl rfl (by decide) rfl (Nat.le_of_ble_eq_true rfl) rfl (E_36 (Nat.le_trans (by decide) hd) e_q1) rfl ?_
  refine Ex.ifc rfl rfl (fun (c0 : q1.1 = 0) => ?_) (fun (c0 : ¬ (q1.1 = 0)) => ?_)
  · rw [if_pos c0] at hf
    exact Ex.weak (sm_le_n (sm_le_n (sm_le_n sm_le_nil))) (B_265_15 hd  hf hs)
  · rw [if_neg c0] at hf
    refine Ex.seg 1 (pc' := 12) (lc' := [some (.ref 0), some (.int x1), some (.int x2)]) (st' := [.int x2]) (h' := q1.2) (sg1 rfl rfl rfl) ?_
    refine Ex.ifc rfl rfl (fun (c0 : 0 ≤ x2) => ?_) (fun (c0 : ¬ (0 ≤ x2)) => ?_)
    · rw [if_pos c0] at hf
      refine Ex.seg 1 (pc' := 18) (lc' := [some (.ref 0), some (.int x1), some (.int x2)]) (st' := [.int x2]) (h' := q1.2) (sg1 rfl rfl rfl) ?_
      rcases Classical.em (x2 = 0) with n1 | n1
      · rw [if_pos n1] at hf
        refine Ex.swt (t := 52) rfl rfl (by rw [n1]; exact Or.inr ⟨by decide, by decide, _, rfl, by decide⟩) ?_
        refine Ex.seg 3 (pc' := 57) (lc' := [some (.ref 0), some (.int x1), some (.int x2)]) (st' := [.int x1, .ref 10]) (h' := q1.2) (sg1 rfl rfl (sg1 rfl rfl (sg1 rfl rfl rfl))) ?_
        obtain ⟨q2, e_q2, hf⟩ := bnd hf
        refine Ex.callV (a := 10) (As := [.int x1]) (r := []) (v := some (.int q2.1)) (h' := q2.2) rfl rfl (by decide) rfl (Nat.le_of_ble_eq_true rfl) rfl (E_41 (Nat.le_trans (by decide) hd) e_q2) rfl ?_
        obtain rfl := Option.some.inj hf
        exact Ex.iret rfl rfl (fun c0 => by cases c0) hs
      rw [if_neg n1] at hf
      rcases Classical.em (x2 = 1) with n2 | n2
      · rw [if_pos n2] at hf
        refine Ex.swt (t := 61) rfl rfl (by rw [n2]; exact Or.inr ⟨by decide, by decide, _, rfl, by decide⟩) ?_
        refine Ex.seg 3 (pc' := 66) (lc' := [some (.ref 0), some (.int x1), some (.int x2)]) (st' := [.int x1, .ref 10]) (h' := q1.2) (sg1 rfl rfl (sg1 rfl rfl (sg1 rfl rfl rfl))) ?_
        obtain ⟨q3, e_q3, hf⟩ := bnd hf
        refine Ex.callV (a := 10) (As := [.int x1]) (r := []) (v := some (.int q3.1)) (h' := q3.2) rfl rfl (by decide) rfl (Nat.le_of_ble_eq_true rfl) rfl (E_37 (Nat.le_trans (by decide) hd) e_q3) rfl ?_
        obtain rfl := Option.some.inj hf
        exact Ex.iret rfl rfl (fun c0 => by cases c0) hs
      rw [if_neg n2] at hf
      rcases Classical.em (x2 = 2) with n3 | n3
      · rw [if_pos n3] at hf
        refine Ex.swt (t := 70) rfl rfl (by rw [n3]; exact Or.inr ⟨by decide, by decide, _, rfl, by decide⟩) ?_
        refine Ex.seg 3 (pc' := 75) (lc' := [some (.ref 0), some (.int x1), some (.int x2)]) (st' := [.int x1, .ref 10]) (h' := q1.2) (sg1 rfl rfl (sg1 rfl rfl (sg1 rfl rfl rfl))) ?_
        obtain ⟨q4, e_q4, hf⟩ := bnd hf
        refine Ex.callV (a := 10) (As := [.int x1]) (r := []) (v := some (.int q4.1)) (h' := q4.2) rfl rfl (by decide) rfl (Nat.le_of_ble_eq_true rfl) rfl (E_38 (Nat.le_trans (by decide) hd) e_q4) rfl ?_
        obtain rfl := Option.some.inj hf
        exact Ex.iret rfl rfl (fun c0 => by cases c0) hs
      rw [if_neg n3] at hf
      rcases Classical.em (x2 = 3) with n4 | n4
      · rw [if_pos n4] at hf
        refine Ex.swt (t := 79) rfl rfl (by rw [n4]; exact Or.inr ⟨by decide, by decide, _, rfl, by decide⟩) ?_
        refine Ex.seg 3 (pc' := 84) (lc' := [some (.ref 0), some (.int x1), some (.int x2)]) (st' := [.int x1, .ref 10]) (h' := q1.2) (sg1 rfl rfl (sg1 rfl rfl (sg1 rfl rfl rfl))) ?_
        obtain ⟨q5, e_q5, hf⟩ := bnd hf
        refine Ex.callV (a := 10) (As := [.int x1]) (r := []) (v := some (.int q5.1)) (h' := q5.2) rfl rfl (by decide) rfl (Nat.le_of_ble_eq_true rfl) rfl (E_39 (Nat.le_trans (by decide) hd) e_q5) rfl ?_
        obtain rfl := Option.some.inj hf
        exact Ex.iret rfl rfl (fun c0 => by cases c0) hs
      rw [if_neg n4] at hf
      rcases Classical.em (x2 = 4) with n5 | n5
      · rw [if_pos n5] at hf
        refine Ex.swt (t := 88) rfl rfl (by rw [n5]; exact Or.inr ⟨by decide, by decide, _, rfl, by decide⟩) ?_
        refine Ex.seg 3 (pc' := 93) (lc' := [some (.ref 0), some (.int x1), some (.int x2)]) (st' := [.int x1, .ref 10]) (h' := q1.2) (sg1 rfl rfl (sg1 rfl rfl (sg1 rfl rfl rfl))) ?_
        obtain ⟨q6, e_q6, hf⟩ := bnd hf
        refine Ex.callV (a := 10) (As := [.int x1]) (r := []) (v := some (.int q6.1)) (h' := q6.2) rfl rfl (by decide) rfl (Nat.le_of_ble_eq_true rfl) rfl (E_42 (Nat.le_trans (by decide) hd) e_q6) rfl ?_
        obtain rfl := Option.some.inj hf
        exact Ex.iret rfl rfl (fun c0 => by cases c0) hs
      rw [if_neg n5] at hf
      refine Ex.swt (t := 97) rfl rfl (sw_dflt (by decide) (by decide) (fun k hk he => ?_)) ?_
      · have hk : k < 5 := hk
        rcases (show k = 0 ∨ k = 1 ∨ k = 2 ∨ k = 3 ∨ k = 4 by omega) with rfl | rfl | rfl | rfl | rfl
        · exact absurd (Int32.toInt_inj.mp (he.symm.trans (by decide : (_ : Int) = Int32.toInt 0))) n1
        · exact absurd (Int32.toInt_inj.mp (he.symm.trans (by decide : (_ : Int) = Int32.toInt 1))) n2
        · exact absurd (Int32.toInt_inj.mp (he.symm.trans (by decide : (_ : Int) = Int32.toInt 2))) n3
        · exact absurd (Int32.toInt_inj.mp (he.symm.trans (by decide : (_ : Int) = Int32.toInt 3))) n4
        · exact absurd (Int32.toInt_inj.mp (he.symm.trans (by decide : (_ : Int) = Int32.toInt 4))) n5
      refine Ex.seg 6 (pc' := 105) (lc' := [some (.ref 0), some (.int x1), some (.int x2)]) (st' := [.int (x2 - 5), .int x1, .ref 10]) (h' := q1.2) (sg1 rfl rfl (sg1 rfl rfl (sg1 rfl rfl (sg1 rfl rfl (sg1 rfl rfl (sg1 rfl rfl rfl)))))) ?_
      obtain ⟨q7, e_q7, hf⟩ := bnd hf
      refine Ex.callV (a := 10) (As := [.int x1, .int (x2 - 5)]) (r := []) (v := some (.int q7.1)) (h' := q7.2) rfl rfl (by decide) rfl (Nat.le_of_ble_eq_true rfl) rfl (E_43 (Nat.le_trans (by decide) hd) e_q7) rfl ?_
      obtain rfl := Option.some.inj hf
      exact Ex.iret rfl rfl (fun c0 => by cases c0) hs
    · rw [if_neg c0] at hf
      exact Ex.weak (sm_le_n (sm_le_n (sm_le_n sm_le_nil))) (B_265_15 hd  hf hs)
theorem E_265 {L : Nat} {xs : Nat → Int32} {d : Nat} (hd : 2 ≤ d) {x1 : Int32} {x2 : Int32} {h : sm_H} {r : Int32 × sm_H} (hf : F_265 x1 x2 h = some r) : RUN L xs d 265 [.ref 0, .int x1, .int x2] h (some (.int r.1), r.2) := by
  obtain ⟨d, rfl⟩ : ∃ e, d = e + 1 := ⟨d - 1, by omega⟩
  exact ⟨Nat.le_of_ble_eq_true rfl, B_265_0 (by omega) hf rfl⟩
theorem B_266_0 {L : Nat} {xs : Nat → Int32} {d : Nat} (hd : 1 ≤ d) {res : Option Value × sm_H} {x1 : Int32}  {h : sm_H} {r : (Int64 × sm_H)} (hf : F_266_0 x1 h = some r) (hs : (fun (r : Int64 × sm_H) => res = (some (.long r.1), r.2)) r) : Ex (P_G L xs) (RUN L xs d) (sm_lk P_t266) 0 0 [some (.ref 0), some (.int x1)] [] h res := by
  unfold F_266_0 at hf
  refine Ex.seg 3 (pc' := 5) (lc' := [some (.ref 0), some (.int x1)]) (st' := [.int x1, .ref 10]) (h' := h) (sg1 rfl rfl (sg1 rfl rfl (sg1 rfl rfl rfl))) ?_
  obtain ⟨q1, e_q1, hf⟩ := bnd hf
  refine Ex.callV (a := 10) (As := [.int x1]) (r := []) (v := some (.long q1.1)) (h' := q1.2) rfl rfl (by decide) rfl (Nat.le_of_ble_eq_true rfl) rfl (E_40 (Nat.le_trans (by decide) hd) e_q1) rfl ?_
  obtain rfl := Option.some.inj hf
  exact Ex.lret rfl rfl hs
theorem E_266 {L : Nat} {xs : Nat → Int32} {d : Nat} (hd : 2 ≤ d) {x1 : Int32} {h : sm_H} {r : Int64 × sm_H} (hf : F_266 x1 h = some r) : RUN L xs d 266 [.ref 0, .int x1] h (some (.long r.1), r.2) := by
  obtain ⟨d, rfl⟩ : ∃ e, d = e + 1 := ⟨d - 1, by omega⟩
  exact ⟨Nat.le_of_ble_eq_true rfl, B_266_0 (by omega) hf rfl⟩
theorem B_270_0 {L : Nat} {xs : Nat → Int32} {d : Nat} (hd : 0 ≤ d) {res : Option Value × sm_H}   {h : sm_H} {r : (Int32 × sm_H)} (hf : F_270_0  h = some r) (hs : (fun (r : Int32 × sm_H) => res = (some (.int r.1), r.2)) r) : Ex (P_G L xs) (RUN L xs d) (sm_lk P_t270) 0 0 [some (.ref 0)] [] h res := by
  unfold F_270_0 at hf
  refine Ex.seg 2 (pc' := 4) (lc' := [some (.ref 0)]) (st' := [.int (h.1 0 12)]) (h' := h) (sg1 rfl rfl (sg1 rfl rfl rfl)) ?_
  obtain rfl := Option.some.inj hf
  exact Ex.iret rfl rfl (fun c0 => by cases c0) hs
theorem E_270 {L : Nat} {xs : Nat → Int32} {d : Nat} (hd : 1 ≤ d)  {h : sm_H} {r : Int32 × sm_H} (hf : F_270  h = some r) : RUN L xs d 270 [.ref 0] h (some (.int r.1), r.2) := by
  obtain ⟨d, rfl⟩ : ∃ e, d = e + 1 := ⟨d - 1, by omega⟩
  exact ⟨Nat.le_of_ble_eq_true rfl, B_270_0 (by omega) hf rfl⟩
theorem B_271_23 {L : Nat} {xs : Nat → Int32} {d : Nat} (hd : 1 ≤ d) {res : Option Value × sm_H} {z0 : Int32}  {h : sm_H} {r : (Int32 × sm_H)} (hf : F_271_23 z0 h = some r) (hs : (fun (r : Int32 × sm_H) => res = (some (.int r.1), r.2)) r) : Ex (P_G L xs) (RUN L xs d) (sm_lk P_t271) 0 23 [none, none] [.int z0] h res := by
  unfold F_271_23 at hf
  obtain rfl := Option.some.inj hf
  exact Ex.iret rfl rfl (fun c0 => by cases c0) hs
theorem B_271_0 {L : Nat} {xs : Nat → Int32} {d : Nat} (hd : 1 ≤ d) {res : Option Value × sm_H} {x1 : Int32}  {h : sm_H} {r : (Int32 × sm_H)} (hf : F_271_0 x1 h = some r) (hs : (fun (r : Int32 × sm_H) => res = (some (.int r.1), r.2)) r) : Ex (P_G L xs) (RUN L xs d) (sm_lk P_t271) 0 0 [some (.ref 0), some (.int x1)] [] h res := by
  unfold F_271_0 at hf
  refine Ex.seg 3 (pc' := 5) (lc' := [some (.ref 0), some (.int x1)]) (st' := [.int x1, .ref 10]) (h' := h) (sg1 rfl rfl (sg1 rfl rfl (sg1 rfl rfl rfl))) ?_
  obtain ⟨q1, e_q1, hf⟩ := bnd hf
  refine Ex.callV (a := 10) (As := [.int x1]) (r := []) (v := some (.int q1.1)) (h' := q1.2) rfl rfl (by decide) rfl (Nat.le_of_ble_eq_true rfl) rfl (E_36 (Nat.le_trans (by decide) hd) e_q1) rfl ?_
  refine Ex.ifc rfl rfl (fun (c0 : q1.1 = 0) => ?_) (fun (c0 : ¬ (q1.1 = 0)) => ?_)
  · rw [if_pos c0] at hf
    refine Ex.seg 1 (pc' := 23) (lc' := [some (.ref 0), some (.int x1)]) (st' := [.int (-1)]) (h' := q1.2) (sg1 rfl rfl rfl) ?_
    exact Ex.weak (sm_le_n (sm_le_n sm_le_nil)) (B_271_23 hd  hf hs)
  · rw [if_neg c0] at hf
    refine Ex.seg 3 (pc' := 16) (lc' := [some (.ref 0), some (.int x1)]) (st' := [.int x1, .ref 21]) (h' := q1.2) (sg1 rfl rfl (sg1 rfl rfl (sg1 rfl rfl rfl))) ?_
    obtain ⟨q2, e_q2, hf⟩ := bnd hf
    refine Ex.callV (a := 21) (As := [.int x1]) (r := []) (v := some (.int q2.1)) (h' := q2.2) rfl rfl (by decide) rfl (Nat.le_of_ble_eq_true rfl) rfl (E_155 (Nat.le_trans (by decide) hd) e_q2) rfl ?_
    refine Ex.seg 1 (pc' := 23) (lc' := [some (.ref 0), some (.int x1)]) (st' := [.int q2.1]) (h' := q2.2) (sg1 rfl rfl rfl) ?_
    exact Ex.weak (sm_le_n (sm_le_n sm_le_nil)) (B_271_23 hd  hf hs)
theorem E_271 {L : Nat} {xs : Nat → Int32} {d : Nat} (hd : 2 ≤ d) {x1 : Int32} {h : sm_H} {r : Int32 × sm_H} (hf : F_271 x1 h = some r) : RUN L xs d 271 [.ref 0, .int x1] h (some (.int r.1), r.2) := by
  obtain ⟨d, rfl⟩ : ∃ e, d = e + 1 := ⟨d - 1, by omega⟩
  exact ⟨Nat.le_of_ble_eq_true rfl, B_271_0 (by omega) hf rfl⟩
theorem B_272_22 {L : Nat} {xs : Nat → Int32} {d : Nat} (hd : 2 ≤ d) {res : Option Value × sm_H}   {h : sm_H} {r : (Int32 × sm_H)} (hf : F_272_22  h = some r) (hs : (fun (r : Int32 × sm_H) => res = (some (.int r.1), r.2)) r) : Ex (P_G L xs) (RUN L xs d) (sm_lk P_t272) 3 22 [none, none, none] [] h res := by
  unfold F_272_22 at hf
  refine Ex.seg 1 (pc' := 23) (lc' := [none, none, none]) (st' := [.int 0]) (h' := h) (sg1 rfl rfl rfl) ?_
  obtain rfl := Option.some.inj hf
  exact Ex.iret rfl rfl (fun _ => by decide) hs
theorem B_272_0 {L : Nat} {xs : Nat → Int32} {d : Nat} (hd : 2 ≤ d) {res : Option Value × sm_H} {x1 : Int32} {x2 : Int32}  {h : sm_H} {r : (Int32 × sm_H)} (hf : F_272_0 x1 x2 h = some r) (hs : (fun (r : Int32 × sm_H) => res = (some (.int r.1), r.2)) r) : Ex (P_G L xs) (RUN L xs d) (sm_lk P_t272) 3 0 [some (.ref 0), some (.int x1), some (.int x2)] [] h res := by
  unfold F_272_0 at hf
  refine Ex.seg 3 (pc' := 5) (lc' := [some (.ref 0), some (.int x1), some (.int x2)]) (st' := [.int x1, .ref 21]) (h' := h) (sg1 rfl rfl (sg1 rfl rfl (sg1 rfl rfl rfl))) ?_
  obtain ⟨q1, e_q1, hf⟩ := bnd hf
  refine Ex.callV (a := 21) (As := [.int x1]) (r := []) (v := some (.int q1.1)) (h' := q1.2) rfl rfl (by decide) rfl (Nat.le_of_ble_eq_true rfl) rfl (E_156 (Nat.le_trans (by decide) hd) e_q1) rfl ?_
  refine Ex.ifc rfl rfl (fun (c0 : q1.1 = 0) => ?_) (fun (c0 : ¬ (q1.1 = 0)) => ?_)
  · rw [if_pos c0] at hf
    exact Ex.weak (sm_le_n (sm_le_n (sm_le_n sm_le_nil))) (B_272_22 hd  hf hs)
  · rw [if_neg c0] at hf
    refine Ex.seg 3 (pc' := 16) (lc' := [some (.ref 0), some (.int x1), some (.int x2)]) (st' := [.int x2, .ref 10]) (h' := q1.2) (sg1 rfl rfl (sg1 rfl rfl (sg1 rfl rfl rfl))) ?_
    obtain ⟨q2, e_q2, hf⟩ := bnd hf
    refine Ex.callV (a := 10) (As := [.int x2]) (r := []) (v := some (.int q2.1)) (h' := q2.2) rfl rfl (by decide) rfl (Nat.le_of_ble_eq_true rfl) rfl (E_36 (Nat.le_trans (by decide) hd) e_q2) rfl ?_
    refine Ex.ifc rfl rfl (fun (c0 : ¬ (q2.1 = 0)) => ?_) (fun (c0 : ¬ ¬ (q2.1 = 0)) => ?_)
    · rw [if_neg c0] at hf
      refine Ex.seg 5 (pc' := 33) (lc' := [some (.ref 0), some (.int x1), some (.int x2)]) (st' := [.int x1, .ref 21, .ref 10]) (h' := q2.2) (sg1 rfl rfl (sg1 rfl rfl (sg1 rfl rfl (sg1 rfl rfl (sg1 rfl rfl rfl))))) ?_
      obtain ⟨q3, e_q3, hf⟩ := bnd hf
      refine Ex.callV (a := 21) (As := [.int x1]) (r := [.ref 10]) (v := some (.int q3.1)) (h' := q3.2) rfl rfl (by decide) rfl (Nat.le_of_ble_eq_true rfl) rfl (E_157 (Nat.le_trans (by decide) hd) e_q3) rfl ?_
      obtain ⟨q4, e_q4, hf⟩ := bnd hf
      refine Ex.callV (a := 10) (As := [.int q3.1]) (r := []) (v := some (.int q4.1)) (h' := q4.2) rfl rfl (by decide) rfl (Nat.le_of_ble_eq_true rfl) rfl (E_41 (Nat.le_trans (by decide) hd) e_q4) rfl ?_
      refine Ex.seg 3 (pc' := 44) (lc' := [some (.ref 0), some (.int x1), some (.int x2)]) (st' := [.int x2, .ref 10, .int q4.1]) (h' := q4.2) (sg1 rfl rfl (sg1 rfl rfl (sg1 rfl rfl rfl))) ?_
      obtain ⟨q5, e_q5, hf⟩ := bnd hf
      refine Ex.callV (a := 10) (As := [.int x2]) (r := [.int q4.1]) (v := some (.int q5.1)) (h' := q5.2) rfl rfl (by decide) rfl (Nat.le_of_ble_eq_true rfl) rfl (E_41 (Nat.le_trans (by decide) hd) e_q5) rfl ?_
      refine Ex.icmp rfl rfl (fun (c0 : q4.1 = q5.1) => ?_) (fun (c0 : ¬ (q4.1 = q5.1)) => ?_)
      · rw [if_pos c0] at hf
        refine Ex.seg 4 (pc' := 58) (lc' := [some (.ref 0), some (.int x1), some (.int x2)]) (st' := [.int x2, .int x1, .ref 21]) (h' := q5.2) (sg1 rfl rfl (sg1 rfl rfl (sg1 rfl rfl (sg1 rfl rfl rfl)))) ?_
        obtain ⟨q6, e_q6, hf⟩ := bnd hf
        refine Ex.callV (a := 21) (As := [.int x1, .int x2]) (r := []) (v := none) (h' := q6) rfl rfl (by decide) rfl (Nat.le_of_ble_eq_true rfl) rfl (E_158 (Nat.le_trans (by decide) hd) e_q6) rfl ?_
        refine Ex.seg 1 (pc' := 62) (lc' := [some (.ref 0), some (.int x1), some (.int x2)]) (st' := [.int 1]) (h' := q6) (sg1 rfl rfl rfl) ?_
        obtain rfl := Option.some.inj hf
        exact Ex.iret rfl rfl (fun _ => by decide) hs
      · rw [if_neg c0] at hf
        refine Ex.seg 1 (pc' := 51) (lc' := [some (.ref 0), some (.int x1), some (.int x2)]) (st' := [.int 0]) (h' := q5.2) (sg1 rfl rfl rfl) ?_
        obtain rfl := Option.some.inj hf
        exact Ex.iret rfl rfl (fun _ => by decide) hs
    · rw [if_pos (Classical.not_not.mp c0)] at hf
      exact Ex.weak (sm_le_n (sm_le_n (sm_le_n sm_le_nil))) (B_272_22 hd  hf hs)
theorem E_272 {L : Nat} {xs : Nat → Int32} {d : Nat} (hd : 3 ≤ d) {x1 : Int32} {x2 : Int32} {h : sm_H} {r : Int32 × sm_H} (hf : F_272 x1 x2 h = some r) : RUN L xs d 272 [.ref 0, .int x1, .int x2] h (some (.int r.1), r.2) := by
  obtain ⟨d, rfl⟩ : ∃ e, d = e + 1 := ⟨d - 1, by omega⟩
  exact ⟨Nat.le_of_ble_eq_true rfl, B_272_0 (by omega) hf rfl⟩
theorem B_273_0 {L : Nat} {xs : Nat → Int32} {d : Nat} (hd : 1 ≤ d) {res : Option Value × sm_H}   {h : sm_H} {r : (Int32 × sm_H)} (hf : F_273_0  h = some r) (hs : (fun (r : Int32 × sm_H) => res = (some (.int r.1), r.2)) r) : Ex (P_G L xs) (RUN L xs d) (sm_lk P_t273) 0 0 [some (.ref 0)] [] h res := by
  unfold F_273_0 at hf
  refine Ex.seg 2 (pc' := 4) (lc' := [some (.ref 0)]) (st' := [.ref 21]) (h' := h) (sg1 rfl rfl (sg1 rfl rfl rfl)) ?_
  obtain ⟨q1, e_q1, hf⟩ := bnd hf
  refine Ex.callV (a := 21) (As := []) (r := []) (v := some (.int q1.1)) (h' := q1.2) rfl rfl (by decide) rfl (Nat.le_of_ble_eq_true rfl) rfl (E_159 (Nat.le_trans (by decide) hd) e_q1) rfl ?_
  obtain rfl := Option.some.inj hf
  exact Ex.iret rfl rfl (fun c0 => by cases c0) hs
theorem E_273 {L : Nat} {xs : Nat → Int32} {d : Nat} (hd : 2 ≤ d)  {h : sm_H} {r : Int32 × sm_H} (hf : F_273  h = some r) : RUN L xs d 273 [.ref 0] h (some (.int r.1), r.2) := by
  obtain ⟨d, rfl⟩ : ∃ e, d = e + 1 := ⟨d - 1, by omega⟩
  exact ⟨Nat.le_of_ble_eq_true rfl, B_273_0 (by omega) hf rfl⟩
theorem B_274_0 {L : Nat} {xs : Nat → Int32} {d : Nat} (hd : 2 ≤ d) {res : Option Value × sm_H} {x1 : Int32}  {h : sm_H} {r : (Int32 × sm_H)} (hf : F_274_0 x1 h = some r) (hs : (fun (r : Int32 × sm_H) => res = (some (.int r.1), r.2)) r) : Ex (P_G L xs) (RUN L xs d) (sm_lk P_t274) 3 0 [some (.ref 0), some (.int x1)] [] h res := by
  unfold F_274_0 at hf
  refine Ex.seg 3 (pc' := 5) (lc' := [some (.ref 0), some (.int x1)]) (st' := [.int x1, .ref 21]) (h' := h) (sg1 rfl rfl (sg1 rfl rfl (sg1 rfl rfl rfl))) ?_
  obtain ⟨q1, e_q1, hf⟩ := bnd hf
  refine Ex.callV (a := 21) (As := [.int x1]) (r := []) (v := some (.int q1.1)) (h' := q1.2) rfl rfl (by decide) rfl (Nat.le_of_ble_eq_true rfl) rfl (E_162 (Nat.le_trans (by decide) hd) e_q1) rfl ?_
  rcases Classical.em (q1.1 = 0 ∨ q1.1 = 1) with c0 | c0
  · rw [if_pos c0] at hf
    obtain rfl := Option.some.inj hf
    exact Ex.iret rfl rfl (fun _ => c0) hs
  · rw [if_neg c0] at hf
    cases hf
theorem E_274 {L : Nat} {xs : Nat → Int32} {d : Nat} (hd : 3 ≤ d) {x1 : Int32} {h : sm_H} {r : Int32 × sm_H} (hf : F_274 x1 h = some r) : RUN L xs d 274 [.ref 0, .int x1] h (some (.int r.1), r.2) := by
  obtain ⟨d, rfl⟩ : ∃ e, d = e + 1 := ⟨d - 1, by omega⟩
  exact ⟨Nat.le_of_ble_eq_true rfl, B_274_0 (by omega) hf rfl⟩
theorem B_275_0 {L : Nat} {xs : Nat → Int32} {d : Nat} (hd : 0 ≤ d) {res : Option Value × sm_H} {x1 : Int64}  {h : sm_H} {r : (Int32 × sm_H)} (hf : F_275_0 x1 h = some r) (hs : (fun (r : Int32 × sm_H) => res = (some (.int r.1), r.2)) r) : Ex (P_G L xs) (RUN L xs d) (sm_lk P_t275) 3 0 [some (.ref 0), some (.long x1), none] [] h res := by
  unfold F_275_0 at hf
  refine Ex.seg 3 (pc' := 6) (lc' := [some (.ref 0), some (.long x1), none]) (st' := [.int 10, .int (h.1 0 11)]) (h' := h) (sg1 rfl rfl (sg1 rfl rfl (sg1 rfl rfl rfl))) ?_
  refine Ex.icmp rfl rfl (fun (c0 : (h.1 0 11) < 10) => ?_) (fun (c0 : ¬ ((h.1 0 11) < 10)) => ?_)
  · rw [if_pos c0] at hf
    refine Ex.seg 5 (pc' := 20) (lc' := [some (.ref 0), some (.long x1), none]) (st' := [.long x1, .int (h.1 0 11), .ref 66]) (h' := h) (sg1 rfl rfl (sg1 rfl rfl (sg1 rfl rfl (sg1 rfl rfl (sg1 rfl rfl rfl))))) ?_
    obtain ⟨h1, e_h1, hf⟩ := bnd hf
    refine Ex.last e_h1 rfl rfl ?_
    refine Ex.seg 6 (pc' := 31) (lc' := [some (.ref 0), some (.long x1), none]) (st' := []) (h' := (sm_wI h1 0 11 ((h1.1 0 11) + 1))) (sg1 rfl rfl (sg1 rfl rfl (sg1 rfl rfl (sg1 rfl rfl (sg1 rfl rfl (sg1 rfl rfl rfl)))))) ?_
    obtain ⟨h2, e_h2, hf⟩ := bnd hf
    rw [Option.some.inj e_h2]
    refine Ex.seg 1 (pc' := 32) (lc' := [some (.ref 0), some (.long x1), none]) (st' := [.int 1]) (h' := h2) (sg1 rfl rfl rfl) ?_
    obtain rfl := Option.some.inj hf
    exact Ex.iret rfl rfl (fun _ => by decide) hs
  · rw [if_neg c0] at hf
    refine Ex.seg 1 (pc' := 10) (lc' := [some (.ref 0), some (.long x1), none]) (st' := [.int 0]) (h' := h) (sg1 rfl rfl rfl) ?_
    obtain rfl := Option.some.inj hf
    exact Ex.iret rfl rfl (fun _ => by decide) hs
theorem E_275 {L : Nat} {xs : Nat → Int32} {d : Nat} (hd : 1 ≤ d) {x1 : Int64} {h : sm_H} {r : Int32 × sm_H} (hf : F_275 x1 h = some r) : RUN L xs d 275 [.ref 0, .long x1] h (some (.int r.1), r.2) := by
  obtain ⟨d, rfl⟩ : ∃ e, d = e + 1 := ⟨d - 1, by omega⟩
  exact ⟨Nat.le_of_ble_eq_true rfl, B_275_0 (by omega) hf rfl⟩
theorem B_277_0 {L : Nat} {xs : Nat → Int32} {d : Nat} (hd : 1 ≤ d) {res : Option Value × sm_H} {x1 : Int32}  {h : sm_H} {r : (Int32 × sm_H)} (hf : F_277_0 x1 h = some r) (hs : (fun (r : Int32 × sm_H) => res = (some (.int r.1), r.2)) r) : Ex (P_G L xs) (RUN L xs d) (sm_lk P_t277) 0 0 [some (.ref 0), some (.int x1)] [] h res := by
  unfold F_277_0 at hf
  refine Ex.seg 1 (pc' := 1) (lc' := [some (.ref 0), some (.int x1)]) (st' := [.int x1]) (h' := h) (sg1 rfl rfl rfl) ?_
  rcases Classical.em (x1 = 4) with n1 | n1
  · rw [if_pos n1] at hf
    refine Ex.swt (t := 36) rfl rfl (by rw [n1]; exact Or.inr ⟨by decide, by decide, _, rfl, by decide⟩) ?_
    refine Ex.seg 2 (pc' := 40) (lc' := [some (.ref 0), some (.int x1)]) (st' := [.ref 21]) (h' := h) (sg1 rfl rfl (sg1 rfl rfl rfl)) ?_
    obtain ⟨q1, e_q1, hf⟩ := bnd hf
    refine Ex.callV (a := 21) (As := []) (r := []) (v := some (.int q1.1)) (h' := q1.2) rfl rfl (by decide) rfl (Nat.le_of_ble_eq_true rfl) rfl (E_143 (Nat.le_trans (by decide) hd) e_q1) rfl ?_
    obtain rfl := Option.some.inj hf
    exact Ex.iret rfl rfl (fun c0 => by cases c0) hs
  rw [if_neg n1] at hf
  rcases Classical.em (x1 = 5) with n2 | n2
  · rw [if_pos n2] at hf
    refine Ex.swt (t := 44) rfl rfl (by rw [n2]; exact Or.inr ⟨by decide, by decide, _, rfl, by decide⟩) ?_
    refine Ex.seg 2 (pc' := 48) (lc' := [some (.ref 0), some (.int x1)]) (st' := [.ref 21]) (h' := h) (sg1 rfl rfl (sg1 rfl rfl rfl)) ?_
    obtain ⟨q2, e_q2, hf⟩ := bnd hf
    refine Ex.callV (a := 21) (As := []) (r := []) (v := some (.int q2.1)) (h' := q2.2) rfl rfl (by decide) rfl (Nat.le_of_ble_eq_true rfl) rfl (E_144 (Nat.le_trans (by decide) hd) e_q2) rfl ?_
    obtain rfl := Option.some.inj hf
    exact Ex.iret rfl rfl (fun c0 => by cases c0) hs
  rw [if_neg n2] at hf
  rcases Classical.em (x1 = 6) with n3 | n3
  · rw [if_pos n3] at hf
    refine Ex.swt (t := 52) rfl rfl (by rw [n3]; exact Or.inr ⟨by decide, by decide, _, rfl, by decide⟩) ?_
    refine Ex.seg 2 (pc' := 56) (lc' := [some (.ref 0), some (.int x1)]) (st' := [.ref 5]) (h' := h) (sg1 rfl rfl (sg1 rfl rfl rfl)) ?_
    obtain ⟨q3, e_q3, hf⟩ := bnd hf
    refine Ex.callV (a := 5) (As := []) (r := []) (v := some (.int q3.1)) (h' := q3.2) rfl rfl (by decide) rfl (Nat.le_of_ble_eq_true rfl) rfl (E_223 (Nat.le_trans (by decide) hd) e_q3) rfl ?_
    obtain rfl := Option.some.inj hf
    exact Ex.iret rfl rfl (fun c0 => by cases c0) hs
  rw [if_neg n3] at hf
  rcases Classical.em (x1 = 7) with n4 | n4
  · rw [if_pos n4] at hf
    refine Ex.swt (t := 60) rfl rfl (by rw [n4]; exact Or.inr ⟨by decide, by decide, _, rfl, by decide⟩) ?_
    refine Ex.seg 2 (pc' := 64) (lc' := [some (.ref 0), some (.int x1)]) (st' := [.ref 10]) (h' := h) (sg1 rfl rfl (sg1 rfl rfl rfl)) ?_
    obtain ⟨q4, e_q4, hf⟩ := bnd hf
    refine Ex.callV (a := 10) (As := []) (r := []) (v := some (.int q4.1)) (h' := q4.2) rfl rfl (by decide) rfl (Nat.le_of_ble_eq_true rfl) rfl (E_35 (Nat.le_trans (by decide) hd) e_q4) rfl ?_
    obtain rfl := Option.some.inj hf
    exact Ex.iret rfl rfl (fun c0 => by cases c0) hs
  rw [if_neg n4] at hf
  rcases Classical.em (x1 = 8) with n5 | n5
  · rw [if_pos n5] at hf
    refine Ex.swt (t := 68) rfl rfl (by rw [n5]; exact Or.inr ⟨by decide, by decide, _, rfl, by decide⟩) ?_
    refine Ex.seg 2 (pc' := 72) (lc' := [some (.ref 0), some (.int x1)]) (st' := [.ref 38]) (h' := h) (sg1 rfl rfl (sg1 rfl rfl rfl)) ?_
    obtain ⟨q5, e_q5, hf⟩ := bnd hf
    refine Ex.callV (a := 38) (As := []) (r := []) (v := some (.int q5.1)) (h' := q5.2) rfl rfl (by decide) rfl (Nat.le_of_ble_eq_true rfl) rfl (E_112 (Nat.le_trans (by decide) hd) e_q5) rfl ?_
    obtain rfl := Option.some.inj hf
    exact Ex.iret rfl rfl (fun c0 => by cases c0) hs
  rw [if_neg n5] at hf
  refine Ex.swt (t := 76) rfl rfl (sw_dflt (by decide) (by decide) (fun k hk he => ?_)) ?_
  · have hk : k < 5 := hk
    rcases (show k = 0 ∨ k = 1 ∨ k = 2 ∨ k = 3 ∨ k = 4 by omega) with rfl | rfl | rfl | rfl | rfl
    · exact absurd (Int32.toInt_inj.mp (he.symm.trans (by decide : (_ : Int) = Int32.toInt 4))) n1
    · exact absurd (Int32.toInt_inj.mp (he.symm.trans (by decide : (_ : Int) = Int32.toInt 5))) n2
    · exact absurd (Int32.toInt_inj.mp (he.symm.trans (by decide : (_ : Int) = Int32.toInt 6))) n3
    · exact absurd (Int32.toInt_inj.mp (he.symm.trans (by decide : (_ : Int) = Int32.toInt 7))) n4
    · exact absurd (Int32.toInt_inj.mp (he.symm.trans (by decide : (_ : Int) = Int32.toInt 8))) n5
  refine Ex.seg 3 (pc' := 81) (lc' := [some (.ref 0), some (.int x1)]) (st' := [.int x1, .ref 49]) (h' := h) (sg1 rfl rfl (sg1 rfl rfl (sg1 rfl rfl rfl))) ?_
  obtain ⟨q6, e_q6, hf⟩ := bnd hf
  refine Ex.callV (a := 49) (As := [.int x1]) (r := []) (v := some (.int q6.1)) (h' := q6.2) rfl rfl (by decide) rfl (Nat.le_of_ble_eq_true rfl) rfl (E_72 (Nat.le_trans (by decide) hd) e_q6) rfl ?_
  obtain rfl := Option.some.inj hf
  exact Ex.iret rfl rfl (fun c0 => by cases c0) hs
theorem E_277 {L : Nat} {xs : Nat → Int32} {d : Nat} (hd : 2 ≤ d) {x1 : Int32} {h : sm_H} {r : Int32 × sm_H} (hf : F_277 x1 h = some r) : RUN L xs d 277 [.ref 0, .int x1] h (some (.int r.1), r.2) := by
  obtain ⟨d, rfl⟩ : ∃ e, d = e + 1 := ⟨d - 1, by omega⟩
  exact ⟨Nat.le_of_ble_eq_true rfl, B_277_0 (by omega) hf rfl⟩
theorem B_282_0 {L : Nat} {xs : Nat → Int32} {d : Nat} (hd : 1 ≤ d) {res : Option Value × sm_H} {x1 : Int32} {x2 : Int32} {x3 : Int32} {x4 : Int32} {x5 : Int32}  {h : sm_H} {r : (sm_H)} (hf : F_282_0 x1 x2 x3 x4 x5 h = some r) (hs : (fun (r : sm_H) => res = (none, r)) r) : Ex (P_G L xs) (RUN L xs d) (sm_lk P_t282) 0 0 [some (.ref 0), some (.int x1), some (.int x2), some (.int x3), some (.int x4), some (.int x5)] [] h res := by
  unfold F_282_0 at hf
  refine Ex.seg 4 (pc' := 6) (lc' := [some (.ref 0), some (.int x1), some (.int x2), some (.int x3), some (.int x4), some (.int x5)]) (st' := [.int x1, .int 0, .ref 52]) (h' := h) (sg1 rfl rfl (sg1 rfl rfl (sg1 rfl rfl (sg1 rfl rfl rfl)))) ?_
  obtain ⟨q1, e_q1, hf⟩ := bnd hf
  refine Ex.callV (a := 52) (As := [.int 0, .int x1]) (r := []) (v := none) (h' := q1) rfl rfl (by decide) rfl (Nat.le_of_ble_eq_true rfl) rfl (E_238 (Nat.le_trans (by decide) hd) e_q1) rfl ?_
  refine Ex.seg 4 (pc' := 15) (lc' := [some (.ref 0), some (.int x1), some (.int x2), some (.int x3), some (.int x4), some (.int x5)]) (st' := [.int x2, .int 4, .ref 52]) (h' := q1) (sg1 rfl rfl (sg1 rfl rfl (sg1 rfl rfl (sg1 rfl rfl rfl)))) ?_
  obtain ⟨q2, e_q2, hf⟩ := bnd hf
  refine Ex.callV (a := 52) (As := [.int 4, .int x2]) (r := []) (v := none) (h' := q2) rfl rfl (by decide) rfl (Nat.le_of_ble_eq_true rfl) rfl (E_238 (Nat.le_trans (by decide) hd) e_q2) rfl ?_
  refine Ex.seg 4 (pc' := 25) (lc' := [some (.ref 0), some (.int x1), some (.int x2), some (.int x3), some (.int x4), some (.int x5)]) (st' := [.int x3, .int 8, .ref 52]) (h' := q2) (sg1 rfl rfl (sg1 rfl rfl (sg1 rfl rfl (sg1 rfl rfl rfl)))) ?_
  obtain ⟨q3, e_q3, hf⟩ := bnd hf
  refine Ex.callV (a := 52) (As := [.int 8, .int x3]) (r := []) (v := none) (h' := q3) rfl rfl (by decide) rfl (Nat.le_of_ble_eq_true rfl) rfl (E_238 (Nat.le_trans (by decide) hd) e_q3) rfl ?_
  refine Ex.seg 4 (pc' := 36) (lc' := [some (.ref 0), some (.int x1), some (.int x2), some (.int x3), some (.int x4), some (.int x5)]) (st' := [.int x4, .int 12, .ref 52]) (h' := q3) (sg1 rfl rfl (sg1 rfl rfl (sg1 rfl rfl (sg1 rfl rfl rfl)))) ?_
  obtain ⟨q4, e_q4, hf⟩ := bnd hf
  refine Ex.callV (a := 52) (As := [.int 12, .int x4]) (r := []) (v := none) (h' := q4) rfl rfl (by decide) rfl (Nat.le_of_ble_eq_true rfl) rfl (E_238 (Nat.le_trans (by decide) hd) e_q4) rfl ?_
  refine Ex.seg 4 (pc' := 47) (lc' := [some (.ref 0), some (.int x1), some (.int x2), some (.int x3), some (.int x4), some (.int x5)]) (st' := [.int x5, .int 16, .ref 52]) (h' := q4) (sg1 rfl rfl (sg1 rfl rfl (sg1 rfl rfl (sg1 rfl rfl rfl)))) ?_
  obtain ⟨q5, e_q5, hf⟩ := bnd hf
  refine Ex.callV (a := 52) (As := [.int 16, .int x5]) (r := []) (v := none) (h' := q5) rfl rfl (by decide) rfl (Nat.le_of_ble_eq_true rfl) rfl (E_238 (Nat.le_trans (by decide) hd) e_q5) rfl ?_
  obtain rfl := Option.some.inj hf
  exact Ex.vret rfl rfl hs
theorem E_282 {L : Nat} {xs : Nat → Int32} {d : Nat} (hd : 2 ≤ d) {x1 : Int32} {x2 : Int32} {x3 : Int32} {x4 : Int32} {x5 : Int32} {h : sm_H} {r : sm_H} (hf : F_282 x1 x2 x3 x4 x5 h = some r) : RUN L xs d 282 [.ref 0, .int x1, .int x2, .int x3, .int x4, .int x5] h (none, r) := by
  obtain ⟨d, rfl⟩ : ∃ e, d = e + 1 := ⟨d - 1, by omega⟩
  exact ⟨Nat.le_of_ble_eq_true rfl, B_282_0 (by omega) hf rfl⟩
theorem B_283_0 {L : Nat} {xs : Nat → Int32} {d : Nat} (hd : 1 ≤ d) {res : Option Value × sm_H} {x1 : Int32}  {h : sm_H} {r : (Int32 × sm_H)} (hf : F_283_0 x1 h = some r) (hs : (fun (r : Int32 × sm_H) => res = (some (.int r.1), r.2)) r) : Ex (P_G L xs) (RUN L xs d) (sm_lk P_t283) 0 0 [some (.ref 0), some (.int x1)] [] h res := by
  unfold F_283_0 at hf
  refine Ex.seg 3 (pc' := 5) (lc' := [some (.ref 0), some (.int x1)]) (st' := [.int x1, .ref 52]) (h' := h) (sg1 rfl rfl (sg1 rfl rfl (sg1 rfl rfl rfl))) ?_
  obtain ⟨q1, e_q1, hf⟩ := bnd hf
  refine Ex.callV (a := 52) (As := [.int x1]) (r := []) (v := some (.int q1.1)) (h' := q1.2) rfl rfl (by decide) rfl (Nat.le_of_ble_eq_true rfl) rfl (E_239 (Nat.le_trans (by decide) hd) e_q1) rfl ?_
  obtain rfl := Option.some.inj hf
  exact Ex.iret rfl rfl (fun c0 => by cases c0) hs
theorem E_283 {L : Nat} {xs : Nat → Int32} {d : Nat} (hd : 2 ≤ d) {x1 : Int32} {h : sm_H} {r : Int32 × sm_H} (hf : F_283 x1 h = some r) : RUN L xs d 283 [.ref 0, .int x1] h (some (.int r.1), r.2) := by
  obtain ⟨d, rfl⟩ : ∃ e, d = e + 1 := ⟨d - 1, by omega⟩
  exact ⟨Nat.le_of_ble_eq_true rfl, B_283_0 (by omega) hf rfl⟩
theorem B_285_0 {L : Nat} {xs : Nat → Int32} {d : Nat} (hd : 1 ≤ d) {res : Option Value × sm_H} {x1 : Int32}  {h : sm_H} {r : (Int32 × sm_H)} (hf : F_285_0 x1 h = some r) (hs : (fun (r : Int32 × sm_H) => res = (some (.int r.1), r.2)) r) : Ex (P_G L xs) (RUN L xs d) (sm_lk P_t285) 0 0 [some (.ref 0), some (.int x1)] [] h res := by
  unfold F_285_0 at hf
  refine Ex.seg 3 (pc' := 5) (lc' := [some (.ref 0), some (.int x1)]) (st' := [.int x1, .ref 55]) (h' := h) (sg1 rfl rfl (sg1 rfl rfl (sg1 rfl rfl rfl))) ?_
  obtain ⟨q1, e_q1, hf⟩ := bnd hf
  refine Ex.callV (a := 55) (As := [.int x1]) (r := []) (v := some (.int q1.1)) (h' := q1.2) rfl rfl (by decide) rfl (Nat.le_of_ble_eq_true rfl) rfl (E_164 (Nat.le_trans (by decide) hd) e_q1) rfl ?_
  obtain rfl := Option.some.inj hf
  exact Ex.iret rfl rfl (fun c0 => by cases c0) hs
theorem E_285 {L : Nat} {xs : Nat → Int32} {d : Nat} (hd : 2 ≤ d) {x1 : Int32} {h : sm_H} {r : Int32 × sm_H} (hf : F_285 x1 h = some r) : RUN L xs d 285 [.ref 0, .int x1] h (some (.int r.1), r.2) := by
  obtain ⟨d, rfl⟩ : ∃ e, d = e + 1 := ⟨d - 1, by omega⟩
  exact ⟨Nat.le_of_ble_eq_true rfl, B_285_0 (by omega) hf rfl⟩
theorem B_8_49 {L : Nat} {xs : Nat → Int32} {d : Nat} (hd : 1 ≤ d) {res : Option Value × sm_H} {S1 : (Int32 × Int32 × sm_H) → Prop} (hS1 : ∀ s, S1 s → Ex (P_G L xs) (RUN L xs d) (sm_lk P_t8) 3 2 [some (.ref 34), some (.int s.1), some (.int s.2.1)] [] s.2.2 res) {y1 : Int32} {y2 : Int32}  {h : sm_H} {r : ((Int32 × Int32 × sm_H) ⊕ (Int32 × sm_H))} (hf : F_8_49 y1 y2 h = some r) (hs : (Sum.elim S1 (fun (r : Int32 × sm_H) => res = (some (.int r.1), r.2))) r) : Ex (P_G L xs) (RUN L xs d) (sm_lk P_t8) 3 49 [some (.ref 34), some (.int y1), some (.int y2)] [] h res := by
  unfold F_8_49 at hf
  refine Ex.seg 1 (pc' := 52) (lc' := [some (.ref 34), some (.int y1), some (.int (y2 + 1))]) (st' := []) (h' := h) (sg1 rfl rfl rfl) ?_
  obtain ⟨v1, e_v1, hf⟩ := bnd hf
  rw [Option.some.inj e_v1]
  refine Ex.seg 1 (pc' := 2) (lc' := [some (.ref 34), some (.int y1), some (.int v1)]) (st' := []) (h' := h) (sg1 rfl rfl rfl) ?_
  obtain rfl := Option.some.inj hf
  exact Ex.weak (sm_le_s (sm_le_s (sm_le_s sm_le_nil))) (hS1 _ hs)
theorem B_8_47 {L : Nat} {xs : Nat → Int32} {d : Nat} (hd : 1 ≤ d) {res : Option Value × sm_H}   {h : sm_H} {r : (Int32 × sm_H)} (hf : F_8_47  h = some r) (hs : (fun (r : Int32 × sm_H) => res = (some (.int r.1), r.2)) r) : Ex (P_G L xs) (RUN L xs d) (sm_lk P_t8) 3 47 [none, none, none] [] h res := by
  unfold F_8_47 at hf
  refine Ex.seg 1 (pc' := 48) (lc' := [none, none, none]) (st' := [.int 1]) (h' := h) (sg1 rfl rfl rfl) ?_
  obtain rfl := Option.some.inj hf
  exact Ex.iret rfl rfl (fun _ => by decide) hs
theorem B_8_2B {L : Nat} {xs : Nat → Int32} {d : Nat} (hd : 1 ≤ d) {res : Option Value × sm_H} {S1 : (Int32 × Int32 × sm_H) → Prop} (hS1 : ∀ s, S1 s → Ex (P_G L xs) (RUN L xs d) (sm_lk P_t8) 3 2 [some (.ref 34), some (.int s.1), some (.int s.2.1)] [] s.2.2 res) {s : (Int32 × Int32 × sm_H)}  {r : ((Int32 × Int32 × sm_H) ⊕ (Int32 × sm_H))} (hf : F_8_2B s = some r) (hs : (Sum.elim S1 (fun (r : Int32 × sm_H) => res = (some (.int r.1), r.2))) r) : Ex (P_G L xs) (RUN L xs d) (sm_lk P_t8) 3 2 [some (.ref 34), some (.int s.1), some (.int s.2.1)] [] s.2.2 res := by
  unfold F_8_2B at hf
  refine Ex.seg 2 (pc' := 4) (lc' := [some (.ref 34), some (.int s.1), some (.int s.2.1)]) (st' := [.ref 34, .int s.2.1]) (h' := s.2.2) (sg1 rfl rfl (sg1 rfl rfl rfl)) ?_
  obtain ⟨b2, e_b2, hf⟩ := bnd hf
  refine Ex.getR (c := 0) (k := 11) rfl e_b2 rfl rfl ?_
  have g4 : sm_is G0 s.2.2 b2 5 = true := Classical.byContradiction (fun z => by rw [if_pos z] at hf; cases hf)
  rw [if_neg (fun z => z g4)] at hf
  obtain ⟨q3, e_q3, hf⟩ := bnd hf
  refine Ex.callV (a := b2) (As := []) (r := [.int s.2.1]) (v := some (.int q3.1)) (h' := q3.2) rfl rfl (by decide) rfl (Nat.le_of_ble_eq_true rfl) g4 (E_136 (Nat.le_trans (by decide) hd) e_q3) rfl ?_
  refine Ex.icmp rfl rfl (fun (c0 : q3.1 ≤ s.2.1) => ?_) (fun (c0 : ¬ (q3.1 ≤ s.2.1)) => ?_)
  · rw [if_pos c0] at hf
    refine Ex.seg 1 (pc' := 56) (lc' := [some (.ref 34), some (.int s.1), some (.int s.2.1)]) (st' := [.int 0]) (h' := q3.2) (sg1 rfl rfl rfl) ?_
    obtain rfl := Option.some.inj hf
    exact Ex.iret rfl rfl (fun _ => by decide) hs
  · rw [if_neg c0] at hf
    refine Ex.seg 3 (pc' := 18) (lc' := [some (.ref 34), some (.int s.1), some (.int s.2.1)]) (st' := [.ref 34, .ref 10]) (h' := q3.2) (sg1 rfl rfl (sg1 rfl rfl (sg1 rfl rfl rfl))) ?_
    obtain ⟨b5, e_b5, hf⟩ := bnd hf
    refine Ex.getR (c := 0) (k := 11) rfl e_b5 rfl rfl ?_
    refine Ex.seg 1 (pc' := 22) (lc' := [some (.ref 34), some (.int s.1), some (.int s.2.1)]) (st' := [.int s.2.1, .ref b5, .ref 10]) (h' := q3.2) (sg1 rfl rfl rfl) ?_
    have g7 : sm_is G0 q3.2 b5 5 = true := Classical.byContradiction (fun z => by rw [if_pos z] at hf; cases hf)
    rw [if_neg (fun z => z g7)] at hf
    obtain ⟨q6, e_q6, hf⟩ := bnd hf
    refine Ex.callV (a := b5) (As := [.int s.2.1]) (r := [.ref 10]) (v := some (.int q6.1)) (h' := q6.2) rfl rfl (by decide) rfl (Nat.le_of_ble_eq_true rfl) g7 (E_137 (Nat.le_trans (by decide) hd) e_q6) rfl ?_
    obtain ⟨q8, e_q8, hf⟩ := bnd hf
    refine Ex.callV (a := 10) (As := [.int q6.1]) (r := []) (v := some (.int q8.1)) (h' := q8.2) rfl rfl (by decide) rfl (Nat.le_of_ble_eq_true rfl) rfl (E_36 (Nat.le_trans (by decide) hd) e_q8) rfl ?_
    refine Ex.ifc rfl rfl (fun (c0 : ¬ (q8.1 = 0)) => ?_) (fun (c0 : ¬ ¬ (q8.1 = 0)) => ?_)
    · rw [if_neg c0] at hf
      exact Ex.weak (sm_le_s (sm_le_s (sm_le_s sm_le_nil))) (B_8_49 hd hS1 hf hs)
    · rw [if_pos (Classical.not_not.mp c0)] at hf
      refine Ex.seg 1 (pc' := 32) (lc' := [some (.ref 34), some (.int s.1), some (.int s.2.1)]) (st' := [.int s.1]) (h' := q8.2) (sg1 rfl rfl rfl) ?_
      refine Ex.ifc rfl rfl (fun (c0 : s.1 = 0) => ?_) (fun (c0 : ¬ (s.1 = 0)) => ?_)
      · rw [if_pos c0] at hf
        obtain ⟨r0, hf0, rfl⟩ := Option.map_eq_some_iff.mp hf
        exact Ex.weak (sm_le_n (sm_le_n (sm_le_n sm_le_nil))) (B_8_47 hd  hf0 hs)
      · rw [if_neg c0] at hf
        refine Ex.seg 1 (pc' := 36) (lc' := [some (.ref 34), some (.int s.1), some (.int s.2.1)]) (st' := [.ref 34]) (h' := q8.2) (sg1 rfl rfl rfl) ?_
        obtain ⟨b9, e_b9, hf⟩ := bnd hf
        refine Ex.getR (c := 0) (k := 11) rfl e_b9 rfl rfl ?_
        refine Ex.seg 1 (pc' := 40) (lc' := [some (.ref 34), some (.int s.1), some (.int s.2.1)]) (st' := [.int s.2.1, .ref b9]) (h' := q8.2) (sg1 rfl rfl rfl) ?_
        have g11 : sm_is G0 q8.2 b9 5 = true := Classical.byContradiction (fun z => by rw [if_pos z] at hf; cases hf)
        rw [if_neg (fun z => z g11)] at hf
        obtain ⟨q10, e_q10, hf⟩ := bnd hf
        refine Ex.callV (a := b9) (As := [.int s.2.1]) (r := []) (v := some (.int q10.1)) (h' := q10.2) rfl rfl (by decide) rfl (Nat.le_of_ble_eq_true rfl) g11 (E_137 (Nat.le_trans (by decide) hd) e_q10) rfl ?_
        refine Ex.seg 1 (pc' := 44) (lc' := [some (.ref 34), some (.int s.1), some (.int s.2.1)]) (st' := [.int (-1), .int q10.1]) (h' := q10.2) (sg1 rfl rfl rfl) ?_
        refine Ex.icmp rfl rfl (fun (c0 : q10.1 = (-1)) => ?_) (fun (c0 : ¬ (q10.1 = (-1))) => ?_)
        · rw [if_pos c0] at hf
          exact Ex.weak (sm_le_s (sm_le_s (sm_le_s sm_le_nil))) (B_8_49 hd hS1 hf hs)
        · rw [if_neg c0] at hf
          obtain ⟨r0, hf0, rfl⟩ := Option.map_eq_some_iff.mp hf
          exact Ex.weak (sm_le_n (sm_le_n (sm_le_n sm_le_nil))) (B_8_47 hd  hf0 hs)
theorem B_8_2 {L : Nat} {xs : Nat → Int32} {d : Nat} (hd : 1 ≤ d) {res : Option Value × sm_H} {y1 : Int32} {y2 : Int32}  {h : sm_H} {r : (Int32 × sm_H)} (hf : F_8_2 y1 y2 h = some r) (hs : (fun (r : Int32 × sm_H) => res = (some (.int r.1), r.2)) r) : Ex (P_G L xs) (RUN L xs d) (sm_lk P_t8) 3 2 [some (.ref 34), some (.int y1), some (.int y2)] [] h res := by
  unfold F_8_2 at hf
  exact lp_ok (P := fun (s : (Int32 × Int32 × sm_H)) => Ex (P_G L xs) (RUN L xs d) (sm_lk P_t8) 3 2 [some (.ref 34), some (.int s.1), some (.int s.2.1)] [] s.2.2 res) (S := (fun (r : Int32 × sm_H) => res = (some (.int r.1), r.2))) (fun s x hx hsx => by
    intros
    exact B_8_2B hd  (fun _ q => q) hx hsx) 1000000 _ r hf hs
theorem B_8_0 {L : Nat} {xs : Nat → Int32} {d : Nat} (hd : 1 ≤ d) {res : Option Value × sm_H} {x1 : Int32}  {h : sm_H} {r : (Int32 × sm_H)} (hf : F_8_0 x1 h = some r) (hs : (fun (r : Int32 × sm_H) => res = (some (.int r.1), r.2)) r) : Ex (P_G L xs) (RUN L xs d) (sm_lk P_t8) 3 0 [some (.ref 34), some (.int x1), none] [] h res := by
  unfold F_8_0 at hf
  refine Ex.seg 2 (pc' := 2) (lc' := [some (.ref 34), some (.int x1), some (.int 0)]) (st' := []) (h' := h) (sg1 rfl rfl (sg1 rfl rfl rfl)) ?_
  exact Ex.weak (sm_le_s (sm_le_s (sm_le_s sm_le_nil))) (B_8_2 hd  hf hs)
theorem E_8 {L : Nat} {xs : Nat → Int32} {d : Nat} (hd : 2 ≤ d) {x1 : Int32} {h : sm_H} {r : Int32 × sm_H} (hf : F_8 x1 h = some r) : RUN L xs d 8 [.ref 34, .int x1] h (some (.int r.1), r.2) := by
  obtain ⟨d, rfl⟩ : ∃ e, d = e + 1 := ⟨d - 1, by omega⟩
  exact ⟨Nat.le_of_ble_eq_true rfl, B_8_0 (by omega) hf rfl⟩
theorem B_12_19 {L : Nat} {xs : Nat → Int32} {d : Nat} (hd : 1 ≤ d) {res : Option Value × sm_H} {z0 : Int32}  {h : sm_H} {r : (Int32 × sm_H)} (hf : F_12_19 z0 h = some r) (hs : (fun (r : Int32 × sm_H) => res = (some (.int r.1), r.2)) r) : Ex (P_G L xs) (RUN L xs d) (sm_lk P_t12) 0 19 [none] [.int z0] h res := by
  unfold F_12_19 at hf
  obtain rfl := Option.some.inj hf
  exact Ex.iret rfl rfl (fun c0 => by cases c0) hs
theorem B_12_0 {L : Nat} {xs : Nat → Int32} {d : Nat} (hd : 1 ≤ d) {res : Option Value × sm_H}   {h : sm_H} {r : (Int32 × sm_H)} (hf : F_12_0  h = some r) (hs : (fun (r : Int32 × sm_H) => res = (some (.int r.1), r.2)) r) : Ex (P_G L xs) (RUN L xs d) (sm_lk P_t12) 0 0 [some (.ref 34)] [] h res := by
  unfold F_12_0 at hf
  refine Ex.seg 4 (pc' := 8) (lc' := [some (.ref 34)]) (st' := [.int (h.1 34 13), .ref 10]) (h' := h) (sg1 rfl rfl (sg1 rfl rfl (sg1 rfl rfl (sg1 rfl rfl rfl)))) ?_
  obtain ⟨q1, e_q1, hf⟩ := bnd hf
  refine Ex.callV (a := 10) (As := [.int (h.1 34 13)]) (r := []) (v := some (.int q1.1)) (h' := q1.2) rfl rfl (by decide) rfl (Nat.le_of_ble_eq_true rfl) rfl (E_44 (Nat.le_trans (by decide) hd) e_q1) rfl ?_
  refine Ex.ifc rfl rfl (fun (c0 : ¬ (q1.1 = 0)) => ?_) (fun (c0 : ¬ ¬ (q1.1 = 0)) => ?_)
  · rw [if_neg c0] at hf
    refine Ex.seg 1 (pc' := 19) (lc' := [some (.ref 34)]) (st' := [.int 1]) (h' := q1.2) (sg1 rfl rfl rfl) ?_
    exact Ex.weak (sm_le_n sm_le_nil) (B_12_19 hd  hf hs)
  · rw [if_pos (Classical.not_not.mp c0)] at hf
    refine Ex.seg 2 (pc' := 19) (lc' := [some (.ref 34)]) (st' := [.int 0]) (h' := q1.2) (sg1 rfl rfl (sg1 rfl rfl rfl)) ?_
    exact Ex.weak (sm_le_n sm_le_nil) (B_12_19 hd  hf hs)
theorem E_12 {L : Nat} {xs : Nat → Int32} {d : Nat} (hd : 2 ≤ d)  {h : sm_H} {r : Int32 × sm_H} (hf : F_12  h = some r) : RUN L xs d 12 [.ref 34] h (some (.int r.1), r.2) := by
  obtain ⟨d, rfl⟩ : ∃ e, d = e + 1 := ⟨d - 1, by omega⟩
  exact ⟨Nat.le_of_ble_eq_true rfl, B_12_0 (by omega) hf rfl⟩
theorem B_13_46 {L : Nat} {xs : Nat → Int32} {d : Nat} (hd : 1 ≤ d) {res : Option Value × sm_H}   {h : sm_H} {r : (Int32 × sm_H)} (hf : F_13_46  h = some r) (hs : (fun (r : Int32 × sm_H) => res = (some (.int r.1), r.2)) r) : Ex (P_G L xs) (RUN L xs d) (sm_lk P_t13) 3 46 [none, none] [] h res := by
  unfold F_13_46 at hf
  refine Ex.seg 1 (pc' := 47) (lc' := [none, none]) (st' := [.int 1]) (h' := h) (sg1 rfl rfl rfl) ?_
  obtain rfl := Option.some.inj hf
  exact Ex.iret rfl rfl (fun _ => by decide) hs
theorem B_13_2B {L : Nat} {xs : Nat → Int32} {d : Nat} (hd : 1 ≤ d) {res : Option Value × sm_H} {S1 : (Int32 × sm_H) → Prop} (hS1 : ∀ s, S1 s → Ex (P_G L xs) (RUN L xs d) (sm_lk P_t13) 3 2 [some (.ref 34), some (.int s.1)] [] s.2 res) {s : (Int32 × sm_H)}  {r : ((Int32 × sm_H) ⊕ (Int32 × sm_H))} (hf : F_13_2B s = some r) (hs : (Sum.elim S1 (fun (r : Int32 × sm_H) => res = (some (.int r.1), r.2))) r) : Ex (P_G L xs) (RUN L xs d) (sm_lk P_t13) 3 2 [some (.ref 34), some (.int s.1)] [] s.2 res := by
  unfold F_13_2B at hf
  refine Ex.seg 2 (pc' := 4) (lc' := [some (.ref 34), some (.int s.1)]) (st' := [.ref 34, .int s.1]) (h' := s.2) (sg1 rfl rfl (sg1 rfl rfl rfl)) ?_
  obtain ⟨b1, e_b1, hf⟩ := bnd hf
  refine Ex.getR (c := 0) (k := 11) rfl e_b1 rfl rfl ?_
  have g3 : sm_is G0 s.2 b1 5 = true := Classical.byContradiction (fun z => by rw [if_pos z] at hf; cases hf)
  rw [if_neg (fun z => z g3)] at hf
  obtain ⟨q2, e_q2, hf⟩ := bnd hf
  refine Ex.callV (a := b1) (As := []) (r := [.int s.1]) (v := some (.int q2.1)) (h' := q2.2) rfl rfl (by decide) rfl (Nat.le_of_ble_eq_true rfl) g3 (E_136 (Nat.le_trans (by decide) hd) e_q2) rfl ?_
  refine Ex.icmp rfl rfl (fun (c0 : q2.1 ≤ s.1) => ?_) (fun (c0 : ¬ (q2.1 ≤ s.1)) => ?_)
  · rw [if_pos c0] at hf
    refine Ex.seg 1 (pc' := 55) (lc' := [some (.ref 34), some (.int s.1)]) (st' := [.int 0]) (h' := q2.2) (sg1 rfl rfl rfl) ?_
    obtain rfl := Option.some.inj hf
    exact Ex.iret rfl rfl (fun _ => by decide) hs
  · rw [if_neg c0] at hf
    refine Ex.seg 1 (pc' := 14) (lc' := [some (.ref 34), some (.int s.1)]) (st' := [.ref 34]) (h' := q2.2) (sg1 rfl rfl rfl) ?_
    obtain ⟨b4, e_b4, hf⟩ := bnd hf
    refine Ex.getR (c := 0) (k := 11) rfl e_b4 rfl rfl ?_
    refine Ex.seg 1 (pc' := 18) (lc' := [some (.ref 34), some (.int s.1)]) (st' := [.int s.1, .ref b4]) (h' := q2.2) (sg1 rfl rfl rfl) ?_
    have g6 : sm_is G0 q2.2 b4 5 = true := Classical.byContradiction (fun z => by rw [if_pos z] at hf; cases hf)
    rw [if_neg (fun z => z g6)] at hf
    obtain ⟨q5, e_q5, hf⟩ := bnd hf
    refine Ex.callV (a := b4) (As := [.int s.1]) (r := []) (v := some (.int q5.1)) (h' := q5.2) rfl rfl (by decide) rfl (Nat.le_of_ble_eq_true rfl) g6 (E_137 (Nat.le_trans (by decide) hd) e_q5) rfl ?_
    refine Ex.ifc rfl rfl (fun (c0 : q5.1 < 0) => ?_) (fun (c0 : ¬ (q5.1 < 0)) => ?_)
    · rw [if_pos c0] at hf
      obtain ⟨r0, hf0, rfl⟩ := Option.map_eq_some_iff.mp hf
      exact Ex.weak (sm_le_n (sm_le_n sm_le_nil)) (B_13_46 hd  hf0 hs)
    · rw [if_neg c0] at hf
      refine Ex.seg 1 (pc' := 25) (lc' := [some (.ref 34), some (.int s.1)]) (st' := [.ref 34]) (h' := q5.2) (sg1 rfl rfl rfl) ?_
      obtain ⟨b7, e_b7, hf⟩ := bnd hf
      refine Ex.getR (c := 0) (k := 11) rfl e_b7 rfl rfl ?_
      refine Ex.seg 1 (pc' := 29) (lc' := [some (.ref 34), some (.int s.1)]) (st' := [.int s.1, .ref b7]) (h' := q5.2) (sg1 rfl rfl rfl) ?_
      have g9 : sm_is G0 q5.2 b7 5 = true := Classical.byContradiction (fun z => by rw [if_pos z] at hf; cases hf)
      rw [if_neg (fun z => z g9)] at hf
      obtain ⟨q8, e_q8, hf⟩ := bnd hf
      refine Ex.callV (a := b7) (As := [.int s.1]) (r := []) (v := some (.int q8.1)) (h' := q8.2) rfl rfl (by decide) rfl (Nat.le_of_ble_eq_true rfl) g9 (E_137 (Nat.le_trans (by decide) hd) e_q8) rfl ?_
      refine Ex.seg 4 (pc' := 40) (lc' := [some (.ref 34), some (.int s.1)]) (st' := [.int (q8.2.1 34 9), .ref 5, .int q8.1]) (h' := q8.2) (sg1 rfl rfl (sg1 rfl rfl (sg1 rfl rfl (sg1 rfl rfl rfl)))) ?_
      obtain ⟨q10, e_q10, hf⟩ := bnd hf
      refine Ex.callV (a := 5) (As := [.int (q8.2.1 34 9)]) (r := [.int q8.1]) (v := some (.int q10.1)) (h' := q10.2) rfl rfl (by decide) rfl (Nat.le_of_ble_eq_true rfl) rfl (E_226 (Nat.le_trans (by decide) hd) e_q10) rfl ?_
      refine Ex.icmp rfl rfl (fun (c0 : q8.1 < q10.1) => ?_) (fun (c0 : ¬ (q8.1 < q10.1)) => ?_)
      · rw [if_pos c0] at hf
        refine Ex.seg 1 (pc' := 51) (lc' := [some (.ref 34), some (.int (s.1 + 1))]) (st' := []) (h' := q10.2) (sg1 rfl rfl rfl) ?_
        obtain ⟨v11, e_v11, hf⟩ := bnd hf
        rw [Option.some.inj e_v11]
        refine Ex.seg 1 (pc' := 2) (lc' := [some (.ref 34), some (.int v11)]) (st' := []) (h' := q10.2) (sg1 rfl rfl rfl) ?_
        obtain rfl := Option.some.inj hf
        exact Ex.weak (sm_le_s (sm_le_s sm_le_nil)) (hS1 _ hs)
      · rw [if_neg c0] at hf
        obtain ⟨r0, hf0, rfl⟩ := Option.map_eq_some_iff.mp hf
        exact Ex.weak (sm_le_n (sm_le_n sm_le_nil)) (B_13_46 hd  hf0 hs)
theorem B_13_2 {L : Nat} {xs : Nat → Int32} {d : Nat} (hd : 1 ≤ d) {res : Option Value × sm_H} {y1 : Int32}  {h : sm_H} {r : (Int32 × sm_H)} (hf : F_13_2 y1 h = some r) (hs : (fun (r : Int32 × sm_H) => res = (some (.int r.1), r.2)) r) : Ex (P_G L xs) (RUN L xs d) (sm_lk P_t13) 3 2 [some (.ref 34), some (.int y1)] [] h res := by
  unfold F_13_2 at hf
  exact lp_ok (P := fun (s : (Int32 × sm_H)) => Ex (P_G L xs) (RUN L xs d) (sm_lk P_t13) 3 2 [some (.ref 34), some (.int s.1)] [] s.2 res) (S := (fun (r : Int32 × sm_H) => res = (some (.int r.1), r.2))) (fun s x hx hsx => by
    intros
    exact B_13_2B hd  (fun _ q => q) hx hsx) 1000000 _ r hf hs
theorem B_13_0 {L : Nat} {xs : Nat → Int32} {d : Nat} (hd : 1 ≤ d) {res : Option Value × sm_H}   {h : sm_H} {r : (Int32 × sm_H)} (hf : F_13_0  h = some r) (hs : (fun (r : Int32 × sm_H) => res = (some (.int r.1), r.2)) r) : Ex (P_G L xs) (RUN L xs d) (sm_lk P_t13) 3 0 [some (.ref 34), none] [] h res := by
  unfold F_13_0 at hf
  refine Ex.seg 2 (pc' := 2) (lc' := [some (.ref 34), some (.int 1)]) (st' := []) (h' := h) (sg1 rfl rfl (sg1 rfl rfl rfl)) ?_
  exact Ex.weak (sm_le_s (sm_le_s sm_le_nil)) (B_13_2 hd  hf hs)
theorem E_13 {L : Nat} {xs : Nat → Int32} {d : Nat} (hd : 2 ≤ d)  {h : sm_H} {r : Int32 × sm_H} (hf : F_13  h = some r) : RUN L xs d 13 [.ref 34] h (some (.int r.1), r.2) := by
  obtain ⟨d, rfl⟩ : ∃ e, d = e + 1 := ⟨d - 1, by omega⟩
  exact ⟨Nat.le_of_ble_eq_true rfl, B_13_0 (by omega) hf rfl⟩
theorem B_15_0 {L : Nat} {xs : Nat → Int32} {d : Nat} (hd : 1 ≤ d) {res : Option Value × sm_H}   {h : sm_H} {r : (Int32 × sm_H)} (hf : F_15_0  h = some r) (hs : (fun (r : Int32 × sm_H) => res = (some (.int r.1), r.2)) r) : Ex (P_G L xs) (RUN L xs d) (sm_lk P_t15) 0 0 [some (.ref 34)] [] h res := by
  unfold F_15_0 at hf
  refine Ex.seg 8 (pc' := 16) (lc' := [some (.ref 34)]) (st' := [.int (h.1 34 12), .ref 10, .int (h.1 34 12), .ref 10]) (h' := h) (sg1 rfl rfl (sg1 rfl rfl (sg1 rfl rfl (sg1 rfl rfl (sg1 rfl rfl (sg1 rfl rfl (sg1 rfl rfl (sg1 rfl rfl rfl)))))))) ?_
  obtain ⟨q1, e_q1, hf⟩ := bnd hf
  refine Ex.callV (a := 10) (As := [.int (h.1 34 12)]) (r := [.int (h.1 34 12), .ref 10]) (v := some (.int q1.1)) (h' := q1.2) rfl rfl (by decide) rfl (Nat.le_of_ble_eq_true rfl) rfl (E_45 (Nat.le_trans (by decide) hd) e_q1) rfl ?_
  refine Ex.seg 2 (pc' := 21) (lc' := [some (.ref 34)]) (st' := [.int (q1.1 - 1), .int (h.1 34 12), .ref 10]) (h' := q1.2) (sg1 rfl rfl (sg1 rfl rfl rfl)) ?_
  obtain ⟨q2, e_q2, hf⟩ := bnd hf
  refine Ex.callV (a := 10) (As := [.int (h.1 34 12), .int (q1.1 - 1)]) (r := []) (v := some (.int q2.1)) (h' := q2.2) rfl rfl (by decide) rfl (Nat.le_of_ble_eq_true rfl) rfl (E_46 (Nat.le_trans (by decide) hd) e_q2) rfl ?_
  obtain rfl := Option.some.inj hf
  exact Ex.iret rfl rfl (fun c0 => by cases c0) hs
theorem E_15 {L : Nat} {xs : Nat → Int32} {d : Nat} (hd : 2 ≤ d)  {h : sm_H} {r : Int32 × sm_H} (hf : F_15  h = some r) : RUN L xs d 15 [.ref 34] h (some (.int r.1), r.2) := by
  obtain ⟨d, rfl⟩ : ∃ e, d = e + 1 := ⟨d - 1, by omega⟩
  exact ⟨Nat.le_of_ble_eq_true rfl, B_15_0 (by omega) hf rfl⟩
theorem B_16_29B {L : Nat} {xs : Nat → Int32} {d : Nat} (hd : 1 ≤ d) {res : Option Value × sm_H} {S1 : (Int32 × sm_H) → Prop} (hS1 : ∀ s, S1 s → Ex (P_G L xs) (RUN L xs d) (sm_lk P_t16) 3 29 [some (.ref 34), some (.int s.1)] [] s.2 res) {s : (Int32 × sm_H)}  {r : ((Int32 × sm_H) ⊕ (Int32 × sm_H))} (hf : F_16_29B s = some r) (hs : (Sum.elim S1 (fun (r : Int32 × sm_H) => res = (some (.int r.1), r.2))) r) : Ex (P_G L xs) (RUN L xs d) (sm_lk P_t16) 3 29 [some (.ref 34), some (.int s.1)] [] s.2 res := by
  unfold F_16_29B at hf
  refine Ex.seg 2 (pc' := 31) (lc' := [some (.ref 34), some (.int s.1)]) (st' := [.ref 34, .int s.1]) (h' := s.2) (sg1 rfl rfl (sg1 rfl rfl rfl)) ?_
  obtain ⟨b1, e_b1, hf⟩ := bnd hf
  refine Ex.getR (c := 0) (k := 11) rfl e_b1 rfl rfl ?_
  have g3 : sm_is G0 s.2 b1 5 = true := Classical.byContradiction (fun z => by rw [if_pos z] at hf; cases hf)
  rw [if_neg (fun z => z g3)] at hf
  obtain ⟨q2, e_q2, hf⟩ := bnd hf
  refine Ex.callV (a := b1) (As := []) (r := [.int s.1]) (v := some (.int q2.1)) (h' := q2.2) rfl rfl (by decide) rfl (Nat.le_of_ble_eq_true rfl) g3 (E_136 (Nat.le_trans (by decide) hd) e_q2) rfl ?_
  refine Ex.icmp rfl rfl (fun (c0 : q2.1 ≤ s.1) => ?_) (fun (c0 : ¬ (q2.1 ≤ s.1)) => ?_)
  · rw [if_pos c0] at hf
    refine Ex.seg 1 (pc' := 85) (lc' := [some (.ref 34), some (.int s.1)]) (st' := [.int 0]) (h' := q2.2) (sg1 rfl rfl rfl) ?_
    obtain rfl := Option.some.inj hf
    exact Ex.iret rfl rfl (fun _ => by decide) hs
  · rw [if_neg c0] at hf
    refine Ex.seg 5 (pc' := 49) (lc' := [some (.ref 34), some (.int s.1)]) (st' := [.ref 34, .int (q2.2.1 34 9), .ref 5]) (h' := q2.2) (sg1 rfl rfl (sg1 rfl rfl (sg1 rfl rfl (sg1 rfl rfl (sg1 rfl rfl rfl))))) ?_
    obtain ⟨b4, e_b4, hf⟩ := bnd hf
    refine Ex.getR (c := 0) (k := 11) rfl e_b4 rfl rfl ?_
    refine Ex.seg 1 (pc' := 53) (lc' := [some (.ref 34), some (.int s.1)]) (st' := [.int s.1, .ref b4, .int (q2.2.1 34 9), .ref 5]) (h' := q2.2) (sg1 rfl rfl rfl) ?_
    have g6 : sm_is G0 q2.2 b4 5 = true := Classical.byContradiction (fun z => by rw [if_pos z] at hf; cases hf)
    rw [if_neg (fun z => z g6)] at hf
    obtain ⟨q5, e_q5, hf⟩ := bnd hf
    refine Ex.callV (a := b4) (As := [.int s.1]) (r := [.int (q2.2.1 34 9), .ref 5]) (v := some (.int q5.1)) (h' := q5.2) rfl rfl (by decide) rfl (Nat.le_of_ble_eq_true rfl) g6 (E_137 (Nat.le_trans (by decide) hd) e_q5) rfl ?_
    obtain ⟨q7, e_q7, hf⟩ := bnd hf
    refine Ex.callV (a := 5) (As := [.int (q2.2.1 34 9), .int q5.1]) (r := []) (v := some (.int q7.1)) (h' := q7.2) rfl rfl (by decide) rfl (Nat.le_of_ble_eq_true rfl) rfl (E_227 (Nat.le_trans (by decide) hd) e_q7) rfl ?_
    refine Ex.seg 7 (pc' := 70) (lc' := [some (.ref 34), some (.int s.1)]) (st' := [.int (s.1 - 1), .int (q7.2.1 34 12), .ref 10, .int q7.1]) (h' := q7.2) (sg1 rfl rfl (sg1 rfl rfl (sg1 rfl rfl (sg1 rfl rfl (sg1 rfl rfl (sg1 rfl rfl (sg1 rfl rfl rfl))))))) ?_
    obtain ⟨q8, e_q8, hf⟩ := bnd hf
    refine Ex.callV (a := 10) (As := [.int (q7.2.1 34 12), .int (s.1 - 1)]) (r := [.int q7.1]) (v := some (.int q8.1)) (h' := q8.2) rfl rfl (by decide) rfl (Nat.le_of_ble_eq_true rfl) rfl (E_46 (Nat.le_trans (by decide) hd) e_q8) rfl ?_
    refine Ex.icmp rfl rfl (fun (c0 : q7.1 = q8.1) => ?_) (fun (c0 : ¬ (q7.1 = q8.1)) => ?_)
    · rw [if_pos c0] at hf
      refine Ex.seg 1 (pc' := 81) (lc' := [some (.ref 34), some (.int (s.1 + 1))]) (st' := []) (h' := q8.2) (sg1 rfl rfl rfl) ?_
      obtain ⟨v9, e_v9, hf⟩ := bnd hf
      rw [Option.some.inj e_v9]
      refine Ex.seg 1 (pc' := 29) (lc' := [some (.ref 34), some (.int v9)]) (st' := []) (h' := q8.2) (sg1 rfl rfl rfl) ?_
      obtain rfl := Option.some.inj hf
      exact Ex.weak (sm_le_s (sm_le_s sm_le_nil)) (hS1 _ hs)
    · rw [if_neg c0] at hf
      refine Ex.seg 1 (pc' := 77) (lc' := [some (.ref 34), some (.int s.1)]) (st' := [.int 1]) (h' := q8.2) (sg1 rfl rfl rfl) ?_
      obtain rfl := Option.some.inj hf
      exact Ex.iret rfl rfl (fun _ => by decide) hs
theorem B_16_29 {L : Nat} {xs : Nat → Int32} {d : Nat} (hd : 1 ≤ d) {res : Option Value × sm_H} {y1 : Int32}  {h : sm_H} {r : (Int32 × sm_H)} (hf : F_16_29 y1 h = some r) (hs : (fun (r : Int32 × sm_H) => res = (some (.int r.1), r.2)) r) : Ex (P_G L xs) (RUN L xs d) (sm_lk P_t16) 3 29 [some (.ref 34), some (.int y1)] [] h res := by
  unfold F_16_29 at hf
  exact lp_ok (P := fun (s : (Int32 × sm_H)) => Ex (P_G L xs) (RUN L xs d) (sm_lk P_t16) 3 29 [some (.ref 34), some (.int s.1)] [] s.2 res) (S := (fun (r : Int32 × sm_H) => res = (some (.int r.1), r.2))) (fun s x hx hsx => by
    intros
    exact B_16_29B hd  (fun _ q => q) hx hsx) 1000000 _ r hf hs
theorem B_16_0 {L : Nat} {xs : Nat → Int32} {d : Nat} (hd : 1 ≤ d) {res : Option Value × sm_H}   {h : sm_H} {r : (Int32 × sm_H)} (hf : F_16_0  h = some r) (hs : (fun (r : Int32 × sm_H) => res = (some (.int r.1), r.2)) r) : Ex (P_G L xs) (RUN L xs d) (sm_lk P_t16) 3 0 [some (.ref 34), none] [] h res := by
  unfold F_16_0 at hf
  refine Ex.seg 4 (pc' := 8) (lc' := [some (.ref 34), none]) (st' := [.int (h.1 34 9), .ref 5]) (h' := h) (sg1 rfl rfl (sg1 rfl rfl (sg1 rfl rfl (sg1 rfl rfl rfl)))) ?_
  obtain ⟨q10, e_q10, hf⟩ := bnd hf
  refine Ex.callV (a := 5) (As := [.int (h.1 34 9)]) (r := []) (v := some (.int q10.1)) (h' := q10.2) rfl rfl (by decide) rfl (Nat.le_of_ble_eq_true rfl) rfl (E_225 (Nat.le_trans (by decide) hd) e_q10) rfl ?_
  refine Ex.seg 4 (pc' := 19) (lc' := [some (.ref 34), none]) (st' := [.int (q10.2.1 34 12), .ref 10, .int q10.1]) (h' := q10.2) (sg1 rfl rfl (sg1 rfl rfl (sg1 rfl rfl (sg1 rfl rfl rfl)))) ?_
  obtain ⟨q11, e_q11, hf⟩ := bnd hf
  refine Ex.callV (a := 10) (As := [.int (q10.2.1 34 12)]) (r := [.int q10.1]) (v := some (.int q11.1)) (h' := q11.2) rfl rfl (by decide) rfl (Nat.le_of_ble_eq_true rfl) rfl (E_44 (Nat.le_trans (by decide) hd) e_q11) rfl ?_
  refine Ex.icmp rfl rfl (fun (c0 : q10.1 = q11.1) => ?_) (fun (c0 : ¬ (q10.1 = q11.1)) => ?_)
  · rw [if_pos c0] at hf
    refine Ex.seg 2 (pc' := 29) (lc' := [some (.ref 34), some (.int 1)]) (st' := []) (h' := q11.2) (sg1 rfl rfl (sg1 rfl rfl rfl)) ?_
    exact Ex.weak (sm_le_s (sm_le_s sm_le_nil)) (B_16_29 hd  hf hs)
  · rw [if_neg c0] at hf
    refine Ex.seg 1 (pc' := 26) (lc' := [some (.ref 34), none]) (st' := [.int 1]) (h' := q11.2) (sg1 rfl rfl rfl) ?_
    obtain rfl := Option.some.inj hf
    exact Ex.iret rfl rfl (fun _ => by decide) hs
theorem E_16 {L : Nat} {xs : Nat → Int32} {d : Nat} (hd : 2 ≤ d)  {h : sm_H} {r : Int32 × sm_H} (hf : F_16  h = some r) : RUN L xs d 16 [.ref 34] h (some (.int r.1), r.2) := by
  obtain ⟨d, rfl⟩ : ∃ e, d = e + 1 := ⟨d - 1, by omega⟩
  exact ⟨Nat.le_of_ble_eq_true rfl, B_16_0 (by omega) hf rfl⟩
theorem B_17_48 {L : Nat} {xs : Nat → Int32} {d : Nat} (hd : 1 ≤ d) {res : Option Value × sm_H} {z0 : Int32}  {h : sm_H} {r : (Int32 × sm_H)} (hf : F_17_48 z0 h = some r) (hs : (fun (r : Int32 × sm_H) => res = (some (.int r.1), r.2)) r) : Ex (P_G L xs) (RUN L xs d) (sm_lk P_t17) 3 48 [none] [.int z0] h res := by
  unfold F_17_48 at hf
  rcases Classical.em (z0 = 0 ∨ z0 = 1) with c0 | c0
  · rw [if_pos c0] at hf
    obtain rfl := Option.some.inj hf
    exact Ex.iret rfl rfl (fun _ => c0) hs
  · rw [if_neg c0] at hf
    cases hf
theorem B_17_47 {L : Nat} {xs : Nat → Int32} {d : Nat} (hd : 1 ≤ d) {res : Option Value × sm_H}   {h : sm_H} {r : (Int32 × sm_H)} (hf : F_17_47  h = some r) (hs : (fun (r : Int32 × sm_H) => res = (some (.int r.1), r.2)) r) : Ex (P_G L xs) (RUN L xs d) (sm_lk P_t17) 3 47 [none] [] h res := by
  unfold F_17_47 at hf
  refine Ex.seg 1 (pc' := 48) (lc' := [none]) (st' := [.int 0]) (h' := h) (sg1 rfl rfl rfl) ?_
  exact Ex.weak (sm_le_s sm_le_nil) (B_17_48 hd  hf hs)
theorem B_17_0 {L : Nat} {xs : Nat → Int32} {d : Nat} (hd : 1 ≤ d) {res : Option Value × sm_H}   {h : sm_H} {r : (Int32 × sm_H)} (hf : F_17_0  h = some r) (hs : (fun (r : Int32 × sm_H) => res = (some (.int r.1), r.2)) r) : Ex (P_G L xs) (RUN L xs d) (sm_lk P_t17) 3 0 [some (.ref 34)] [] h res := by
  unfold F_17_0 at hf
  refine Ex.seg 4 (pc' := 8) (lc' := [some (.ref 34)]) (st' := [.int (h.1 34 13), .ref 10]) (h' := h) (sg1 rfl rfl (sg1 rfl rfl (sg1 rfl rfl (sg1 rfl rfl rfl)))) ?_
  obtain ⟨q1, e_q1, hf⟩ := bnd hf
  refine Ex.callV (a := 10) (As := [.int (h.1 34 13)]) (r := []) (v := some (.int q1.1)) (h' := q1.2) rfl rfl (by decide) rfl (Nat.le_of_ble_eq_true rfl) rfl (E_44 (Nat.le_trans (by decide) hd) e_q1) rfl ?_
  refine Ex.ifc rfl rfl (fun (c0 : q1.1 = 0) => ?_) (fun (c0 : ¬ (q1.1 = 0)) => ?_)
  · rw [if_pos c0] at hf
    exact Ex.weak (sm_le_n sm_le_nil) (B_17_47 hd  hf hs)
  · rw [if_neg c0] at hf
    refine Ex.seg 6 (pc' := 26) (lc' := [some (.ref 34)]) (st' := [.int (q1.2.1 34 8), .int (q1.2.1 34 12), .ref 10]) (h' := q1.2) (sg1 rfl rfl (sg1 rfl rfl (sg1 rfl rfl (sg1 rfl rfl (sg1 rfl rfl (sg1 rfl rfl rfl)))))) ?_
    obtain ⟨q2, e_q2, hf⟩ := bnd hf
    refine Ex.callV (a := 10) (As := [.int (q1.2.1 34 12), .int (q1.2.1 34 8)]) (r := []) (v := some (.int q2.1)) (h' := q2.2) rfl rfl (by decide) rfl (Nat.le_of_ble_eq_true rfl) rfl (E_46 (Nat.le_trans (by decide) hd) e_q2) rfl ?_
    refine Ex.seg 4 (pc' := 37) (lc' := [some (.ref 34)]) (st' := [.int (q2.2.1 34 13), .ref 10, .int q2.1]) (h' := q2.2) (sg1 rfl rfl (sg1 rfl rfl (sg1 rfl rfl (sg1 rfl rfl rfl)))) ?_
    obtain ⟨q3, e_q3, hf⟩ := bnd hf
    refine Ex.callV (a := 10) (As := [.int (q2.2.1 34 13)]) (r := [.int q2.1]) (v := some (.int q3.1)) (h' := q3.2) rfl rfl (by decide) rfl (Nat.le_of_ble_eq_true rfl) rfl (E_44 (Nat.le_trans (by decide) hd) e_q3) rfl ?_
    refine Ex.icmp rfl rfl (fun (c0 : q2.1 = q3.1) => ?_) (fun (c0 : ¬ (q2.1 = q3.1)) => ?_)
    · rw [if_pos c0] at hf
      exact Ex.weak (sm_le_n sm_le_nil) (B_17_47 hd  hf hs)
    · rw [if_neg c0] at hf
      refine Ex.seg 2 (pc' := 48) (lc' := [some (.ref 34)]) (st' := [.int 1]) (h' := q3.2) (sg1 rfl rfl (sg1 rfl rfl rfl)) ?_
      exact Ex.weak (sm_le_n sm_le_nil) (B_17_48 hd  hf hs)
theorem E_17 {L : Nat} {xs : Nat → Int32} {d : Nat} (hd : 2 ≤ d)  {h : sm_H} {r : Int32 × sm_H} (hf : F_17  h = some r) : RUN L xs d 17 [.ref 34] h (some (.int r.1), r.2) := by
  obtain ⟨d, rfl⟩ : ∃ e, d = e + 1 := ⟨d - 1, by omega⟩
  exact ⟨Nat.le_of_ble_eq_true rfl, B_17_0 (by omega) hf rfl⟩
theorem B_18_23B {L : Nat} {xs : Nat → Int32} {d : Nat} (hd : 2 ≤ d) {res : Option Value × sm_H} {S1 : (Int32 × Int32 × sm_H) → Prop} (hS1 : ∀ s, S1 s → Ex (P_G L xs) (RUN L xs d) (sm_lk P_t18) 3 23 [some (.ref 34), some (.int s.1), some (.int s.2.1)] [] s.2.2 res) {s : (Int32 × Int32 × sm_H)}  {r : ((Int32 × Int32 × sm_H) ⊕ (Int32 × sm_H))} (hf : F_18_23B s = some r) (hs : (Sum.elim S1 (fun (r : Int32 × sm_H) => res = (some (.int r.1), r.2))) r) : Ex (P_G L xs) (RUN L xs d) (sm_lk P_t18) 3 23 [some (.ref 34), some (.int s.1), some (.int s.2.1)] [] s.2.2 res := by
  unfold F_18_23B at hf
  refine Ex.seg 2 (pc' := 25) (lc' := [some (.ref 34), some (.int s.1), some (.int s.2.1)]) (st' := [.int s.1, .int s.2.1]) (h' := s.2.2) (sg1 rfl rfl (sg1 rfl rfl rfl)) ?_
  refine Ex.icmp rfl rfl (fun (c0 : s.1 ≤ s.2.1) => ?_) (fun (c0 : ¬ (s.1 ≤ s.2.1)) => ?_)
  · rw [if_pos c0] at hf
    refine Ex.seg 1 (pc' := 63) (lc' := [some (.ref 34), some (.int s.1), some (.int s.2.1)]) (st' := [.int 0]) (h' := s.2.2) (sg1 rfl rfl rfl) ?_
    obtain rfl := Option.some.inj hf
    exact Ex.iret rfl rfl (fun _ => by decide) hs
  · rw [if_neg c0] at hf
    refine Ex.seg 5 (pc' := 37) (lc' := [some (.ref 34), some (.int s.1), some (.int s.2.1)]) (st' := [.int s.2.1, .int (s.2.2.1 34 12), .ref 10]) (h' := s.2.2) (sg1 rfl rfl (sg1 rfl rfl (sg1 rfl rfl (sg1 rfl rfl (sg1 rfl rfl rfl))))) ?_
    obtain ⟨q1, e_q1, hf⟩ := bnd hf
    refine Ex.callV (a := 10) (As := [.int (s.2.2.1 34 12), .int s.2.1]) (r := []) (v := some (.int q1.1)) (h' := q1.2) rfl rfl (by decide) rfl (Nat.le_of_ble_eq_true rfl) rfl (E_46 (Nat.le_trans (by decide) hd) e_q1) rfl ?_
    refine Ex.seg 4 (pc' := 48) (lc' := [some (.ref 34), some (.int s.1), some (.int s.2.1)]) (st' := [.int (q1.2.1 34 8), .ref 1, .int q1.1]) (h' := q1.2) (sg1 rfl rfl (sg1 rfl rfl (sg1 rfl rfl (sg1 rfl rfl rfl)))) ?_
    obtain ⟨q2, e_q2, hf⟩ := bnd hf
    refine Ex.callV (a := 1) (As := [.int (q1.2.1 34 8)]) (r := [.int q1.1]) (v := some (.int q2.1)) (h' := q2.2) rfl rfl (by decide) rfl (Nat.le_of_ble_eq_true rfl) rfl (E_63 (Nat.le_trans (by decide) hd) e_q2) rfl ?_
    refine Ex.icmp rfl rfl (fun (c0 : q1.1 = q2.1) => ?_) (fun (c0 : ¬ (q1.1 = q2.1)) => ?_)
    · rw [if_pos c0] at hf
      refine Ex.seg 1 (pc' := 59) (lc' := [some (.ref 34), some (.int s.1), some (.int (s.2.1 + 1))]) (st' := []) (h' := q2.2) (sg1 rfl rfl rfl) ?_
      obtain ⟨v3, e_v3, hf⟩ := bnd hf
      rw [Option.some.inj e_v3]
      refine Ex.seg 1 (pc' := 23) (lc' := [some (.ref 34), some (.int s.1), some (.int v3)]) (st' := []) (h' := q2.2) (sg1 rfl rfl rfl) ?_
      obtain rfl := Option.some.inj hf
      exact Ex.weak (sm_le_s (sm_le_s (sm_le_s sm_le_nil))) (hS1 _ hs)
    · rw [if_neg c0] at hf
      refine Ex.seg 1 (pc' := 55) (lc' := [some (.ref 34), some (.int s.1), some (.int s.2.1)]) (st' := [.int 1]) (h' := q2.2) (sg1 rfl rfl rfl) ?_
      obtain rfl := Option.some.inj hf
      exact Ex.iret rfl rfl (fun _ => by decide) hs
theorem B_18_23 {L : Nat} {xs : Nat → Int32} {d : Nat} (hd : 2 ≤ d) {res : Option Value × sm_H} {y1 : Int32} {y2 : Int32}  {h : sm_H} {r : (Int32 × sm_H)} (hf : F_18_23 y1 y2 h = some r) (hs : (fun (r : Int32 × sm_H) => res = (some (.int r.1), r.2)) r) : Ex (P_G L xs) (RUN L xs d) (sm_lk P_t18) 3 23 [some (.ref 34), some (.int y1), some (.int y2)] [] h res := by
  unfold F_18_23 at hf
  exact lp_ok (P := fun (s : (Int32 × Int32 × sm_H)) => Ex (P_G L xs) (RUN L xs d) (sm_lk P_t18) 3 23 [some (.ref 34), some (.int s.1), some (.int s.2.1)] [] s.2.2 res) (S := (fun (r : Int32 × sm_H) => res = (some (.int r.1), r.2))) (fun s x hx hsx => by
    intros
    exact B_18_23B hd  (fun _ q => q) hx hsx) 1000000 _ r hf hs
theorem B_18_0 {L : Nat} {xs : Nat → Int32} {d : Nat} (hd : 2 ≤ d) {res : Option Value × sm_H}   {h : sm_H} {r : (Int32 × sm_H)} (hf : F_18_0  h = some r) (hs : (fun (r : Int32 × sm_H) => res = (some (.int r.1), r.2)) r) : Ex (P_G L xs) (RUN L xs d) (sm_lk P_t18) 3 0 [some (.ref 34), none, none] [] h res := by
  unfold F_18_0 at hf
  refine Ex.seg 4 (pc' := 8) (lc' := [some (.ref 34), none, none]) (st' := [.int (h.1 34 12), .ref 10]) (h' := h) (sg1 rfl rfl (sg1 rfl rfl (sg1 rfl rfl (sg1 rfl rfl rfl)))) ?_
  obtain ⟨q4, e_q4, hf⟩ := bnd hf
  refine Ex.callV (a := 10) (As := [.int (h.1 34 12)]) (r := []) (v := some (.int q4.1)) (h' := q4.2) rfl rfl (by decide) rfl (Nat.le_of_ble_eq_true rfl) rfl (E_45 (Nat.le_trans (by decide) hd) e_q4) rfl ?_
  refine Ex.seg 6 (pc' := 19) (lc' := [some (.ref 34), some (.int q4.1), none]) (st' := [.int 0, .int (q4.1 - (q4.2.1 34 9))]) (h' := q4.2) (sg1 rfl rfl (sg1 rfl rfl (sg1 rfl rfl (sg1 rfl rfl (sg1 rfl rfl (sg1 rfl rfl rfl)))))) ?_
  refine Ex.mx rfl rfl rfl (Nat.le_of_ble_eq_true rfl) ?_
  refine Ex.seg 1 (pc' := 23) (lc' := [some (.ref 34), some (.int q4.1), some (.int (if (q4.1 - (q4.2.1 34 9)) < 0 then 0 else (q4.1 - (q4.2.1 34 9))))]) (st' := []) (h' := q4.2) (sg1 rfl rfl rfl) ?_
  obtain ⟨v5, e_v5, hf⟩ := bnd hf
  rw [Option.some.inj e_v5]
  exact Ex.weak (sm_le_s (sm_le_s (sm_le_s sm_le_nil))) (B_18_23 hd  hf hs)
theorem E_18 {L : Nat} {xs : Nat → Int32} {d : Nat} (hd : 3 ≤ d)  {h : sm_H} {r : Int32 × sm_H} (hf : F_18  h = some r) : RUN L xs d 18 [.ref 34] h (some (.int r.1), r.2) := by
  obtain ⟨d, rfl⟩ : ∃ e, d = e + 1 := ⟨d - 1, by omega⟩
  exact ⟨Nat.le_of_ble_eq_true rfl, B_18_0 (by omega) hf rfl⟩
theorem B_19_77 {L : Nat} {xs : Nat → Int32} {d : Nat} (hd : 1 ≤ d) {res : Option Value × sm_H} {z0 : Int32}  {h : sm_H} {r : (Int32 × sm_H)} (hf : F_19_77 z0 h = some r) (hs : (fun (r : Int32 × sm_H) => res = (some (.int r.1), r.2)) r) : Ex (P_G L xs) (RUN L xs d) (sm_lk P_t19) 3 77 [none, none] [.int z0] h res := by
  unfold F_19_77 at hf
  rcases Classical.em (z0 = 0 ∨ z0 = 1) with c0 | c0
  · rw [if_pos c0] at hf
    obtain rfl := Option.some.inj hf
    exact Ex.iret rfl rfl (fun _ => c0) hs
  · rw [if_neg c0] at hf
    cases hf
theorem B_19_72 {L : Nat} {xs : Nat → Int32} {d : Nat} (hd : 1 ≤ d) {res : Option Value × sm_H}   {h : sm_H} {r : (Int32 × sm_H)} (hf : F_19_72  h = some r) (hs : (fun (r : Int32 × sm_H) => res = (some (.int r.1), r.2)) r) : Ex (P_G L xs) (RUN L xs d) (sm_lk P_t19) 3 72 [none, none] [] h res := by
  unfold F_19_72 at hf
  refine Ex.seg 2 (pc' := 77) (lc' := [none, none]) (st' := [.int 1]) (h' := h) (sg1 rfl rfl (sg1 rfl rfl rfl)) ?_
  exact Ex.weak (sm_le_s (sm_le_s sm_le_nil)) (B_19_77 hd  hf hs)
theorem B_19_0 {L : Nat} {xs : Nat → Int32} {d : Nat} (hd : 1 ≤ d) {res : Option Value × sm_H} {x1 : Int32}  {h : sm_H} {r : (Int32 × sm_H)} (hf : F_19_0 x1 h = some r) (hs : (fun (r : Int32 × sm_H) => res = (some (.int r.1), r.2)) r) : Ex (P_G L xs) (RUN L xs d) (sm_lk P_t19) 3 0 [some (.ref 34), some (.int x1)] [] h res := by
  unfold F_19_0 at hf
  refine Ex.seg 4 (pc' := 8) (lc' := [some (.ref 34), some (.int x1)]) (st' := [.int (h.1 34 13), .ref 10]) (h' := h) (sg1 rfl rfl (sg1 rfl rfl (sg1 rfl rfl (sg1 rfl rfl rfl)))) ?_
  obtain ⟨q1, e_q1, hf⟩ := bnd hf
  refine Ex.callV (a := 10) (As := [.int (h.1 34 13)]) (r := []) (v := some (.int q1.1)) (h' := q1.2) rfl rfl (by decide) rfl (Nat.le_of_ble_eq_true rfl) rfl (E_44 (Nat.le_trans (by decide) hd) e_q1) rfl ?_
  refine Ex.seg 4 (pc' := 19) (lc' := [some (.ref 34), some (.int x1)]) (st' := [.int (q1.2.1 34 12), .ref 10, .int q1.1]) (h' := q1.2) (sg1 rfl rfl (sg1 rfl rfl (sg1 rfl rfl (sg1 rfl rfl rfl)))) ?_
  obtain ⟨q2, e_q2, hf⟩ := bnd hf
  refine Ex.callV (a := 10) (As := [.int (q1.2.1 34 12)]) (r := [.int q1.1]) (v := some (.int q2.1)) (h' := q2.2) rfl rfl (by decide) rfl (Nat.le_of_ble_eq_true rfl) rfl (E_44 (Nat.le_trans (by decide) hd) e_q2) rfl ?_
  refine Ex.icmp rfl rfl (fun (c0 : ¬ (q1.1 = q2.1)) => ?_) (fun (c0 : ¬ ¬ (q1.1 = q2.1)) => ?_)
  · rw [if_neg c0] at hf
    exact Ex.weak (sm_le_n (sm_le_n sm_le_nil)) (B_19_72 hd  hf hs)
  · rw [if_pos (Classical.not_not.mp c0)] at hf
    refine Ex.seg 6 (pc' := 37) (lc' := [some (.ref 34), some (.int x1)]) (st' := [.int (q2.2.1 34 13), .ref 10, .ref 5]) (h' := q2.2) (sg1 rfl rfl (sg1 rfl rfl (sg1 rfl rfl (sg1 rfl rfl (sg1 rfl rfl (sg1 rfl rfl rfl)))))) ?_
    obtain ⟨q3, e_q3, hf⟩ := bnd hf
    refine Ex.callV (a := 10) (As := [.int (q2.2.1 34 13)]) (r := [.ref 5]) (v := some (.int q3.1)) (h' := q3.2) rfl rfl (by decide) rfl (Nat.le_of_ble_eq_true rfl) rfl (E_41 (Nat.le_trans (by decide) hd) e_q3) rfl ?_
    refine Ex.seg 5 (pc' := 49) (lc' := [some (.ref 34), some (.int x1)]) (st' := [.int (q3.2.1 34 12), .ref 10, .int x1, .int q3.1, .ref 5]) (h' := q3.2) (sg1 rfl rfl (sg1 rfl rfl (sg1 rfl rfl (sg1 rfl rfl (sg1 rfl rfl rfl))))) ?_
    obtain ⟨q4, e_q4, hf⟩ := bnd hf
    refine Ex.callV (a := 10) (As := [.int (q3.2.1 34 12)]) (r := [.int x1, .int q3.1, .ref 5]) (v := some (.int q4.1)) (h' := q4.2) rfl rfl (by decide) rfl (Nat.le_of_ble_eq_true rfl) rfl (E_41 (Nat.le_trans (by decide) hd) e_q4) rfl ?_
    refine Ex.seg 5 (pc' := 61) (lc' := [some (.ref 34), some (.int x1)]) (st' := [.int (q4.2.1 34 13), .ref 10, .int 0, .int q4.1, .int x1, .int q3.1, .ref 5]) (h' := q4.2) (sg1 rfl rfl (sg1 rfl rfl (sg1 rfl rfl (sg1 rfl rfl (sg1 rfl rfl rfl))))) ?_
    obtain ⟨q5, e_q5, hf⟩ := bnd hf
    refine Ex.callV (a := 10) (As := [.int (q4.2.1 34 13)]) (r := [.int 0, .int q4.1, .int x1, .int q3.1, .ref 5]) (v := some (.int q5.1)) (h' := q5.2) rfl rfl (by decide) rfl (Nat.le_of_ble_eq_true rfl) rfl (E_45 (Nat.le_trans (by decide) hd) e_q5) rfl ?_
    refine Ex.seg 2 (pc' := 66) (lc' := [some (.ref 34), some (.int x1)]) (st' := [.int (q5.1 - x1), .int 0, .int q4.1, .int x1, .int q3.1, .ref 5]) (h' := q5.2) (sg1 rfl rfl (sg1 rfl rfl rfl)) ?_
    obtain ⟨q6, e_q6, hf⟩ := bnd hf
    refine Ex.callV (a := 5) (As := [.int q3.1, .int x1, .int q4.1, .int 0, .int (q5.1 - x1)]) (r := []) (v := some (.int q6.1)) (h' := q6.2) rfl rfl (by decide) rfl (Nat.le_of_ble_eq_true rfl) rfl (E_235 (Nat.le_trans (by decide) hd) e_q6) rfl ?_
    refine Ex.ifc rfl rfl (fun (c0 : ¬ (q6.1 = 0)) => ?_) (fun (c0 : ¬ ¬ (q6.1 = 0)) => ?_)
    · rw [if_neg c0] at hf
      refine Ex.seg 1 (pc' := 77) (lc' := [some (.ref 34), some (.int x1)]) (st' := [.int 0]) (h' := q6.2) (sg1 rfl rfl rfl) ?_
      exact Ex.weak (sm_le_n (sm_le_n sm_le_nil)) (B_19_77 hd  hf hs)
    · rw [if_pos (Classical.not_not.mp c0)] at hf
      exact Ex.weak (sm_le_n (sm_le_n sm_le_nil)) (B_19_72 hd  hf hs)
theorem E_19 {L : Nat} {xs : Nat → Int32} {d : Nat} (hd : 2 ≤ d) {x1 : Int32} {h : sm_H} {r : Int32 × sm_H} (hf : F_19 x1 h = some r) : RUN L xs d 19 [.ref 34, .int x1] h (some (.int r.1), r.2) := by
  obtain ⟨d, rfl⟩ : ∃ e, d = e + 1 := ⟨d - 1, by omega⟩
  exact ⟨Nat.le_of_ble_eq_true rfl, B_19_0 (by omega) hf rfl⟩
theorem B_20_78 {L : Nat} {xs : Nat → Int32} {d : Nat} (hd : 2 ≤ d) {res : Option Value × sm_H} {z0 : Int32}  {h : sm_H} {r : (Int32 × sm_H)} (hf : F_20_78 z0 h = some r) (hs : (fun (r : Int32 × sm_H) => res = (some (.int r.1), r.2)) r) : Ex (P_G L xs) (RUN L xs d) (sm_lk P_t20) 3 78 [none] [.int z0] h res := by
  unfold F_20_78 at hf
  rcases Classical.em (z0 = 0 ∨ z0 = 1) with c0 | c0
  · rw [if_pos c0] at hf
    obtain rfl := Option.some.inj hf
    exact Ex.iret rfl rfl (fun _ => c0) hs
  · rw [if_neg c0] at hf
    cases hf
theorem B_20_73 {L : Nat} {xs : Nat → Int32} {d : Nat} (hd : 2 ≤ d) {res : Option Value × sm_H}   {h : sm_H} {r : (Int32 × sm_H)} (hf : F_20_73  h = some r) (hs : (fun (r : Int32 × sm_H) => res = (some (.int r.1), r.2)) r) : Ex (P_G L xs) (RUN L xs d) (sm_lk P_t20) 3 73 [none] [] h res := by
  unfold F_20_73 at hf
  refine Ex.seg 2 (pc' := 78) (lc' := [none]) (st' := [.int 1]) (h' := h) (sg1 rfl rfl (sg1 rfl rfl rfl)) ?_
  exact Ex.weak (sm_le_s sm_le_nil) (B_20_78 hd  hf hs)
theorem B_20_0 {L : Nat} {xs : Nat → Int32} {d : Nat} (hd : 2 ≤ d) {res : Option Value × sm_H}   {h : sm_H} {r : (Int32 × sm_H)} (hf : F_20_0  h = some r) (hs : (fun (r : Int32 × sm_H) => res = (some (.int r.1), r.2)) r) : Ex (P_G L xs) (RUN L xs d) (sm_lk P_t20) 3 0 [some (.ref 34)] [] h res := by
  unfold F_20_0 at hf
  refine Ex.seg 5 (pc' := 9) (lc' := [some (.ref 34)]) (st' := [.int 0, .int (h.1 34 13), .ref 10]) (h' := h) (sg1 rfl rfl (sg1 rfl rfl (sg1 rfl rfl (sg1 rfl rfl (sg1 rfl rfl rfl))))) ?_
  obtain ⟨q1, e_q1, hf⟩ := bnd hf
  refine Ex.callV (a := 10) (As := [.int (h.1 34 13), .int 0]) (r := []) (v := some (.int q1.1)) (h' := q1.2) rfl rfl (by decide) rfl (Nat.le_of_ble_eq_true rfl) rfl (E_46 (Nat.le_trans (by decide) hd) e_q1) rfl ?_
  refine Ex.seg 1 (pc' := 14) (lc' := [some (.ref 34)]) (st' := [.int 19, .int q1.1]) (h' := q1.2) (sg1 rfl rfl rfl) ?_
  refine Ex.icmp rfl rfl (fun (c0 : q1.1 = 19) => ?_) (fun (c0 : ¬ (q1.1 = 19)) => ?_)
  · rw [if_pos c0] at hf
    refine Ex.seg 4 (pc' := 27) (lc' := [some (.ref 34)]) (st' := [.int (q1.2.1 34 12), .ref 10]) (h' := q1.2) (sg1 rfl rfl (sg1 rfl rfl (sg1 rfl rfl (sg1 rfl rfl rfl)))) ?_
    obtain ⟨q2, e_q2, hf⟩ := bnd hf
    refine Ex.callV (a := 10) (As := [.int (q1.2.1 34 12)]) (r := []) (v := some (.int q2.1)) (h' := q2.2) rfl rfl (by decide) rfl (Nat.le_of_ble_eq_true rfl) rfl (E_44 (Nat.le_trans (by decide) hd) e_q2) rfl ?_
    refine Ex.ifc rfl rfl (fun (c0 : ¬ (q2.1 = 0)) => ?_) (fun (c0 : ¬ ¬ (q2.1 = 0)) => ?_)
    · rw [if_neg c0] at hf
      refine Ex.seg 5 (pc' := 48) (lc' := [some (.ref 34)]) (st' := [.int 1, .int (q2.2.1 34 13), .ref 10]) (h' := q2.2) (sg1 rfl rfl (sg1 rfl rfl (sg1 rfl rfl (sg1 rfl rfl (sg1 rfl rfl rfl))))) ?_
      obtain ⟨q3, e_q3, hf⟩ := bnd hf
      refine Ex.callV (a := 10) (As := [.int (q2.2.1 34 13), .int 1]) (r := []) (v := some (.int q3.1)) (h' := q3.2) rfl rfl (by decide) rfl (Nat.le_of_ble_eq_true rfl) rfl (E_46 (Nat.le_trans (by decide) hd) e_q3) rfl ?_
      refine Ex.seg 4 (pc' := 59) (lc' := [some (.ref 34)]) (st' := [.int (q3.2.1 34 12), .ref 10, .int q3.1]) (h' := q3.2) (sg1 rfl rfl (sg1 rfl rfl (sg1 rfl rfl (sg1 rfl rfl rfl)))) ?_
      obtain ⟨q4, e_q4, hf⟩ := bnd hf
      refine Ex.callV (a := 10) (As := [.int (q3.2.1 34 12)]) (r := [.int q3.1]) (v := some (.int q4.1)) (h' := q4.2) rfl rfl (by decide) rfl (Nat.le_of_ble_eq_true rfl) rfl (E_44 (Nat.le_trans (by decide) hd) e_q4) rfl ?_
      refine Ex.icmp rfl rfl (fun (c0 : ¬ (q3.1 = q4.1)) => ?_) (fun (c0 : ¬ ¬ (q3.1 = q4.1)) => ?_)
      · rw [if_neg c0] at hf
        exact Ex.weak (sm_le_n sm_le_nil) (B_20_73 hd  hf hs)
      · rw [if_pos (Classical.not_not.mp c0)] at hf
        refine Ex.seg 2 (pc' := 67) (lc' := [some (.ref 34)]) (st' := [.int 2, .ref 34]) (h' := q4.2) (sg1 rfl rfl (sg1 rfl rfl rfl)) ?_
        obtain ⟨q5, e_q5, hf⟩ := bnd hf
        refine Ex.callV (a := 34) (As := [.int 2]) (r := []) (v := some (.int q5.1)) (h' := q5.2) rfl rfl (by decide) rfl (Nat.le_of_ble_eq_true rfl) rfl (E_19 (Nat.le_trans (by decide) hd) e_q5) rfl ?_
        refine Ex.ifc rfl rfl (fun (c0 : q5.1 = 0) => ?_) (fun (c0 : ¬ (q5.1 = 0)) => ?_)
        · rw [if_pos c0] at hf
          refine Ex.seg 1 (pc' := 78) (lc' := [some (.ref 34)]) (st' := [.int 0]) (h' := q5.2) (sg1 rfl rfl rfl) ?_
          exact Ex.weak (sm_le_n sm_le_nil) (B_20_78 hd  hf hs)
        · rw [if_neg c0] at hf
          exact Ex.weak (sm_le_n sm_le_nil) (B_20_73 hd  hf hs)
    · rw [if_pos (Classical.not_not.mp c0)] at hf
      refine Ex.seg 2 (pc' := 35) (lc' := [some (.ref 34)]) (st' := [.int 1, .ref 34]) (h' := q2.2) (sg1 rfl rfl (sg1 rfl rfl rfl)) ?_
      obtain ⟨q6, e_q6, hf⟩ := bnd hf
      refine Ex.callV (a := 34) (As := [.int 1]) (r := []) (v := some (.int q6.1)) (h' := q6.2) rfl rfl (by decide) rfl (Nat.le_of_ble_eq_true rfl) rfl (E_19 (Nat.le_trans (by decide) hd) e_q6) rfl ?_
      rcases Classical.em (q6.1 = 0 ∨ q6.1 = 1) with c0 | c0
      · rw [if_pos c0] at hf
        obtain rfl := Option.some.inj hf
        exact Ex.iret rfl rfl (fun _ => c0) hs
      · rw [if_neg c0] at hf
        cases hf
  · rw [if_neg c0] at hf
    refine Ex.seg 1 (pc' := 18) (lc' := [some (.ref 34)]) (st' := [.int 1]) (h' := q1.2) (sg1 rfl rfl rfl) ?_
    obtain rfl := Option.some.inj hf
    exact Ex.iret rfl rfl (fun _ => by decide) hs
theorem E_20 {L : Nat} {xs : Nat → Int32} {d : Nat} (hd : 3 ≤ d)  {h : sm_H} {r : Int32 × sm_H} (hf : F_20  h = some r) : RUN L xs d 20 [.ref 34] h (some (.int r.1), r.2) := by
  obtain ⟨d, rfl⟩ : ∃ e, d = e + 1 := ⟨d - 1, by omega⟩
  exact ⟨Nat.le_of_ble_eq_true rfl, B_20_0 (by omega) hf rfl⟩
theorem B_21_71 {L : Nat} {xs : Nat → Int32} {d : Nat} (hd : 1 ≤ d) {res : Option Value × sm_H} {z0 : Int32}  {h : sm_H} {r : (Int32 × sm_H)} (hf : F_21_71 z0 h = some r) (hs : (fun (r : Int32 × sm_H) => res = (some (.int r.1), r.2)) r) : Ex (P_G L xs) (RUN L xs d) (sm_lk P_t21) 3 71 [none, none] [.int z0] h res := by
  unfold F_21_71 at hf
  rcases Classical.em (z0 = 0 ∨ z0 = 1) with c0 | c0
  · rw [if_pos c0] at hf
    obtain rfl := Option.some.inj hf
    exact Ex.iret rfl rfl (fun _ => c0) hs
  · rw [if_neg c0] at hf
    cases hf
theorem B_21_2B {L : Nat} {xs : Nat → Int32} {d : Nat} (hd : 1 ≤ d) {res : Option Value × sm_H} {S1 : (Int32 × sm_H) → Prop} (hS1 : ∀ s, S1 s → Ex (P_G L xs) (RUN L xs d) (sm_lk P_t21) 3 2 [some (.ref 34), some (.int s.1)] [] s.2 res) {s : (Int32 × sm_H)}  {r : ((Int32 × sm_H) ⊕ (Int32 × sm_H))} (hf : F_21_2B s = some r) (hs : (Sum.elim S1 (fun (r : Int32 × sm_H) => res = (some (.int r.1), r.2))) r) : Ex (P_G L xs) (RUN L xs d) (sm_lk P_t21) 3 2 [some (.ref 34), some (.int s.1)] [] s.2 res := by
  unfold F_21_2B at hf
  refine Ex.seg 2 (pc' := 4) (lc' := [some (.ref 34), some (.int s.1)]) (st' := [.ref 34, .int s.1]) (h' := s.2) (sg1 rfl rfl (sg1 rfl rfl rfl)) ?_
  obtain ⟨b1, e_b1, hf⟩ := bnd hf
  refine Ex.getR (c := 0) (k := 11) rfl e_b1 rfl rfl ?_
  have g3 : sm_is G0 s.2 b1 5 = true := Classical.byContradiction (fun z => by rw [if_pos z] at hf; cases hf)
  rw [if_neg (fun z => z g3)] at hf
  obtain ⟨q2, e_q2, hf⟩ := bnd hf
  refine Ex.callV (a := b1) (As := []) (r := [.int s.1]) (v := some (.int q2.1)) (h' := q2.2) rfl rfl (by decide) rfl (Nat.le_of_ble_eq_true rfl) g3 (E_136 (Nat.le_trans (by decide) hd) e_q2) rfl ?_
  refine Ex.icmp rfl rfl (fun (c0 : q2.1 ≤ s.1) => ?_) (fun (c0 : ¬ (q2.1 ≤ s.1)) => ?_)
  · rw [if_pos c0] at hf
    refine Ex.seg 5 (pc' := 59) (lc' := [some (.ref 34), some (.int s.1)]) (st' := [.int 0, .int (q2.2.1 34 12), .ref 10]) (h' := q2.2) (sg1 rfl rfl (sg1 rfl rfl (sg1 rfl rfl (sg1 rfl rfl (sg1 rfl rfl rfl))))) ?_
    obtain ⟨q4, e_q4, hf⟩ := bnd hf
    refine Ex.callV (a := 10) (As := [.int (q2.2.1 34 12), .int 0]) (r := []) (v := some (.int q4.1)) (h' := q4.2) rfl rfl (by decide) rfl (Nat.le_of_ble_eq_true rfl) rfl (E_46 (Nat.le_trans (by decide) hd) e_q4) rfl ?_
    refine Ex.seg 1 (pc' := 63) (lc' := [some (.ref 34), some (.int s.1)]) (st' := [.int 5, .int q4.1]) (h' := q4.2) (sg1 rfl rfl rfl) ?_
    refine Ex.icmp rfl rfl (fun (c0 : q4.1 = 5) => ?_) (fun (c0 : ¬ (q4.1 = 5)) => ?_)
    · rw [if_pos c0] at hf
      refine Ex.seg 1 (pc' := 71) (lc' := [some (.ref 34), some (.int s.1)]) (st' := [.int 0]) (h' := q4.2) (sg1 rfl rfl rfl) ?_
      obtain ⟨r0, hf0, rfl⟩ := Option.map_eq_some_iff.mp hf
      exact Ex.weak (sm_le_n (sm_le_n sm_le_nil)) (B_21_71 hd  hf0 hs)
    · rw [if_neg c0] at hf
      refine Ex.seg 2 (pc' := 71) (lc' := [some (.ref 34), some (.int s.1)]) (st' := [.int 1]) (h' := q4.2) (sg1 rfl rfl (sg1 rfl rfl rfl)) ?_
      obtain ⟨r0, hf0, rfl⟩ := Option.map_eq_some_iff.mp hf
      exact Ex.weak (sm_le_n (sm_le_n sm_le_nil)) (B_21_71 hd  hf0 hs)
  · rw [if_neg c0] at hf
    refine Ex.seg 3 (pc' := 18) (lc' := [some (.ref 34), some (.int s.1)]) (st' := [.ref 34, .ref 10]) (h' := q2.2) (sg1 rfl rfl (sg1 rfl rfl (sg1 rfl rfl rfl))) ?_
    obtain ⟨b5, e_b5, hf⟩ := bnd hf
    refine Ex.getR (c := 0) (k := 11) rfl e_b5 rfl rfl ?_
    refine Ex.seg 1 (pc' := 22) (lc' := [some (.ref 34), some (.int s.1)]) (st' := [.int s.1, .ref b5, .ref 10]) (h' := q2.2) (sg1 rfl rfl rfl) ?_
    have g7 : sm_is G0 q2.2 b5 5 = true := Classical.byContradiction (fun z => by rw [if_pos z] at hf; cases hf)
    rw [if_neg (fun z => z g7)] at hf
    obtain ⟨q6, e_q6, hf⟩ := bnd hf
    refine Ex.callV (a := b5) (As := [.int s.1]) (r := [.ref 10]) (v := some (.int q6.1)) (h' := q6.2) rfl rfl (by decide) rfl (Nat.le_of_ble_eq_true rfl) g7 (E_137 (Nat.le_trans (by decide) hd) e_q6) rfl ?_
    obtain ⟨q8, e_q8, hf⟩ := bnd hf
    refine Ex.callV (a := 10) (As := [.int q6.1]) (r := []) (v := some (.int q8.1)) (h' := q8.2) rfl rfl (by decide) rfl (Nat.le_of_ble_eq_true rfl) rfl (E_41 (Nat.le_trans (by decide) hd) e_q8) rfl ?_
    refine Ex.seg 4 (pc' := 36) (lc' := [some (.ref 34), some (.int s.1)]) (st' := [.int (q8.2.1 34 12), .ref 10, .int q8.1]) (h' := q8.2) (sg1 rfl rfl (sg1 rfl rfl (sg1 rfl rfl (sg1 rfl rfl rfl)))) ?_
    obtain ⟨q9, e_q9, hf⟩ := bnd hf
    refine Ex.callV (a := 10) (As := [.int (q8.2.1 34 12)]) (r := [.int q8.1]) (v := some (.int q9.1)) (h' := q9.2) rfl rfl (by decide) rfl (Nat.le_of_ble_eq_true rfl) rfl (E_41 (Nat.le_trans (by decide) hd) e_q9) rfl ?_
    refine Ex.icmp rfl rfl (fun (c0 : q8.1 = q9.1) => ?_) (fun (c0 : ¬ (q8.1 = q9.1)) => ?_)
    · rw [if_pos c0] at hf
      refine Ex.seg 1 (pc' := 47) (lc' := [some (.ref 34), some (.int (s.1 + 1))]) (st' := []) (h' := q9.2) (sg1 rfl rfl rfl) ?_
      obtain ⟨v10, e_v10, hf⟩ := bnd hf
      rw [Option.some.inj e_v10]
      refine Ex.seg 1 (pc' := 2) (lc' := [some (.ref 34), some (.int v10)]) (st' := []) (h' := q9.2) (sg1 rfl rfl rfl) ?_
      obtain rfl := Option.some.inj hf
      exact Ex.weak (sm_le_s (sm_le_s sm_le_nil)) (hS1 _ hs)
    · rw [if_neg c0] at hf
      refine Ex.seg 1 (pc' := 43) (lc' := [some (.ref 34), some (.int s.1)]) (st' := [.int 1]) (h' := q9.2) (sg1 rfl rfl rfl) ?_
      obtain rfl := Option.some.inj hf
      exact Ex.iret rfl rfl (fun _ => by decide) hs
theorem B_21_2 {L : Nat} {xs : Nat → Int32} {d : Nat} (hd : 1 ≤ d) {res : Option Value × sm_H} {y1 : Int32}  {h : sm_H} {r : (Int32 × sm_H)} (hf : F_21_2 y1 h = some r) (hs : (fun (r : Int32 × sm_H) => res = (some (.int r.1), r.2)) r) : Ex (P_G L xs) (RUN L xs d) (sm_lk P_t21) 3 2 [some (.ref 34), some (.int y1)] [] h res := by
  unfold F_21_2 at hf
  exact lp_ok (P := fun (s : (Int32 × sm_H)) => Ex (P_G L xs) (RUN L xs d) (sm_lk P_t21) 3 2 [some (.ref 34), some (.int s.1)] [] s.2 res) (S := (fun (r : Int32 × sm_H) => res = (some (.int r.1), r.2))) (fun s x hx hsx => by
    intros
    exact B_21_2B hd  (fun _ q => q) hx hsx) 1000000 _ r hf hs
theorem B_21_0 {L : Nat} {xs : Nat → Int32} {d : Nat} (hd : 1 ≤ d) {res : Option Value × sm_H}   {h : sm_H} {r : (Int32 × sm_H)} (hf : F_21_0  h = some r) (hs : (fun (r : Int32 × sm_H) => res = (some (.int r.1), r.2)) r) : Ex (P_G L xs) (RUN L xs d) (sm_lk P_t21) 3 0 [some (.ref 34), none] [] h res := by
  unfold F_21_0 at hf
  refine Ex.seg 2 (pc' := 2) (lc' := [some (.ref 34), some (.int 1)]) (st' := []) (h' := h) (sg1 rfl rfl (sg1 rfl rfl rfl)) ?_
  exact Ex.weak (sm_le_s (sm_le_s sm_le_nil)) (B_21_2 hd  hf hs)
theorem E_21 {L : Nat} {xs : Nat → Int32} {d : Nat} (hd : 2 ≤ d)  {h : sm_H} {r : Int32 × sm_H} (hf : F_21  h = some r) : RUN L xs d 21 [.ref 34] h (some (.int r.1), r.2) := by
  obtain ⟨d, rfl⟩ : ∃ e, d = e + 1 := ⟨d - 1, by omega⟩
  exact ⟨Nat.le_of_ble_eq_true rfl, B_21_0 (by omega) hf rfl⟩
theorem B_23_82 {L : Nat} {xs : Nat → Int32} {d : Nat} (hd : 1 ≤ d) {res : Option Value × sm_H}   {h : sm_H} {r : (sm_H)} (hf : F_23_82  h = some r) (hs : (fun (r : sm_H) => res = (none, r)) r) : Ex (P_G L xs) (RUN L xs d) (sm_lk P_t23) 0 82 [none, none, none] [] h res := by
  unfold F_23_82 at hf
  obtain rfl := Option.some.inj hf
  exact Ex.vret rfl rfl hs
theorem B_23_76 {L : Nat} {xs : Nat → Int32} {d : Nat} (hd : 1 ≤ d) {res : Option Value × sm_H} {S1 : (Int32 × sm_H) → Prop} (hS1 : ∀ s, S1 s → Ex (P_G L xs) (RUN L xs d) (sm_lk P_t23) 0 7 [some (.ref 34), some (.int s.1), none] [] s.2 res) {y1 : Int32}  {h : sm_H} {r : ((Int32 × sm_H) ⊕ (sm_H))} (hf : F_23_76 y1 h = some r) (hs : (Sum.elim S1 (fun (r : sm_H) => res = (none, r))) r) : Ex (P_G L xs) (RUN L xs d) (sm_lk P_t23) 0 76 [some (.ref 34), some (.int y1), none] [] h res := by
  unfold F_23_76 at hf
  refine Ex.seg 1 (pc' := 79) (lc' := [some (.ref 34), some (.int (y1 + 4)), none]) (st' := []) (h' := h) (sg1 rfl rfl rfl) ?_
  obtain ⟨v1, e_v1, hf⟩ := bnd hf
  rw [Option.some.inj e_v1]
  refine Ex.seg 1 (pc' := 7) (lc' := [some (.ref 34), some (.int v1), none]) (st' := []) (h' := h) (sg1 rfl rfl rfl) ?_
  obtain rfl := Option.some.inj hf
  exact Ex.weak (sm_le_s (sm_le_s (sm_le_s sm_le_nil))) (hS1 _ hs)
theorem B_23_7B {L : Nat} {xs : Nat → Int32} {d : Nat} (hd : 1 ≤ d) {res : Option Value × sm_H} {S1 : (Int32 × sm_H) → Prop} (hS1 : ∀ s, S1 s → Ex (P_G L xs) (RUN L xs d) (sm_lk P_t23) 0 7 [some (.ref 34), some (.int s.1), none] [] s.2 res) {s : (Int32 × sm_H)}  {r : ((Int32 × sm_H) ⊕ (sm_H))} (hf : F_23_7B s = some r) (hs : (Sum.elim S1 (fun (r : sm_H) => res = (none, r))) r) : Ex (P_G L xs) (RUN L xs d) (sm_lk P_t23) 0 7 [some (.ref 34), some (.int s.1), none] [] s.2 res := by
  unfold F_23_7B at hf
  refine Ex.seg 2 (pc' := 9) (lc' := [some (.ref 34), some (.int s.1), none]) (st' := [.ref 34, .int s.1]) (h' := s.2) (sg1 rfl rfl (sg1 rfl rfl rfl)) ?_
  obtain ⟨b2, e_b2, hf⟩ := bnd hf
  refine Ex.getR (c := 0) (k := 11) rfl e_b2 rfl rfl ?_
  have g4 : sm_is G0 s.2 b2 5 = true := Classical.byContradiction (fun z => by rw [if_pos z] at hf; cases hf)
  rw [if_neg (fun z => z g4)] at hf
  obtain ⟨q3, e_q3, hf⟩ := bnd hf
  refine Ex.callV (a := b2) (As := []) (r := [.int s.1]) (v := some (.int q3.1)) (h' := q3.2) rfl rfl (by decide) rfl (Nat.le_of_ble_eq_true rfl) g4 (E_136 (Nat.le_trans (by decide) hd) e_q3) rfl ?_
  refine Ex.icmp rfl rfl (fun (c0 : q3.1 ≤ s.1) => ?_) (fun (c0 : ¬ (q3.1 ≤ s.1)) => ?_)
  · rw [if_pos c0] at hf
    obtain ⟨r0, hf0, rfl⟩ := Option.map_eq_some_iff.mp hf
    exact Ex.weak (sm_le_n (sm_le_n (sm_le_s sm_le_nil))) (B_23_82 hd  hf0 hs)
  · rw [if_neg c0] at hf
    refine Ex.seg 3 (pc' := 23) (lc' := [some (.ref 34), some (.int s.1), none]) (st' := [.int 4, .int (q3.2.1 34 6)]) (h' := q3.2) (sg1 rfl rfl (sg1 rfl rfl (sg1 rfl rfl rfl))) ?_
    refine Ex.icmp rfl rfl (fun (c0 : 4 ≤ (q3.2.1 34 6)) => ?_) (fun (c0 : ¬ (4 ≤ (q3.2.1 34 6))) => ?_)
    · rw [if_pos c0] at hf
      obtain ⟨r0, hf0, rfl⟩ := Option.map_eq_some_iff.mp hf
      exact Ex.weak (sm_le_n (sm_le_n (sm_le_s sm_le_nil))) (B_23_82 hd  hf0 hs)
    · rw [if_neg c0] at hf
      refine Ex.seg 3 (pc' := 31) (lc' := [some (.ref 34), some (.int s.1), none]) (st' := [.ref 34, .ref 10]) (h' := q3.2) (sg1 rfl rfl (sg1 rfl rfl (sg1 rfl rfl rfl))) ?_
      obtain ⟨b5, e_b5, hf⟩ := bnd hf
      refine Ex.getR (c := 0) (k := 11) rfl e_b5 rfl rfl ?_
      refine Ex.seg 1 (pc' := 35) (lc' := [some (.ref 34), some (.int s.1), none]) (st' := [.int s.1, .ref b5, .ref 10]) (h' := q3.2) (sg1 rfl rfl rfl) ?_
      have g7 : sm_is G0 q3.2 b5 5 = true := Classical.byContradiction (fun z => by rw [if_pos z] at hf; cases hf)
      rw [if_neg (fun z => z g7)] at hf
      obtain ⟨q6, e_q6, hf⟩ := bnd hf
      refine Ex.callV (a := b5) (As := [.int s.1]) (r := [.ref 10]) (v := some (.int q6.1)) (h' := q6.2) rfl rfl (by decide) rfl (Nat.le_of_ble_eq_true rfl) g7 (E_137 (Nat.le_trans (by decide) hd) e_q6) rfl ?_
      refine Ex.seg 1 (pc' := 39) (lc' := [some (.ref 34), some (.int s.1), none]) (st' := [.ref 34, .int q6.1, .ref 10]) (h' := q6.2) (sg1 rfl rfl rfl) ?_
      obtain ⟨b8, e_b8, hf⟩ := bnd hf
      refine Ex.getR (c := 0) (k := 11) rfl e_b8 rfl rfl ?_
      refine Ex.seg 3 (pc' := 45) (lc' := [some (.ref 34), some (.int s.1), none]) (st' := [.int (s.1 + 1), .ref b8, .int q6.1, .ref 10]) (h' := q6.2) (sg1 rfl rfl (sg1 rfl rfl (sg1 rfl rfl rfl))) ?_
      have g10 : sm_is G0 q6.2 b8 5 = true := Classical.byContradiction (fun z => by rw [if_pos z] at hf; cases hf)
      rw [if_neg (fun z => z g10)] at hf
      obtain ⟨q9, e_q9, hf⟩ := bnd hf
      refine Ex.callV (a := b8) (As := [.int (s.1 + 1)]) (r := [.int q6.1, .ref 10]) (v := some (.int q9.1)) (h' := q9.2) rfl rfl (by decide) rfl (Nat.le_of_ble_eq_true rfl) g10 (E_137 (Nat.le_trans (by decide) hd) e_q9) rfl ?_
      obtain ⟨q11, e_q11, hf⟩ := bnd hf
      refine Ex.callV (a := 10) (As := [.int q6.1, .int q9.1]) (r := []) (v := some (.int q11.1)) (h' := q11.2) rfl rfl (by decide) rfl (Nat.le_of_ble_eq_true rfl) rfl (E_47 (Nat.le_trans (by decide) hd) e_q11) rfl ?_
      refine Ex.seg 2 (pc' := 53) (lc' := [some (.ref 34), some (.int s.1), some (.int q11.1)]) (st' := [.int q11.1]) (h' := q11.2) (sg1 rfl rfl (sg1 rfl rfl rfl)) ?_
      refine Ex.ifc rfl rfl (fun (c0 : q11.1 = 0) => ?_) (fun (c0 : ¬ (q11.1 = 0)) => ?_)
      · rw [if_pos c0] at hf
        exact Ex.weak (sm_le_s (sm_le_s (sm_le_n sm_le_nil))) (B_23_76 hd hS1 hf hs)
      · rw [if_neg c0] at hf
        refine Ex.seg 5 (pc' := 65) (lc' := [some (.ref 34), some (.int s.1), some (.int q11.1)]) (st' := [.int q11.1, .int (q11.2.1 34 6), .ref 37]) (h' := q11.2) (sg1 rfl rfl (sg1 rfl rfl (sg1 rfl rfl (sg1 rfl rfl (sg1 rfl rfl rfl))))) ?_
        obtain ⟨h12, e_h12, hf⟩ := bnd hf
        refine Ex.iast e_h12 rfl rfl ?_
        refine Ex.seg 6 (pc' := 76) (lc' := [some (.ref 34), some (.int s.1), some (.int q11.1)]) (st' := []) (h' := (sm_wI h12 34 6 ((h12.1 34 6) + 1))) (sg1 rfl rfl (sg1 rfl rfl (sg1 rfl rfl (sg1 rfl rfl (sg1 rfl rfl (sg1 rfl rfl rfl)))))) ?_
        obtain ⟨h13, e_h13, hf⟩ := bnd hf
        rw [Option.some.inj e_h13]
        exact Ex.weak (sm_le_s (sm_le_s (sm_le_n sm_le_nil))) (B_23_76 hd hS1 hf hs)
theorem B_23_7 {L : Nat} {xs : Nat → Int32} {d : Nat} (hd : 1 ≤ d) {res : Option Value × sm_H} {y1 : Int32}  {h : sm_H} {r : (sm_H)} (hf : F_23_7 y1 h = some r) (hs : (fun (r : sm_H) => res = (none, r)) r) : Ex (P_G L xs) (RUN L xs d) (sm_lk P_t23) 0 7 [some (.ref 34), some (.int y1), none] [] h res := by
  unfold F_23_7 at hf
  exact lp_ok (P := fun (s : (Int32 × sm_H)) => Ex (P_G L xs) (RUN L xs d) (sm_lk P_t23) 0 7 [some (.ref 34), some (.int s.1), none] [] s.2 res) (S := (fun (r : sm_H) => res = (none, r))) (fun s x hx hsx => by
    intros
    exact B_23_7B hd  (fun _ q => q) hx hsx) 1000000 _ r hf hs
theorem B_23_0 {L : Nat} {xs : Nat → Int32} {d : Nat} (hd : 1 ≤ d) {res : Option Value × sm_H}   {h : sm_H} {r : (sm_H)} (hf : F_23_0  h = some r) (hs : (fun (r : sm_H) => res = (none, r)) r) : Ex (P_G L xs) (RUN L xs d) (sm_lk P_t23) 0 0 [some (.ref 34), none, none] [] h res := by
  unfold F_23_0 at hf
  refine Ex.seg 3 (pc' := 5) (lc' := [some (.ref 34), none, none]) (st' := []) (h' := (sm_wI h 34 6 0)) (sg1 rfl rfl (sg1 rfl rfl (sg1 rfl rfl rfl))) ?_
  obtain ⟨h14, e_h14, hf⟩ := bnd hf
  rw [Option.some.inj e_h14]
  refine Ex.seg 2 (pc' := 7) (lc' := [some (.ref 34), some (.int 0), none]) (st' := []) (h' := h14) (sg1 rfl rfl (sg1 rfl rfl rfl)) ?_
  exact Ex.weak (sm_le_s (sm_le_s (sm_le_s sm_le_nil))) (B_23_7 hd  hf hs)
theorem E_23 {L : Nat} {xs : Nat → Int32} {d : Nat} (hd : 2 ≤ d)  {h : sm_H} {r : sm_H} (hf : F_23  h = some r) : RUN L xs d 23 [.ref 34] h (none, r) := by
  obtain ⟨d, rfl⟩ : ∃ e, d = e + 1 := ⟨d - 1, by omega⟩
  exact ⟨Nat.le_of_ble_eq_true rfl, B_23_0 (by omega) hf rfl⟩
theorem B_24_68 {L : Nat} {xs : Nat → Int32} {d : Nat} (hd : 1 ≤ d) {res : Option Value × sm_H} {z0 : Int32}  {h : sm_H} {r : (Int32 × sm_H)} (hf : F_24_68 z0 h = some r) (hs : (fun (r : Int32 × sm_H) => res = (some (.int r.1), r.2)) r) : Ex (P_G L xs) (RUN L xs d) (sm_lk P_t24) 3 68 [none, none, none] [.int z0] h res := by
  unfold F_24_68 at hf
  rcases Classical.em (z0 = 0 ∨ z0 = 1) with c0 | c0
  · rw [if_pos c0] at hf
    obtain rfl := Option.some.inj hf
    exact Ex.iret rfl rfl (fun _ => c0) hs
  · rw [if_neg c0] at hf
    cases hf
theorem B_24_63 {L : Nat} {xs : Nat → Int32} {d : Nat} (hd : 1 ≤ d) {res : Option Value × sm_H}   {h : sm_H} {r : (Int32 × sm_H)} (hf : F_24_63  h = some r) (hs : (fun (r : Int32 × sm_H) => res = (some (.int r.1), r.2)) r) : Ex (P_G L xs) (RUN L xs d) (sm_lk P_t24) 3 63 [none, none, none] [] h res := by
  unfold F_24_63 at hf
  refine Ex.seg 2 (pc' := 68) (lc' := [none, none, none]) (st' := [.int 1]) (h' := h) (sg1 rfl rfl (sg1 rfl rfl rfl)) ?_
  exact Ex.weak (sm_le_s (sm_le_s (sm_le_s sm_le_nil))) (B_24_68 hd  hf hs)
theorem B_24_31 {L : Nat} {xs : Nat → Int32} {d : Nat} (hd : 1 ≤ d) {res : Option Value × sm_H} {y1 : Int32}  {h : sm_H} {r : (Int32 × sm_H)} (hf : F_24_31 y1 h = some r) (hs : (fun (r : Int32 × sm_H) => res = (some (.int r.1), r.2)) r) : Ex (P_G L xs) (RUN L xs d) (sm_lk P_t24) 3 31 [some (.ref 34), some (.int y1), none] [] h res := by
  unfold F_24_31 at hf
  refine Ex.seg 5 (pc' := 40) (lc' := [some (.ref 34), some (.int y1), none]) (st' := [.int y1, .ref 10, .ref 5]) (h' := h) (sg1 rfl rfl (sg1 rfl rfl (sg1 rfl rfl (sg1 rfl rfl (sg1 rfl rfl rfl))))) ?_
  obtain ⟨q1, e_q1, hf⟩ := bnd hf
  refine Ex.callV (a := 10) (As := [.int y1]) (r := [.ref 5]) (v := some (.int q1.1)) (h' := q1.2) rfl rfl (by decide) rfl (Nat.le_of_ble_eq_true rfl) rfl (E_41 (Nat.le_trans (by decide) hd) e_q1) rfl ?_
  refine Ex.seg 7 (pc' := 54) (lc' := [some (.ref 34), some (.int y1), none]) (st' := [.int y1, .ref 10, .int 0, .int (q1.2.1 34 9), .int 0, .int q1.1, .ref 5]) (h' := q1.2) (sg1 rfl rfl (sg1 rfl rfl (sg1 rfl rfl (sg1 rfl rfl (sg1 rfl rfl (sg1 rfl rfl (sg1 rfl rfl rfl))))))) ?_
  obtain ⟨q2, e_q2, hf⟩ := bnd hf
  refine Ex.callV (a := 10) (As := [.int y1]) (r := [.int 0, .int (q1.2.1 34 9), .int 0, .int q1.1, .ref 5]) (v := some (.int q2.1)) (h' := q2.2) rfl rfl (by decide) rfl (Nat.le_of_ble_eq_true rfl) rfl (E_45 (Nat.le_trans (by decide) hd) e_q2) rfl ?_
  obtain ⟨q3, e_q3, hf⟩ := bnd hf
  refine Ex.callV (a := 5) (As := [.int q1.1, .int 0, .int (q1.2.1 34 9), .int 0, .int q2.1]) (r := []) (v := some (.int q3.1)) (h' := q3.2) rfl rfl (by decide) rfl (Nat.le_of_ble_eq_true rfl) rfl (E_235 (Nat.le_trans (by decide) hd) e_q3) rfl ?_
  refine Ex.ifc rfl rfl (fun (c0 : ¬ (q3.1 = 0)) => ?_) (fun (c0 : ¬ ¬ (q3.1 = 0)) => ?_)
  · rw [if_neg c0] at hf
    refine Ex.seg 1 (pc' := 68) (lc' := [some (.ref 34), some (.int y1), none]) (st' := [.int 0]) (h' := q3.2) (sg1 rfl rfl rfl) ?_
    exact Ex.weak (sm_le_n (sm_le_n (sm_le_s sm_le_nil))) (B_24_68 hd  hf hs)
  · rw [if_pos (Classical.not_not.mp c0)] at hf
    exact Ex.weak (sm_le_n (sm_le_n (sm_le_s sm_le_nil))) (B_24_63 hd  hf hs)
theorem B_24_0 {L : Nat} {xs : Nat → Int32} {d : Nat} (hd : 1 ≤ d) {res : Option Value × sm_H} {x1 : Int32} {x2 : Int32}  {h : sm_H} {r : (Int32 × sm_H)} (hf : F_24_0 x1 x2 h = some r) (hs : (fun (r : Int32 × sm_H) => res = (some (.int r.1), r.2)) r) : Ex (P_G L xs) (RUN L xs d) (sm_lk P_t24) 3 0 [some (.ref 34), some (.int x1), some (.int x2)] [] h res := by
  unfold F_24_0 at hf
  refine Ex.seg 2 (pc' := 2) (lc' := [some (.ref 34), some (.int x1), some (.int x2)]) (st' := [.int (-1), .int x1]) (h' := h) (sg1 rfl rfl (sg1 rfl rfl rfl)) ?_
  refine Ex.icmp rfl rfl (fun (c0 : ¬ (x1 = (-1))) => ?_) (fun (c0 : ¬ ¬ (x1 = (-1))) => ?_)
  · rw [if_neg c0] at hf
    refine Ex.seg 2 (pc' := 9) (lc' := [some (.ref 34), some (.int x1), some (.int x2)]) (st' := [.int (-1), .int x2]) (h' := h) (sg1 rfl rfl (sg1 rfl rfl rfl)) ?_
    refine Ex.icmp rfl rfl (fun (c0 : x2 = (-1)) => ?_) (fun (c0 : ¬ (x2 = (-1))) => ?_)
    · rw [if_pos c0] at hf
      exact Ex.weak (sm_le_s (sm_le_s (sm_le_n sm_le_nil))) (B_24_31 hd  hf hs)
    · rw [if_neg c0] at hf
      refine Ex.seg 3 (pc' := 17) (lc' := [some (.ref 34), some (.int x1), some (.int x2)]) (st' := [.int x2, .ref 10]) (h' := h) (sg1 rfl rfl (sg1 rfl rfl (sg1 rfl rfl rfl))) ?_
      obtain ⟨q4, e_q4, hf⟩ := bnd hf
      refine Ex.callV (a := 10) (As := [.int x2]) (r := []) (v := some (.int q4.1)) (h' := q4.2) rfl rfl (by decide) rfl (Nat.le_of_ble_eq_true rfl) rfl (E_44 (Nat.le_trans (by decide) hd) e_q4) rfl ?_
      refine Ex.seg 3 (pc' := 25) (lc' := [some (.ref 34), some (.int x1), some (.int x2)]) (st' := [.int x1, .ref 10, .int q4.1]) (h' := q4.2) (sg1 rfl rfl (sg1 rfl rfl (sg1 rfl rfl rfl))) ?_
      obtain ⟨q5, e_q5, hf⟩ := bnd hf
      refine Ex.callV (a := 10) (As := [.int x1]) (r := [.int q4.1]) (v := some (.int q5.1)) (h' := q5.2) rfl rfl (by decide) rfl (Nat.le_of_ble_eq_true rfl) rfl (E_44 (Nat.le_trans (by decide) hd) e_q5) rfl ?_
      refine Ex.icmp rfl rfl (fun (c0 : ¬ (q4.1 = q5.1)) => ?_) (fun (c0 : ¬ ¬ (q4.1 = q5.1)) => ?_)
      · rw [if_neg c0] at hf
        exact Ex.weak (sm_le_n (sm_le_n (sm_le_n sm_le_nil))) (B_24_63 hd  hf hs)
      · rw [if_pos (Classical.not_not.mp c0)] at hf
        exact Ex.weak (sm_le_s (sm_le_s (sm_le_n sm_le_nil))) (B_24_31 hd  hf hs)
  · rw [if_pos (Classical.not_not.mp c0)] at hf
    refine Ex.seg 1 (pc' := 6) (lc' := [some (.ref 34), some (.int x1), some (.int x2)]) (st' := [.int 0]) (h' := h) (sg1 rfl rfl rfl) ?_
    obtain rfl := Option.some.inj hf
    exact Ex.iret rfl rfl (fun _ => by decide) hs
theorem E_24 {L : Nat} {xs : Nat → Int32} {d : Nat} (hd : 2 ≤ d) {x1 : Int32} {x2 : Int32} {h : sm_H} {r : Int32 × sm_H} (hf : F_24 x1 x2 h = some r) : RUN L xs d 24 [.ref 34, .int x1, .int x2] h (some (.int r.1), r.2) := by
  obtain ⟨d, rfl⟩ : ∃ e, d = e + 1 := ⟨d - 1, by omega⟩
  exact ⟨Nat.le_of_ble_eq_true rfl, B_24_0 (by omega) hf rfl⟩
theorem B_25_53 {L : Nat} {xs : Nat → Int32} {d : Nat} (hd : 1 ≤ d) {res : Option Value × sm_H} {S1 : (Int32 × Int32 × sm_H) → Prop} (hS1 : ∀ s, S1 s → Ex (P_G L xs) (RUN L xs d) (sm_lk P_t25) 3 2 [some (.ref 34), some (.int s.1), some (.int s.2.1), none] [] s.2.2 res) {y1 : Int32} {y2 : Int32} {z0 : Int32}  {h : sm_H} {r : ((Int32 × Int32 × sm_H) ⊕ (Int32 × sm_H))} (hf : F_25_53 y1 y2 z0 h = some r) (hs : (Sum.elim S1 (fun (r : Int32 × sm_H) => res = (some (.int r.1), r.2))) r) : Ex (P_G L xs) (RUN L xs d) (sm_lk P_t25) 3 53 [some (.ref 34), some (.int y1), some (.int y2), none] [.int z0] h res := by
  unfold F_25_53 at hf
  refine Ex.seg 5 (pc' := 60) (lc' := [some (.ref 34), some (.int y1), some (.int y2), some (.int z0)]) (st' := [.int y2, .int y1, .ref 10]) (h' := h) (sg1 rfl rfl (sg1 rfl rfl (sg1 rfl rfl (sg1 rfl rfl (sg1 rfl rfl rfl))))) ?_
  obtain ⟨q1, e_q1, hf⟩ := bnd hf
  refine Ex.callV (a := 10) (As := [.int y1, .int y2]) (r := []) (v := some (.int q1.1)) (h' := q1.2) rfl rfl (by decide) rfl (Nat.le_of_ble_eq_true rfl) rfl (E_46 (Nat.le_trans (by decide) hd) e_q1) rfl ?_
  refine Ex.seg 1 (pc' := 64) (lc' := [some (.ref 34), some (.int y1), some (.int y2), some (.int z0)]) (st' := [.int z0, .int q1.1]) (h' := q1.2) (sg1 rfl rfl rfl) ?_
  refine Ex.icmp rfl rfl (fun (c0 : q1.1 = z0) => ?_) (fun (c0 : ¬ (q1.1 = z0)) => ?_)
  · rw [if_pos c0] at hf
    refine Ex.seg 1 (pc' := 72) (lc' := [some (.ref 34), some (.int y1), some (.int (y2 + 1)), some (.int z0)]) (st' := []) (h' := q1.2) (sg1 rfl rfl rfl) ?_
    obtain ⟨v2, e_v2, hf⟩ := bnd hf
    rw [Option.some.inj e_v2]
    refine Ex.seg 1 (pc' := 2) (lc' := [some (.ref 34), some (.int y1), some (.int v2), some (.int z0)]) (st' := []) (h' := q1.2) (sg1 rfl rfl rfl) ?_
    obtain rfl := Option.some.inj hf
    exact Ex.weak (sm_le_s (sm_le_s (sm_le_s (sm_le_n sm_le_nil)))) (hS1 _ hs)
  · rw [if_neg c0] at hf
    refine Ex.seg 1 (pc' := 68) (lc' := [some (.ref 34), some (.int y1), some (.int y2), some (.int z0)]) (st' := [.int 1]) (h' := q1.2) (sg1 rfl rfl rfl) ?_
    obtain rfl := Option.some.inj hf
    exact Ex.iret rfl rfl (fun _ => by decide) hs
theorem B_25_36 {L : Nat} {xs : Nat → Int32} {d : Nat} (hd : 1 ≤ d) {res : Option Value × sm_H} {S1 : (Int32 × Int32 × sm_H) → Prop} (hS1 : ∀ s, S1 s → Ex (P_G L xs) (RUN L xs d) (sm_lk P_t25) 3 2 [some (.ref 34), some (.int s.1), some (.int s.2.1), none] [] s.2.2 res) {y1 : Int32} {y2 : Int32}  {h : sm_H} {r : ((Int32 × Int32 × sm_H) ⊕ (Int32 × sm_H))} (hf : F_25_36 y1 y2 h = some r) (hs : (Sum.elim S1 (fun (r : Int32 × sm_H) => res = (some (.int r.1), r.2))) r) : Ex (P_G L xs) (RUN L xs d) (sm_lk P_t25) 3 36 [some (.ref 34), some (.int y1), some (.int y2), none] [] h res := by
  unfold F_25_36 at hf
  refine Ex.seg 8 (pc' := 50) (lc' := [some (.ref 34), some (.int y1), some (.int y2), none]) (st' := [.int (y2 - (h.1 34 6)), .int (h.1 34 9), .ref 5]) (h' := h) (sg1 rfl rfl (sg1 rfl rfl (sg1 rfl rfl (sg1 rfl rfl (sg1 rfl rfl (sg1 rfl rfl (sg1 rfl rfl (sg1 rfl rfl rfl)))))))) ?_
  obtain ⟨q3, e_q3, hf⟩ := bnd hf
  refine Ex.callV (a := 5) (As := [.int (h.1 34 9), .int (y2 - (h.1 34 6))]) (r := []) (v := some (.int q3.1)) (h' := q3.2) rfl rfl (by decide) rfl (Nat.le_of_ble_eq_true rfl) rfl (E_227 (Nat.le_trans (by decide) hd) e_q3) rfl ?_
  exact Ex.weak (sm_le_s (sm_le_s (sm_le_s (sm_le_s sm_le_nil)))) (B_25_53 hd hS1 hf hs)
theorem B_25_2B {L : Nat} {xs : Nat → Int32} {d : Nat} (hd : 1 ≤ d) {res : Option Value × sm_H} {S1 : (Int32 × Int32 × sm_H) → Prop} (hS1 : ∀ s, S1 s → Ex (P_G L xs) (RUN L xs d) (sm_lk P_t25) 3 2 [some (.ref 34), some (.int s.1), some (.int s.2.1), none] [] s.2.2 res) {s : (Int32 × Int32 × sm_H)}  {r : ((Int32 × Int32 × sm_H) ⊕ (Int32 × sm_H))} (hf : F_25_2B s = some r) (hs : (Sum.elim S1 (fun (r : Int32 × sm_H) => res = (some (.int r.1), r.2))) r) : Ex (P_G L xs) (RUN L xs d) (sm_lk P_t25) 3 2 [some (.ref 34), some (.int s.1), some (.int s.2.1), none] [] s.2.2 res := by
  unfold F_25_2B at hf
  refine Ex.seg 4 (pc' := 8) (lc' := [some (.ref 34), some (.int s.1), some (.int s.2.1), none]) (st' := [.int s.1, .ref 10, .int s.2.1]) (h' := s.2.2) (sg1 rfl rfl (sg1 rfl rfl (sg1 rfl rfl (sg1 rfl rfl rfl)))) ?_
  obtain ⟨q4, e_q4, hf⟩ := bnd hf
  refine Ex.callV (a := 10) (As := [.int s.1]) (r := [.int s.2.1]) (v := some (.int q4.1)) (h' := q4.2) rfl rfl (by decide) rfl (Nat.le_of_ble_eq_true rfl) rfl (E_45 (Nat.le_trans (by decide) hd) e_q4) rfl ?_
  refine Ex.icmp rfl rfl (fun (c0 : q4.1 ≤ s.2.1) => ?_) (fun (c0 : ¬ (q4.1 ≤ s.2.1)) => ?_)
  · rw [if_pos c0] at hf
    refine Ex.seg 1 (pc' := 76) (lc' := [some (.ref 34), some (.int s.1), some (.int s.2.1), none]) (st' := [.int 0]) (h' := q4.2) (sg1 rfl rfl rfl) ?_
    obtain rfl := Option.some.inj hf
    exact Ex.iret rfl rfl (fun _ => by decide) hs
  · rw [if_neg c0] at hf
    refine Ex.seg 3 (pc' := 19) (lc' := [some (.ref 34), some (.int s.1), some (.int s.2.1), none]) (st' := [.int (q4.2.1 34 6), .int s.2.1]) (h' := q4.2) (sg1 rfl rfl (sg1 rfl rfl (sg1 rfl rfl rfl))) ?_
    refine Ex.icmp rfl rfl (fun (c0 : (q4.2.1 34 6) ≤ s.2.1) => ?_) (fun (c0 : ¬ ((q4.2.1 34 6) ≤ s.2.1)) => ?_)
    · rw [if_pos c0] at hf
      exact Ex.weak (sm_le_s (sm_le_s (sm_le_s (sm_le_s sm_le_nil)))) (B_25_36 hd hS1 hf hs)
    · rw [if_neg c0] at hf
      refine Ex.seg 2 (pc' := 24) (lc' := [some (.ref 34), some (.int s.1), some (.int s.2.1), none]) (st' := [.int 4, .int s.2.1]) (h' := q4.2) (sg1 rfl rfl (sg1 rfl rfl rfl)) ?_
      refine Ex.icmp rfl rfl (fun (c0 : 4 ≤ s.2.1) => ?_) (fun (c0 : ¬ (4 ≤ s.2.1)) => ?_)
      · rw [if_pos c0] at hf
        exact Ex.weak (sm_le_s (sm_le_s (sm_le_s (sm_le_s sm_le_nil)))) (B_25_36 hd hS1 hf hs)
      · rw [if_neg c0] at hf
        refine Ex.seg 3 (pc' := 32) (lc' := [some (.ref 34), some (.int s.1), some (.int s.2.1), none]) (st' := [.int s.2.1, .ref 37]) (h' := q4.2) (sg1 rfl rfl (sg1 rfl rfl (sg1 rfl rfl rfl))) ?_
        obtain ⟨v5, e_v5, hf⟩ := bnd hf
        refine Ex.iald e_v5 rfl rfl ?_
        refine Ex.seg 1 (pc' := 53) (lc' := [some (.ref 34), some (.int s.1), some (.int s.2.1), none]) (st' := [.int v5]) (h' := q4.2) (sg1 rfl rfl rfl) ?_
        exact Ex.weak (sm_le_s (sm_le_s (sm_le_s (sm_le_s sm_le_nil)))) (B_25_53 hd hS1 hf hs)
theorem B_25_2 {L : Nat} {xs : Nat → Int32} {d : Nat} (hd : 1 ≤ d) {res : Option Value × sm_H} {y1 : Int32} {y2 : Int32}  {h : sm_H} {r : (Int32 × sm_H)} (hf : F_25_2 y1 y2 h = some r) (hs : (fun (r : Int32 × sm_H) => res = (some (.int r.1), r.2)) r) : Ex (P_G L xs) (RUN L xs d) (sm_lk P_t25) 3 2 [some (.ref 34), some (.int y1), some (.int y2), none] [] h res := by
  unfold F_25_2 at hf
  exact lp_ok (P := fun (s : (Int32 × Int32 × sm_H)) => Ex (P_G L xs) (RUN L xs d) (sm_lk P_t25) 3 2 [some (.ref 34), some (.int s.1), some (.int s.2.1), none] [] s.2.2 res) (S := (fun (r : Int32 × sm_H) => res = (some (.int r.1), r.2))) (fun s x hx hsx => by
    intros
    exact B_25_2B hd  (fun _ q => q) hx hsx) 1000000 _ r hf hs
theorem B_25_0 {L : Nat} {xs : Nat → Int32} {d : Nat} (hd : 1 ≤ d) {res : Option Value × sm_H} {x1 : Int32}  {h : sm_H} {r : (Int32 × sm_H)} (hf : F_25_0 x1 h = some r) (hs : (fun (r : Int32 × sm_H) => res = (some (.int r.1), r.2)) r) : Ex (P_G L xs) (RUN L xs d) (sm_lk P_t25) 3 0 [some (.ref 34), some (.int x1), none, none] [] h res := by
  unfold F_25_0 at hf
  refine Ex.seg 2 (pc' := 2) (lc' := [some (.ref 34), some (.int x1), some (.int 0), none]) (st' := []) (h' := h) (sg1 rfl rfl (sg1 rfl rfl rfl)) ?_
  exact Ex.weak (sm_le_s (sm_le_s (sm_le_s (sm_le_s sm_le_nil)))) (B_25_2 hd  hf hs)
theorem E_25 {L : Nat} {xs : Nat → Int32} {d : Nat} (hd : 2 ≤ d) {x1 : Int32} {h : sm_H} {r : Int32 × sm_H} (hf : F_25 x1 h = some r) : RUN L xs d 25 [.ref 34, .int x1] h (some (.int r.1), r.2) := by
  obtain ⟨d, rfl⟩ : ∃ e, d = e + 1 := ⟨d - 1, by omega⟩
  exact ⟨Nat.le_of_ble_eq_true rfl, B_25_0 (by omega) hf rfl⟩
theorem B_27_45B {L : Nat} {xs : Nat → Int32} {d : Nat} (hd : 2 ≤ d) {res : Option Value × sm_H} {S1 : (Nat × Int32 × Int32 × sm_H) → Prop} (hS1 : ∀ s, S1 s → Ex (P_G L xs) (RUN L xs d) (sm_lk P_t27) 0 45 [some (.ref 34), some (.ref s.1), some (.int s.2.1), some (.int s.2.2.1)] [] s.2.2.2 res) {s : (Nat × Int32 × Int32 × sm_H)}  {r : ((Nat × Int32 × Int32 × sm_H) ⊕ (sm_H))} (hf : F_27_45B s = some r) (hs : (Sum.elim S1 (fun (r : sm_H) => res = (none, r))) r) : Ex (P_G L xs) (RUN L xs d) (sm_lk P_t27) 0 45 [some (.ref 34), some (.ref s.1), some (.int s.2.1), some (.int s.2.2.1)] [] s.2.2.2 res := by
  unfold F_27_45B at hf
  refine Ex.seg 5 (pc' := 54) (lc' := [some (.ref 34), some (.ref s.1), some (.int s.2.1), some (.int s.2.2.1)]) (st' := [.int (s.2.2.2.1 34 12), .ref 10, .int s.2.2.1]) (h' := s.2.2.2) (sg1 rfl rfl (sg1 rfl rfl (sg1 rfl rfl (sg1 rfl rfl (sg1 rfl rfl rfl))))) ?_
  obtain ⟨q1, e_q1, hf⟩ := bnd hf
  refine Ex.callV (a := 10) (As := [.int (s.2.2.2.1 34 12)]) (r := [.int s.2.2.1]) (v := some (.int q1.1)) (h' := q1.2) rfl rfl (by decide) rfl (Nat.le_of_ble_eq_true rfl) rfl (E_42 (Nat.le_trans (by decide) hd) e_q1) rfl ?_
  refine Ex.icmp rfl rfl (fun (c0 : q1.1 ≤ s.2.2.1) => ?_) (fun (c0 : ¬ (q1.1 ≤ s.2.2.1)) => ?_)
  · rw [if_pos c0] at hf
    refine Ex.seg 3 (pc' := 97) (lc' := [some (.ref 34), some (.ref s.1), some (.int s.2.1), some (.int s.2.2.1)]) (st' := []) (h' := (sm_wI q1.2 34 12 s.2.1)) (sg1 rfl rfl (sg1 rfl rfl (sg1 rfl rfl rfl))) ?_
    obtain ⟨h2, e_h2, hf⟩ := bnd hf
    rw [Option.some.inj e_h2]
    refine Ex.seg 4 (pc' := 105) (lc' := [some (.ref 34), some (.ref s.1), some (.int s.2.1), some (.int s.2.2.1)]) (st' := []) (h' := (sm_wR h2 34 11 (some 35))) (sg1 rfl rfl (sg1 rfl rfl (sg1 rfl rfl (sg1 rfl rfl rfl)))) ?_
    obtain ⟨h3, e_h3, hf⟩ := bnd hf
    rw [Option.some.inj e_h3]
    obtain rfl := Option.some.inj hf
    exact Ex.vret rfl rfl hs
  · rw [if_neg c0] at hf
    refine Ex.seg 8 (pc' := 74) (lc' := [some (.ref 34), some (.ref s.1), some (.int s.2.1), some (.int s.2.2.1)]) (st' := [.int s.2.2.1, .int (q1.2.1 34 12), .ref 10, .ref s.1, .ref 35]) (h' := q1.2) (sg1 rfl rfl (sg1 rfl rfl (sg1 rfl rfl (sg1 rfl rfl (sg1 rfl rfl (sg1 rfl rfl (sg1 rfl rfl (sg1 rfl rfl rfl)))))))) ?_
    obtain ⟨q4, e_q4, hf⟩ := bnd hf
    refine Ex.callV (a := 10) (As := [.int (q1.2.1 34 12), .int s.2.2.1]) (r := [.ref s.1, .ref 35]) (v := some (.int q4.1)) (h' := q4.2) rfl rfl (by decide) rfl (Nat.le_of_ble_eq_true rfl) rfl (E_43 (Nat.le_trans (by decide) hd) e_q4) rfl ?_
    refine Ex.seg 2 (pc' := 79) (lc' := [some (.ref 34), some (.ref s.1), some (.int s.2.1), some (.int s.2.2.1)]) (st' := [.int (q4.1 + 1), .ref s.1, .ref 35]) (h' := q4.2) (sg1 rfl rfl (sg1 rfl rfl rfl)) ?_
    have g6 : sm_is G0 q4.2 s.1 5 = true := Classical.byContradiction (fun z => by rw [if_pos z] at hf; cases hf)
    rw [if_neg (fun z => z g6)] at hf
    obtain ⟨q5, e_q5, hf⟩ := bnd hf
    refine Ex.callV (a := s.1) (As := [.int (q4.1 + 1)]) (r := [.ref 35]) (v := some (.int q5.1)) (h' := q5.2) rfl rfl (by decide) rfl (Nat.le_of_ble_eq_true rfl) g6 (E_137 (Nat.le_trans (by decide) hd) e_q5) rfl ?_
    obtain ⟨q7, e_q7, hf⟩ := bnd hf
    refine Ex.callV (a := 35) (As := [.int q5.1]) (r := []) (v := some (.int q7.1)) (h' := q7.2) rfl rfl (by decide) rfl (Nat.le_of_ble_eq_true rfl) rfl (E_139 (Nat.le_trans (by decide) hd) e_q7) rfl ?_
    refine Ex.seg 2 (pc' := 89) (lc' := [some (.ref 34), some (.ref s.1), some (.int s.2.1), some (.int (s.2.2.1 + 1))]) (st' := []) (h' := q7.2) (sg1 rfl rfl (sg1 rfl rfl rfl)) ?_
    obtain ⟨v8, e_v8, hf⟩ := bnd hf
    rw [Option.some.inj e_v8]
    refine Ex.seg 1 (pc' := 45) (lc' := [some (.ref 34), some (.ref s.1), some (.int s.2.1), some (.int v8)]) (st' := []) (h' := q7.2) (sg1 rfl rfl rfl) ?_
    obtain rfl := Option.some.inj hf
    exact Ex.weak (sm_le_s (sm_le_s (sm_le_s (sm_le_s sm_le_nil)))) (hS1 _ hs)
theorem B_27_45 {L : Nat} {xs : Nat → Int32} {d : Nat} (hd : 2 ≤ d) {res : Option Value × sm_H} {y1 : Nat} {y2 : Int32} {y3 : Int32}  {h : sm_H} {r : (sm_H)} (hf : F_27_45 y1 y2 y3 h = some r) (hs : (fun (r : sm_H) => res = (none, r)) r) : Ex (P_G L xs) (RUN L xs d) (sm_lk P_t27) 0 45 [some (.ref 34), some (.ref y1), some (.int y2), some (.int y3)] [] h res := by
  unfold F_27_45 at hf
  exact lp_ok (P := fun (s : (Nat × Int32 × Int32 × sm_H)) => Ex (P_G L xs) (RUN L xs d) (sm_lk P_t27) 0 45 [some (.ref 34), some (.ref s.1), some (.int s.2.1), some (.int s.2.2.1)] [] s.2.2.2 res) (S := (fun (r : sm_H) => res = (none, r))) (fun s x hx hsx => by
    intros
    exact B_27_45B hd  (fun _ q => q) hx hsx) 1000000 _ r hf hs
theorem B_27_0 {L : Nat} {xs : Nat → Int32} {d : Nat} (hd : 2 ≤ d) {res : Option Value × sm_H}   {h : sm_H} {r : (sm_H)} (hf : F_27_0  h = some r) (hs : (fun (r : sm_H) => res = (none, r)) r) : Ex (P_G L xs) (RUN L xs d) (sm_lk P_t27) 0 0 [some (.ref 34), none, none, none] [] h res := by
  unfold F_27_0 at hf
  refine Ex.seg 4 (pc' := 8) (lc' := [some (.ref 34), none, none, none]) (st' := [.int (h.1 34 12), .ref 10]) (h' := h) (sg1 rfl rfl (sg1 rfl rfl (sg1 rfl rfl (sg1 rfl rfl rfl)))) ?_
  obtain ⟨q9, e_q9, hf⟩ := bnd hf
  refine Ex.callV (a := 10) (As := [.int (h.1 34 12)]) (r := []) (v := some (.int q9.1)) (h' := q9.2) rfl rfl (by decide) rfl (Nat.le_of_ble_eq_true rfl) rfl (E_37 (Nat.le_trans (by decide) hd) e_q9) rfl ?_
  refine Ex.seg 1 (pc' := 12) (lc' := [some (.ref 34), none, none, none]) (st' := [.int 5, .int q9.1]) (h' := q9.2) (sg1 rfl rfl rfl) ?_
  refine Ex.icmp rfl rfl (fun (c0 : q9.1 = 5) => ?_) (fun (c0 : ¬ (q9.1 = 5)) => ?_)
  · rw [if_pos c0] at hf
    refine Ex.seg 1 (pc' := 17) (lc' := [some (.ref 34), none, none, none]) (st' := [.ref 34]) (h' := q9.2) (sg1 rfl rfl rfl) ?_
    obtain ⟨b10, e_b10, hf⟩ := bnd hf
    refine Ex.getR (c := 0) (k := 11) rfl e_b10 rfl rfl ?_
    refine Ex.seg 6 (pc' := 30) (lc' := [some (.ref 34), some (.ref b10), none, none]) (st' := [.int 0, .int (q9.2.1 34 12), .ref 10]) (h' := q9.2) (sg1 rfl rfl (sg1 rfl rfl (sg1 rfl rfl (sg1 rfl rfl (sg1 rfl rfl (sg1 rfl rfl rfl)))))) ?_
    obtain ⟨q11, e_q11, hf⟩ := bnd hf
    refine Ex.callV (a := 10) (As := [.int (q9.2.1 34 12), .int 0]) (r := []) (v := some (.int q11.1)) (h' := q11.2) rfl rfl (by decide) rfl (Nat.le_of_ble_eq_true rfl) rfl (E_43 (Nat.le_trans (by decide) hd) e_q11) rfl ?_
    refine Ex.seg 4 (pc' := 39) (lc' := [some (.ref 34), some (.ref b10), some (.int q11.1), none]) (st' := [.int q11.1, .ref 35]) (h' := q11.2) (sg1 rfl rfl (sg1 rfl rfl (sg1 rfl rfl (sg1 rfl rfl rfl)))) ?_
    obtain ⟨q12, e_q12, hf⟩ := bnd hf
    refine Ex.callV (a := 35) (As := [.int q11.1]) (r := []) (v := some (.ref q12.1)) (h' := q12.2) rfl rfl (by decide) rfl (Nat.le_of_ble_eq_true rfl) rfl (E_140 (Nat.le_trans (by decide) hd) e_q12) rfl ?_
    refine Ex.seg 3 (pc' := 45) (lc' := [some (.ref 34), some (.ref b10), some (.int q11.1), some (.int 1)]) (st' := []) (h' := q12.2) (sg1 rfl rfl (sg1 rfl rfl (sg1 rfl rfl rfl))) ?_
    exact Ex.weak (sm_le_s (sm_le_s (sm_le_s (sm_le_s sm_le_nil)))) (B_27_45 hd  hf hs)
  · rw [if_neg c0] at hf
    obtain rfl := Option.some.inj hf
    exact Ex.vret rfl rfl hs
theorem E_27 {L : Nat} {xs : Nat → Int32} {d : Nat} (hd : 3 ≤ d)  {h : sm_H} {r : sm_H} (hf : F_27  h = some r) : RUN L xs d 27 [.ref 34] h (none, r) := by
  obtain ⟨d, rfl⟩ : ∃ e, d = e + 1 := ⟨d - 1, by omega⟩
  exact ⟨Nat.le_of_ble_eq_true rfl, B_27_0 (by omega) hf rfl⟩
theorem B_28_2B {L : Nat} {xs : Nat → Int32} {d : Nat} (hd : 1 ≤ d) {res : Option Value × sm_H} {S1 : (Int32 × sm_H) → Prop} (hS1 : ∀ s, S1 s → Ex (P_G L xs) (RUN L xs d) (sm_lk P_t28) 3 2 [some (.ref 34), some (.int s.1)] [] s.2 res) {s : (Int32 × sm_H)}  {r : ((Int32 × sm_H) ⊕ (Int32 × sm_H))} (hf : F_28_2B s = some r) (hs : (Sum.elim S1 (fun (r : Int32 × sm_H) => res = (some (.int r.1), r.2))) r) : Ex (P_G L xs) (RUN L xs d) (sm_lk P_t28) 3 2 [some (.ref 34), some (.int s.1)] [] s.2 res := by
  unfold F_28_2B at hf
  refine Ex.seg 2 (pc' := 4) (lc' := [some (.ref 34), some (.int s.1)]) (st' := [.ref 34, .int s.1]) (h' := s.2) (sg1 rfl rfl (sg1 rfl rfl rfl)) ?_
  obtain ⟨b1, e_b1, hf⟩ := bnd hf
  refine Ex.getR (c := 0) (k := 11) rfl e_b1 rfl rfl ?_
  have g3 : sm_is G0 s.2 b1 5 = true := Classical.byContradiction (fun z => by rw [if_pos z] at hf; cases hf)
  rw [if_neg (fun z => z g3)] at hf
  obtain ⟨q2, e_q2, hf⟩ := bnd hf
  refine Ex.callV (a := b1) (As := []) (r := [.int s.1]) (v := some (.int q2.1)) (h' := q2.2) rfl rfl (by decide) rfl (Nat.le_of_ble_eq_true rfl) g3 (E_136 (Nat.le_trans (by decide) hd) e_q2) rfl ?_
  refine Ex.icmp rfl rfl (fun (c0 : q2.1 ≤ s.1) => ?_) (fun (c0 : ¬ (q2.1 ≤ s.1)) => ?_)
  · rw [if_pos c0] at hf
    refine Ex.seg 1 (pc' := 36) (lc' := [some (.ref 34), some (.int s.1)]) (st' := [.int 1]) (h' := q2.2) (sg1 rfl rfl rfl) ?_
    obtain rfl := Option.some.inj hf
    exact Ex.iret rfl rfl (fun _ => by decide) hs
  · rw [if_neg c0] at hf
    refine Ex.seg 1 (pc' := 14) (lc' := [some (.ref 34), some (.int s.1)]) (st' := [.ref 34]) (h' := q2.2) (sg1 rfl rfl rfl) ?_
    obtain ⟨b4, e_b4, hf⟩ := bnd hf
    refine Ex.getR (c := 0) (k := 11) rfl e_b4 rfl rfl ?_
    refine Ex.seg 1 (pc' := 18) (lc' := [some (.ref 34), some (.int s.1)]) (st' := [.int s.1, .ref b4]) (h' := q2.2) (sg1 rfl rfl rfl) ?_
    have g6 : sm_is G0 q2.2 b4 5 = true := Classical.byContradiction (fun z => by rw [if_pos z] at hf; cases hf)
    rw [if_neg (fun z => z g6)] at hf
    obtain ⟨q5, e_q5, hf⟩ := bnd hf
    refine Ex.callV (a := b4) (As := [.int s.1]) (r := []) (v := some (.int q5.1)) (h' := q5.2) rfl rfl (by decide) rfl (Nat.le_of_ble_eq_true rfl) g6 (E_137 (Nat.le_trans (by decide) hd) e_q5) rfl ?_
    refine Ex.seg 3 (pc' := 24) (lc' := [some (.ref 34), some (.int s.1)]) (st' := [.int (s.1 - 1), .int q5.1]) (h' := q5.2) (sg1 rfl rfl (sg1 rfl rfl (sg1 rfl rfl rfl))) ?_
    refine Ex.icmp rfl rfl (fun (c0 : q5.1 = (s.1 - 1)) => ?_) (fun (c0 : ¬ (q5.1 = (s.1 - 1))) => ?_)
    · rw [if_pos c0] at hf
      refine Ex.seg 1 (pc' := 32) (lc' := [some (.ref 34), some (.int (s.1 + 1))]) (st' := []) (h' := q5.2) (sg1 rfl rfl rfl) ?_
      obtain ⟨v7, e_v7, hf⟩ := bnd hf
      rw [Option.some.inj e_v7]
      refine Ex.seg 1 (pc' := 2) (lc' := [some (.ref 34), some (.int v7)]) (st' := []) (h' := q5.2) (sg1 rfl rfl rfl) ?_
      obtain rfl := Option.some.inj hf
      exact Ex.weak (sm_le_s (sm_le_s sm_le_nil)) (hS1 _ hs)
    · rw [if_neg c0] at hf
      refine Ex.seg 1 (pc' := 28) (lc' := [some (.ref 34), some (.int s.1)]) (st' := [.int 0]) (h' := q5.2) (sg1 rfl rfl rfl) ?_
      obtain rfl := Option.some.inj hf
      exact Ex.iret rfl rfl (fun _ => by decide) hs
theorem B_28_2 {L : Nat} {xs : Nat → Int32} {d : Nat} (hd : 1 ≤ d) {res : Option Value × sm_H} {y1 : Int32}  {h : sm_H} {r : (Int32 × sm_H)} (hf : F_28_2 y1 h = some r) (hs : (fun (r : Int32 × sm_H) => res = (some (.int r.1), r.2)) r) : Ex (P_G L xs) (RUN L xs d) (sm_lk P_t28) 3 2 [some (.ref 34), some (.int y1)] [] h res := by
  unfold F_28_2 at hf
  exact lp_ok (P := fun (s : (Int32 × sm_H)) => Ex (P_G L xs) (RUN L xs d) (sm_lk P_t28) 3 2 [some (.ref 34), some (.int s.1)] [] s.2 res) (S := (fun (r : Int32 × sm_H) => res = (some (.int r.1), r.2))) (fun s x hx hsx => by
    intros
    exact B_28_2B hd  (fun _ q => q) hx hsx) 1000000 _ r hf hs
theorem B_28_0 {L : Nat} {xs : Nat → Int32} {d : Nat} (hd : 1 ≤ d) {res : Option Value × sm_H}   {h : sm_H} {r : (Int32 × sm_H)} (hf : F_28_0  h = some r) (hs : (fun (r : Int32 × sm_H) => res = (some (.int r.1), r.2)) r) : Ex (P_G L xs) (RUN L xs d) (sm_lk P_t28) 3 0 [some (.ref 34), none] [] h res := by
  unfold F_28_0 at hf
  refine Ex.seg 2 (pc' := 2) (lc' := [some (.ref 34), some (.int 1)]) (st' := []) (h' := h) (sg1 rfl rfl (sg1 rfl rfl rfl)) ?_
  exact Ex.weak (sm_le_s (sm_le_s sm_le_nil)) (B_28_2 hd  hf hs)
theorem E_28 {L : Nat} {xs : Nat → Int32} {d : Nat} (hd : 2 ≤ d)  {h : sm_H} {r : Int32 × sm_H} (hf : F_28  h = some r) : RUN L xs d 28 [.ref 34] h (some (.int r.1), r.2) := by
  obtain ⟨d, rfl⟩ : ∃ e, d = e + 1 := ⟨d - 1, by omega⟩
  exact ⟨Nat.le_of_ble_eq_true rfl, B_28_0 (by omega) hf rfl⟩
