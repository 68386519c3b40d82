theorem B_171_26 {L : Nat} {xs : Nat → Int32} {d : Nat} (hd : 2 ≤ d) {res : Option Value × sm_H} {y1 : Int32}  {h : sm_H} {r : (Int32 × sm_H)} (hf : F_171_26 y1 h = some r) (hs : (fun (r : Int32 × sm_H) => res = (some (.int r.1), r.2)) r) : Ex (P_G L xs) (RUN L xs d) (sm_lk P_t171) 0 26 [none, some (.int y1)] [] h res := by
  unfold F_171_26 at hf
  refine Ex.seg 1 (pc' := 27) (lc' := [none, some (.int y1)]) (st' := [.int y1]) (h' := h) (sg1 rfl rfl rfl) ?_
  obtain rfl := Option.some.inj hf
  exact Ex.iret rfl rfl (fun c0 => by cases c0) hs
theorem B_171_0 {L : Nat} {xs : Nat → Int32} {d : Nat} (hd : 2 ≤ d) {res : Option Value × sm_H}   {h : sm_H} {r : (Int32 × sm_H)} (hf : F_171_0  h = some r) (hs : (fun (r : Int32 × sm_H) => res = (some (.int r.1), r.2)) r) : Ex (P_G L xs) (RUN L xs d) (sm_lk P_t171) 0 0 [some (.ref 55), none] [] h res := by
  unfold F_171_0 at hf
  refine Ex.seg 2 (pc' := 4) (lc' := [some (.ref 55), none]) (st' := [.ref 52]) (h' := h) (sg1 rfl rfl (sg1 rfl rfl rfl)) ?_
  obtain ⟨q1, e_q1, hf⟩ := bnd hf
  refine Ex.callV (a := 52) (As := []) (r := []) (v := some (.int q1.1)) (h' := q1.2) rfl rfl (by decide) rfl (Nat.le_of_ble_eq_true rfl) rfl (E_249 (Nat.le_trans (by decide) hd) e_q1) rfl ?_
  refine Ex.seg 3 (pc' := 11) (lc' := [some (.ref 55), some (.int q1.1)]) (st' := [.int 6, .int q1.1]) (h' := q1.2) (sg1 rfl rfl (sg1 rfl rfl (sg1 rfl rfl rfl))) ?_
  refine Ex.icmp rfl rfl (fun (c0 : ¬ (q1.1 = 6)) => ?_) (fun (c0 : ¬ ¬ (q1.1 = 6)) => ?_)
  · rw [if_neg c0] at hf
    exact Ex.weak (sm_le_n (sm_le_s sm_le_nil)) (B_171_26 hd  hf hs)
  · rw [if_pos (Classical.not_not.mp c0)] at hf
    refine Ex.seg 3 (pc' := 19) (lc' := [some (.ref 55), some (.int q1.1)]) (st' := [.ref 52, .ref 55]) (h' := q1.2) (sg1 rfl rfl (sg1 rfl rfl (sg1 rfl rfl rfl))) ?_
    obtain ⟨q2, e_q2, hf⟩ := bnd hf
    refine Ex.callV (a := 52) (As := []) (r := [.ref 55]) (v := some (.int q2.1)) (h' := q2.2) rfl rfl (by decide) rfl (Nat.le_of_ble_eq_true rfl) rfl (E_244 (Nat.le_trans (by decide) hd) e_q2) rfl ?_
    obtain ⟨q3, e_q3, hf⟩ := bnd hf
    refine Ex.callV (a := 55) (As := [.int q2.1]) (r := []) (v := some (.int q3.1)) (h' := q3.2) rfl rfl (by decide) rfl (Nat.le_of_ble_eq_true rfl) rfl (E_170 (Nat.le_trans (by decide) hd) e_q3) rfl ?_
    refine Ex.seg 1 (pc' := 26) (lc' := [some (.ref 55), some (.int q1.1)]) (st' := []) (h' := q3.2) (sg1 rfl rfl rfl) ?_
    exact Ex.weak (sm_le_n (sm_le_s sm_le_nil)) (B_171_26 hd  hf hs)
theorem E_171 {L : Nat} {xs : Nat → Int32} {d : Nat} (hd : 3 ≤ d)  {h : sm_H} {r : Int32 × sm_H} (hf : F_171  h = some r) : RUN L xs d 171 [.ref 55] h (some (.int r.1), r.2) := by
  obtain ⟨d, rfl⟩ : ∃ e, d = e + 1 := ⟨d - 1, by omega⟩
  exact ⟨Nat.le_of_ble_eq_true rfl, B_171_0 (by omega) hf rfl⟩
theorem B_172_47 {L : Nat} {xs : Nat → Int32} {d : Nat} (hd : 2 ≤ d) {res : Option Value × sm_H} {z0 : Int32}  {h : sm_H} {r : (Int32 × sm_H)} (hf : F_172_47 z0 h = some r) (hs : (fun (r : Int32 × sm_H) => res = (some (.int r.1), r.2)) r) : Ex (P_G L xs) (RUN L xs d) (sm_lk P_t172) 3 47 [none, none, none] [.int z0] h res := by
  unfold F_172_47 at hf
  rcases Classical.em (z0 = 0 ∨ z0 = 1) with c0 | c0
  · rw [if_pos c0] at hf
    obtain rfl := Option.some.inj hf
    exact Ex.iret rfl rfl (fun _ => c0) hs
  · rw [if_neg c0] at hf
    cases hf
theorem B_172_35 {L : Nat} {xs : Nat → Int32} {d : Nat} (hd : 2 ≤ d) {res : Option Value × sm_H}   {h : sm_H} {r : (Int32 × sm_H)} (hf : F_172_35  h = some r) (hs : (fun (r : Int32 × sm_H) => res = (some (.int r.1), r.2)) r) : Ex (P_G L xs) (RUN L xs d) (sm_lk P_t172) 3 35 [some (.ref 55), none, none] [] h res := by
  unfold F_172_35 at hf
  refine Ex.seg 2 (pc' := 39) (lc' := [some (.ref 55), none, none]) (st' := [.int (h.1 55 17)]) (h' := h) (sg1 rfl rfl (sg1 rfl rfl rfl)) ?_
  refine Ex.ifc rfl rfl (fun (c0 : ¬ ((h.1 55 17) = 0)) => ?_) (fun (c0 : ¬ ¬ ((h.1 55 17) = 0)) => ?_)
  · rw [if_neg c0] at hf
    refine Ex.seg 1 (pc' := 47) (lc' := [some (.ref 55), none, none]) (st' := [.int 0]) (h' := h) (sg1 rfl rfl rfl) ?_
    exact Ex.weak (sm_le_n (sm_le_s (sm_le_s sm_le_nil))) (B_172_47 hd  hf hs)
  · rw [if_pos (Classical.not_not.mp c0)] at hf
    refine Ex.seg 2 (pc' := 47) (lc' := [some (.ref 55), none, none]) (st' := [.int 1]) (h' := h) (sg1 rfl rfl (sg1 rfl rfl rfl)) ?_
    exact Ex.weak (sm_le_n (sm_le_s (sm_le_s sm_le_nil))) (B_172_47 hd  hf hs)
theorem B_172_31 {L : Nat} {xs : Nat → Int32} {d : Nat} (hd : 2 ≤ d) {res : Option Value × sm_H} {z1 : Int32}  {h : sm_H} {r : (Int32 × sm_H)} (hf : F_172_31 z1 h = some r) (hs : (fun (r : Int32 × sm_H) => res = (some (.int r.1), r.2)) r) : Ex (P_G L xs) (RUN L xs d) (sm_lk P_t172) 3 31 [some (.ref 55), none, none] [.int z1, .ref 55] h res := by
  unfold F_172_31 at hf
  obtain ⟨q1, e_q1, hf⟩ := bnd hf
  refine Ex.callV (a := 55) (As := [.int z1]) (r := []) (v := some (.int q1.1)) (h' := q1.2) rfl rfl (by decide) rfl (Nat.le_of_ble_eq_true rfl) rfl (E_170 (Nat.le_trans (by decide) hd) e_q1) rfl ?_
  refine Ex.seg 1 (pc' := 35) (lc' := [some (.ref 55), none, none]) (st' := []) (h' := q1.2) (sg1 rfl rfl rfl) ?_
  exact Ex.weak (sm_le_s (sm_le_s (sm_le_s sm_le_nil))) (B_172_35 hd  hf hs)
theorem B_172_0 {L : Nat} {xs : Nat → Int32} {d : Nat} (hd : 2 ≤ d) {res : Option Value × sm_H} {x1 : Int32}  {h : sm_H} {r : (Int32 × sm_H)} (hf : F_172_0 x1 h = some r) (hs : (fun (r : Int32 × sm_H) => res = (some (.int r.1), r.2)) r) : Ex (P_G L xs) (RUN L xs d) (sm_lk P_t172) 3 0 [some (.ref 55), some (.int x1), none] [] h res := by
  unfold F_172_0 at hf
  refine Ex.seg 2 (pc' := 4) (lc' := [some (.ref 55), some (.int x1), none]) (st' := [.ref 52]) (h' := h) (sg1 rfl rfl (sg1 rfl rfl rfl)) ?_
  obtain ⟨q2, e_q2, hf⟩ := bnd hf
  refine Ex.callV (a := 52) (As := []) (r := []) (v := some (.int q2.1)) (h' := q2.2) rfl rfl (by decide) rfl (Nat.le_of_ble_eq_true rfl) rfl (E_249 (Nat.le_trans (by decide) hd) e_q2) rfl ?_
  refine Ex.seg 3 (pc' := 10) (lc' := [some (.ref 55), some (.int x1), some (.int q2.1)]) (st' := [.int x1, .int q2.1]) (h' := q2.2) (sg1 rfl rfl (sg1 rfl rfl (sg1 rfl rfl rfl))) ?_
  refine Ex.icmp rfl rfl (fun (c0 : q2.1 = x1) => ?_) (fun (c0 : ¬ (q2.1 = x1)) => ?_)
  · rw [if_pos c0] at hf
    exact Ex.weak (sm_le_s (sm_le_n (sm_le_n sm_le_nil))) (B_172_35 hd  hf hs)
  · rw [if_neg c0] at hf
    refine Ex.seg 3 (pc' := 17) (lc' := [some (.ref 55), some (.int x1), some (.int q2.1)]) (st' := [.int 6, .int q2.1, .ref 55]) (h' := q2.2) (sg1 rfl rfl (sg1 rfl rfl (sg1 rfl rfl rfl))) ?_
    refine Ex.icmp rfl rfl (fun (c0 : ¬ (q2.1 = 6)) => ?_) (fun (c0 : ¬ ¬ (q2.1 = 6)) => ?_)
    · rw [if_neg c0] at hf
      refine Ex.seg 1 (pc' := 31) (lc' := [some (.ref 55), some (.int x1), some (.int q2.1)]) (st' := [.int 4, .ref 55]) (h' := q2.2) (sg1 rfl rfl rfl) ?_
      exact Ex.weak (sm_le_s (sm_le_n (sm_le_n sm_le_nil))) (B_172_31 hd  hf hs)
    · rw [if_pos (Classical.not_not.mp c0)] at hf
      refine Ex.seg 2 (pc' := 24) (lc' := [some (.ref 55), some (.int x1), some (.int q2.1)]) (st' := [.ref 52, .ref 55]) (h' := q2.2) (sg1 rfl rfl (sg1 rfl rfl rfl)) ?_
      obtain ⟨q3, e_q3, hf⟩ := bnd hf
      refine Ex.callV (a := 52) (As := []) (r := [.ref 55]) (v := some (.int q3.1)) (h' := q3.2) rfl rfl (by decide) rfl (Nat.le_of_ble_eq_true rfl) rfl (E_244 (Nat.le_trans (by decide) hd) e_q3) rfl ?_
      refine Ex.seg 1 (pc' := 31) (lc' := [some (.ref 55), some (.int x1), some (.int q2.1)]) (st' := [.int q3.1, .ref 55]) (h' := q3.2) (sg1 rfl rfl rfl) ?_
      exact Ex.weak (sm_le_s (sm_le_n (sm_le_n sm_le_nil))) (B_172_31 hd  hf hs)
theorem E_172 {L : Nat} {xs : Nat → Int32} {d : Nat} (hd : 3 ≤ d) {x1 : Int32} {h : sm_H} {r : Int32 × sm_H} (hf : F_172 x1 h = some r) : RUN L xs d 172 [.ref 55, .int x1] h (some (.int r.1), r.2) := by
  obtain ⟨d, rfl⟩ : ∃ e, d = e + 1 := ⟨d - 1, by omega⟩
  exact ⟨Nat.le_of_ble_eq_true rfl, B_172_0 (by omega) hf rfl⟩
theorem B_174_20 {L : Nat} {xs : Nat → Int32} {d : Nat} (hd : 3 ≤ d) {res : Option Value × sm_H} {z0 : Int32}  {h : sm_H} {r : (Int32 × sm_H)} (hf : F_174_20 z0 h = some r) (hs : (fun (r : Int32 × sm_H) => res = (some (.int r.1), r.2)) r) : Ex (P_G L xs) (RUN L xs d) (sm_lk P_t174) 3 20 [none] [.int z0] h res := by
  unfold F_174_20 at hf
  rcases Classical.em (z0 = 0 ∨ z0 = 1) with c0 | c0
  · rw [if_pos c0] at hf
    obtain rfl := Option.some.inj hf
    exact Ex.iret rfl rfl (fun _ => c0) hs
  · rw [if_neg c0] at hf
    cases hf
theorem B_174_19 {L : Nat} {xs : Nat → Int32} {d : Nat} (hd : 3 ≤ d) {res : Option Value × sm_H}   {h : sm_H} {r : (Int32 × sm_H)} (hf : F_174_19  h = some r) (hs : (fun (r : Int32 × sm_H) => res = (some (.int r.1), r.2)) r) : Ex (P_G L xs) (RUN L xs d) (sm_lk P_t174) 3 19 [none] [] h res := by
  unfold F_174_19 at hf
  refine Ex.seg 1 (pc' := 20) (lc' := [none]) (st' := [.int 0]) (h' := h) (sg1 rfl rfl rfl) ?_
  exact Ex.weak (sm_le_s sm_le_nil) (B_174_20 hd  hf hs)
theorem B_174_0 {L : Nat} {xs : Nat → Int32} {d : Nat} (hd : 3 ≤ d) {res : Option Value × sm_H}   {h : sm_H} {r : (Int32 × sm_H)} (hf : F_174_0  h = some r) (hs : (fun (r : Int32 × sm_H) => res = (some (.int r.1), r.2)) r) : Ex (P_G L xs) (RUN L xs d) (sm_lk P_t174) 3 0 [some (.ref 55)] [] h res := by
  unfold F_174_0 at hf
  refine Ex.seg 2 (pc' := 2) (lc' := [some (.ref 55)]) (st' := [.int 1, .ref 55]) (h' := h) (sg1 rfl rfl (sg1 rfl rfl rfl)) ?_
  obtain ⟨q1, e_q1, hf⟩ := bnd hf
  refine Ex.callV (a := 55) (As := [.int 1]) (r := []) (v := some (.int q1.1)) (h' := q1.2) rfl rfl (by decide) rfl (Nat.le_of_ble_eq_true rfl) rfl (E_172 (Nat.le_trans (by decide) hd) e_q1) rfl ?_
  refine Ex.ifc rfl rfl (fun (c0 : q1.1 = 0) => ?_) (fun (c0 : ¬ (q1.1 = 0)) => ?_)
  · rw [if_pos c0] at hf
    exact Ex.weak (sm_le_n sm_le_nil) (B_174_19 hd  hf hs)
  · rw [if_neg c0] at hf
    refine Ex.seg 1 (pc' := 9) (lc' := [some (.ref 55)]) (st' := [.ref 55]) (h' := q1.2) (sg1 rfl rfl rfl) ?_
    obtain ⟨q2, e_q2, hf⟩ := bnd hf
    refine Ex.callV (a := 55) (As := []) (r := []) (v := some (.int q2.1)) (h' := q2.2) rfl rfl (by decide) rfl (Nat.le_of_ble_eq_true rfl) rfl (E_173 (Nat.le_trans (by decide) hd) e_q2) rfl ?_
    refine Ex.ifc rfl rfl (fun (c0 : q2.1 = 0) => ?_) (fun (c0 : ¬ (q2.1 = 0)) => ?_)
    · rw [if_pos c0] at hf
      exact Ex.weak (sm_le_n sm_le_nil) (B_174_19 hd  hf hs)
    · rw [if_neg c0] at hf
      refine Ex.seg 2 (pc' := 20) (lc' := [some (.ref 55)]) (st' := [.int 1]) (h' := q2.2) (sg1 rfl rfl (sg1 rfl rfl rfl)) ?_
      exact Ex.weak (sm_le_n sm_le_nil) (B_174_20 hd  hf hs)
theorem E_174 {L : Nat} {xs : Nat → Int32} {d : Nat} (hd : 4 ≤ d)  {h : sm_H} {r : Int32 × sm_H} (hf : F_174  h = some r) : RUN L xs d 174 [.ref 55] h (some (.int r.1), r.2) := by
  obtain ⟨d, rfl⟩ : ∃ e, d = e + 1 := ⟨d - 1, by omega⟩
  exact ⟨Nat.le_of_ble_eq_true rfl, B_174_0 (by omega) hf rfl⟩
theorem B_175_0 {L : Nat} {xs : Nat → Int32} {d : Nat} (hd : 3 ≤ d) {res : Option Value × sm_H}   {h : sm_H} {r : (Int32 × sm_H)} (hf : F_175_0  h = some r) (hs : (fun (r : Int32 × sm_H) => res = (some (.int r.1), r.2)) r) : Ex (P_G L xs) (RUN L xs d) (sm_lk P_t175) 3 0 [some (.ref 55)] [] h res := by
  unfold F_175_0 at hf
  refine Ex.seg 6 (pc' := 10) (lc' := [some (.ref 55)]) (st' := []) (h' := (sm_wI h 55 16 ((h.1 55 16) - 1))) (sg1 rfl rfl (sg1 rfl rfl (sg1 rfl rfl (sg1 rfl rfl (sg1 rfl rfl (sg1 rfl rfl rfl)))))) ?_
  obtain ⟨h1, e_h1, hf⟩ := bnd hf
  rw [Option.some.inj e_h1]
  refine Ex.seg 2 (pc' := 12) (lc' := [some (.ref 55)]) (st' := [.int 2, .ref 55]) (h' := h1) (sg1 rfl rfl (sg1 rfl rfl rfl)) ?_
  obtain ⟨q2, e_q2, hf⟩ := bnd hf
  refine Ex.callV (a := 55) (As := [.int 2]) (r := []) (v := some (.int q2.1)) (h' := q2.2) rfl rfl (by decide) rfl (Nat.le_of_ble_eq_true rfl) rfl (E_172 (Nat.le_trans (by decide) hd) e_q2) rfl ?_
  rcases Classical.em (q2.1 = 0 ∨ q2.1 = 1) with c0 | c0
  · rw [if_pos c0] at hf
    obtain rfl := Option.some.inj hf
    exact Ex.iret rfl rfl (fun _ => c0) hs
  · rw [if_neg c0] at hf
    cases hf
theorem E_175 {L : Nat} {xs : Nat → Int32} {d : Nat} (hd : 4 ≤ d)  {h : sm_H} {r : Int32 × sm_H} (hf : F_175  h = some r) : RUN L xs d 175 [.ref 55] h (some (.int r.1), r.2) := by
  obtain ⟨d, rfl⟩ : ∃ e, d = e + 1 := ⟨d - 1, by omega⟩
  exact ⟨Nat.le_of_ble_eq_true rfl, B_175_0 (by omega) hf rfl⟩
theorem B_176_57 {L : Nat} {xs : Nat → Int32} {d : Nat} (hd : 3 ≤ d) {res : Option Value × sm_H} {S1 : (Int32 × sm_H) → Prop} (hS1 : ∀ s, S1 s → Ex (P_G L xs) (RUN L xs d) (sm_lk P_t176) 0 20 [some (.ref 55), none, some (.int s.1)] [] s.2 res) {y2 : Int32}  {h : sm_H} {r : ((Int32 × sm_H) ⊕ (Int32 × sm_H))} (hf : F_176_57 y2 h = some r) (hs : (Sum.elim S1 (fun (r : Int32 × sm_H) => res = (some (.int r.1), r.2))) r) : Ex (P_G L xs) (RUN L xs d) (sm_lk P_t176) 0 57 [some (.ref 55), none, some (.int y2)] [] h res := by
  unfold F_176_57 at hf
  refine Ex.seg 1 (pc' := 60) (lc' := [some (.ref 55), none, some (.int (y2 + 1))]) (st' := []) (h' := h) (sg1 rfl rfl rfl) ?_
  obtain ⟨v1, e_v1, hf⟩ := bnd hf
  rw [Option.some.inj e_v1]
  refine Ex.seg 1 (pc' := 20) (lc' := [some (.ref 55), none, some (.int v1)]) (st' := []) (h' := h) (sg1 rfl rfl rfl) ?_
  obtain rfl := Option.some.inj hf
  exact Ex.weak (sm_le_s (sm_le_s (sm_le_s sm_le_nil))) (hS1 _ hs)
theorem B_176_20B {L : Nat} {xs : Nat → Int32} {d : Nat} (hd : 3 ≤ d) {res : Option Value × sm_H} {S1 : (Int32 × sm_H) → Prop} (hS1 : ∀ s, S1 s → Ex (P_G L xs) (RUN L xs d) (sm_lk P_t176) 0 20 [some (.ref 55), none, some (.int s.1)] [] s.2 res) {s : (Int32 × sm_H)}  {r : ((Int32 × sm_H) ⊕ (Int32 × sm_H))} (hf : F_176_20B s = some r) (hs : (Sum.elim S1 (fun (r : Int32 × sm_H) => res = (some (.int r.1), r.2))) r) : Ex (P_G L xs) (RUN L xs d) (sm_lk P_t176) 0 20 [some (.ref 55), none, some (.int s.1)] [] s.2 res := by
  unfold F_176_20B at hf
  refine Ex.seg 2 (pc' := 24) (lc' := [some (.ref 55), none, some (.int s.1)]) (st' := [.ref 2000001, .int s.1]) (h' := s.2) (sg1 rfl rfl (sg1 rfl rfl rfl)) ?_
  obtain ⟨v2, e_v2, hf⟩ := bnd hf
  refine Ex.alen e_v2 rfl rfl ?_
  refine Ex.icmp rfl rfl (fun (c0 : v2 ≤ s.1) => ?_) (fun (c0 : ¬ (v2 ≤ s.1)) => ?_)
  · rw [if_pos c0] at hf
    refine Ex.seg 2 (pc' := 66) (lc' := [some (.ref 55), none, some (.int s.1)]) (st' := [.int 6, .ref 55]) (h' := s.2) (sg1 rfl rfl (sg1 rfl rfl rfl)) ?_
    obtain ⟨q3, e_q3, hf⟩ := bnd hf
    refine Ex.callV (a := 55) (As := [.int 6]) (r := []) (v := some (.int q3.1)) (h' := q3.2) rfl rfl (by decide) rfl (Nat.le_of_ble_eq_true rfl) rfl (E_170 (Nat.le_trans (by decide) hd) e_q3) rfl ?_
    obtain rfl := Option.some.inj hf
    exact Ex.iret rfl rfl (fun c0 => by cases c0) hs
  · rw [if_neg c0] at hf
    refine Ex.seg 2 (pc' := 32) (lc' := [some (.ref 55), none, some (.int s.1)]) (st' := [.int s.1, .ref 2000001]) (h' := s.2) (sg1 rfl rfl (sg1 rfl rfl rfl)) ?_
    obtain ⟨v4, e_v4, hf⟩ := bnd hf
    refine Ex.lald e_v4 rfl rfl ?_
    refine Ex.seg 2 (pc' := 37) (lc' := [some (.ref 55), none, some (.int s.1)]) (st' := [.ref 52, .long v4]) (h' := s.2) (sg1 rfl rfl (sg1 rfl rfl rfl)) ?_
    obtain ⟨q5, e_q5, hf⟩ := bnd hf
    refine Ex.callV (a := 52) (As := []) (r := [.long v4]) (v := some (.long q5.1)) (h' := q5.2) rfl rfl (by decide) rfl (Nat.le_of_ble_eq_true rfl) rfl (E_248 (Nat.le_trans (by decide) hd) e_q5) rfl ?_
    refine Ex.seg 1 (pc' := 41) (lc' := [some (.ref 55), none, some (.int s.1)]) (st' := [.int (lg_cmp v4 q5.1)]) (h' := q5.2) (sg1 rfl rfl rfl) ?_
    refine Ex.ifc rfl rfl (fun (c0 : ¬ ((lg_cmp v4 q5.1) = 0)) => ?_) (fun (c0 : ¬ ¬ ((lg_cmp v4 q5.1) = 0)) => ?_)
    · rw [if_neg c0] at hf
      exact Ex.weak (sm_le_s (sm_le_s (sm_le_s sm_le_nil))) (B_176_57 hd hS1 hf hs)
    · rw [if_pos (Classical.not_not.mp c0)] at hf
      refine Ex.seg 3 (pc' := 49) (lc' := [some (.ref 55), none, some (.int s.1)]) (st' := [.int s.1, .ref 1]) (h' := q5.2) (sg1 rfl rfl (sg1 rfl rfl (sg1 rfl rfl rfl))) ?_
      obtain ⟨q6, e_q6, hf⟩ := bnd hf
      refine Ex.callV (a := 1) (As := [.int s.1]) (r := []) (v := some (.int q6.1)) (h' := q6.2) rfl rfl (by decide) rfl (Nat.le_of_ble_eq_true rfl) rfl (E_53 (Nat.le_trans (by decide) hd) e_q6) rfl ?_
      refine Ex.ifc rfl rfl (fun (c0 : q6.1 = 0) => ?_) (fun (c0 : ¬ (q6.1 = 0)) => ?_)
      · rw [if_pos c0] at hf
        exact Ex.weak (sm_le_s (sm_le_s (sm_le_s sm_le_nil))) (B_176_57 hd hS1 hf hs)
      · rw [if_neg c0] at hf
        refine Ex.seg 1 (pc' := 56) (lc' := [some (.ref 55), none, some (.int s.1)]) (st' := [.int s.1]) (h' := q6.2) (sg1 rfl rfl rfl) ?_
        obtain rfl := Option.some.inj hf
        exact Ex.iret rfl rfl (fun c0 => by cases c0) hs
theorem B_176_20 {L : Nat} {xs : Nat → Int32} {d : Nat} (hd : 3 ≤ d) {res : Option Value × sm_H} {y2 : Int32}  {h : sm_H} {r : (Int32 × sm_H)} (hf : F_176_20 y2 h = some r) (hs : (fun (r : Int32 × sm_H) => res = (some (.int r.1), r.2)) r) : Ex (P_G L xs) (RUN L xs d) (sm_lk P_t176) 0 20 [some (.ref 55), none, some (.int y2)] [] h res := by
  unfold F_176_20 at hf
  exact lp_ok (P := fun (s : (Int32 × sm_H)) => Ex (P_G L xs) (RUN L xs d) (sm_lk P_t176) 0 20 [some (.ref 55), none, some (.int s.1)] [] s.2 res) (S := (fun (r : Int32 × sm_H) => res = (some (.int r.1), r.2))) (fun s x hx hsx => by
    intros
    exact B_176_20B hd  (fun _ q => q) hx hsx) 1000000 _ r hf hs
theorem B_176_19 {L : Nat} {xs : Nat → Int32} {d : Nat} (hd : 3 ≤ d) {res : Option Value × sm_H} {z0 : Int32}  {h : sm_H} {r : (Int32 × sm_H)} (hf : F_176_19 z0 h = some r) (hs : (fun (r : Int32 × sm_H) => res = (some (.int r.1), r.2)) r) : Ex (P_G L xs) (RUN L xs d) (sm_lk P_t176) 0 19 [some (.ref 55), none, none] [.int z0] h res := by
  unfold F_176_19 at hf
  refine Ex.seg 1 (pc' := 20) (lc' := [some (.ref 55), none, some (.int z0)]) (st' := []) (h' := h) (sg1 rfl rfl rfl) ?_
  exact Ex.weak (sm_le_s (sm_le_s (sm_le_s sm_le_nil))) (B_176_20 hd  hf hs)
theorem B_176_0 {L : Nat} {xs : Nat → Int32} {d : Nat} (hd : 3 ≤ d) {res : Option Value × sm_H} {x1 : Int32}  {h : sm_H} {r : (Int32 × sm_H)} (hf : F_176_0 x1 h = some r) (hs : (fun (r : Int32 × sm_H) => res = (some (.int r.1), r.2)) r) : Ex (P_G L xs) (RUN L xs d) (sm_lk P_t176) 0 0 [some (.ref 55), some (.int x1), none] [] h res := by
  unfold F_176_0 at hf
  refine Ex.seg 2 (pc' := 2) (lc' := [some (.ref 55), some (.int x1), none]) (st' := [.int 4, .ref 55]) (h' := h) (sg1 rfl rfl (sg1 rfl rfl rfl)) ?_
  obtain ⟨q7, e_q7, hf⟩ := bnd hf
  refine Ex.callV (a := 55) (As := [.int 4]) (r := []) (v := some (.int q7.1)) (h' := q7.2) rfl rfl (by decide) rfl (Nat.le_of_ble_eq_true rfl) rfl (E_172 (Nat.le_trans (by decide) hd) e_q7) rfl ?_
  refine Ex.ifc rfl rfl (fun (c0 : ¬ (q7.1 = 0)) => ?_) (fun (c0 : ¬ ¬ (q7.1 = 0)) => ?_)
  · rw [if_neg c0] at hf
    refine Ex.seg 1 (pc' := 11) (lc' := [some (.ref 55), some (.int x1), none]) (st' := [.int x1]) (h' := q7.2) (sg1 rfl rfl rfl) ?_
    refine Ex.ifc rfl rfl (fun (c0 : x1 = 0) => ?_) (fun (c0 : ¬ (x1 = 0)) => ?_)
    · rw [if_pos c0] at hf
      refine Ex.seg 1 (pc' := 19) (lc' := [some (.ref 55), some (.int x1), none]) (st' := [.int 1]) (h' := q7.2) (sg1 rfl rfl rfl) ?_
      exact Ex.weak (sm_le_s (sm_le_n (sm_le_s sm_le_nil))) (B_176_19 hd  hf hs)
    · rw [if_neg c0] at hf
      refine Ex.seg 2 (pc' := 19) (lc' := [some (.ref 55), some (.int x1), none]) (st' := [.int 0]) (h' := q7.2) (sg1 rfl rfl (sg1 rfl rfl rfl)) ?_
      exact Ex.weak (sm_le_s (sm_le_n (sm_le_s sm_le_nil))) (B_176_19 hd  hf hs)
  · rw [if_pos (Classical.not_not.mp c0)] at hf
    refine Ex.seg 1 (pc' := 9) (lc' := [some (.ref 55), some (.int x1), none]) (st' := [.int (-1)]) (h' := q7.2) (sg1 rfl rfl rfl) ?_
    obtain rfl := Option.some.inj hf
    exact Ex.iret rfl rfl (fun c0 => by cases c0) hs
theorem E_176 {L : Nat} {xs : Nat → Int32} {d : Nat} (hd : 4 ≤ d) {x1 : Int32} {h : sm_H} {r : Int32 × sm_H} (hf : F_176 x1 h = some r) : RUN L xs d 176 [.ref 55, .int x1] h (some (.int r.1), r.2) := by
  obtain ⟨d, rfl⟩ : ∃ e, d = e + 1 := ⟨d - 1, by omega⟩
  exact ⟨Nat.le_of_ble_eq_true rfl, B_176_0 (by omega) hf rfl⟩
theorem B_177_92 {L : Nat} {xs : Nat → Int32} {d : Nat} (hd : 3 ≤ d) {res : Option Value × sm_H}   {h : sm_H} {r : (Int32 × sm_H)} (hf : F_177_92  h = some r) (hs : (fun (r : Int32 × sm_H) => res = (some (.int r.1), r.2)) r) : Ex (P_G L xs) (RUN L xs d) (sm_lk P_t177) 3 92 [some (.ref 55)] [] h res := by
  unfold F_177_92 at hf
  refine Ex.seg 2 (pc' := 95) (lc' := [some (.ref 55)]) (st' := [.int 6, .ref 55]) (h' := h) (sg1 rfl rfl (sg1 rfl rfl rfl)) ?_
  obtain ⟨q1, e_q1, hf⟩ := bnd hf
  refine Ex.callV (a := 55) (As := [.int 6]) (r := []) (v := some (.int q1.1)) (h' := q1.2) rfl rfl (by decide) rfl (Nat.le_of_ble_eq_true rfl) rfl (E_170 (Nat.le_trans (by decide) hd) e_q1) rfl ?_
  refine Ex.seg 2 (pc' := 100) (lc' := [some (.ref 55)]) (st' := [.int 0]) (h' := q1.2) (sg1 rfl rfl (sg1 rfl rfl rfl)) ?_
  obtain rfl := Option.some.inj hf
  exact Ex.iret rfl rfl (fun _ => by decide) hs
theorem B_177_34 {L : Nat} {xs : Nat → Int32} {d : Nat} (hd : 3 ≤ d) {res : Option Value × sm_H}   {h : sm_H} {r : (Int32 × sm_H)} (hf : F_177_34  h = some r) (hs : (fun (r : Int32 × sm_H) => res = (some (.int r.1), r.2)) r) : Ex (P_G L xs) (RUN L xs d) (sm_lk P_t177) 3 34 [none] [] h res := by
  unfold F_177_34 at hf
  refine Ex.seg 1 (pc' := 35) (lc' := [none]) (st' := [.int 0]) (h' := h) (sg1 rfl rfl rfl) ?_
  obtain rfl := Option.some.inj hf
  exact Ex.iret rfl rfl (fun _ => by decide) hs
theorem B_177_0 {L : Nat} {xs : Nat → Int32} {d : Nat} (hd : 3 ≤ d) {res : Option Value × sm_H}   {h : sm_H} {r : (Int32 × sm_H)} (hf : F_177_0  h = some r) (hs : (fun (r : Int32 × sm_H) => res = (some (.int r.1), r.2)) r) : Ex (P_G L xs) (RUN L xs d) (sm_lk P_t177) 3 0 [some (.ref 55)] [] h res := by
  unfold F_177_0 at hf
  refine Ex.seg 2 (pc' := 4) (lc' := [some (.ref 55)]) (st' := [.ref 52]) (h' := h) (sg1 rfl rfl (sg1 rfl rfl rfl)) ?_
  obtain ⟨q2, e_q2, hf⟩ := bnd hf
  refine Ex.callV (a := 52) (As := []) (r := []) (v := some (.int q2.1)) (h' := q2.2) rfl rfl (by decide) rfl (Nat.le_of_ble_eq_true rfl) rfl (E_242 (Nat.le_trans (by decide) hd) e_q2) rfl ?_
  refine Ex.seg 1 (pc' := 8) (lc' := [some (.ref 55)]) (st' := [.int 1, .int q2.1]) (h' := q2.2) (sg1 rfl rfl rfl) ?_
  refine Ex.icmp rfl rfl (fun (c0 : q2.1 = 1) => ?_) (fun (c0 : ¬ (q2.1 = 1)) => ?_)
  · rw [if_pos c0] at hf
    refine Ex.seg 1 (pc' := 20) (lc' := [some (.ref 55)]) (st' := [.ref 55]) (h' := q2.2) (sg1 rfl rfl rfl) ?_
    obtain ⟨q3, e_q3, hf⟩ := bnd hf
    refine Ex.callV (a := 55) (As := []) (r := []) (v := some (.int q3.1)) (h' := q3.2) rfl rfl (by decide) rfl (Nat.le_of_ble_eq_true rfl) rfl (E_173 (Nat.le_trans (by decide) hd) e_q3) rfl ?_
    refine Ex.ifc rfl rfl (fun (c0 : q3.1 = 0) => ?_) (fun (c0 : ¬ (q3.1 = 0)) => ?_)
    · rw [if_pos c0] at hf
      exact Ex.weak (sm_le_n sm_le_nil) (B_177_34 hd  hf hs)
    · rw [if_neg c0] at hf
      refine Ex.seg 2 (pc' := 28) (lc' := [some (.ref 55)]) (st' := [.int 4, .ref 55]) (h' := q3.2) (sg1 rfl rfl (sg1 rfl rfl rfl)) ?_
      obtain ⟨q4, e_q4, hf⟩ := bnd hf
      refine Ex.callV (a := 55) (As := [.int 4]) (r := []) (v := some (.int q4.1)) (h' := q4.2) rfl rfl (by decide) rfl (Nat.le_of_ble_eq_true rfl) rfl (E_172 (Nat.le_trans (by decide) hd) e_q4) rfl ?_
      refine Ex.ifc rfl rfl (fun (c0 : ¬ (q4.1 = 0)) => ?_) (fun (c0 : ¬ ¬ (q4.1 = 0)) => ?_)
      · rw [if_neg c0] at hf
        refine Ex.seg 2 (pc' := 40) (lc' := [some (.ref 55)]) (st' := [.ref 52]) (h' := q4.2) (sg1 rfl rfl (sg1 rfl rfl rfl)) ?_
        obtain ⟨q5, e_q5, hf⟩ := bnd hf
        refine Ex.callV (a := 52) (As := []) (r := []) (v := some (.long q5.1)) (h' := q5.2) rfl rfl (by decide) rfl (Nat.le_of_ble_eq_true rfl) rfl (E_248 (Nat.le_trans (by decide) hd) e_q5) rfl ?_
        refine Ex.seg 2 (pc' := 47) (lc' := [some (.ref 55)]) (st' := [.int (lg_cmp q5.1 6579558)]) (h' := q5.2) (sg1 rfl rfl (sg1 rfl rfl rfl)) ?_
        refine Ex.ifc rfl rfl (fun (c0 : (lg_cmp q5.1 6579558) = 0) => ?_) (fun (c0 : ¬ ((lg_cmp q5.1 6579558) = 0)) => ?_)
        · rw [if_pos c0] at hf
          refine Ex.seg 2 (pc' := 60) (lc' := [some (.ref 55)]) (st' := [.int 4, .ref 55]) (h' := q5.2) (sg1 rfl rfl (sg1 rfl rfl rfl)) ?_
          obtain ⟨q6, e_q6, hf⟩ := bnd hf
          refine Ex.callV (a := 55) (As := [.int 4]) (r := []) (v := some (.int q6.1)) (h' := q6.2) rfl rfl (by decide) rfl (Nat.le_of_ble_eq_true rfl) rfl (E_172 (Nat.le_trans (by decide) hd) e_q6) rfl ?_
          refine Ex.ifc rfl rfl (fun (c0 : ¬ (q6.1 = 0)) => ?_) (fun (c0 : ¬ ¬ (q6.1 = 0)) => ?_)
          · rw [if_neg c0] at hf
            refine Ex.seg 3 (pc' := 74) (lc' := [some (.ref 55)]) (st' := [.int 60, .int (q6.2.1 55 15)]) (h' := q6.2) (sg1 rfl rfl (sg1 rfl rfl (sg1 rfl rfl rfl))) ?_
            refine Ex.icmp rfl rfl (fun (c0 : 60 ≤ (q6.2.1 55 15)) => ?_) (fun (c0 : ¬ (60 ≤ (q6.2.1 55 15))) => ?_)
            · rw [if_pos c0] at hf
              exact Ex.weak (sm_le_s sm_le_nil) (B_177_92 hd  hf hs)
            · rw [if_neg c0] at hf
              refine Ex.seg 3 (pc' := 82) (lc' := [some (.ref 55)]) (st' := [.ref 52, .ref 55]) (h' := q6.2) (sg1 rfl rfl (sg1 rfl rfl (sg1 rfl rfl rfl))) ?_
              obtain ⟨q7, e_q7, hf⟩ := bnd hf
              refine Ex.callV (a := 52) (As := []) (r := [.ref 55]) (v := some (.long q7.1)) (h' := q7.2) rfl rfl (by decide) rfl (Nat.le_of_ble_eq_true rfl) rfl (E_248 (Nat.le_trans (by decide) hd) e_q7) rfl ?_
              obtain ⟨q8, e_q8, hf⟩ := bnd hf
              refine Ex.callV (a := 55) (As := [.long q7.1]) (r := []) (v := some (.int q8.1)) (h' := q8.2) rfl rfl (by decide) rfl (Nat.le_of_ble_eq_true rfl) rfl (E_166 (Nat.le_trans (by decide) hd) e_q8) rfl ?_
              refine Ex.seg 1 (pc' := 89) (lc' := [some (.ref 55)]) (st' := [.int (-1), .int q8.1]) (h' := q8.2) (sg1 rfl rfl rfl) ?_
              refine Ex.icmp rfl rfl (fun (c0 : q8.1 = (-1)) => ?_) (fun (c0 : ¬ (q8.1 = (-1))) => ?_)
              · rw [if_pos c0] at hf
                refine Ex.seg 6 (pc' := 113) (lc' := [some (.ref 55)]) (st' := [.ref 52, .int (q8.2.1 55 15), .ref 62]) (h' := q8.2) (sg1 rfl rfl (sg1 rfl rfl (sg1 rfl rfl (sg1 rfl rfl (sg1 rfl rfl (sg1 rfl rfl rfl)))))) ?_
                obtain ⟨q9, e_q9, hf⟩ := bnd hf
                refine Ex.callV (a := 52) (As := []) (r := [.int (q8.2.1 55 15), .ref 62]) (v := some (.long q9.1)) (h' := q9.2) rfl rfl (by decide) rfl (Nat.le_of_ble_eq_true rfl) rfl (E_248 (Nat.le_trans (by decide) hd) e_q9) rfl ?_
                obtain ⟨h10, e_h10, hf⟩ := bnd hf
                refine Ex.last e_h10 rfl rfl ?_
                refine Ex.seg 1 (pc' := 118) (lc' := [some (.ref 55)]) (st' := [.int 1]) (h' := h10) (sg1 rfl rfl rfl) ?_
                obtain rfl := Option.some.inj hf
                exact Ex.iret rfl rfl (fun _ => by decide) hs
              · rw [if_neg c0] at hf
                exact Ex.weak (sm_le_s sm_le_nil) (B_177_92 hd  hf hs)
          · rw [if_pos (Classical.not_not.mp c0)] at hf
            refine Ex.seg 1 (pc' := 67) (lc' := [some (.ref 55)]) (st' := [.int 0]) (h' := q6.2) (sg1 rfl rfl rfl) ?_
            obtain rfl := Option.some.inj hf
            exact Ex.iret rfl rfl (fun _ => by decide) hs
        · rw [if_neg c0] at hf
          refine Ex.seg 2 (pc' := 52) (lc' := [some (.ref 55)]) (st' := [.int 4, .ref 55]) (h' := q5.2) (sg1 rfl rfl (sg1 rfl rfl rfl)) ?_
          obtain ⟨q11, e_q11, hf⟩ := bnd hf
          refine Ex.callV (a := 55) (As := [.int 4]) (r := []) (v := some (.int q11.1)) (h' := q11.2) rfl rfl (by decide) rfl (Nat.le_of_ble_eq_true rfl) rfl (E_170 (Nat.le_trans (by decide) hd) e_q11) rfl ?_
          refine Ex.seg 2 (pc' := 57) (lc' := [some (.ref 55)]) (st' := [.int 0]) (h' := q11.2) (sg1 rfl rfl (sg1 rfl rfl rfl)) ?_
          obtain rfl := Option.some.inj hf
          exact Ex.iret rfl rfl (fun _ => by decide) hs
      · rw [if_pos (Classical.not_not.mp c0)] at hf
        exact Ex.weak (sm_le_n sm_le_nil) (B_177_34 hd  hf hs)
  · rw [if_neg c0] at hf
    refine Ex.seg 2 (pc' := 13) (lc' := [some (.ref 55)]) (st' := [.int 4, .ref 55]) (h' := q2.2) (sg1 rfl rfl (sg1 rfl rfl rfl)) ?_
    obtain ⟨q12, e_q12, hf⟩ := bnd hf
    refine Ex.callV (a := 55) (As := [.int 4]) (r := []) (v := some (.int q12.1)) (h' := q12.2) rfl rfl (by decide) rfl (Nat.le_of_ble_eq_true rfl) rfl (E_170 (Nat.le_trans (by decide) hd) e_q12) rfl ?_
    refine Ex.seg 2 (pc' := 18) (lc' := [some (.ref 55)]) (st' := [.int 0]) (h' := q12.2) (sg1 rfl rfl (sg1 rfl rfl rfl)) ?_
    obtain rfl := Option.some.inj hf
    exact Ex.iret rfl rfl (fun _ => by decide) hs
theorem E_177 {L : Nat} {xs : Nat → Int32} {d : Nat} (hd : 4 ≤ d)  {h : sm_H} {r : Int32 × sm_H} (hf : F_177  h = some r) : RUN L xs d 177 [.ref 55] h (some (.int r.1), r.2) := by
  obtain ⟨d, rfl⟩ : ∃ e, d = e + 1 := ⟨d - 1, by omega⟩
  exact ⟨Nat.le_of_ble_eq_true rfl, B_177_0 (by omega) hf rfl⟩
theorem B_179_63 {L : Nat} {xs : Nat → Int32} {d : Nat} (hd : 4 ≤ d) {res : Option Value × sm_H}   {h : sm_H} {r : (Int32 × sm_H)} (hf : F_179_63  h = some r) (hs : (fun (r : Int32 × sm_H) => res = (some (.int r.1), r.2)) r) : Ex (P_G L xs) (RUN L xs d) (sm_lk P_t179) 3 63 [none, none, none, none] [] h res := by
  unfold F_179_63 at hf
  refine Ex.seg 1 (pc' := 64) (lc' := [none, none, none, none]) (st' := [.int 0]) (h' := h) (sg1 rfl rfl rfl) ?_
  obtain rfl := Option.some.inj hf
  exact Ex.iret rfl rfl (fun _ => by decide) hs
theorem B_179_36 {L : Nat} {xs : Nat → Int32} {d : Nat} (hd : 4 ≤ d) {res : Option Value × sm_H}   {h : sm_H} {r : (Int32 × sm_H)} (hf : F_179_36  h = some r) (hs : (fun (r : Int32 × sm_H) => res = (some (.int r.1), r.2)) r) : Ex (P_G L xs) (RUN L xs d) (sm_lk P_t179) 3 36 [some (.ref 55), none, none, none] [] h res := by
  unfold F_179_36 at hf
  refine Ex.seg 2 (pc' := 39) (lc' := [some (.ref 55), none, none, none]) (st' := [.int 6, .ref 55]) (h' := h) (sg1 rfl rfl (sg1 rfl rfl rfl)) ?_
  obtain ⟨q1, e_q1, hf⟩ := bnd hf
  refine Ex.callV (a := 55) (As := [.int 6]) (r := []) (v := some (.int q1.1)) (h' := q1.2) rfl rfl (by decide) rfl (Nat.le_of_ble_eq_true rfl) rfl (E_170 (Nat.le_trans (by decide) hd) e_q1) rfl ?_
  refine Ex.seg 2 (pc' := 44) (lc' := [some (.ref 55), none, none, none]) (st' := [.int 0]) (h' := q1.2) (sg1 rfl rfl (sg1 rfl rfl rfl)) ?_
  obtain rfl := Option.some.inj hf
  exact Ex.iret rfl rfl (fun _ => by decide) hs
theorem B_179_0 {L : Nat} {xs : Nat → Int32} {d : Nat} (hd : 4 ≤ d) {res : Option Value × sm_H}   {h : sm_H} {r : (Int32 × sm_H)} (hf : F_179_0  h = some r) (hs : (fun (r : Int32 × sm_H) => res = (some (.int r.1), r.2)) r) : Ex (P_G L xs) (RUN L xs d) (sm_lk P_t179) 3 0 [some (.ref 55), none, none, none] [] h res := by
  unfold F_179_0 at hf
  refine Ex.seg 2 (pc' := 2) (lc' := [some (.ref 55), none, none, none]) (st' := [.int 4, .ref 55]) (h' := h) (sg1 rfl rfl (sg1 rfl rfl rfl)) ?_
  obtain ⟨q2, e_q2, hf⟩ := bnd hf
  refine Ex.callV (a := 55) (As := [.int 4]) (r := []) (v := some (.int q2.1)) (h' := q2.2) rfl rfl (by decide) rfl (Nat.le_of_ble_eq_true rfl) rfl (E_172 (Nat.le_trans (by decide) hd) e_q2) rfl ?_
  refine Ex.ifc rfl rfl (fun (c0 : ¬ (q2.1 = 0)) => ?_) (fun (c0 : ¬ ¬ (q2.1 = 0)) => ?_)
  · rw [if_neg c0] at hf
    refine Ex.seg 2 (pc' := 14) (lc' := [some (.ref 55), none, none, none]) (st' := [.ref 52]) (h' := q2.2) (sg1 rfl rfl (sg1 rfl rfl rfl)) ?_
    obtain ⟨q3, e_q3, hf⟩ := bnd hf
    refine Ex.callV (a := 52) (As := []) (r := []) (v := some (.long q3.1)) (h' := q3.2) rfl rfl (by decide) rfl (Nat.le_of_ble_eq_true rfl) rfl (E_248 (Nat.le_trans (by decide) hd) e_q3) rfl ?_
    refine Ex.seg 4 (pc' := 24) (lc' := [some (.ref 55), some (.long q3.1), none, none]) (st' := [.int 6, .int (q3.2.1 55 9)]) (h' := q3.2) (sg1 rfl rfl (sg1 rfl rfl (sg1 rfl rfl (sg1 rfl rfl rfl)))) ?_
    refine Ex.icmp rfl rfl (fun (c0 : 6 ≤ (q3.2.1 55 9)) => ?_) (fun (c0 : ¬ (6 ≤ (q3.2.1 55 9))) => ?_)
    · rw [if_pos c0] at hf
      exact Ex.weak (sm_le_s (sm_le_n (sm_le_s (sm_le_s sm_le_nil)))) (B_179_36 hd  hf hs)
    · rw [if_neg c0] at hf
      refine Ex.seg 2 (pc' := 29) (lc' := [some (.ref 55), some (.long q3.1), none, none]) (st' := [.long q3.1, .ref 55]) (h' := q3.2) (sg1 rfl rfl (sg1 rfl rfl rfl)) ?_
      obtain ⟨q4, e_q4, hf⟩ := bnd hf
      refine Ex.callV (a := 55) (As := [.long q3.1]) (r := []) (v := some (.int q4.1)) (h' := q4.2) rfl rfl (by decide) rfl (Nat.le_of_ble_eq_true rfl) rfl (E_181 (Nat.le_trans (by decide) hd) e_q4) rfl ?_
      refine Ex.seg 1 (pc' := 33) (lc' := [some (.ref 55), some (.long q3.1), none, none]) (st' := [.int (-1), .int q4.1]) (h' := q4.2) (sg1 rfl rfl rfl) ?_
      refine Ex.icmp rfl rfl (fun (c0 : q4.1 = (-1)) => ?_) (fun (c0 : ¬ (q4.1 = (-1))) => ?_)
      · rw [if_pos c0] at hf
        refine Ex.seg 2 (pc' := 47) (lc' := [some (.ref 55), some (.long q3.1), none, none]) (st' := [.int 0, .ref 55]) (h' := q4.2) (sg1 rfl rfl (sg1 rfl rfl rfl)) ?_
        obtain ⟨q5, e_q5, hf⟩ := bnd hf
        refine Ex.callV (a := 55) (As := [.int 0]) (r := []) (v := some (.int q5.1)) (h' := q5.2) rfl rfl (by decide) rfl (Nat.le_of_ble_eq_true rfl) rfl (E_176 (Nat.le_trans (by decide) hd) e_q5) rfl ?_
        refine Ex.seg 3 (pc' := 53) (lc' := [some (.ref 55), some (.long q3.1), none, some (.int q5.1)]) (st' := [.int (-1), .int q5.1]) (h' := q5.2) (sg1 rfl rfl (sg1 rfl rfl (sg1 rfl rfl rfl))) ?_
        refine Ex.icmp rfl rfl (fun (c0 : q5.1 = (-1)) => ?_) (fun (c0 : ¬ (q5.1 = (-1))) => ?_)
        · rw [if_pos c0] at hf
          exact Ex.weak (sm_le_n (sm_le_n (sm_le_s (sm_le_n sm_le_nil)))) (B_179_63 hd  hf hs)
        · rw [if_neg c0] at hf
          refine Ex.seg 1 (pc' := 57) (lc' := [some (.ref 55), some (.long q3.1), none, some (.int q5.1)]) (st' := [.ref 55]) (h' := q5.2) (sg1 rfl rfl rfl) ?_
          obtain ⟨q6, e_q6, hf⟩ := bnd hf
          refine Ex.callV (a := 55) (As := []) (r := []) (v := some (.int q6.1)) (h' := q6.2) rfl rfl (by decide) rfl (Nat.le_of_ble_eq_true rfl) rfl (E_175 (Nat.le_trans (by decide) hd) e_q6) rfl ?_
          refine Ex.ifc rfl rfl (fun (c0 : ¬ (q6.1 = 0)) => ?_) (fun (c0 : ¬ ¬ (q6.1 = 0)) => ?_)
          · rw [if_neg c0] at hf
            refine Ex.seg 5 (pc' := 74) (lc' := [some (.ref 55), some (.long q3.1), none, some (.int q5.1)]) (st' := [.long q3.1, .int (q6.2.1 55 9), .ref 58]) (h' := q6.2) (sg1 rfl rfl (sg1 rfl rfl (sg1 rfl rfl (sg1 rfl rfl (sg1 rfl rfl rfl))))) ?_
            obtain ⟨h7, e_h7, hf⟩ := bnd hf
            refine Ex.last e_h7 rfl rfl ?_
            refine Ex.seg 5 (pc' := 84) (lc' := [some (.ref 55), some (.long q3.1), none, some (.int q5.1)]) (st' := [.int q5.1, .int (h7.1 55 9), .ref 59]) (h' := h7) (sg1 rfl rfl (sg1 rfl rfl (sg1 rfl rfl (sg1 rfl rfl (sg1 rfl rfl rfl))))) ?_
            obtain ⟨h8, e_h8, hf⟩ := bnd hf
            refine Ex.iast e_h8 rfl rfl ?_
            refine Ex.seg 6 (pc' := 95) (lc' := [some (.ref 55), some (.long q3.1), none, some (.int q5.1)]) (st' := []) (h' := (sm_wI h8 55 9 ((h8.1 55 9) + 1))) (sg1 rfl rfl (sg1 rfl rfl (sg1 rfl rfl (sg1 rfl rfl (sg1 rfl rfl (sg1 rfl rfl rfl)))))) ?_
            obtain ⟨h9, e_h9, hf⟩ := bnd hf
            rw [Option.some.inj e_h9]
            refine Ex.seg 1 (pc' := 96) (lc' := [some (.ref 55), some (.long q3.1), none, some (.int q5.1)]) (st' := [.int 1]) (h' := h9) (sg1 rfl rfl rfl) ?_
            obtain rfl := Option.some.inj hf
            exact Ex.iret rfl rfl (fun _ => by decide) hs
          · rw [if_pos (Classical.not_not.mp c0)] at hf
            exact Ex.weak (sm_le_n (sm_le_n (sm_le_s (sm_le_n sm_le_nil)))) (B_179_63 hd  hf hs)
      · rw [if_neg c0] at hf
        exact Ex.weak (sm_le_s (sm_le_n (sm_le_s (sm_le_s sm_le_nil)))) (B_179_36 hd  hf hs)
  · rw [if_pos (Classical.not_not.mp c0)] at hf
    refine Ex.seg 1 (pc' := 9) (lc' := [some (.ref 55), none, none, none]) (st' := [.int 0]) (h' := q2.2) (sg1 rfl rfl rfl) ?_
    obtain rfl := Option.some.inj hf
    exact Ex.iret rfl rfl (fun _ => by decide) hs
theorem E_179 {L : Nat} {xs : Nat → Int32} {d : Nat} (hd : 5 ≤ d)  {h : sm_H} {r : Int32 × sm_H} (hf : F_179  h = some r) : RUN L xs d 179 [.ref 55] h (some (.int r.1), r.2) := by
  obtain ⟨d, rfl⟩ : ∃ e, d = e + 1 := ⟨d - 1, by omega⟩
  exact ⟨Nat.le_of_ble_eq_true rfl, B_179_0 (by omega) hf rfl⟩
theorem B_185_67 {L : Nat} {xs : Nat → Int32} {d : Nat} (hd : 3 ≤ d) {res : Option Value × sm_H} {z0 : Int32}  {h : sm_H} {r : (Int32 × sm_H)} (hf : F_185_67 z0 h = some r) (hs : (fun (r : Int32 × sm_H) => res = (some (.int r.1), r.2)) r) : Ex (P_G L xs) (RUN L xs d) (sm_lk P_t185) 0 67 [none, none, none, none] [.int z0] h res := by
  unfold F_185_67 at hf
  obtain rfl := Option.some.inj hf
  exact Ex.iret rfl rfl (fun c0 => by cases c0) hs
theorem B_185_42 {L : Nat} {xs : Nat → Int32} {d : Nat} (hd : 3 ≤ d) {res : Option Value × sm_H} {y1 : Int32} {y2 : Int32}  {h : sm_H} {r : (Int32 × sm_H)} (hf : F_185_42 y1 y2 h = some r) (hs : (fun (r : Int32 × sm_H) => res = (some (.int r.1), r.2)) r) : Ex (P_G L xs) (RUN L xs d) (sm_lk P_t185) 0 42 [some (.ref 55), some (.int y1), some (.int y2), none] [] h res := by
  unfold F_185_42 at hf
  refine Ex.seg 3 (pc' := 47) (lc' := [some (.ref 55), some (.int y1), some (.int y2), none]) (st' := [.int y1, .ref 5]) (h' := h) (sg1 rfl rfl (sg1 rfl rfl (sg1 rfl rfl rfl))) ?_
  obtain ⟨q1, e_q1, hf⟩ := bnd hf
  refine Ex.callV (a := 5) (As := [.int y1]) (r := []) (v := some (.int q1.1)) (h' := q1.2) rfl rfl (by decide) rfl (Nat.le_of_ble_eq_true rfl) rfl (E_234 (Nat.le_trans (by decide) hd) e_q1) rfl ?_
  refine Ex.seg 3 (pc' := 53) (lc' := [some (.ref 55), some (.int y1), some (.int y2), some (.int q1.1)]) (st' := [.int (-1), .int q1.1]) (h' := q1.2) (sg1 rfl rfl (sg1 rfl rfl (sg1 rfl rfl rfl))) ?_
  refine Ex.icmp rfl rfl (fun (c0 : ¬ (q1.1 = (-1))) => ?_) (fun (c0 : ¬ ¬ (q1.1 = (-1))) => ?_)
  · rw [if_neg c0] at hf
    refine Ex.seg 1 (pc' := 67) (lc' := [some (.ref 55), some (.int y1), some (.int y2), some (.int q1.1)]) (st' := [.int q1.1]) (h' := q1.2) (sg1 rfl rfl rfl) ?_
    exact Ex.weak (sm_le_n (sm_le_n (sm_le_n (sm_le_n sm_le_nil)))) (B_185_67 hd  hf hs)
  · rw [if_pos (Classical.not_not.mp c0)] at hf
    refine Ex.seg 3 (pc' := 60) (lc' := [some (.ref 55), some (.int y1), some (.int y2), some (.int q1.1)]) (st' := [.int y2, .int 8, .ref 55]) (h' := q1.2) (sg1 rfl rfl (sg1 rfl rfl (sg1 rfl rfl rfl))) ?_
    obtain ⟨q2, e_q2, hf⟩ := bnd hf
    refine Ex.callV (a := 55) (As := [.int 8, .int y2]) (r := []) (v := some (.int q2.1)) (h' := q2.2) rfl rfl (by decide) rfl (Nat.le_of_ble_eq_true rfl) rfl (E_169 (Nat.le_trans (by decide) hd) e_q2) rfl ?_
    refine Ex.seg 1 (pc' := 67) (lc' := [some (.ref 55), some (.int y1), some (.int y2), some (.int q1.1)]) (st' := [.int q2.1]) (h' := q2.2) (sg1 rfl rfl rfl) ?_
    exact Ex.weak (sm_le_n (sm_le_n (sm_le_n (sm_le_n sm_le_nil)))) (B_185_67 hd  hf hs)
theorem B_185_9B {L : Nat} {xs : Nat → Int32} {d : Nat} (hd : 3 ≤ d) {res : Option Value × sm_H} {S1 : (Int32 × Int32 × Int32 × sm_H) → Prop} (hS1 : ∀ s, S1 s → Ex (P_G L xs) (RUN L xs d) (sm_lk P_t185) 0 9 [some (.ref 55), some (.int s.1), some (.int s.2.1), some (.int s.2.2.1)] [] s.2.2.2 res) {s : (Int32 × Int32 × Int32 × sm_H)}  {r : ((Int32 × Int32 × Int32 × sm_H) ⊕ (Int32 × sm_H))} (hf : F_185_9B s = some r) (hs : (Sum.elim S1 (fun (r : Int32 × sm_H) => res = (some (.int r.1), r.2))) r) : Ex (P_G L xs) (RUN L xs d) (sm_lk P_t185) 0 9 [some (.ref 55), some (.int s.1), some (.int s.2.1), some (.int s.2.2.1)] [] s.2.2.2 res := by
  unfold F_185_9B at hf
  refine Ex.seg 3 (pc' := 14) (lc' := [some (.ref 55), some (.int s.1), some (.int s.2.1), some (.int s.2.2.1)]) (st' := [.int (s.2.2.2.1 55 9), .int s.2.2.1]) (h' := s.2.2.2) (sg1 rfl rfl (sg1 rfl rfl (sg1 rfl rfl rfl))) ?_
  refine Ex.icmp rfl rfl (fun (c0 : (s.2.2.2.1 55 9) ≤ s.2.2.1) => ?_) (fun (c0 : ¬ ((s.2.2.2.1 55 9) ≤ s.2.2.1)) => ?_)
  · rw [if_pos c0] at hf
    obtain ⟨r0, hf0, rfl⟩ := Option.map_eq_some_iff.mp hf
    exact Ex.weak (sm_le_s (sm_le_s (sm_le_s (sm_le_n sm_le_nil)))) (B_185_42 hd  hf0 hs)
  · rw [if_neg c0] at hf
    refine Ex.seg 2 (pc' := 20) (lc' := [some (.ref 55), some (.int s.1), some (.int s.2.1), some (.int s.2.2.1)]) (st' := [.int 16, .int s.2.2.1]) (h' := s.2.2.2) (sg1 rfl rfl (sg1 rfl rfl rfl)) ?_
    refine Ex.icmp rfl rfl (fun (c0 : 16 ≤ s.2.2.1) => ?_) (fun (c0 : ¬ (16 ≤ s.2.2.1)) => ?_)
    · rw [if_pos c0] at hf
      obtain ⟨r0, hf0, rfl⟩ := Option.map_eq_some_iff.mp hf
      exact Ex.weak (sm_le_s (sm_le_s (sm_le_s (sm_le_n sm_le_nil)))) (B_185_42 hd  hf0 hs)
    · rw [if_neg c0] at hf
      refine Ex.seg 5 (pc' := 32) (lc' := [some (.ref 55), some (.int s.1), some (.int s.2.1), some (.int s.2.2.1)]) (st' := [.int s.2.2.1, .ref 59, .ref 5]) (h' := s.2.2.2) (sg1 rfl rfl (sg1 rfl rfl (sg1 rfl rfl (sg1 rfl rfl (sg1 rfl rfl rfl))))) ?_
      obtain ⟨v3, e_v3, hf⟩ := bnd hf
      refine Ex.iald e_v3 rfl rfl ?_
      obtain ⟨q4, e_q4, hf⟩ := bnd hf
      refine Ex.callV (a := 5) (As := [.int v3]) (r := []) (v := none) (h' := q4) rfl rfl (by decide) rfl (Nat.le_of_ble_eq_true rfl) rfl (E_229 (Nat.le_trans (by decide) hd) e_q4) rfl ?_
      refine Ex.seg 1 (pc' := 39) (lc' := [some (.ref 55), some (.int s.1), some (.int s.2.1), some (.int (s.2.2.1 + 1))]) (st' := []) (h' := q4) (sg1 rfl rfl rfl) ?_
      obtain ⟨v5, e_v5, hf⟩ := bnd hf
      rw [Option.some.inj e_v5]
      refine Ex.seg 1 (pc' := 9) (lc' := [some (.ref 55), some (.int s.1), some (.int s.2.1), some (.int v5)]) (st' := []) (h' := q4) (sg1 rfl rfl rfl) ?_
      obtain rfl := Option.some.inj hf
      exact Ex.weak (sm_le_s (sm_le_s (sm_le_s (sm_le_s sm_le_nil)))) (hS1 _ hs)
theorem B_185_9 {L : Nat} {xs : Nat → Int32} {d : Nat} (hd : 3 ≤ d) {res : Option Value × sm_H} {y1 : Int32} {y2 : Int32} {y3 : Int32}  {h : sm_H} {r : (Int32 × sm_H)} (hf : F_185_9 y1 y2 y3 h = some r) (hs : (fun (r : Int32 × sm_H) => res = (some (.int r.1), r.2)) r) : Ex (P_G L xs) (RUN L xs d) (sm_lk P_t185) 0 9 [some (.ref 55), some (.int y1), some (.int y2), some (.int y3)] [] h res := by
  unfold F_185_9 at hf
  exact lp_ok (P := fun (s : (Int32 × Int32 × Int32 × sm_H)) => Ex (P_G L xs) (RUN L xs d) (sm_lk P_t185) 0 9 [some (.ref 55), some (.int s.1), some (.int s.2.1), some (.int s.2.2.1)] [] s.2.2.2 res) (S := (fun (r : Int32 × sm_H) => res = (some (.int r.1), r.2))) (fun s x hx hsx => by
    intros
    exact B_185_9B hd  (fun _ q => q) hx hsx) 1000000 _ r hf hs
theorem B_185_0 {L : Nat} {xs : Nat → Int32} {d : Nat} (hd : 3 ≤ d) {res : Option Value × sm_H} {x1 : Int32} {x2 : Int32}  {h : sm_H} {r : (Int32 × sm_H)} (hf : F_185_0 x1 x2 h = some r) (hs : (fun (r : Int32 × sm_H) => res = (some (.int r.1), r.2)) r) : Ex (P_G L xs) (RUN L xs d) (sm_lk P_t185) 0 0 [some (.ref 55), some (.int x1), some (.int x2), none] [] h res := by
  unfold F_185_0 at hf
  refine Ex.seg 2 (pc' := 4) (lc' := [some (.ref 55), some (.int x1), some (.int x2), none]) (st' := [.ref 5]) (h' := h) (sg1 rfl rfl (sg1 rfl rfl rfl)) ?_
  obtain ⟨q6, e_q6, hf⟩ := bnd hf
  refine Ex.callV (a := 5) (As := []) (r := []) (v := none) (h' := q6) rfl rfl (by decide) rfl (Nat.le_of_ble_eq_true rfl) rfl (E_228 (Nat.le_trans (by decide) hd) e_q6) rfl ?_
  refine Ex.seg 2 (pc' := 9) (lc' := [some (.ref 55), some (.int x1), some (.int x2), some (.int 0)]) (st' := []) (h' := q6) (sg1 rfl rfl (sg1 rfl rfl rfl)) ?_
  exact Ex.weak (sm_le_s (sm_le_s (sm_le_s (sm_le_s sm_le_nil)))) (B_185_9 hd  hf hs)
theorem E_185 {L : Nat} {xs : Nat → Int32} {d : Nat} (hd : 4 ≤ d) {x1 : Int32} {x2 : Int32} {h : sm_H} {r : Int32 × sm_H} (hf : F_185 x1 x2 h = some r) : RUN L xs d 185 [.ref 55, .int x1, .int x2] h (some (.int r.1), r.2) := by
  obtain ⟨d, rfl⟩ : ∃ e, d = e + 1 := ⟨d - 1, by omega⟩
  exact ⟨Nat.le_of_ble_eq_true rfl, B_185_0 (by omega) hf rfl⟩
theorem B_268_0 {L : Nat} {xs : Nat → Int32} {d : Nat} (hd : 4 ≤ d) {res : Option Value × sm_H} {x1 : Int32} {x2 : Int32} {x3 : Int32} {x4 : Int32} {x5 : Int32}  {h : sm_H} {r : (Int32 × sm_H)} (hf : F_268_0 x1 x2 x3 x4 x5 h = some r) (hs : (fun (r : Int32 × sm_H) => res = (some (.int r.1), r.2)) r) : Ex (P_G L xs) (RUN L xs d) (sm_lk P_t268) 0 0 [some (.ref 0), some (.int x1), some (.int x2), some (.int x3), some (.int x4), some (.int x5)] [] h res := by
  unfold F_268_0 at hf
  refine Ex.seg 8 (pc' := 12) (lc' := [some (.ref 0), some (.int x1), some (.int x2), some (.int x3), some (.int x4), some (.int x5)]) (st' := [.int x5, .int x4, .int x3, .int x2, .int x1, .ref 38, .ref 0]) (h' := h) (sg1 rfl rfl (sg1 rfl rfl (sg1 rfl rfl (sg1 rfl rfl (sg1 rfl rfl (sg1 rfl rfl (sg1 rfl rfl (sg1 rfl rfl rfl)))))))) ?_
  obtain ⟨q1, e_q1, hf⟩ := bnd hf
  refine Ex.callV (a := 38) (As := [.int x1, .int x2, .int x3, .int x4, .int x5]) (r := [.ref 0]) (v := some (.int q1.1)) (h' := q1.2) rfl rfl (by decide) rfl (Nat.le_of_ble_eq_true rfl) rfl (E_115 (Nat.le_trans (by decide) hd) e_q1) rfl ?_
  obtain ⟨q2, e_q2, hf⟩ := bnd hf
  refine Ex.callV (a := 0) (As := [.int q1.1]) (r := []) (v := some (.int q2.1)) (h' := q2.2) rfl rfl (by decide) rfl (Nat.le_of_ble_eq_true rfl) rfl (E_264 (Nat.le_trans (by decide) hd) e_q2) rfl ?_
  obtain rfl := Option.some.inj hf
  exact Ex.iret rfl rfl (fun c0 => by cases c0) hs
theorem E_268 {L : Nat} {xs : Nat → Int32} {d : Nat} (hd : 5 ≤ d) {x1 : Int32} {x2 : Int32} {x3 : Int32} {x4 : Int32} {x5 : Int32} {h : sm_H} {r : Int32 × sm_H} (hf : F_268 x1 x2 x3 x4 x5 h = some r) : RUN L xs d 268 [.ref 0, .int x1, .int x2, .int x3, .int x4, .int x5] h (some (.int r.1), r.2) := by
  obtain ⟨d, rfl⟩ : ∃ e, d = e + 1 := ⟨d - 1, by omega⟩
  exact ⟨Nat.le_of_ble_eq_true rfl, B_268_0 (by omega) hf rfl⟩
theorem B_6_0 {L : Nat} {xs : Nat → Int32} {d : Nat} (hd : 3 ≤ d) {res : Option Value × sm_H} {x1 : Int32} {x2 : Int32} {x3 : Int32} {x4 : Int64} {x6 : Nat} {x7 : Int32}  {h : sm_H} {r : (Int32 × sm_H)} (hf : F_6_0 x1 x2 x3 x4 x6 x7 h = some r) (hs : (fun (r : Int32 × sm_H) => res = (some (.int r.1), r.2)) r) : Ex (P_G L xs) (RUN L xs d) (sm_lk P_t6) 0 0 [some (.ref 34), some (.int x1), some (.int x2), some (.int x3), some (.long x4), none, some (.ref x6), some (.int x7), none] [] h res := by
  unfold F_6_0 at hf
  refine Ex.seg 3 (pc' := 6) (lc' := [some (.ref 34), some (.int x1), some (.int x2), some (.int x3), some (.long x4), none, some (.ref x6), some (.int x7), none]) (st' := [.int x7, .ref 5]) (h' := h) (sg1 rfl rfl (sg1 rfl rfl (sg1 rfl rfl rfl))) ?_
  obtain ⟨q1, e_q1, hf⟩ := bnd hf
  refine Ex.callV (a := 5) (As := [.int x7]) (r := []) (v := some (.int q1.1)) (h' := q1.2) rfl rfl (by decide) rfl (Nat.le_of_ble_eq_true rfl) rfl (E_233 (Nat.le_trans (by decide) hd) e_q1) rfl ?_
  refine Ex.ifc rfl rfl (fun (c0 : ¬ (q1.1 = 0)) => ?_) (fun (c0 : ¬ ¬ (q1.1 = 0)) => ?_)
  · rw [if_neg c0] at hf
    refine Ex.seg 7 (pc' := 26) (lc' := [some (.ref 34), some (.int x1), some (.int x2), some (.int x3), some (.long x4), none, some (.ref x6), some (.int x7), none]) (st' := [.ref x6, .long x4, .int x3, .int x2, .int x1, .ref 10]) (h' := q1.2) (sg1 rfl rfl (sg1 rfl rfl (sg1 rfl rfl (sg1 rfl rfl (sg1 rfl rfl (sg1 rfl rfl (sg1 rfl rfl rfl))))))) ?_
    obtain ⟨q2, e_q2, hf⟩ := bnd hf
    refine Ex.callV (a := 10) (As := [.int x1, .int x2, .int x3, .long x4, .ref x6]) (r := []) (v := some (.int q2.1)) (h' := q2.2) rfl rfl (by decide) rfl (Nat.le_of_ble_eq_true rfl) rfl (E_48 (Nat.le_trans (by decide) hd) e_q2) rfl ?_
    refine Ex.seg 3 (pc' := 34) (lc' := [some (.ref 34), some (.int x1), some (.int x2), some (.int x3), some (.long x4), none, some (.ref x6), some (.int x7), some (.int q2.1)]) (st' := [.int (-1), .int q2.1]) (h' := q2.2) (sg1 rfl rfl (sg1 rfl rfl (sg1 rfl rfl rfl))) ?_
    refine Ex.icmp rfl rfl (fun (c0 : q2.1 = (-1)) => ?_) (fun (c0 : ¬ (q2.1 = (-1))) => ?_)
    · rw [if_pos c0] at hf
      refine Ex.seg 2 (pc' := 44) (lc' := [some (.ref 34), some (.int x1), some (.int x2), some (.int x3), some (.long x4), none, some (.ref x6), some (.int x7), some (.int q2.1)]) (st' := [.ref 10]) (h' := q2.2) (sg1 rfl rfl (sg1 rfl rfl rfl)) ?_
      obtain ⟨q3, e_q3, hf⟩ := bnd hf
      refine Ex.callV (a := 10) (As := []) (r := []) (v := some (.int q3.1)) (h' := q3.2) rfl rfl (by decide) rfl (Nat.le_of_ble_eq_true rfl) rfl (E_35 (Nat.le_trans (by decide) hd) e_q3) rfl ?_
      refine Ex.seg 1 (pc' := 50) (lc' := [some (.ref 34), some (.int x1), some (.int x2), some (.int x3), some (.long x4), none, some (.ref x6), some (.int x7), some (.int q2.1)]) (st' := [.int 500, .int q3.1]) (h' := q3.2) (sg1 rfl rfl rfl) ?_
      refine Ex.icmp rfl rfl (fun (c0 : q3.1 < 500) => ?_) (fun (c0 : ¬ (q3.1 < 500)) => ?_)
      · rw [if_pos c0] at hf
        refine Ex.seg 10 (pc' := 73) (lc' := [some (.ref 34), some (.int x1), some (.int x2), some (.int x3), some (.long x4), none, some (.ref x6), some (.int x7), some (.int q2.1)]) (st' := [.int x7, .ref 5, .ref x6, .long x4, .int x3, .int x2, .int x1, .ref 10]) (h' := q3.2) (sg1 rfl rfl (sg1 rfl rfl (sg1 rfl rfl (sg1 rfl rfl (sg1 rfl rfl (sg1 rfl rfl (sg1 rfl rfl (sg1 rfl rfl (sg1 rfl rfl (sg1 rfl rfl rfl)))))))))) ?_
        obtain ⟨q4, e_q4, hf⟩ := bnd hf
        refine Ex.callV (a := 5) (As := [.int x7]) (r := [.ref x6, .long x4, .int x3, .int x2, .int x1, .ref 10]) (v := some (.int q4.1)) (h' := q4.2) rfl rfl (by decide) rfl (Nat.le_of_ble_eq_true rfl) rfl (E_234 (Nat.le_trans (by decide) hd) e_q4) rfl ?_
        obtain ⟨q5, e_q5, hf⟩ := bnd hf
        refine Ex.callV (a := 10) (As := [.int x1, .int x2, .int x3, .long x4, .ref x6, .int q4.1]) (r := []) (v := some (.int q5.1)) (h' := q5.2) rfl rfl (by decide) rfl (Nat.le_of_ble_eq_true rfl) rfl (E_50 (Nat.le_trans (by decide) hd) e_q5) rfl ?_
        obtain rfl := Option.some.inj hf
        exact Ex.iret rfl rfl (fun c0 => by cases c0) hs
      · rw [if_neg c0] at hf
        refine Ex.seg 1 (pc' := 55) (lc' := [some (.ref 34), some (.int x1), some (.int x2), some (.int x3), some (.long x4), none, some (.ref x6), some (.int x7), some (.int q2.1)]) (st' := [.int (-5)]) (h' := q3.2) (sg1 rfl rfl rfl) ?_
        obtain rfl := Option.some.inj hf
        exact Ex.iret rfl rfl (fun c0 => by cases c0) hs
    · rw [if_neg c0] at hf
      refine Ex.seg 1 (pc' := 39) (lc' := [some (.ref 34), some (.int x1), some (.int x2), some (.int x3), some (.long x4), none, some (.ref x6), some (.int x7), some (.int q2.1)]) (st' := [.int q2.1]) (h' := q2.2) (sg1 rfl rfl rfl) ?_
      obtain rfl := Option.some.inj hf
      exact Ex.iret rfl rfl (fun c0 => by cases c0) hs
  · rw [if_pos (Classical.not_not.mp c0)] at hf
    refine Ex.seg 1 (pc' := 14) (lc' := [some (.ref 34), some (.int x1), some (.int x2), some (.int x3), some (.long x4), none, some (.ref x6), some (.int x7), none]) (st' := [.int (-4)]) (h' := q1.2) (sg1 rfl rfl rfl) ?_
    obtain rfl := Option.some.inj hf
    exact Ex.iret rfl rfl (fun c0 => by cases c0) hs
theorem E_6 {L : Nat} {xs : Nat → Int32} {d : Nat} (hd : 4 ≤ d) {x1 : Int32} {x2 : Int32} {x3 : Int32} {x4 : Int64} {x6 : Nat} {x7 : Int32} {h : sm_H} {r : Int32 × sm_H} (hf : F_6 x1 x2 x3 x4 x6 x7 h = some r) : RUN L xs d 6 [.ref 34, .int x1, .int x2, .int x3, .long x4, .ref x6, .int x7] h (some (.int r.1), r.2) := by
  obtain ⟨d, rfl⟩ : ∃ e, d = e + 1 := ⟨d - 1, by omega⟩
  exact ⟨Nat.le_of_ble_eq_true rfl, B_6_0 (by omega) hf rfl⟩
theorem B_9_454 {L : Nat} {xs : Nat → Int32} {d : Nat} (hd : 3 ≤ d) {res : Option Value × sm_H}   {h : sm_H} {r : (Int32 × sm_H)} (hf : F_9_454  h = some r) (hs : (fun (r : Int32 × sm_H) => res = (some (.int r.1), r.2)) r) : Ex (P_G L xs) (RUN L xs d) (sm_lk P_t9) 3 454 [none] [] h res := by
  unfold F_9_454 at hf
  refine Ex.seg 1 (pc' := 455) (lc' := [none]) (st' := [.int 0]) (h' := h) (sg1 rfl rfl rfl) ?_
  obtain rfl := Option.some.inj hf
  exact Ex.iret rfl rfl (fun _ => by decide) hs
theorem B_9_453 {L : Nat} {xs : Nat → Int32} {d : Nat} (hd : 3 ≤ d) {res : Option Value × sm_H} {z0 : Int32}  {h : sm_H} {r : (Int32 × sm_H)} (hf : F_9_453 z0 h = some r) (hs : (fun (r : Int32 × sm_H) => res = (some (.int r.1), r.2)) r) : Ex (P_G L xs) (RUN L xs d) (sm_lk P_t9) 3 453 [none] [.int z0] h res := by
  unfold F_9_453 at hf
  rcases Classical.em (z0 = 0 ∨ z0 = 1) with c0 | c0
  · rw [if_pos c0] at hf
    obtain rfl := Option.some.inj hf
    exact Ex.iret rfl rfl (fun _ => c0) hs
  · rw [if_neg c0] at hf
    cases hf
theorem B_9_433 {L : Nat} {xs : Nat → Int32} {d : Nat} (hd : 3 ≤ d) {res : Option Value × sm_H} {z0 : Int32}  {h : sm_H} {r : (Int32 × sm_H)} (hf : F_9_433 z0 h = some r) (hs : (fun (r : Int32 × sm_H) => res = (some (.int r.1), r.2)) r) : Ex (P_G L xs) (RUN L xs d) (sm_lk P_t9) 3 433 [none] [.int z0] h res := by
  unfold F_9_433 at hf
  rcases Classical.em (z0 = 0 ∨ z0 = 1) with c0 | c0
  · rw [if_pos c0] at hf
    obtain rfl := Option.some.inj hf
    exact Ex.iret rfl rfl (fun _ => c0) hs
  · rw [if_neg c0] at hf
    cases hf
theorem B_9_413 {L : Nat} {xs : Nat → Int32} {d : Nat} (hd : 3 ≤ d) {res : Option Value × sm_H} {z0 : Int32}  {h : sm_H} {r : (Int32 × sm_H)} (hf : F_9_413 z0 h = some r) (hs : (fun (r : Int32 × sm_H) => res = (some (.int r.1), r.2)) r) : Ex (P_G L xs) (RUN L xs d) (sm_lk P_t9) 3 413 [none] [.int z0] h res := by
  unfold F_9_413 at hf
  rcases Classical.em (z0 = 0 ∨ z0 = 1) with c0 | c0
  · rw [if_pos c0] at hf
    obtain rfl := Option.some.inj hf
    exact Ex.iret rfl rfl (fun _ => c0) hs
  · rw [if_neg c0] at hf
    cases hf
theorem B_9_393 {L : Nat} {xs : Nat → Int32} {d : Nat} (hd : 3 ≤ d) {res : Option Value × sm_H} {z0 : Int32}  {h : sm_H} {r : (Int32 × sm_H)} (hf : F_9_393 z0 h = some r) (hs : (fun (r : Int32 × sm_H) => res = (some (.int r.1), r.2)) r) : Ex (P_G L xs) (RUN L xs d) (sm_lk P_t9) 3 393 [none] [.int z0] h res := by
  unfold F_9_393 at hf
  rcases Classical.em (z0 = 0 ∨ z0 = 1) with c0 | c0
  · rw [if_pos c0] at hf
    obtain rfl := Option.some.inj hf
    exact Ex.iret rfl rfl (fun _ => c0) hs
  · rw [if_neg c0] at hf
    cases hf
theorem B_9_392 {L : Nat} {xs : Nat → Int32} {d : Nat} (hd : 3 ≤ d) {res : Option Value × sm_H}   {h : sm_H} {r : (Int32 × sm_H)} (hf : F_9_392  h = some r) (hs : (fun (r : Int32 × sm_H) => res = (some (.int r.1), r.2)) r) : Ex (P_G L xs) (RUN L xs d) (sm_lk P_t9) 3 392 [none] [] h res := by
  unfold F_9_392 at hf
  refine Ex.seg 1 (pc' := 393) (lc' := [none]) (st' := [.int 0]) (h' := h) (sg1 rfl rfl rfl) ?_
  exact Ex.weak (sm_le_s sm_le_nil) (B_9_393 hd  hf hs)
theorem B_9_369 {L : Nat} {xs : Nat → Int32} {d : Nat} (hd : 3 ≤ d) {res : Option Value × sm_H} {z0 : Int32}  {h : sm_H} {r : (Int32 × sm_H)} (hf : F_9_369 z0 h = some r) (hs : (fun (r : Int32 × sm_H) => res = (some (.int r.1), r.2)) r) : Ex (P_G L xs) (RUN L xs d) (sm_lk P_t9) 3 369 [none] [.int z0] h res := by
  unfold F_9_369 at hf
  rcases Classical.em (z0 = 0 ∨ z0 = 1) with c0 | c0
  · rw [if_pos c0] at hf
    obtain rfl := Option.some.inj hf
    exact Ex.iret rfl rfl (fun _ => c0) hs
  · rw [if_neg c0] at hf
    cases hf
theorem B_9_350 {L : Nat} {xs : Nat → Int32} {d : Nat} (hd : 3 ≤ d) {res : Option Value × sm_H}   {h : sm_H} {r : (Int32 × sm_H)} (hf : F_9_350  h = some r) (hs : (fun (r : Int32 × sm_H) => res = (some (.int r.1), r.2)) r) : Ex (P_G L xs) (RUN L xs d) (sm_lk P_t9) 3 350 [some (.ref 34)] [] h res := by
  unfold F_9_350 at hf
  refine Ex.seg 4 (pc' := 358) (lc' := [some (.ref 34)]) (st' := [.int (h.1 34 8), .ref 1]) (h' := h) (sg1 rfl rfl (sg1 rfl rfl (sg1 rfl rfl (sg1 rfl rfl rfl)))) ?_
  obtain ⟨q1, e_q1, hf⟩ := bnd hf
  refine Ex.callV (a := 1) (As := [.int (h.1 34 8)]) (r := []) (v := some (.int q1.1)) (h' := q1.2) rfl rfl (by decide) rfl (Nat.le_of_ble_eq_true rfl) rfl (E_59 (Nat.le_trans (by decide) hd) e_q1) rfl ?_
  refine Ex.ifc rfl rfl (fun (c0 : ¬ (q1.1 = 0)) => ?_) (fun (c0 : ¬ ¬ (q1.1 = 0)) => ?_)
  · rw [if_neg c0] at hf
    refine Ex.seg 1 (pc' := 369) (lc' := [some (.ref 34)]) (st' := [.int 0]) (h' := q1.2) (sg1 rfl rfl rfl) ?_
    exact Ex.weak (sm_le_n sm_le_nil) (B_9_369 hd  hf hs)
  · rw [if_pos (Classical.not_not.mp c0)] at hf
    refine Ex.seg 2 (pc' := 369) (lc' := [some (.ref 34)]) (st' := [.int 1]) (h' := q1.2) (sg1 rfl rfl (sg1 rfl rfl rfl)) ?_
    exact Ex.weak (sm_le_n sm_le_nil) (B_9_369 hd  hf hs)
theorem B_9_349 {L : Nat} {xs : Nat → Int32} {d : Nat} (hd : 3 ≤ d) {res : Option Value × sm_H} {z0 : Int32}  {h : sm_H} {r : (Int32 × sm_H)} (hf : F_9_349 z0 h = some r) (hs : (fun (r : Int32 × sm_H) => res = (some (.int r.1), r.2)) r) : Ex (P_G L xs) (RUN L xs d) (sm_lk P_t9) 3 349 [none] [.int z0] h res := by
  unfold F_9_349 at hf
  rcases Classical.em (z0 = 0 ∨ z0 = 1) with c0 | c0
  · rw [if_pos c0] at hf
    obtain rfl := Option.some.inj hf
    exact Ex.iret rfl rfl (fun _ => c0) hs
  · rw [if_neg c0] at hf
    cases hf
theorem B_9_344 {L : Nat} {xs : Nat → Int32} {d : Nat} (hd : 3 ≤ d) {res : Option Value × sm_H}   {h : sm_H} {r : (Int32 × sm_H)} (hf : F_9_344  h = some r) (hs : (fun (r : Int32 × sm_H) => res = (some (.int r.1), r.2)) r) : Ex (P_G L xs) (RUN L xs d) (sm_lk P_t9) 3 344 [none] [] h res := by
  unfold F_9_344 at hf
  refine Ex.seg 2 (pc' := 349) (lc' := [none]) (st' := [.int 1]) (h' := h) (sg1 rfl rfl (sg1 rfl rfl rfl)) ?_
  exact Ex.weak (sm_le_s sm_le_nil) (B_9_349 hd  hf hs)
theorem B_9_313 {L : Nat} {xs : Nat → Int32} {d : Nat} (hd : 3 ≤ d) {res : Option Value × sm_H} {z0 : Int32}  {h : sm_H} {r : (Int32 × sm_H)} (hf : F_9_313 z0 h = some r) (hs : (fun (r : Int32 × sm_H) => res = (some (.int r.1), r.2)) r) : Ex (P_G L xs) (RUN L xs d) (sm_lk P_t9) 3 313 [none] [.int z0] h res := by
  unfold F_9_313 at hf
  rcases Classical.em (z0 = 0 ∨ z0 = 1) with c0 | c0
  · rw [if_pos c0] at hf
    obtain rfl := Option.some.inj hf
    exact Ex.iret rfl rfl (fun _ => c0) hs
  · rw [if_neg c0] at hf
    cases hf
theorem B_9_291 {L : Nat} {xs : Nat → Int32} {d : Nat} (hd : 3 ≤ d) {res : Option Value × sm_H} {z0 : Int32}  {h : sm_H} {r : (Int32 × sm_H)} (hf : F_9_291 z0 h = some r) (hs : (fun (r : Int32 × sm_H) => res = (some (.int r.1), r.2)) r) : Ex (P_G L xs) (RUN L xs d) (sm_lk P_t9) 3 291 [none] [.int z0] h res := by
  unfold F_9_291 at hf
  rcases Classical.em (z0 = 0 ∨ z0 = 1) with c0 | c0
  · rw [if_pos c0] at hf
    obtain rfl := Option.some.inj hf
    exact Ex.iret rfl rfl (fun _ => c0) hs
  · rw [if_neg c0] at hf
    cases hf
theorem B_9_272 {L : Nat} {xs : Nat → Int32} {d : Nat} (hd : 3 ≤ d) {res : Option Value × sm_H}   {h : sm_H} {r : (Int32 × sm_H)} (hf : F_9_272  h = some r) (hs : (fun (r : Int32 × sm_H) => res = (some (.int r.1), r.2)) r) : Ex (P_G L xs) (RUN L xs d) (sm_lk P_t9) 3 272 [some (.ref 34)] [] h res := by
  unfold F_9_272 at hf
  refine Ex.seg 4 (pc' := 280) (lc' := [some (.ref 34)]) (st' := [.int (h.1 34 9), .ref 5]) (h' := h) (sg1 rfl rfl (sg1 rfl rfl (sg1 rfl rfl (sg1 rfl rfl rfl)))) ?_
  obtain ⟨q2, e_q2, hf⟩ := bnd hf
  refine Ex.callV (a := 5) (As := [.int (h.1 34 9)]) (r := []) (v := some (.int q2.1)) (h' := q2.2) rfl rfl (by decide) rfl (Nat.le_of_ble_eq_true rfl) rfl (E_224 (Nat.le_trans (by decide) hd) e_q2) rfl ?_
  refine Ex.ifc rfl rfl (fun (c0 : ¬ (q2.1 = 0)) => ?_) (fun (c0 : ¬ ¬ (q2.1 = 0)) => ?_)
  · rw [if_neg c0] at hf
    refine Ex.seg 1 (pc' := 291) (lc' := [some (.ref 34)]) (st' := [.int 0]) (h' := q2.2) (sg1 rfl rfl rfl) ?_
    exact Ex.weak (sm_le_n sm_le_nil) (B_9_291 hd  hf hs)
  · rw [if_pos (Classical.not_not.mp c0)] at hf
    refine Ex.seg 2 (pc' := 291) (lc' := [some (.ref 34)]) (st' := [.int 1]) (h' := q2.2) (sg1 rfl rfl (sg1 rfl rfl rfl)) ?_
    exact Ex.weak (sm_le_n sm_le_nil) (B_9_291 hd  hf hs)
theorem B_9_271 {L : Nat} {xs : Nat → Int32} {d : Nat} (hd : 3 ≤ d) {res : Option Value × sm_H} {z0 : Int32}  {h : sm_H} {r : (Int32 × sm_H)} (hf : F_9_271 z0 h = some r) (hs : (fun (r : Int32 × sm_H) => res = (some (.int r.1), r.2)) r) : Ex (P_G L xs) (RUN L xs d) (sm_lk P_t9) 3 271 [none] [.int z0] h res := by
  unfold F_9_271 at hf
  rcases Classical.em (z0 = 0 ∨ z0 = 1) with c0 | c0
  · rw [if_pos c0] at hf
    obtain rfl := Option.some.inj hf
    exact Ex.iret rfl rfl (fun _ => c0) hs
  · rw [if_neg c0] at hf
    cases hf
theorem B_9_257 {L : Nat} {xs : Nat → Int32} {d : Nat} (hd : 3 ≤ d) {res : Option Value × sm_H} {z0 : Int32}  {h : sm_H} {r : (Int32 × sm_H)} (hf : F_9_257 z0 h = some r) (hs : (fun (r : Int32 × sm_H) => res = (some (.int r.1), r.2)) r) : Ex (P_G L xs) (RUN L xs d) (sm_lk P_t9) 3 257 [none] [.int z0] h res := by
  unfold F_9_257 at hf
  rcases Classical.em (z0 = 0 ∨ z0 = 1) with c0 | c0
  · rw [if_pos c0] at hf
    obtain rfl := Option.some.inj hf
    exact Ex.iret rfl rfl (fun _ => c0) hs
  · rw [if_neg c0] at hf
    cases hf
theorem B_9_256 {L : Nat} {xs : Nat → Int32} {d : Nat} (hd : 3 ≤ d) {res : Option Value × sm_H}   {h : sm_H} {r : (Int32 × sm_H)} (hf : F_9_256  h = some r) (hs : (fun (r : Int32 × sm_H) => res = (some (.int r.1), r.2)) r) : Ex (P_G L xs) (RUN L xs d) (sm_lk P_t9) 3 256 [none] [] h res := by
  unfold F_9_256 at hf
  refine Ex.seg 1 (pc' := 257) (lc' := [none]) (st' := [.int 0]) (h' := h) (sg1 rfl rfl rfl) ?_
  exact Ex.weak (sm_le_s sm_le_nil) (B_9_257 hd  hf hs)
theorem B_9_252 {L : Nat} {xs : Nat → Int32} {d : Nat} (hd : 3 ≤ d) {res : Option Value × sm_H}   {h : sm_H} {r : (Int32 × sm_H)} (hf : F_9_252  h = some r) (hs : (fun (r : Int32 × sm_H) => res = (some (.int r.1), r.2)) r) : Ex (P_G L xs) (RUN L xs d) (sm_lk P_t9) 3 252 [none] [] h res := by
  unfold F_9_252 at hf
  refine Ex.seg 2 (pc' := 257) (lc' := [none]) (st' := [.int 1]) (h' := h) (sg1 rfl rfl (sg1 rfl rfl rfl)) ?_
  exact Ex.weak (sm_le_s sm_le_nil) (B_9_257 hd  hf hs)
theorem B_9_218 {L : Nat} {xs : Nat → Int32} {d : Nat} (hd : 3 ≤ d) {res : Option Value × sm_H} {z0 : Int32}  {h : sm_H} {r : (Int32 × sm_H)} (hf : F_9_218 z0 h = some r) (hs : (fun (r : Int32 × sm_H) => res = (some (.int r.1), r.2)) r) : Ex (P_G L xs) (RUN L xs d) (sm_lk P_t9) 3 218 [none] [.int z0] h res := by
  unfold F_9_218 at hf
  rcases Classical.em (z0 = 0 ∨ z0 = 1) with c0 | c0
  · rw [if_pos c0] at hf
    obtain rfl := Option.some.inj hf
    exact Ex.iret rfl rfl (fun _ => c0) hs
  · rw [if_neg c0] at hf
    cases hf
theorem B_9_198 {L : Nat} {xs : Nat → Int32} {d : Nat} (hd : 3 ≤ d) {res : Option Value × sm_H} {z0 : Int32}  {h : sm_H} {r : (Int32 × sm_H)} (hf : F_9_198 z0 h = some r) (hs : (fun (r : Int32 × sm_H) => res = (some (.int r.1), r.2)) r) : Ex (P_G L xs) (RUN L xs d) (sm_lk P_t9) 3 198 [none] [.int z0] h res := by
  unfold F_9_198 at hf
  rcases Classical.em (z0 = 0 ∨ z0 = 1) with c0 | c0
  · rw [if_pos c0] at hf
    obtain rfl := Option.some.inj hf
    exact Ex.iret rfl rfl (fun _ => c0) hs
  · rw [if_neg c0] at hf
    cases hf
theorem B_9_193 {L : Nat} {xs : Nat → Int32} {d : Nat} (hd : 3 ≤ d) {res : Option Value × sm_H}   {h : sm_H} {r : (Int32 × sm_H)} (hf : F_9_193  h = some r) (hs : (fun (r : Int32 × sm_H) => res = (some (.int r.1), r.2)) r) : Ex (P_G L xs) (RUN L xs d) (sm_lk P_t9) 3 193 [none] [] h res := by
  unfold F_9_193 at hf
  refine Ex.seg 2 (pc' := 198) (lc' := [none]) (st' := [.int 1]) (h' := h) (sg1 rfl rfl (sg1 rfl rfl rfl)) ?_
  exact Ex.weak (sm_le_s sm_le_nil) (B_9_198 hd  hf hs)
theorem B_9_0 {L : Nat} {xs : Nat → Int32} {d : Nat} (hd : 3 ≤ d) {res : Option Value × sm_H}   {h : sm_H} {r : (Int32 × sm_H)} (hf : F_9_0  h = some r) (hs : (fun (r : Int32 × sm_H) => res = (some (.int r.1), r.2)) r) : Ex (P_G L xs) (RUN L xs d) (sm_lk P_t9) 3 0 [some (.ref 34)] [] h res := by
  unfold F_9_0 at hf
  refine Ex.seg 2 (pc' := 4) (lc' := [some (.ref 34)]) (st' := [.int (h.1 34 7)]) (h' := h) (sg1 rfl rfl (sg1 rfl rfl rfl)) ?_
  rcases Classical.em ((h.1 34 7) = 0) with n1 | n1
  · rw [if_pos n1] at hf
    refine Ex.swt (t := 160) rfl rfl (by rw [n1]; exact Or.inr ⟨by decide, by decide, _, rfl, by decide⟩) ?_
    refine Ex.seg 4 (pc' := 168) (lc' := [some (.ref 34)]) (st' := [.int (h.1 34 8), .ref 1]) (h' := h) (sg1 rfl rfl (sg1 rfl rfl (sg1 rfl rfl (sg1 rfl rfl rfl)))) ?_
    obtain ⟨q3, e_q3, hf⟩ := bnd hf
    refine Ex.callV (a := 1) (As := [.int (h.1 34 8)]) (r := []) (v := some (.int q3.1)) (h' := q3.2) rfl rfl (by decide) rfl (Nat.le_of_ble_eq_true rfl) rfl (E_54 (Nat.le_trans (by decide) hd) e_q3) rfl ?_
    refine Ex.ifc rfl rfl (fun (c0 : q3.1 = 0) => ?_) (fun (c0 : ¬ (q3.1 = 0)) => ?_)
    · rw [if_pos c0] at hf
      exact Ex.weak (sm_le_n sm_le_nil) (B_9_193 hd  hf hs)
    · rw [if_neg c0] at hf
      refine Ex.seg 6 (pc' := 186) (lc' := [some (.ref 34)]) (st' := [.long (q3.2.2.1 34 10), .int (q3.2.1 34 8), .ref 21]) (h' := q3.2) (sg1 rfl rfl (sg1 rfl rfl (sg1 rfl rfl (sg1 rfl rfl (sg1 rfl rfl (sg1 rfl rfl rfl)))))) ?_
      obtain ⟨q4, e_q4, hf⟩ := bnd hf
      refine Ex.callV (a := 21) (As := [.int (q3.2.1 34 8), .long (q3.2.2.1 34 10)]) (r := []) (v := some (.int q4.1)) (h' := q4.2) rfl rfl (by decide) rfl (Nat.le_of_ble_eq_true rfl) rfl (E_152 (Nat.le_trans (by decide) hd) e_q4) rfl ?_
      refine Ex.seg 1 (pc' := 190) (lc' := [some (.ref 34)]) (st' := [.int 1, .int q4.1]) (h' := q4.2) (sg1 rfl rfl rfl) ?_
      refine Ex.icmp rfl rfl (fun (c0 : ¬ (q4.1 = 1)) => ?_) (fun (c0 : ¬ ¬ (q4.1 = 1)) => ?_)
      · rw [if_neg c0] at hf
        refine Ex.seg 1 (pc' := 198) (lc' := [some (.ref 34)]) (st' := [.int 0]) (h' := q4.2) (sg1 rfl rfl rfl) ?_
        exact Ex.weak (sm_le_n sm_le_nil) (B_9_198 hd  hf hs)
      · rw [if_pos (Classical.not_not.mp c0)] at hf
        exact Ex.weak (sm_le_n sm_le_nil) (B_9_193 hd  hf hs)
  rw [if_neg n1] at hf
  rcases Classical.em ((h.1 34 7) = 2) with n2 | n2
  · rw [if_pos n2] at hf
    refine Ex.swt (t := 199) rfl rfl (by rw [n2]; exact Or.inr ⟨by decide, by decide, _, rfl, by decide⟩) ?_
    refine Ex.seg 4 (pc' := 207) (lc' := [some (.ref 34)]) (st' := [.int (h.1 34 8), .ref 1]) (h' := h) (sg1 rfl rfl (sg1 rfl rfl (sg1 rfl rfl (sg1 rfl rfl rfl)))) ?_
    obtain ⟨q5, e_q5, hf⟩ := bnd hf
    refine Ex.callV (a := 1) (As := [.int (h.1 34 8)]) (r := []) (v := some (.int q5.1)) (h' := q5.2) rfl rfl (by decide) rfl (Nat.le_of_ble_eq_true rfl) rfl (E_54 (Nat.le_trans (by decide) hd) e_q5) rfl ?_
    refine Ex.ifc rfl rfl (fun (c0 : ¬ (q5.1 = 0)) => ?_) (fun (c0 : ¬ ¬ (q5.1 = 0)) => ?_)
    · rw [if_neg c0] at hf
      refine Ex.seg 1 (pc' := 218) (lc' := [some (.ref 34)]) (st' := [.int 0]) (h' := q5.2) (sg1 rfl rfl rfl) ?_
      exact Ex.weak (sm_le_n sm_le_nil) (B_9_218 hd  hf hs)
    · rw [if_pos (Classical.not_not.mp c0)] at hf
      refine Ex.seg 2 (pc' := 218) (lc' := [some (.ref 34)]) (st' := [.int 1]) (h' := q5.2) (sg1 rfl rfl (sg1 rfl rfl rfl)) ?_
      exact Ex.weak (sm_le_n sm_le_nil) (B_9_218 hd  hf hs)
  rw [if_neg n2] at hf
  rcases Classical.em ((h.1 34 7) = 3) with n3 | n3
  · rw [if_pos n3] at hf
    refine Ex.swt (t := 219) rfl rfl (by rw [n3]; exact Or.inr ⟨by decide, by decide, _, rfl, by decide⟩) ?_
    refine Ex.seg 2 (pc' := 223) (lc' := [some (.ref 34)]) (st' := [.int (h.1 34 8)]) (h' := h) (sg1 rfl rfl (sg1 rfl rfl rfl)) ?_
    refine Ex.ifc rfl rfl (fun (c0 : (h.1 34 8) < 0) => ?_) (fun (c0 : ¬ ((h.1 34 8) < 0)) => ?_)
    · rw [if_pos c0] at hf
      exact Ex.weak (sm_le_n sm_le_nil) (B_9_252 hd  hf hs)
    · rw [if_neg c0] at hf
      refine Ex.seg 3 (pc' := 232) (lc' := [some (.ref 34)]) (st' := [.int 12, .int (h.1 34 8)]) (h' := h) (sg1 rfl rfl (sg1 rfl rfl (sg1 rfl rfl rfl))) ?_
      refine Ex.icmp rfl rfl (fun (c0 : 12 < (h.1 34 8)) => ?_) (fun (c0 : ¬ (12 < (h.1 34 8))) => ?_)
      · rw [if_pos c0] at hf
        exact Ex.weak (sm_le_n sm_le_nil) (B_9_252 hd  hf hs)
      · rw [if_neg c0] at hf
        refine Ex.seg 3 (pc' := 240) (lc' := [some (.ref 34)]) (st' := [.int 5, .int (h.1 34 9)]) (h' := h) (sg1 rfl rfl (sg1 rfl rfl (sg1 rfl rfl rfl))) ?_
        refine Ex.icmp rfl rfl (fun (c0 : (h.1 34 9) = 5) => ?_) (fun (c0 : ¬ ((h.1 34 9) = 5)) => ?_)
        · rw [if_pos c0] at hf
          exact Ex.weak (sm_le_n sm_le_nil) (B_9_256 hd  hf hs)
        · rw [if_neg c0] at hf
          refine Ex.seg 3 (pc' := 249) (lc' := [some (.ref 34)]) (st' := [.int 6, .int (h.1 34 9)]) (h' := h) (sg1 rfl rfl (sg1 rfl rfl (sg1 rfl rfl rfl))) ?_
          refine Ex.icmp rfl rfl (fun (c0 : (h.1 34 9) = 6) => ?_) (fun (c0 : ¬ ((h.1 34 9) = 6)) => ?_)
          · rw [if_pos c0] at hf
            exact Ex.weak (sm_le_n sm_le_nil) (B_9_256 hd  hf hs)
          · rw [if_neg c0] at hf
            exact Ex.weak (sm_le_n sm_le_nil) (B_9_252 hd  hf hs)
  rw [if_neg n3] at hf
  rcases Classical.em ((h.1 34 7) = 4) with n4 | n4
  · rw [if_pos n4] at hf
    refine Ex.swt (t := 272) rfl rfl (by rw [n4]; exact Or.inr ⟨by decide, by decide, _, rfl, by decide⟩) ?_
    exact Ex.weak (sm_le_s sm_le_nil) (B_9_272 hd  hf hs)
  rw [if_neg n4] at hf
  rcases Classical.em ((h.1 34 7) = 5) with n5 | n5
  · rw [if_pos n5] at hf
    refine Ex.swt (t := 272) rfl rfl (by rw [n5]; exact Or.inr ⟨by decide, by decide, _, rfl, by decide⟩) ?_
    exact Ex.weak (sm_le_s sm_le_nil) (B_9_272 hd  hf hs)
  rw [if_neg n5] at hf
  rcases Classical.em ((h.1 34 7) = 6) with n6 | n6
  · rw [if_pos n6] at hf
    refine Ex.swt (t := 258) rfl rfl (by rw [n6]; exact Or.inr ⟨by decide, by decide, _, rfl, by decide⟩) ?_
    refine Ex.seg 1 (pc' := 259) (lc' := [some (.ref 34)]) (st' := [.ref 34]) (h' := h) (sg1 rfl rfl rfl) ?_
    obtain ⟨q6, e_q6, hf⟩ := bnd hf
    refine Ex.callV (a := 34) (As := []) (r := []) (v := some (.int q6.1)) (h' := q6.2) rfl rfl (by decide) rfl (Nat.le_of_ble_eq_true rfl) rfl (E_10 (Nat.le_trans (by decide) hd) e_q6) rfl ?_
    refine Ex.seg 1 (pc' := 263) (lc' := [some (.ref 34)]) (st' := [.int 1, .int q6.1]) (h' := q6.2) (sg1 rfl rfl rfl) ?_
    refine Ex.icmp rfl rfl (fun (c0 : ¬ (q6.1 = 1)) => ?_) (fun (c0 : ¬ ¬ (q6.1 = 1)) => ?_)
    · rw [if_neg c0] at hf
      refine Ex.seg 1 (pc' := 271) (lc' := [some (.ref 34)]) (st' := [.int 0]) (h' := q6.2) (sg1 rfl rfl rfl) ?_
      exact Ex.weak (sm_le_n sm_le_nil) (B_9_271 hd  hf hs)
    · rw [if_pos (Classical.not_not.mp c0)] at hf
      refine Ex.seg 2 (pc' := 271) (lc' := [some (.ref 34)]) (st' := [.int 1]) (h' := q6.2) (sg1 rfl rfl (sg1 rfl rfl rfl)) ?_
      exact Ex.weak (sm_le_n sm_le_nil) (B_9_271 hd  hf hs)
  rw [if_neg n6] at hf
  rcases Classical.em ((h.1 34 7) = 10) with n7 | n7
  · rw [if_pos n7] at hf
    refine Ex.swt (t := 350) rfl rfl (by rw [n7]; exact Or.inr ⟨by decide, by decide, _, rfl, by decide⟩) ?_
    exact Ex.weak (sm_le_s sm_le_nil) (B_9_350 hd  hf hs)
  rw [if_neg n7] at hf
  rcases Classical.em ((h.1 34 7) = 12) with n8 | n8
  · rw [if_pos n8] at hf
    refine Ex.swt (t := 272) rfl rfl (by rw [n8]; exact Or.inr ⟨by decide, by decide, _, rfl, by decide⟩) ?_
    exact Ex.weak (sm_le_s sm_le_nil) (B_9_272 hd  hf hs)
  rw [if_neg n8] at hf
  rcases Classical.em ((h.1 34 7) = 13) with n9 | n9
  · rw [if_pos n9] at hf
    refine Ex.swt (t := 272) rfl rfl (by rw [n9]; exact Or.inr ⟨by decide, by decide, _, rfl, by decide⟩) ?_
    exact Ex.weak (sm_le_s sm_le_nil) (B_9_272 hd  hf hs)
  rw [if_neg n9] at hf
  rcases Classical.em ((h.1 34 7) = 15) with n10 | n10
  · rw [if_pos n10] at hf
    refine Ex.swt (t := 292) rfl rfl (by rw [n10]; exact Or.inr ⟨by decide, by decide, _, rfl, by decide⟩) ?_
    refine Ex.seg 5 (pc' := 302) (lc' := [some (.ref 34)]) (st' := [.int 19, .int (h.1 34 8), .ref 1]) (h' := h) (sg1 rfl rfl (sg1 rfl rfl (sg1 rfl rfl (sg1 rfl rfl (sg1 rfl rfl rfl))))) ?_
    obtain ⟨q7, e_q7, hf⟩ := bnd hf
    refine Ex.callV (a := 1) (As := [.int (h.1 34 8), .int 19]) (r := []) (v := some (.int q7.1)) (h' := q7.2) rfl rfl (by decide) rfl (Nat.le_of_ble_eq_true rfl) rfl (E_60 (Nat.le_trans (by decide) hd) e_q7) rfl ?_
    refine Ex.ifc rfl rfl (fun (c0 : ¬ (q7.1 = 0)) => ?_) (fun (c0 : ¬ ¬ (q7.1 = 0)) => ?_)
    · rw [if_neg c0] at hf
      refine Ex.seg 1 (pc' := 313) (lc' := [some (.ref 34)]) (st' := [.int 0]) (h' := q7.2) (sg1 rfl rfl rfl) ?_
      exact Ex.weak (sm_le_n sm_le_nil) (B_9_313 hd  hf hs)
    · rw [if_pos (Classical.not_not.mp c0)] at hf
      refine Ex.seg 2 (pc' := 313) (lc' := [some (.ref 34)]) (st' := [.int 1]) (h' := q7.2) (sg1 rfl rfl (sg1 rfl rfl rfl)) ?_
      exact Ex.weak (sm_le_n sm_le_nil) (B_9_313 hd  hf hs)
  rw [if_neg n10] at hf
  rcases Classical.em ((h.1 34 7) = 18) with n11 | n11
  · rw [if_pos n11] at hf
    refine Ex.swt (t := 272) rfl rfl (by rw [n11]; exact Or.inr ⟨by decide, by decide, _, rfl, by decide⟩) ?_
    exact Ex.weak (sm_le_s sm_le_nil) (B_9_272 hd  hf hs)
  rw [if_neg n11] at hf
  rcases Classical.em ((h.1 34 7) = 19) with n12 | n12
  · rw [if_pos n12] at hf
    refine Ex.swt (t := 314) rfl rfl (by rw [n12]; exact Or.inr ⟨by decide, by decide, _, rfl, by decide⟩) ?_
    refine Ex.seg 4 (pc' := 322) (lc' := [some (.ref 34)]) (st' := [.int (h.1 34 8), .ref 1]) (h' := h) (sg1 rfl rfl (sg1 rfl rfl (sg1 rfl rfl (sg1 rfl rfl rfl)))) ?_
    obtain ⟨q8, e_q8, hf⟩ := bnd hf
    refine Ex.callV (a := 1) (As := [.int (h.1 34 8)]) (r := []) (v := some (.int q8.1)) (h' := q8.2) rfl rfl (by decide) rfl (Nat.le_of_ble_eq_true rfl) rfl (E_53 (Nat.le_trans (by decide) hd) e_q8) rfl ?_
    refine Ex.ifc rfl rfl (fun (c0 : q8.1 = 0) => ?_) (fun (c0 : ¬ (q8.1 = 0)) => ?_)
    · rw [if_pos c0] at hf
      exact Ex.weak (sm_le_n sm_le_nil) (B_9_344 hd  hf hs)
    · rw [if_neg c0] at hf
      refine Ex.seg 5 (pc' := 338) (lc' := [some (.ref 34)]) (st' := [.int 19, .int (q8.2.1 34 9), .ref 1]) (h' := q8.2) (sg1 rfl rfl (sg1 rfl rfl (sg1 rfl rfl (sg1 rfl rfl (sg1 rfl rfl rfl))))) ?_
      obtain ⟨q9, e_q9, hf⟩ := bnd hf
      refine Ex.callV (a := 1) (As := [.int (q8.2.1 34 9), .int 19]) (r := []) (v := some (.int q9.1)) (h' := q9.2) rfl rfl (by decide) rfl (Nat.le_of_ble_eq_true rfl) rfl (E_60 (Nat.le_trans (by decide) hd) e_q9) rfl ?_
      refine Ex.ifc rfl rfl (fun (c0 : ¬ (q9.1 = 0)) => ?_) (fun (c0 : ¬ ¬ (q9.1 = 0)) => ?_)
      · rw [if_neg c0] at hf
        refine Ex.seg 1 (pc' := 349) (lc' := [some (.ref 34)]) (st' := [.int 0]) (h' := q9.2) (sg1 rfl rfl rfl) ?_
        exact Ex.weak (sm_le_n sm_le_nil) (B_9_349 hd  hf hs)
      · rw [if_pos (Classical.not_not.mp c0)] at hf
        exact Ex.weak (sm_le_n sm_le_nil) (B_9_344 hd  hf hs)
  rw [if_neg n12] at hf
  rcases Classical.em ((h.1 34 7) = 20) with n13 | n13
  · rw [if_pos n13] at hf
    refine Ex.swt (t := 350) rfl rfl (by rw [n13]; exact Or.inr ⟨by decide, by decide, _, rfl, by decide⟩) ?_
    exact Ex.weak (sm_le_s sm_le_nil) (B_9_350 hd  hf hs)
  rw [if_neg n13] at hf
  rcases Classical.em ((h.1 34 7) = 21) with n14 | n14
  · rw [if_pos n14] at hf
    refine Ex.swt (t := 350) rfl rfl (by rw [n14]; exact Or.inr ⟨by decide, by decide, _, rfl, by decide⟩) ?_
    exact Ex.weak (sm_le_s sm_le_nil) (B_9_350 hd  hf hs)
  rw [if_neg n14] at hf
  rcases Classical.em ((h.1 34 7) = 22) with n15 | n15
  · rw [if_pos n15] at hf
    refine Ex.swt (t := 350) rfl rfl (by rw [n15]; exact Or.inr ⟨by decide, by decide, _, rfl, by decide⟩) ?_
    exact Ex.weak (sm_le_s sm_le_nil) (B_9_350 hd  hf hs)
  rw [if_neg n15] at hf
  rcases Classical.em ((h.1 34 7) = 23) with n16 | n16
  · rw [if_pos n16] at hf
    refine Ex.swt (t := 350) rfl rfl (by rw [n16]; exact Or.inr ⟨by decide, by decide, _, rfl, by decide⟩) ?_
    exact Ex.weak (sm_le_s sm_le_nil) (B_9_350 hd  hf hs)
  rw [if_neg n16] at hf
  rcases Classical.em ((h.1 34 7) = 24) with n17 | n17
  · rw [if_pos n17] at hf
    refine Ex.swt (t := 350) rfl rfl (by rw [n17]; exact Or.inr ⟨by decide, by decide, _, rfl, by decide⟩) ?_
    exact Ex.weak (sm_le_s sm_le_nil) (B_9_350 hd  hf hs)
  rw [if_neg n17] at hf
  rcases Classical.em ((h.1 34 7) = 25) with n18 | n18
  · rw [if_pos n18] at hf
    refine Ex.swt (t := 350) rfl rfl (by rw [n18]; exact Or.inr ⟨by decide, by decide, _, rfl, by decide⟩) ?_
    exact Ex.weak (sm_le_s sm_le_nil) (B_9_350 hd  hf hs)
  rw [if_neg n18] at hf
  rcases Classical.em ((h.1 34 7) = 26) with n19 | n19
  · rw [if_pos n19] at hf
    refine Ex.swt (t := 370) rfl rfl (by rw [n19]; exact Or.inr ⟨by decide, by decide, _, rfl, by decide⟩) ?_
    refine Ex.seg 3 (pc' := 376) (lc' := [some (.ref 34)]) (st' := [.int 15, .int (h.1 34 8)]) (h' := h) (sg1 rfl rfl (sg1 rfl rfl (sg1 rfl rfl rfl))) ?_
    refine Ex.icmp rfl rfl (fun (c0 : (h.1 34 8) = 15) => ?_) (fun (c0 : ¬ ((h.1 34 8) = 15)) => ?_)
    · rw [if_pos c0] at hf
      exact Ex.weak (sm_le_n sm_le_nil) (B_9_392 hd  hf hs)
    · rw [if_neg c0] at hf
      refine Ex.seg 3 (pc' := 385) (lc' := [some (.ref 34)]) (st' := [.int 16, .int (h.1 34 8)]) (h' := h) (sg1 rfl rfl (sg1 rfl rfl (sg1 rfl rfl rfl))) ?_
      refine Ex.icmp rfl rfl (fun (c0 : (h.1 34 8) = 16) => ?_) (fun (c0 : ¬ ((h.1 34 8) = 16)) => ?_)
      · rw [if_pos c0] at hf
        exact Ex.weak (sm_le_n sm_le_nil) (B_9_392 hd  hf hs)
      · rw [if_neg c0] at hf
        refine Ex.seg 2 (pc' := 393) (lc' := [some (.ref 34)]) (st' := [.int 1]) (h' := h) (sg1 rfl rfl (sg1 rfl rfl rfl)) ?_
        exact Ex.weak (sm_le_n sm_le_nil) (B_9_393 hd  hf hs)
  rw [if_neg n19] at hf
  rcases Classical.em ((h.1 34 7) = 27) with n20 | n20
  · rw [if_pos n20] at hf
    refine Ex.swt (t := 272) rfl rfl (by rw [n20]; exact Or.inr ⟨by decide, by decide, _, rfl, by decide⟩) ?_
    exact Ex.weak (sm_le_s sm_le_nil) (B_9_272 hd  hf hs)
  rw [if_neg n20] at hf
  rcases Classical.em ((h.1 34 7) = 28) with n21 | n21
  · rw [if_pos n21] at hf
    refine Ex.swt (t := 272) rfl rfl (by rw [n21]; exact Or.inr ⟨by decide, by decide, _, rfl, by decide⟩) ?_
    exact Ex.weak (sm_le_s sm_le_nil) (B_9_272 hd  hf hs)
  rw [if_neg n21] at hf
  rcases Classical.em ((h.1 34 7) = 29) with n22 | n22
  · rw [if_pos n22] at hf
    refine Ex.swt (t := 394) rfl rfl (by rw [n22]; exact Or.inr ⟨by decide, by decide, _, rfl, by decide⟩) ?_
    refine Ex.seg 4 (pc' := 402) (lc' := [some (.ref 34)]) (st' := [.int (h.1 34 8), .ref 21]) (h' := h) (sg1 rfl rfl (sg1 rfl rfl (sg1 rfl rfl (sg1 rfl rfl rfl)))) ?_
    obtain ⟨q10, e_q10, hf⟩ := bnd hf
    refine Ex.callV (a := 21) (As := [.int (h.1 34 8)]) (r := []) (v := some (.int q10.1)) (h' := q10.2) rfl rfl (by decide) rfl (Nat.le_of_ble_eq_true rfl) rfl (E_156 (Nat.le_trans (by decide) hd) e_q10) rfl ?_
    refine Ex.ifc rfl rfl (fun (c0 : ¬ (q10.1 = 0)) => ?_) (fun (c0 : ¬ ¬ (q10.1 = 0)) => ?_)
    · rw [if_neg c0] at hf
      refine Ex.seg 1 (pc' := 413) (lc' := [some (.ref 34)]) (st' := [.int 0]) (h' := q10.2) (sg1 rfl rfl rfl) ?_
      exact Ex.weak (sm_le_n sm_le_nil) (B_9_413 hd  hf hs)
    · rw [if_pos (Classical.not_not.mp c0)] at hf
      refine Ex.seg 2 (pc' := 413) (lc' := [some (.ref 34)]) (st' := [.int 1]) (h' := q10.2) (sg1 rfl rfl (sg1 rfl rfl rfl)) ?_
      exact Ex.weak (sm_le_n sm_le_nil) (B_9_413 hd  hf hs)
  rw [if_neg n22] at hf
  rcases Classical.em ((h.1 34 7) = 30) with n23 | n23
  · rw [if_pos n23] at hf
    refine Ex.swt (t := 414) rfl rfl (by rw [n23]; exact Or.inr ⟨by decide, by decide, _, rfl, by decide⟩) ?_
    refine Ex.seg 4 (pc' := 422) (lc' := [some (.ref 34)]) (st' := [.int (h.1 34 8), .ref 21]) (h' := h) (sg1 rfl rfl (sg1 rfl rfl (sg1 rfl rfl (sg1 rfl rfl rfl)))) ?_
    obtain ⟨q11, e_q11, hf⟩ := bnd hf
    refine Ex.callV (a := 21) (As := [.int (h.1 34 8)]) (r := []) (v := some (.int q11.1)) (h' := q11.2) rfl rfl (by decide) rfl (Nat.le_of_ble_eq_true rfl) rfl (E_160 (Nat.le_trans (by decide) hd) e_q11) rfl ?_
    refine Ex.ifc rfl rfl (fun (c0 : ¬ (q11.1 = 0)) => ?_) (fun (c0 : ¬ ¬ (q11.1 = 0)) => ?_)
    · rw [if_neg c0] at hf
      refine Ex.seg 1 (pc' := 433) (lc' := [some (.ref 34)]) (st' := [.int 0]) (h' := q11.2) (sg1 rfl rfl rfl) ?_
      exact Ex.weak (sm_le_n sm_le_nil) (B_9_433 hd  hf hs)
    · rw [if_pos (Classical.not_not.mp c0)] at hf
      refine Ex.seg 2 (pc' := 433) (lc' := [some (.ref 34)]) (st' := [.int 1]) (h' := q11.2) (sg1 rfl rfl (sg1 rfl rfl rfl)) ?_
      exact Ex.weak (sm_le_n sm_le_nil) (B_9_433 hd  hf hs)
  rw [if_neg n23] at hf
  rcases Classical.em ((h.1 34 7) = 31) with n24 | n24
  · rw [if_pos n24] at hf
    refine Ex.swt (t := 434) rfl rfl (by rw [n24]; exact Or.inr ⟨by decide, by decide, _, rfl, by decide⟩) ?_
    refine Ex.seg 4 (pc' := 442) (lc' := [some (.ref 34)]) (st' := [.int (h.1 34 8), .ref 1]) (h' := h) (sg1 rfl rfl (sg1 rfl rfl (sg1 rfl rfl (sg1 rfl rfl rfl)))) ?_
    obtain ⟨q12, e_q12, hf⟩ := bnd hf
    refine Ex.callV (a := 1) (As := [.int (h.1 34 8)]) (r := []) (v := some (.int q12.1)) (h' := q12.2) rfl rfl (by decide) rfl (Nat.le_of_ble_eq_true rfl) rfl (E_57 (Nat.le_trans (by decide) hd) e_q12) rfl ?_
    refine Ex.ifc rfl rfl (fun (c0 : ¬ (q12.1 = 0)) => ?_) (fun (c0 : ¬ ¬ (q12.1 = 0)) => ?_)
    · rw [if_neg c0] at hf
      refine Ex.seg 1 (pc' := 453) (lc' := [some (.ref 34)]) (st' := [.int 0]) (h' := q12.2) (sg1 rfl rfl rfl) ?_
      exact Ex.weak (sm_le_n sm_le_nil) (B_9_453 hd  hf hs)
    · rw [if_pos (Classical.not_not.mp c0)] at hf
      refine Ex.seg 2 (pc' := 453) (lc' := [some (.ref 34)]) (st' := [.int 1]) (h' := q12.2) (sg1 rfl rfl (sg1 rfl rfl rfl)) ?_
      exact Ex.weak (sm_le_n sm_le_nil) (B_9_453 hd  hf hs)
  rw [if_neg n24] at hf
  rcases Classical.em ((h.1 34 7) = 34) with n25 | n25
  · rw [if_pos n25] at hf
    refine Ex.swt (t := 272) rfl rfl (by rw [n25]; exact Or.inr ⟨by decide, by decide, _, rfl, by decide⟩) ?_
    exact Ex.weak (sm_le_s sm_le_nil) (B_9_272 hd  hf hs)
  rw [if_neg n25] at hf
  refine Ex.swt (t := 454) rfl rfl (sw_dflt (by decide) (by decide) (fun k hk he => ?_)) ?_
  · have hk : k < 35 := hk
    rcases (show k = 0 ∨ k = 1 ∨ k = 2 ∨ k = 3 ∨ k = 4 ∨ k = 5 ∨ k = 6 ∨ k = 7 ∨ k = 8 ∨ k = 9 ∨ k = 10 ∨ k = 11 ∨ k = 12 ∨ k = 13 ∨ k = 14 ∨ k = 15 ∨ k = 16 ∨ k = 17 ∨ k = 18 ∨ k = 19 ∨ k = 20 ∨ k = 21 ∨ k = 22 ∨ k = 23 ∨ k = 24 ∨ k = 25 ∨ k = 26 ∨ k = 27 ∨ k = 28 ∨ k = 29 ∨ k = 30 ∨ k = 31 ∨ k = 32 ∨ k = 33 ∨ k = 34 by omega) with rfl | rfl | rfl | rfl | rfl | rfl | rfl | rfl | rfl | rfl | rfl | rfl | rfl | rfl | rfl | rfl | rfl | rfl | rfl | rfl | rfl | rfl | rfl | rfl | rfl | rfl | rfl | rfl | rfl | rfl | rfl | rfl | rfl | rfl | rfl
    · exact absurd (Int32.toInt_inj.mp (he.symm.trans (by decide : (_ : Int) = Int32.toInt 0))) n1
    · rfl
    · exact absurd (Int32.toInt_inj.mp (he.symm.trans (by decide : (_ : Int) = Int32.toInt 2))) n2
    · exact absurd (Int32.toInt_inj.mp (he.symm.trans (by decide : (_ : Int) = Int32.toInt 3))) n3
    · exact absurd (Int32.toInt_inj.mp (he.symm.trans (by decide : (_ : Int) = Int32.toInt 4))) n4
    · exact absurd (Int32.toInt_inj.mp (he.symm.trans (by decide : (_ : Int) = Int32.toInt 5))) n5
    · exact absurd (Int32.toInt_inj.mp (he.symm.trans (by decide : (_ : Int) = Int32.toInt 6))) n6
    · rfl
    · rfl
    · rfl
    · exact absurd (Int32.toInt_inj.mp (he.symm.trans (by decide : (_ : Int) = Int32.toInt 10))) n7
    · rfl
    · exact absurd (Int32.toInt_inj.mp (he.symm.trans (by decide : (_ : Int) = Int32.toInt 12))) n8
    · exact absurd (Int32.toInt_inj.mp (he.symm.trans (by decide : (_ : Int) = Int32.toInt 13))) n9
    · rfl
    · exact absurd (Int32.toInt_inj.mp (he.symm.trans (by decide : (_ : Int) = Int32.toInt 15))) n10
    · rfl
    · rfl
    · exact absurd (Int32.toInt_inj.mp (he.symm.trans (by decide : (_ : Int) = Int32.toInt 18))) n11
    · exact absurd (Int32.toInt_inj.mp (he.symm.trans (by decide : (_ : Int) = Int32.toInt 19))) n12
    · exact absurd (Int32.toInt_inj.mp (he.symm.trans (by decide : (_ : Int) = Int32.toInt 20))) n13
    · exact absurd (Int32.toInt_inj.mp (he.symm.trans (by decide : (_ : Int) = Int32.toInt 21))) n14
    · exact absurd (Int32.toInt_inj.mp (he.symm.trans (by decide : (_ : Int) = Int32.toInt 22))) n15
    · exact absurd (Int32.toInt_inj.mp (he.symm.trans (by decide : (_ : Int) = Int32.toInt 23))) n16
    · exact absurd (Int32.toInt_inj.mp (he.symm.trans (by decide : (_ : Int) = Int32.toInt 24))) n17
    · exact absurd (Int32.toInt_inj.mp (he.symm.trans (by decide : (_ : Int) = Int32.toInt 25))) n18
    · exact absurd (Int32.toInt_inj.mp (he.symm.trans (by decide : (_ : Int) = Int32.toInt 26))) n19
    · exact absurd (Int32.toInt_inj.mp (he.symm.trans (by decide : (_ : Int) = Int32.toInt 27))) n20
    · exact absurd (Int32.toInt_inj.mp (he.symm.trans (by decide : (_ : Int) = Int32.toInt 28))) n21
    · exact absurd (Int32.toInt_inj.mp (he.symm.trans (by decide : (_ : Int) = Int32.toInt 29))) n22
    · exact absurd (Int32.toInt_inj.mp (he.symm.trans (by decide : (_ : Int) = Int32.toInt 30))) n23
    · exact absurd (Int32.toInt_inj.mp (he.symm.trans (by decide : (_ : Int) = Int32.toInt 31))) n24
    · rfl
    · rfl
    · exact absurd (Int32.toInt_inj.mp (he.symm.trans (by decide : (_ : Int) = Int32.toInt 34))) n25
  exact Ex.weak (sm_le_n sm_le_nil) (B_9_454 hd  hf hs)
theorem E_9 {L : Nat} {xs : Nat → Int32} {d : Nat} (hd : 4 ≤ d)  {h : sm_H} {r : Int32 × sm_H} (hf : F_9  h = some r) : RUN L xs d 9 [.ref 34] h (some (.int r.1), r.2) := by
  obtain ⟨d, rfl⟩ : ∃ e, d = e + 1 := ⟨d - 1, by omega⟩
  exact ⟨Nat.le_of_ble_eq_true rfl, B_9_0 (by omega) hf rfl⟩
theorem B_14_578 {L : Nat} {xs : Nat → Int32} {d : Nat} (hd : 3 ≤ d) {res : Option Value × sm_H}   {h : sm_H} {r : (Int32 × sm_H)} (hf : F_14_578  h = some r) (hs : (fun (r : Int32 × sm_H) => res = (some (.int r.1), r.2)) r) : Ex (P_G L xs) (RUN L xs d) (sm_lk P_t14) 3 578 [none] [] h res := by
  unfold F_14_578 at hf
  refine Ex.seg 1 (pc' := 579) (lc' := [none]) (st' := [.int 0]) (h' := h) (sg1 rfl rfl rfl) ?_
  obtain rfl := Option.some.inj hf
  exact Ex.iret rfl rfl (fun _ => by decide) hs
theorem B_14_577 {L : Nat} {xs : Nat → Int32} {d : Nat} (hd : 3 ≤ d) {res : Option Value × sm_H} {z0 : Int32}  {h : sm_H} {r : (Int32 × sm_H)} (hf : F_14_577 z0 h = some r) (hs : (fun (r : Int32 × sm_H) => res = (some (.int r.1), r.2)) r) : Ex (P_G L xs) (RUN L xs d) (sm_lk P_t14) 3 577 [none] [.int z0] h res := by
  unfold F_14_577 at hf
  rcases Classical.em (z0 = 0 ∨ z0 = 1) with c0 | c0
  · rw [if_pos c0] at hf
    obtain rfl := Option.some.inj hf
    exact Ex.iret rfl rfl (fun _ => c0) hs
  · rw [if_neg c0] at hf
    cases hf
theorem B_14_531 {L : Nat} {xs : Nat → Int32} {d : Nat} (hd : 3 ≤ d) {res : Option Value × sm_H} {z0 : Int32}  {h : sm_H} {r : (Int32 × sm_H)} (hf : F_14_531 z0 h = some r) (hs : (fun (r : Int32 × sm_H) => res = (some (.int r.1), r.2)) r) : Ex (P_G L xs) (RUN L xs d) (sm_lk P_t14) 3 531 [none] [.int z0] h res := by
  unfold F_14_531 at hf
  rcases Classical.em (z0 = 0 ∨ z0 = 1) with c0 | c0
  · rw [if_pos c0] at hf
    obtain rfl := Option.some.inj hf
    exact Ex.iret rfl rfl (fun _ => c0) hs
  · rw [if_neg c0] at hf
    cases hf
theorem B_14_526 {L : Nat} {xs : Nat → Int32} {d : Nat} (hd : 3 ≤ d) {res : Option Value × sm_H}   {h : sm_H} {r : (Int32 × sm_H)} (hf : F_14_526  h = some r) (hs : (fun (r : Int32 × sm_H) => res = (some (.int r.1), r.2)) r) : Ex (P_G L xs) (RUN L xs d) (sm_lk P_t14) 3 526 [none] [] h res := by
  unfold F_14_526 at hf
  refine Ex.seg 2 (pc' := 531) (lc' := [none]) (st' := [.int 1]) (h' := h) (sg1 rfl rfl (sg1 rfl rfl rfl)) ?_
  exact Ex.weak (sm_le_s sm_le_nil) (B_14_531 hd  hf hs)
theorem B_14_498 {L : Nat} {xs : Nat → Int32} {d : Nat} (hd : 3 ≤ d) {res : Option Value × sm_H} {z0 : Int32}  {h : sm_H} {r : (Int32 × sm_H)} (hf : F_14_498 z0 h = some r) (hs : (fun (r : Int32 × sm_H) => res = (some (.int r.1), r.2)) r) : Ex (P_G L xs) (RUN L xs d) (sm_lk P_t14) 3 498 [none] [.int z0] h res := by
  unfold F_14_498 at hf
  rcases Classical.em (z0 = 0 ∨ z0 = 1) with c0 | c0
  · rw [if_pos c0] at hf
    obtain rfl := Option.some.inj hf
    exact Ex.iret rfl rfl (fun _ => c0) hs
  · rw [if_neg c0] at hf
    cases hf
theorem B_14_493 {L : Nat} {xs : Nat → Int32} {d : Nat} (hd : 3 ≤ d) {res : Option Value × sm_H}   {h : sm_H} {r : (Int32 × sm_H)} (hf : F_14_493  h = some r) (hs : (fun (r : Int32 × sm_H) => res = (some (.int r.1), r.2)) r) : Ex (P_G L xs) (RUN L xs d) (sm_lk P_t14) 3 493 [none] [] h res := by
  unfold F_14_493 at hf
  refine Ex.seg 2 (pc' := 498) (lc' := [none]) (st' := [.int 1]) (h' := h) (sg1 rfl rfl (sg1 rfl rfl rfl)) ?_
  exact Ex.weak (sm_le_s sm_le_nil) (B_14_498 hd  hf hs)
theorem B_14_407 {L : Nat} {xs : Nat → Int32} {d : Nat} (hd : 3 ≤ d) {res : Option Value × sm_H} {z0 : Int32}  {h : sm_H} {r : (Int32 × sm_H)} (hf : F_14_407 z0 h = some r) (hs : (fun (r : Int32 × sm_H) => res = (some (.int r.1), r.2)) r) : Ex (P_G L xs) (RUN L xs d) (sm_lk P_t14) 3 407 [none] [.int z0] h res := by
  unfold F_14_407 at hf
  rcases Classical.em (z0 = 0 ∨ z0 = 1) with c0 | c0
  · rw [if_pos c0] at hf
    obtain rfl := Option.some.inj hf
    exact Ex.iret rfl rfl (fun _ => c0) hs
  · rw [if_neg c0] at hf
    cases hf
theorem B_14_396 {L : Nat} {xs : Nat → Int32} {d : Nat} (hd : 3 ≤ d) {res : Option Value × sm_H} {z1 : Int32} {z2 : Int32} {z3 : Int32}  {h : sm_H} {r : (Int32 × sm_H)} (hf : F_14_396 z1 z2 z3 h = some r) (hs : (fun (r : Int32 × sm_H) => res = (some (.int r.1), r.2)) r) : Ex (P_G L xs) (RUN L xs d) (sm_lk P_t14) 3 396 [none] [.int z3, .int z2, .int z1, .ref 5] h res := by
  unfold F_14_396 at hf
  obtain ⟨q1, e_q1, hf⟩ := bnd hf
  refine Ex.callV (a := 5) (As := [.int z1, .int z2, .int z3]) (r := []) (v := some (.int q1.1)) (h' := q1.2) rfl rfl (by decide) rfl (Nat.le_of_ble_eq_true rfl) rfl (E_236 (Nat.le_trans (by decide) hd) e_q1) rfl ?_
  refine Ex.ifc rfl rfl (fun (c0 : ¬ (q1.1 = 0)) => ?_) (fun (c0 : ¬ ¬ (q1.1 = 0)) => ?_)
  · rw [if_neg c0] at hf
    refine Ex.seg 1 (pc' := 407) (lc' := [none]) (st' := [.int 0]) (h' := q1.2) (sg1 rfl rfl rfl) ?_
    exact Ex.weak (sm_le_s sm_le_nil) (B_14_407 hd  hf hs)
  · rw [if_pos (Classical.not_not.mp c0)] at hf
    refine Ex.seg 2 (pc' := 407) (lc' := [none]) (st' := [.int 1]) (h' := q1.2) (sg1 rfl rfl (sg1 rfl rfl rfl)) ?_
    exact Ex.weak (sm_le_s sm_le_nil) (B_14_407 hd  hf hs)
theorem B_14_363 {L : Nat} {xs : Nat → Int32} {d : Nat} (hd : 3 ≤ d) {res : Option Value × sm_H}   {h : sm_H} {r : (Int32 × sm_H)} (hf : F_14_363  h = some r) (hs : (fun (r : Int32 × sm_H) => res = (some (.int r.1), r.2)) r) : Ex (P_G L xs) (RUN L xs d) (sm_lk P_t14) 3 363 [some (.ref 34)] [] h res := by
  unfold F_14_363 at hf
  refine Ex.seg 6 (pc' := 375) (lc' := [some (.ref 34)]) (st' := [.int (h.1 34 12), .ref 10, .ref 5]) (h' := h) (sg1 rfl rfl (sg1 rfl rfl (sg1 rfl rfl (sg1 rfl rfl (sg1 rfl rfl (sg1 rfl rfl rfl)))))) ?_
  obtain ⟨q2, e_q2, hf⟩ := bnd hf
  refine Ex.callV (a := 10) (As := [.int (h.1 34 12)]) (r := [.ref 5]) (v := some (.int q2.1)) (h' := q2.2) rfl rfl (by decide) rfl (Nat.le_of_ble_eq_true rfl) rfl (E_41 (Nat.le_trans (by decide) hd) e_q2) rfl ?_
  refine Ex.seg 5 (pc' := 388) (lc' := [some (.ref 34)]) (st' := [.int 13, .int (q2.2.1 34 7), .int (q2.2.1 34 9), .int q2.1, .ref 5]) (h' := q2.2) (sg1 rfl rfl (sg1 rfl rfl (sg1 rfl rfl (sg1 rfl rfl (sg1 rfl rfl rfl))))) ?_
  refine Ex.icmp rfl rfl (fun (c0 : ¬ ((q2.2.1 34 7) = 13)) => ?_) (fun (c0 : ¬ ¬ ((q2.2.1 34 7) = 13)) => ?_)
  · rw [if_neg c0] at hf
    refine Ex.seg 1 (pc' := 396) (lc' := [some (.ref 34)]) (st' := [.int 0, .int (q2.2.1 34 9), .int q2.1, .ref 5]) (h' := q2.2) (sg1 rfl rfl rfl) ?_
    exact Ex.weak (sm_le_n sm_le_nil) (B_14_396 hd  hf hs)
  · rw [if_pos (Classical.not_not.mp c0)] at hf
    refine Ex.seg 2 (pc' := 396) (lc' := [some (.ref 34)]) (st' := [.int 1, .int (q2.2.1 34 9), .int q2.1, .ref 5]) (h' := q2.2) (sg1 rfl rfl (sg1 rfl rfl rfl)) ?_
    exact Ex.weak (sm_le_n sm_le_nil) (B_14_396 hd  hf hs)
theorem B_14_362 {L : Nat} {xs : Nat → Int32} {d : Nat} (hd : 3 ≤ d) {res : Option Value × sm_H} {z0 : Int32}  {h : sm_H} {r : (Int32 × sm_H)} (hf : F_14_362 z0 h = some r) (hs : (fun (r : Int32 × sm_H) => res = (some (.int r.1), r.2)) r) : Ex (P_G L xs) (RUN L xs d) (sm_lk P_t14) 3 362 [none] [.int z0] h res := by
  unfold F_14_362 at hf
  rcases Classical.em (z0 = 0 ∨ z0 = 1) with c0 | c0
  · rw [if_pos c0] at hf
    obtain rfl := Option.some.inj hf
    exact Ex.iret rfl rfl (fun _ => c0) hs
  · rw [if_neg c0] at hf
    cases hf
theorem B_14_337 {L : Nat} {xs : Nat → Int32} {d : Nat} (hd : 3 ≤ d) {res : Option Value × sm_H} {z0 : Int32}  {h : sm_H} {r : (Int32 × sm_H)} (hf : F_14_337 z0 h = some r) (hs : (fun (r : Int32 × sm_H) => res = (some (.int r.1), r.2)) r) : Ex (P_G L xs) (RUN L xs d) (sm_lk P_t14) 3 337 [none] [.int z0] h res := by
  unfold F_14_337 at hf
  rcases Classical.em (z0 = 0 ∨ z0 = 1) with c0 | c0
  · rw [if_pos c0] at hf
    obtain rfl := Option.some.inj hf
    exact Ex.iret rfl rfl (fun _ => c0) hs
  · rw [if_neg c0] at hf
    cases hf
theorem B_14_336 {L : Nat} {xs : Nat → Int32} {d : Nat} (hd : 3 ≤ d) {res : Option Value × sm_H}   {h : sm_H} {r : (Int32 × sm_H)} (hf : F_14_336  h = some r) (hs : (fun (r : Int32 × sm_H) => res = (some (.int r.1), r.2)) r) : Ex (P_G L xs) (RUN L xs d) (sm_lk P_t14) 3 336 [none] [] h res := by
  unfold F_14_336 at hf
  refine Ex.seg 1 (pc' := 337) (lc' := [none]) (st' := [.int 0]) (h' := h) (sg1 rfl rfl rfl) ?_
  exact Ex.weak (sm_le_s sm_le_nil) (B_14_337 hd  hf hs)
theorem B_14_332 {L : Nat} {xs : Nat → Int32} {d : Nat} (hd : 3 ≤ d) {res : Option Value × sm_H}   {h : sm_H} {r : (Int32 × sm_H)} (hf : F_14_332  h = some r) (hs : (fun (r : Int32 × sm_H) => res = (some (.int r.1), r.2)) r) : Ex (P_G L xs) (RUN L xs d) (sm_lk P_t14) 3 332 [none] [] h res := by
  unfold F_14_332 at hf
  refine Ex.seg 2 (pc' := 337) (lc' := [none]) (st' := [.int 1]) (h' := h) (sg1 rfl rfl (sg1 rfl rfl rfl)) ?_
  exact Ex.weak (sm_le_s sm_le_nil) (B_14_337 hd  hf hs)
theorem B_14_289 {L : Nat} {xs : Nat → Int32} {d : Nat} (hd : 3 ≤ d) {res : Option Value × sm_H} {z0 : Int32} {z1 : Int32}  {h : sm_H} {r : (Int32 × sm_H)} (hf : F_14_289 z0 z1 h = some r) (hs : (fun (r : Int32 × sm_H) => res = (some (.int r.1), r.2)) r) : Ex (P_G L xs) (RUN L xs d) (sm_lk P_t14) 3 289 [some (.ref 34)] [.int z1, .int z0] h res := by
  unfold F_14_289 at hf
  refine Ex.icmp rfl rfl (fun (c0 : ¬ (z0 = z1)) => ?_) (fun (c0 : ¬ ¬ (z0 = z1)) => ?_)
  · rw [if_neg c0] at hf
    exact Ex.weak (sm_le_n sm_le_nil) (B_14_332 hd  hf hs)
  · rw [if_pos (Classical.not_not.mp c0)] at hf
    refine Ex.seg 4 (pc' := 300) (lc' := [some (.ref 34)]) (st' := [.int (h.1 34 12), .ref 10]) (h' := h) (sg1 rfl rfl (sg1 rfl rfl (sg1 rfl rfl (sg1 rfl rfl rfl)))) ?_
    obtain ⟨q3, e_q3, hf⟩ := bnd hf
    refine Ex.callV (a := 10) (As := [.int (h.1 34 12)]) (r := []) (v := some (.int q3.1)) (h' := q3.2) rfl rfl (by decide) rfl (Nat.le_of_ble_eq_true rfl) rfl (E_44 (Nat.le_trans (by decide) hd) e_q3) rfl ?_
    refine Ex.ifc rfl rfl (fun (c0 : q3.1 = 0) => ?_) (fun (c0 : ¬ (q3.1 = 0)) => ?_)
    · rw [if_pos c0] at hf
      exact Ex.weak (sm_le_n sm_le_nil) (B_14_336 hd  hf hs)
    · rw [if_neg c0] at hf
      refine Ex.seg 5 (pc' := 315) (lc' := [some (.ref 34)]) (st' := [.int 0, .int (q3.2.1 34 13), .ref 10]) (h' := q3.2) (sg1 rfl rfl (sg1 rfl rfl (sg1 rfl rfl (sg1 rfl rfl (sg1 rfl rfl rfl))))) ?_
      obtain ⟨q4, e_q4, hf⟩ := bnd hf
      refine Ex.callV (a := 10) (As := [.int (q3.2.1 34 13), .int 0]) (r := []) (v := some (.int q4.1)) (h' := q4.2) rfl rfl (by decide) rfl (Nat.le_of_ble_eq_true rfl) rfl (E_46 (Nat.le_trans (by decide) hd) e_q4) rfl ?_
      refine Ex.seg 4 (pc' := 326) (lc' := [some (.ref 34)]) (st' := [.int (q4.2.1 34 12), .ref 10, .int q4.1]) (h' := q4.2) (sg1 rfl rfl (sg1 rfl rfl (sg1 rfl rfl (sg1 rfl rfl rfl)))) ?_
      obtain ⟨q5, e_q5, hf⟩ := bnd hf
      refine Ex.callV (a := 10) (As := [.int (q4.2.1 34 12)]) (r := [.int q4.1]) (v := some (.int q5.1)) (h' := q5.2) rfl rfl (by decide) rfl (Nat.le_of_ble_eq_true rfl) rfl (E_44 (Nat.le_trans (by decide) hd) e_q5) rfl ?_
      refine Ex.icmp rfl rfl (fun (c0 : q4.1 = q5.1) => ?_) (fun (c0 : ¬ (q4.1 = q5.1)) => ?_)
      · rw [if_pos c0] at hf
        exact Ex.weak (sm_le_n sm_le_nil) (B_14_336 hd  hf hs)
      · rw [if_neg c0] at hf
        exact Ex.weak (sm_le_n sm_le_nil) (B_14_332 hd  hf hs)
theorem B_14_258 {L : Nat} {xs : Nat → Int32} {d : Nat} (hd : 3 ≤ d) {res : Option Value × sm_H} {z0 : Int32}  {h : sm_H} {r : (Int32 × sm_H)} (hf : F_14_258 z0 h = some r) (hs : (fun (r : Int32 × sm_H) => res = (some (.int r.1), r.2)) r) : Ex (P_G L xs) (RUN L xs d) (sm_lk P_t14) 3 258 [none] [.int z0] h res := by
  unfold F_14_258 at hf
  rcases Classical.em (z0 = 0 ∨ z0 = 1) with c0 | c0
  · rw [if_pos c0] at hf
    obtain rfl := Option.some.inj hf
    exact Ex.iret rfl rfl (fun _ => c0) hs
  · rw [if_neg c0] at hf
    cases hf
theorem B_14_253 {L : Nat} {xs : Nat → Int32} {d : Nat} (hd : 3 ≤ d) {res : Option Value × sm_H}   {h : sm_H} {r : (Int32 × sm_H)} (hf : F_14_253  h = some r) (hs : (fun (r : Int32 × sm_H) => res = (some (.int r.1), r.2)) r) : Ex (P_G L xs) (RUN L xs d) (sm_lk P_t14) 3 253 [none] [] h res := by
  unfold F_14_253 at hf
  refine Ex.seg 2 (pc' := 258) (lc' := [none]) (st' := [.int 1]) (h' := h) (sg1 rfl rfl (sg1 rfl rfl rfl)) ?_
  exact Ex.weak (sm_le_s sm_le_nil) (B_14_258 hd  hf hs)
theorem B_14_187 {L : Nat} {xs : Nat → Int32} {d : Nat} (hd : 3 ≤ d) {res : Option Value × sm_H} {z0 : Int32}  {h : sm_H} {r : (Int32 × sm_H)} (hf : F_14_187 z0 h = some r) (hs : (fun (r : Int32 × sm_H) => res = (some (.int r.1), r.2)) r) : Ex (P_G L xs) (RUN L xs d) (sm_lk P_t14) 3 187 [none] [.int z0] h res := by
  unfold F_14_187 at hf
  rcases Classical.em (z0 = 0 ∨ z0 = 1) with c0 | c0
  · rw [if_pos c0] at hf
    obtain rfl := Option.some.inj hf
    exact Ex.iret rfl rfl (fun _ => c0) hs
  · rw [if_neg c0] at hf
    cases hf
theorem B_14_168 {L : Nat} {xs : Nat → Int32} {d : Nat} (hd : 3 ≤ d) {res : Option Value × sm_H} {z0 : Int32}  {h : sm_H} {r : (Int32 × sm_H)} (hf : F_14_168 z0 h = some r) (hs : (fun (r : Int32 × sm_H) => res = (some (.int r.1), r.2)) r) : Ex (P_G L xs) (RUN L xs d) (sm_lk P_t14) 3 168 [none] [.int z0] h res := by
  unfold F_14_168 at hf
  rcases Classical.em (z0 = 0 ∨ z0 = 1) with c0 | c0
  · rw [if_pos c0] at hf
    obtain rfl := Option.some.inj hf
    exact Ex.iret rfl rfl (fun _ => c0) hs
  · rw [if_neg c0] at hf
    cases hf
theorem B_14_0 {L : Nat} {xs : Nat → Int32} {d : Nat} (hd : 3 ≤ d) {res : Option Value × sm_H}   {h : sm_H} {r : (Int32 × sm_H)} (hf : F_14_0  h = some r) (hs : (fun (r : Int32 × sm_H) => res = (some (.int r.1), r.2)) r) : Ex (P_G L xs) (RUN L xs d) (sm_lk P_t14) 3 0 [some (.ref 34)] [] h res := by
  unfold F_14_0 at hf
  refine Ex.seg 2 (pc' := 4) (lc' := [some (.ref 34)]) (st' := [.int (h.1 34 7)]) (h' := h) (sg1 rfl rfl (sg1 rfl rfl rfl)) ?_
  rcases Classical.em ((h.1 34 7) = 0) with n1 | n1
  · rw [if_pos n1] at hf
    refine Ex.swt (t := 144) rfl rfl (by rw [n1]; exact Or.inr ⟨by decide, by decide, _, rfl, by decide⟩) ?_
    refine Ex.seg 6 (pc' := 156) (lc' := [some (.ref 34)]) (st' := [.long (h.2.1 34 10), .int (h.1 34 8), .ref 21]) (h' := h) (sg1 rfl rfl (sg1 rfl rfl (sg1 rfl rfl (sg1 rfl rfl (sg1 rfl rfl (sg1 rfl rfl rfl)))))) ?_
    obtain ⟨q6, e_q6, hf⟩ := bnd hf
    refine Ex.callV (a := 21) (As := [.int (h.1 34 8), .long (h.2.1 34 10)]) (r := []) (v := some (.int q6.1)) (h' := q6.2) rfl rfl (by decide) rfl (Nat.le_of_ble_eq_true rfl) rfl (E_152 (Nat.le_trans (by decide) hd) e_q6) rfl ?_
    refine Ex.seg 1 (pc' := 160) (lc' := [some (.ref 34)]) (st' := [.int 3, .int q6.1]) (h' := q6.2) (sg1 rfl rfl rfl) ?_
    refine Ex.icmp rfl rfl (fun (c0 : ¬ (q6.1 = 3)) => ?_) (fun (c0 : ¬ ¬ (q6.1 = 3)) => ?_)
    · rw [if_neg c0] at hf
      refine Ex.seg 1 (pc' := 168) (lc' := [some (.ref 34)]) (st' := [.int 0]) (h' := q6.2) (sg1 rfl rfl rfl) ?_
      exact Ex.weak (sm_le_n sm_le_nil) (B_14_168 hd  hf hs)
    · rw [if_pos (Classical.not_not.mp c0)] at hf
      refine Ex.seg 2 (pc' := 168) (lc' := [some (.ref 34)]) (st' := [.int 1]) (h' := q6.2) (sg1 rfl rfl (sg1 rfl rfl rfl)) ?_
      exact Ex.weak (sm_le_n sm_le_nil) (B_14_168 hd  hf hs)
  rw [if_neg n1] at hf
  rcases Classical.em ((h.1 34 7) = 5) with n2 | n2
  · rw [if_pos n2] at hf
    refine Ex.swt (t := 169) rfl rfl (by rw [n2]; exact Or.inr ⟨by decide, by decide, _, rfl, by decide⟩) ?_
    refine Ex.seg 1 (pc' := 170) (lc' := [some (.ref 34)]) (st' := [.ref 34]) (h' := h) (sg1 rfl rfl rfl) ?_
    obtain ⟨q7, e_q7, hf⟩ := bnd hf
    refine Ex.callV (a := 34) (As := []) (r := []) (v := some (.int q7.1)) (h' := q7.2) rfl rfl (by decide) rfl (Nat.le_of_ble_eq_true rfl) rfl (E_16 (Nat.le_trans (by decide) hd) e_q7) rfl ?_
    rcases Classical.em (q7.1 = 0 ∨ q7.1 = 1) with c0 | c0
    · rw [if_pos c0] at hf
      obtain rfl := Option.some.inj hf
      exact Ex.iret rfl rfl (fun _ => c0) hs
    · rw [if_neg c0] at hf
      cases hf
  rw [if_neg n2] at hf
  rcases Classical.em ((h.1 34 7) = 6) with n3 | n3
  · rw [if_pos n3] at hf
    refine Ex.swt (t := 174) rfl rfl (by rw [n3]; exact Or.inr ⟨by decide, by decide, _, rfl, by decide⟩) ?_
    refine Ex.seg 1 (pc' := 175) (lc' := [some (.ref 34)]) (st' := [.ref 34]) (h' := h) (sg1 rfl rfl rfl) ?_
    obtain ⟨q8, e_q8, hf⟩ := bnd hf
    refine Ex.callV (a := 34) (As := []) (r := []) (v := some (.int q8.1)) (h' := q8.2) rfl rfl (by decide) rfl (Nat.le_of_ble_eq_true rfl) rfl (E_10 (Nat.le_trans (by decide) hd) e_q8) rfl ?_
    refine Ex.seg 1 (pc' := 179) (lc' := [some (.ref 34)]) (st' := [.int 3, .int q8.1]) (h' := q8.2) (sg1 rfl rfl rfl) ?_
    refine Ex.icmp rfl rfl (fun (c0 : ¬ (q8.1 = 3)) => ?_) (fun (c0 : ¬ ¬ (q8.1 = 3)) => ?_)
    · rw [if_neg c0] at hf
      refine Ex.seg 1 (pc' := 187) (lc' := [some (.ref 34)]) (st' := [.int 0]) (h' := q8.2) (sg1 rfl rfl rfl) ?_
      exact Ex.weak (sm_le_n sm_le_nil) (B_14_187 hd  hf hs)
    · rw [if_pos (Classical.not_not.mp c0)] at hf
      refine Ex.seg 2 (pc' := 187) (lc' := [some (.ref 34)]) (st' := [.int 1]) (h' := q8.2) (sg1 rfl rfl (sg1 rfl rfl rfl)) ?_
      exact Ex.weak (sm_le_n sm_le_nil) (B_14_187 hd  hf hs)
  rw [if_neg n3] at hf
  rcases Classical.em ((h.1 34 7) = 7) with n4 | n4
  · rw [if_pos n4] at hf
    refine Ex.swt (t := 188) rfl rfl (by rw [n4]; exact Or.inr ⟨by decide, by decide, _, rfl, by decide⟩) ?_
    refine Ex.seg 1 (pc' := 189) (lc' := [some (.ref 34)]) (st' := [.ref 34]) (h' := h) (sg1 rfl rfl rfl) ?_
    obtain ⟨q9, e_q9, hf⟩ := bnd hf
    refine Ex.callV (a := 34) (As := []) (r := []) (v := some (.int q9.1)) (h' := q9.2) rfl rfl (by decide) rfl (Nat.le_of_ble_eq_true rfl) rfl (E_17 (Nat.le_trans (by decide) hd) e_q9) rfl ?_
    rcases Classical.em (q9.1 = 0 ∨ q9.1 = 1) with c0 | c0
    · rw [if_pos c0] at hf
      obtain rfl := Option.some.inj hf
      exact Ex.iret rfl rfl (fun _ => c0) hs
    · rw [if_neg c0] at hf
      cases hf
  rw [if_neg n4] at hf
  rcases Classical.em ((h.1 34 7) = 8) with n5 | n5
  · rw [if_pos n5] at hf
    refine Ex.swt (t := 193) rfl rfl (by rw [n5]; exact Or.inr ⟨by decide, by decide, _, rfl, by decide⟩) ?_
    refine Ex.seg 1 (pc' := 194) (lc' := [some (.ref 34)]) (st' := [.ref 34]) (h' := h) (sg1 rfl rfl rfl) ?_
    obtain ⟨q10, e_q10, hf⟩ := bnd hf
    refine Ex.callV (a := 34) (As := []) (r := []) (v := some (.int q10.1)) (h' := q10.2) rfl rfl (by decide) rfl (Nat.le_of_ble_eq_true rfl) rfl (E_17 (Nat.le_trans (by decide) hd) e_q10) rfl ?_
    refine Ex.ifc rfl rfl (fun (c0 : ¬ (q10.1 = 0)) => ?_) (fun (c0 : ¬ ¬ (q10.1 = 0)) => ?_)
    · rw [if_neg c0] at hf
      exact Ex.weak (sm_le_n sm_le_nil) (B_14_253 hd  hf hs)
    · rw [if_pos (Classical.not_not.mp c0)] at hf
      refine Ex.seg 6 (pc' := 212) (lc' := [some (.ref 34)]) (st' := [.int (q10.2.1 34 13), .ref 10, .ref 5]) (h' := q10.2) (sg1 rfl rfl (sg1 rfl rfl (sg1 rfl rfl (sg1 rfl rfl (sg1 rfl rfl (sg1 rfl rfl rfl)))))) ?_
      obtain ⟨q11, e_q11, hf⟩ := bnd hf
      refine Ex.callV (a := 10) (As := [.int (q10.2.1 34 13)]) (r := [.ref 5]) (v := some (.int q11.1)) (h' := q11.2) rfl rfl (by decide) rfl (Nat.le_of_ble_eq_true rfl) rfl (E_41 (Nat.le_trans (by decide) hd) e_q11) rfl ?_
      refine Ex.seg 5 (pc' := 224) (lc' := [some (.ref 34)]) (st' := [.int (q11.2.1 34 12), .ref 10, .int 0, .int q11.1, .ref 5]) (h' := q11.2) (sg1 rfl rfl (sg1 rfl rfl (sg1 rfl rfl (sg1 rfl rfl (sg1 rfl rfl rfl))))) ?_
      obtain ⟨q12, e_q12, hf⟩ := bnd hf
      refine Ex.callV (a := 10) (As := [.int (q11.2.1 34 12)]) (r := [.int 0, .int q11.1, .ref 5]) (v := some (.int q12.1)) (h' := q12.2) rfl rfl (by decide) rfl (Nat.le_of_ble_eq_true rfl) rfl (E_41 (Nat.le_trans (by decide) hd) e_q12) rfl ?_
      refine Ex.seg 3 (pc' := 232) (lc' := [some (.ref 34)]) (st' := [.ref 34, .int (q12.2.1 34 8), .int q12.1, .int 0, .int q11.1, .ref 5]) (h' := q12.2) (sg1 rfl rfl (sg1 rfl rfl (sg1 rfl rfl rfl))) ?_
      obtain ⟨q13, e_q13, hf⟩ := bnd hf
      refine Ex.callV (a := 34) (As := []) (r := [.int (q12.2.1 34 8), .int q12.1, .int 0, .int q11.1, .ref 5]) (v := some (.int q13.1)) (h' := q13.2) rfl rfl (by decide) rfl (Nat.le_of_ble_eq_true rfl) rfl (E_12 (Nat.le_trans (by decide) hd) e_q13) rfl ?_
      refine Ex.seg 5 (pc' := 244) (lc' := [some (.ref 34)]) (st' := [.int (q13.2.1 34 13), .ref 10, .int ((q12.2.1 34 8) + q13.1), .int q12.1, .int 0, .int q11.1, .ref 5]) (h' := q13.2) (sg1 rfl rfl (sg1 rfl rfl (sg1 rfl rfl (sg1 rfl rfl (sg1 rfl rfl rfl))))) ?_
      obtain ⟨q14, e_q14, hf⟩ := bnd hf
      refine Ex.callV (a := 10) (As := [.int (q13.2.1 34 13)]) (r := [.int ((q12.2.1 34 8) + q13.1), .int q12.1, .int 0, .int q11.1, .ref 5]) (v := some (.int q14.1)) (h' := q14.2) rfl rfl (by decide) rfl (Nat.le_of_ble_eq_true rfl) rfl (E_45 (Nat.le_trans (by decide) hd) e_q14) rfl ?_
      obtain ⟨q15, e_q15, hf⟩ := bnd hf
      refine Ex.callV (a := 5) (As := [.int q11.1, .int 0, .int q12.1, .int ((q12.2.1 34 8) + q13.1), .int q14.1]) (r := []) (v := some (.int q15.1)) (h' := q15.2) rfl rfl (by decide) rfl (Nat.le_of_ble_eq_true rfl) rfl (E_235 (Nat.le_trans (by decide) hd) e_q15) rfl ?_
      refine Ex.ifc rfl rfl (fun (c0 : ¬ (q15.1 = 0)) => ?_) (fun (c0 : ¬ ¬ (q15.1 = 0)) => ?_)
      · rw [if_neg c0] at hf
        refine Ex.seg 1 (pc' := 258) (lc' := [some (.ref 34)]) (st' := [.int 0]) (h' := q15.2) (sg1 rfl rfl rfl) ?_
        exact Ex.weak (sm_le_n sm_le_nil) (B_14_258 hd  hf hs)
      · rw [if_pos (Classical.not_not.mp c0)] at hf
        exact Ex.weak (sm_le_n sm_le_nil) (B_14_253 hd  hf hs)
  rw [if_neg n5] at hf
  rcases Classical.em ((h.1 34 7) = 9) with n6 | n6
  · rw [if_pos n6] at hf
    refine Ex.swt (t := 259) rfl rfl (by rw [n6]; exact Or.inr ⟨by decide, by decide, _, rfl, by decide⟩) ?_
    refine Ex.seg 4 (pc' := 267) (lc' := [some (.ref 34)]) (st' := [.int (h.1 34 13), .ref 10]) (h' := h) (sg1 rfl rfl (sg1 rfl rfl (sg1 rfl rfl (sg1 rfl rfl rfl)))) ?_
    obtain ⟨q16, e_q16, hf⟩ := bnd hf
    refine Ex.callV (a := 10) (As := [.int (h.1 34 13)]) (r := []) (v := some (.int q16.1)) (h' := q16.2) rfl rfl (by decide) rfl (Nat.le_of_ble_eq_true rfl) rfl (E_45 (Nat.le_trans (by decide) hd) e_q16) rfl ?_
    refine Ex.seg 4 (pc' := 278) (lc' := [some (.ref 34)]) (st' := [.int (q16.2.1 34 12), .ref 10, .int q16.1]) (h' := q16.2) (sg1 rfl rfl (sg1 rfl rfl (sg1 rfl rfl (sg1 rfl rfl rfl)))) ?_
    obtain ⟨q17, e_q17, hf⟩ := bnd hf
    refine Ex.callV (a := 10) (As := [.int (q16.2.1 34 12)]) (r := [.int q16.1]) (v := some (.int q17.1)) (h' := q17.2) rfl rfl (by decide) rfl (Nat.le_of_ble_eq_true rfl) rfl (E_44 (Nat.le_trans (by decide) hd) e_q17) rfl ?_
    refine Ex.ifc rfl rfl (fun (c0 : ¬ (q17.1 = 0)) => ?_) (fun (c0 : ¬ ¬ (q17.1 = 0)) => ?_)
    · rw [if_neg c0] at hf
      refine Ex.seg 1 (pc' := 289) (lc' := [some (.ref 34)]) (st' := [.int 1, .int q16.1]) (h' := q17.2) (sg1 rfl rfl rfl) ?_
      exact Ex.weak (sm_le_s sm_le_nil) (B_14_289 hd  hf hs)
    · rw [if_pos (Classical.not_not.mp c0)] at hf
      refine Ex.seg 2 (pc' := 289) (lc' := [some (.ref 34)]) (st' := [.int 0, .int q16.1]) (h' := q17.2) (sg1 rfl rfl (sg1 rfl rfl rfl)) ?_
      exact Ex.weak (sm_le_s sm_le_nil) (B_14_289 hd  hf hs)
  rw [if_neg n6] at hf
  rcases Classical.em ((h.1 34 7) = 10) with n7 | n7
  · rw [if_pos n7] at hf
    refine Ex.swt (t := 338) rfl rfl (by rw [n7]; exact Or.inr ⟨by decide, by decide, _, rfl, by decide⟩) ?_
    refine Ex.seg 1 (pc' := 339) (lc' := [some (.ref 34)]) (st' := [.ref 34]) (h' := h) (sg1 rfl rfl rfl) ?_
    obtain ⟨q18, e_q18, hf⟩ := bnd hf
    refine Ex.callV (a := 34) (As := []) (r := []) (v := some (.int q18.1)) (h' := q18.2) rfl rfl (by decide) rfl (Nat.le_of_ble_eq_true rfl) rfl (E_18 (Nat.le_trans (by decide) hd) e_q18) rfl ?_
    rcases Classical.em (q18.1 = 0 ∨ q18.1 = 1) with c0 | c0
    · rw [if_pos c0] at hf
      obtain rfl := Option.some.inj hf
      exact Ex.iret rfl rfl (fun _ => c0) hs
    · rw [if_neg c0] at hf
      cases hf
  rw [if_neg n7] at hf
  rcases Classical.em ((h.1 34 7) = 11) with n8 | n8
  · rw [if_pos n8] at hf
    refine Ex.swt (t := 343) rfl rfl (by rw [n8]; exact Or.inr ⟨by decide, by decide, _, rfl, by decide⟩) ?_
    refine Ex.seg 3 (pc' := 348) (lc' := [some (.ref 34)]) (st' := [.ref 34, .ref 1]) (h' := h) (sg1 rfl rfl (sg1 rfl rfl (sg1 rfl rfl rfl))) ?_
    obtain ⟨q19, e_q19, hf⟩ := bnd hf
    refine Ex.callV (a := 34) (As := []) (r := [.ref 1]) (v := some (.int q19.1)) (h' := q19.2) rfl rfl (by decide) rfl (Nat.le_of_ble_eq_true rfl) rfl (E_15 (Nat.le_trans (by decide) hd) e_q19) rfl ?_
    obtain ⟨q20, e_q20, hf⟩ := bnd hf
    refine Ex.callV (a := 1) (As := [.int q19.1]) (r := []) (v := some (.int q20.1)) (h' := q20.2) rfl rfl (by decide) rfl (Nat.le_of_ble_eq_true rfl) rfl (E_59 (Nat.le_trans (by decide) hd) e_q20) rfl ?_
    refine Ex.ifc rfl rfl (fun (c0 : ¬ (q20.1 = 0)) => ?_) (fun (c0 : ¬ ¬ (q20.1 = 0)) => ?_)
    · rw [if_neg c0] at hf
      refine Ex.seg 1 (pc' := 362) (lc' := [some (.ref 34)]) (st' := [.int 0]) (h' := q20.2) (sg1 rfl rfl rfl) ?_
      exact Ex.weak (sm_le_n sm_le_nil) (B_14_362 hd  hf hs)
    · rw [if_pos (Classical.not_not.mp c0)] at hf
      refine Ex.seg 2 (pc' := 362) (lc' := [some (.ref 34)]) (st' := [.int 1]) (h' := q20.2) (sg1 rfl rfl (sg1 rfl rfl rfl)) ?_
      exact Ex.weak (sm_le_n sm_le_nil) (B_14_362 hd  hf hs)
  rw [if_neg n8] at hf
  rcases Classical.em ((h.1 34 7) = 12) with n9 | n9
  · rw [if_pos n9] at hf
    refine Ex.swt (t := 363) rfl rfl (by rw [n9]; exact Or.inr ⟨by decide, by decide, _, rfl, by decide⟩) ?_
    exact Ex.weak (sm_le_s sm_le_nil) (B_14_363 hd  hf hs)
  rw [if_neg n9] at hf
  rcases Classical.em ((h.1 34 7) = 13) with n10 | n10
  · rw [if_pos n10] at hf
    refine Ex.swt (t := 363) rfl rfl (by rw [n10]; exact Or.inr ⟨by decide, by decide, _, rfl, by decide⟩) ?_
    exact Ex.weak (sm_le_s sm_le_nil) (B_14_363 hd  hf hs)
  rw [if_neg n10] at hf
  rcases Classical.em ((h.1 34 7) = 14) with n11 | n11
  · rw [if_pos n11] at hf
    refine Ex.swt (t := 408) rfl rfl (by rw [n11]; exact Or.inr ⟨by decide, by decide, _, rfl, by decide⟩) ?_
    refine Ex.seg 4 (pc' := 416) (lc' := [some (.ref 34)]) (st' := [.int (h.1 34 13), .ref 10]) (h' := h) (sg1 rfl rfl (sg1 rfl rfl (sg1 rfl rfl (sg1 rfl rfl rfl)))) ?_
    obtain ⟨q21, e_q21, hf⟩ := bnd hf
    refine Ex.callV (a := 10) (As := [.int (h.1 34 13)]) (r := []) (v := some (.int q21.1)) (h' := q21.2) rfl rfl (by decide) rfl (Nat.le_of_ble_eq_true rfl) rfl (E_41 (Nat.le_trans (by decide) hd) e_q21) rfl ?_
    refine Ex.seg 4 (pc' := 427) (lc' := [some (.ref 34)]) (st' := [.int (q21.2.1 34 14), .ref 10, .int q21.1]) (h' := q21.2) (sg1 rfl rfl (sg1 rfl rfl (sg1 rfl rfl (sg1 rfl rfl rfl)))) ?_
    obtain ⟨q22, e_q22, hf⟩ := bnd hf
    refine Ex.callV (a := 10) (As := [.int (q21.2.1 34 14)]) (r := [.int q21.1]) (v := some (.int q22.1)) (h' := q22.2) rfl rfl (by decide) rfl (Nat.le_of_ble_eq_true rfl) rfl (E_41 (Nat.le_trans (by decide) hd) e_q22) rfl ?_
    refine Ex.icmp rfl rfl (fun (c0 : ¬ (q21.1 = q22.1)) => ?_) (fun (c0 : ¬ ¬ (q21.1 = q22.1)) => ?_)
    · rw [if_neg c0] at hf
      exact Ex.weak (sm_le_n sm_le_nil) (B_14_493 hd  hf hs)
    · rw [if_pos (Classical.not_not.mp c0)] at hf
      refine Ex.seg 4 (pc' := 441) (lc' := [some (.ref 34)]) (st' := [.int (q22.2.1 34 12), .ref 10]) (h' := q22.2) (sg1 rfl rfl (sg1 rfl rfl (sg1 rfl rfl (sg1 rfl rfl rfl)))) ?_
      obtain ⟨q23, e_q23, hf⟩ := bnd hf
      refine Ex.callV (a := 10) (As := [.int (q22.2.1 34 12)]) (r := []) (v := some (.int q23.1)) (h' := q23.2) rfl rfl (by decide) rfl (Nat.le_of_ble_eq_true rfl) rfl (E_44 (Nat.le_trans (by decide) hd) e_q23) rfl ?_
      refine Ex.seg 1 (pc' := 445) (lc' := [some (.ref 34)]) (st' := [.int 1, .int q23.1]) (h' := q23.2) (sg1 rfl rfl rfl) ?_
      refine Ex.icmp rfl rfl (fun (c0 : ¬ (q23.1 = 1)) => ?_) (fun (c0 : ¬ ¬ (q23.1 = 1)) => ?_)
      · rw [if_neg c0] at hf
        exact Ex.weak (sm_le_n sm_le_nil) (B_14_493 hd  hf hs)
      · rw [if_pos (Classical.not_not.mp c0)] at hf
        refine Ex.seg 6 (pc' := 460) (lc' := [some (.ref 34)]) (st' := [.int (q23.2.1 34 12), .ref 10, .ref 5]) (h' := q23.2) (sg1 rfl rfl (sg1 rfl rfl (sg1 rfl rfl (sg1 rfl rfl (sg1 rfl rfl (sg1 rfl rfl rfl)))))) ?_
        obtain ⟨q24, e_q24, hf⟩ := bnd hf
        refine Ex.callV (a := 10) (As := [.int (q23.2.1 34 12)]) (r := [.ref 5]) (v := some (.int q24.1)) (h' := q24.2) rfl rfl (by decide) rfl (Nat.le_of_ble_eq_true rfl) rfl (E_41 (Nat.le_trans (by decide) hd) e_q24) rfl ?_
        refine Ex.seg 5 (pc' := 472) (lc' := [some (.ref 34)]) (st' := [.int (q24.2.1 34 13), .ref 10, .int 0, .int q24.1, .ref 5]) (h' := q24.2) (sg1 rfl rfl (sg1 rfl rfl (sg1 rfl rfl (sg1 rfl rfl (sg1 rfl rfl rfl))))) ?_
        obtain ⟨q25, e_q25, hf⟩ := bnd hf
        refine Ex.callV (a := 10) (As := [.int (q24.2.1 34 13)]) (r := [.int 0, .int q24.1, .ref 5]) (v := some (.int q25.1)) (h' := q25.2) rfl rfl (by decide) rfl (Nat.le_of_ble_eq_true rfl) rfl (E_41 (Nat.le_trans (by decide) hd) e_q25) rfl ?_
        refine Ex.seg 5 (pc' := 484) (lc' := [some (.ref 34)]) (st' := [.int (q25.2.1 34 12), .ref 10, .int 0, .int q25.1, .int 0, .int q24.1, .ref 5]) (h' := q25.2) (sg1 rfl rfl (sg1 rfl rfl (sg1 rfl rfl (sg1 rfl rfl (sg1 rfl rfl rfl))))) ?_
        obtain ⟨q26, e_q26, hf⟩ := bnd hf
        refine Ex.callV (a := 10) (As := [.int (q25.2.1 34 12)]) (r := [.int 0, .int q25.1, .int 0, .int q24.1, .ref 5]) (v := some (.int q26.1)) (h' := q26.2) rfl rfl (by decide) rfl (Nat.le_of_ble_eq_true rfl) rfl (E_45 (Nat.le_trans (by decide) hd) e_q26) rfl ?_
        obtain ⟨q27, e_q27, hf⟩ := bnd hf
        refine Ex.callV (a := 5) (As := [.int q24.1, .int 0, .int q25.1, .int 0, .int q26.1]) (r := []) (v := some (.int q27.1)) (h' := q27.2) rfl rfl (by decide) rfl (Nat.le_of_ble_eq_true rfl) rfl (E_235 (Nat.le_trans (by decide) hd) e_q27) rfl ?_
        refine Ex.ifc rfl rfl (fun (c0 : ¬ (q27.1 = 0)) => ?_) (fun (c0 : ¬ ¬ (q27.1 = 0)) => ?_)
        · rw [if_neg c0] at hf
          refine Ex.seg 1 (pc' := 498) (lc' := [some (.ref 34)]) (st' := [.int 0]) (h' := q27.2) (sg1 rfl rfl rfl) ?_
          exact Ex.weak (sm_le_n sm_le_nil) (B_14_498 hd  hf hs)
        · rw [if_pos (Classical.not_not.mp c0)] at hf
          exact Ex.weak (sm_le_n sm_le_nil) (B_14_493 hd  hf hs)
  rw [if_neg n11] at hf
  rcases Classical.em ((h.1 34 7) = 15) with n12 | n12
  · rw [if_pos n12] at hf
    refine Ex.swt (t := 499) rfl rfl (by rw [n12]; exact Or.inr ⟨by decide, by decide, _, rfl, by decide⟩) ?_
    refine Ex.seg 5 (pc' := 508) (lc' := [some (.ref 34)]) (st' := [.int 0, .int (h.1 34 13), .ref 10]) (h' := h) (sg1 rfl rfl (sg1 rfl rfl (sg1 rfl rfl (sg1 rfl rfl (sg1 rfl rfl rfl))))) ?_
    obtain ⟨q28, e_q28, hf⟩ := bnd hf
    refine Ex.callV (a := 10) (As := [.int (h.1 34 13), .int 0]) (r := []) (v := some (.int q28.1)) (h' := q28.2) rfl rfl (by decide) rfl (Nat.le_of_ble_eq_true rfl) rfl (E_46 (Nat.le_trans (by decide) hd) e_q28) rfl ?_
    refine Ex.seg 2 (pc' := 515) (lc' := [some (.ref 34)]) (st' := [.int (q28.2.1 34 8), .int q28.1]) (h' := q28.2) (sg1 rfl rfl (sg1 rfl rfl rfl)) ?_
    refine Ex.icmp rfl rfl (fun (c0 : ¬ (q28.1 = (q28.2.1 34 8))) => ?_) (fun (c0 : ¬ ¬ (q28.1 = (q28.2.1 34 8))) => ?_)
    · rw [if_neg c0] at hf
      exact Ex.weak (sm_le_n sm_le_nil) (B_14_526 hd  hf hs)
    · rw [if_pos (Classical.not_not.mp c0)] at hf
      refine Ex.seg 2 (pc' := 520) (lc' := [some (.ref 34)]) (st' := [.int 1, .ref 34]) (h' := q28.2) (sg1 rfl rfl (sg1 rfl rfl rfl)) ?_
      obtain ⟨q29, e_q29, hf⟩ := bnd hf
      refine Ex.callV (a := 34) (As := [.int 1]) (r := []) (v := some (.int q29.1)) (h' := q29.2) rfl rfl (by decide) rfl (Nat.le_of_ble_eq_true rfl) rfl (E_19 (Nat.le_trans (by decide) hd) e_q29) rfl ?_
      refine Ex.ifc rfl rfl (fun (c0 : q29.1 = 0) => ?_) (fun (c0 : ¬ (q29.1 = 0)) => ?_)
      · rw [if_pos c0] at hf
        refine Ex.seg 1 (pc' := 531) (lc' := [some (.ref 34)]) (st' := [.int 0]) (h' := q29.2) (sg1 rfl rfl rfl) ?_
        exact Ex.weak (sm_le_n sm_le_nil) (B_14_531 hd  hf hs)
      · rw [if_neg c0] at hf
        exact Ex.weak (sm_le_n sm_le_nil) (B_14_526 hd  hf hs)
  rw [if_neg n12] at hf
  rcases Classical.em ((h.1 34 7) = 16) with n13 | n13
  · rw [if_pos n13] at hf
    refine Ex.swt (t := 532) rfl rfl (by rw [n13]; exact Or.inr ⟨by decide, by decide, _, rfl, by decide⟩) ?_
    refine Ex.seg 1 (pc' := 533) (lc' := [some (.ref 34)]) (st' := [.ref 34]) (h' := h) (sg1 rfl rfl rfl) ?_
    obtain ⟨q30, e_q30, hf⟩ := bnd hf
    refine Ex.callV (a := 34) (As := []) (r := []) (v := some (.int q30.1)) (h' := q30.2) rfl rfl (by decide) rfl (Nat.le_of_ble_eq_true rfl) rfl (E_20 (Nat.le_trans (by decide) hd) e_q30) rfl ?_
    rcases Classical.em (q30.1 = 0 ∨ q30.1 = 1) with c0 | c0
    · rw [if_pos c0] at hf
      obtain rfl := Option.some.inj hf
      exact Ex.iret rfl rfl (fun _ => c0) hs
    · rw [if_neg c0] at hf
      cases hf
  rw [if_neg n13] at hf
  rcases Classical.em ((h.1 34 7) = 17) with n14 | n14
  · rw [if_pos n14] at hf
    refine Ex.swt (t := 537) rfl rfl (by rw [n14]; exact Or.inr ⟨by decide, by decide, _, rfl, by decide⟩) ?_
    refine Ex.seg 1 (pc' := 538) (lc' := [some (.ref 34)]) (st' := [.ref 34]) (h' := h) (sg1 rfl rfl rfl) ?_
    obtain ⟨q31, e_q31, hf⟩ := bnd hf
    refine Ex.callV (a := 34) (As := []) (r := []) (v := some (.int q31.1)) (h' := q31.2) rfl rfl (by decide) rfl (Nat.le_of_ble_eq_true rfl) rfl (E_21 (Nat.le_trans (by decide) hd) e_q31) rfl ?_
    rcases Classical.em (q31.1 = 0 ∨ q31.1 = 1) with c0 | c0
    · rw [if_pos c0] at hf
      obtain rfl := Option.some.inj hf
      exact Ex.iret rfl rfl (fun _ => c0) hs
    · rw [if_neg c0] at hf
      cases hf
  rw [if_neg n14] at hf
  rcases Classical.em ((h.1 34 7) = 18) with n15 | n15
  · rw [if_pos n15] at hf
    refine Ex.swt (t := 542) rfl rfl (by rw [n15]; exact Or.inr ⟨by decide, by decide, _, rfl, by decide⟩) ?_
    refine Ex.seg 1 (pc' := 543) (lc' := [some (.ref 34)]) (st' := [.ref 34]) (h' := h) (sg1 rfl rfl rfl) ?_
    obtain ⟨q32, e_q32, hf⟩ := bnd hf
    refine Ex.callV (a := 34) (As := []) (r := []) (v := some (.int q32.1)) (h' := q32.2) rfl rfl (by decide) rfl (Nat.le_of_ble_eq_true rfl) rfl (E_22 (Nat.le_trans (by decide) hd) e_q32) rfl ?_
    rcases Classical.em (q32.1 = 0 ∨ q32.1 = 1) with c0 | c0
    · rw [if_pos c0] at hf
      obtain rfl := Option.some.inj hf
      exact Ex.iret rfl rfl (fun _ => c0) hs
    · rw [if_neg c0] at hf
      cases hf
  rw [if_neg n15] at hf
  rcases Classical.em ((h.1 34 7) = 30) with n16 | n16
  · rw [if_pos n16] at hf
    refine Ex.swt (t := 547) rfl rfl (by rw [n16]; exact Or.inr ⟨by decide, by decide, _, rfl, by decide⟩) ?_
    refine Ex.seg 4 (pc' := 555) (lc' := [some (.ref 34)]) (st' := [.int (h.1 34 12), .ref 10]) (h' := h) (sg1 rfl rfl (sg1 rfl rfl (sg1 rfl rfl (sg1 rfl rfl rfl)))) ?_
    obtain ⟨q33, e_q33, hf⟩ := bnd hf
    refine Ex.callV (a := 10) (As := [.int (h.1 34 12)]) (r := []) (v := some (.int q33.1)) (h' := q33.2) rfl rfl (by decide) rfl (Nat.le_of_ble_eq_true rfl) rfl (E_41 (Nat.le_trans (by decide) hd) e_q33) rfl ?_
    refine Ex.seg 4 (pc' := 566) (lc' := [some (.ref 34)]) (st' := [.int (q33.2.1 34 13), .ref 10, .int q33.1]) (h' := q33.2) (sg1 rfl rfl (sg1 rfl rfl (sg1 rfl rfl (sg1 rfl rfl rfl)))) ?_
    obtain ⟨q34, e_q34, hf⟩ := bnd hf
    refine Ex.callV (a := 10) (As := [.int (q33.2.1 34 13)]) (r := [.int q33.1]) (v := some (.int q34.1)) (h' := q34.2) rfl rfl (by decide) rfl (Nat.le_of_ble_eq_true rfl) rfl (E_41 (Nat.le_trans (by decide) hd) e_q34) rfl ?_
    refine Ex.icmp rfl rfl (fun (c0 : q33.1 = q34.1) => ?_) (fun (c0 : ¬ (q33.1 = q34.1)) => ?_)
    · rw [if_pos c0] at hf
      refine Ex.seg 1 (pc' := 577) (lc' := [some (.ref 34)]) (st' := [.int 0]) (h' := q34.2) (sg1 rfl rfl rfl) ?_
      exact Ex.weak (sm_le_n sm_le_nil) (B_14_577 hd  hf hs)
    · rw [if_neg c0] at hf
      refine Ex.seg 2 (pc' := 577) (lc' := [some (.ref 34)]) (st' := [.int 1]) (h' := q34.2) (sg1 rfl rfl (sg1 rfl rfl rfl)) ?_
      exact Ex.weak (sm_le_n sm_le_nil) (B_14_577 hd  hf hs)
  rw [if_neg n16] at hf
  refine Ex.swt (t := 578) rfl rfl (sw_dflt (by decide) (by decide) (fun k hk he => ?_)) ?_
  · have hk : k < 31 := hk
    rcases (show k = 0 ∨ k = 1 ∨ k = 2 ∨ k = 3 ∨ k = 4 ∨ k = 5 ∨ k = 6 ∨ k = 7 ∨ k = 8 ∨ k = 9 ∨ k = 10 ∨ k = 11 ∨ k = 12 ∨ k = 13 ∨ k = 14 ∨ k = 15 ∨ k = 16 ∨ k = 17 ∨ k = 18 ∨ k = 19 ∨ k = 20 ∨ k = 21 ∨ k = 22 ∨ k = 23 ∨ k = 24 ∨ k = 25 ∨ k = 26 ∨ k = 27 ∨ k = 28 ∨ k = 29 ∨ k = 30 by omega) with rfl | rfl | rfl | rfl | rfl | rfl | rfl | rfl | rfl | rfl | rfl | rfl | rfl | rfl | rfl | rfl | rfl | rfl | rfl | rfl | rfl | rfl | rfl | rfl | rfl | rfl | rfl | rfl | rfl | rfl | rfl
    · exact absurd (Int32.toInt_inj.mp (he.symm.trans (by decide : (_ : Int) = Int32.toInt 0))) n1
    · rfl
    · rfl
    · rfl
    · rfl
    · exact absurd (Int32.toInt_inj.mp (he.symm.trans (by decide : (_ : Int) = Int32.toInt 5))) n2
    · exact absurd (Int32.toInt_inj.mp (he.symm.trans (by decide : (_ : Int) = Int32.toInt 6))) n3
    · exact absurd (Int32.toInt_inj.mp (he.symm.trans (by decide : (_ : Int) = Int32.toInt 7))) n4
    · exact absurd (Int32.toInt_inj.mp (he.symm.trans (by decide : (_ : Int) = Int32.toInt 8))) n5
    · exact absurd (Int32.toInt_inj.mp (he.symm.trans (by decide : (_ : Int) = Int32.toInt 9))) n6
    · exact absurd (Int32.toInt_inj.mp (he.symm.trans (by decide : (_ : Int) = Int32.toInt 10))) n7
    · exact absurd (Int32.toInt_inj.mp (he.symm.trans (by decide : (_ : Int) = Int32.toInt 11))) n8
    · exact absurd (Int32.toInt_inj.mp (he.symm.trans (by decide : (_ : Int) = Int32.toInt 12))) n9
    · exact absurd (Int32.toInt_inj.mp (he.symm.trans (by decide : (_ : Int) = Int32.toInt 13))) n10
    · exact absurd (Int32.toInt_inj.mp (he.symm.trans (by decide : (_ : Int) = Int32.toInt 14))) n11
    · exact absurd (Int32.toInt_inj.mp (he.symm.trans (by decide : (_ : Int) = Int32.toInt 15))) n12
    · exact absurd (Int32.toInt_inj.mp (he.symm.trans (by decide : (_ : Int) = Int32.toInt 16))) n13
    · exact absurd (Int32.toInt_inj.mp (he.symm.trans (by decide : (_ : Int) = Int32.toInt 17))) n14
    · exact absurd (Int32.toInt_inj.mp (he.symm.trans (by decide : (_ : Int) = Int32.toInt 18))) n15
    · rfl
    · rfl
    · rfl
    · rfl
    · rfl
    · rfl
    · rfl
    · rfl
    · rfl
    · rfl
    · rfl
    · exact absurd (Int32.toInt_inj.mp (he.symm.trans (by decide : (_ : Int) = Int32.toInt 30))) n16
  exact Ex.weak (sm_le_n sm_le_nil) (B_14_578 hd  hf hs)
theorem E_14 {L : Nat} {xs : Nat → Int32} {d : Nat} (hd : 4 ≤ d)  {h : sm_H} {r : Int32 × sm_H} (hf : F_14  h = some r) : RUN L xs d 14 [.ref 34] h (some (.int r.1), r.2) := by
  obtain ⟨d, rfl⟩ : ∃ e, d = e + 1 := ⟨d - 1, by omega⟩
  exact ⟨Nat.le_of_ble_eq_true rfl, B_14_0 (by omega) hf rfl⟩
theorem B_29_461 {L : Nat} {xs : Nat → Int32} {d : Nat} (hd : 3 ≤ d) {res : Option Value × sm_H}   {h : sm_H} {r : (Int32 × sm_H)} (hf : F_29_461  h = some r) (hs : (fun (r : Int32 × sm_H) => res = (some (.int r.1), r.2)) r) : Ex (P_G L xs) (RUN L xs d) (sm_lk P_t29) 0 461 [some (.ref 34), none, none] [] h res := by
  unfold F_29_461 at hf
  refine Ex.seg 1 (pc' := 462) (lc' := [some (.ref 34), none, none]) (st' := [.ref 34]) (h' := h) (sg1 rfl rfl rfl) ?_
  obtain ⟨q1, e_q1, hf⟩ := bnd hf
  refine Ex.callV (a := 34) (As := []) (r := []) (v := some (.int q1.1)) (h' := q1.2) rfl rfl (by decide) rfl (Nat.le_of_ble_eq_true rfl) rfl (E_32 (Nat.le_trans (by decide) hd) e_q1) rfl ?_
  obtain rfl := Option.some.inj hf
  exact Ex.iret rfl rfl (fun c0 => by cases c0) hs
theorem B_29_420 {L : Nat} {xs : Nat → Int32} {d : Nat} (hd : 3 ≤ d) {res : Option Value × sm_H}   {h : sm_H} {r : (Int32 × sm_H)} (hf : F_29_420  h = some r) (hs : (fun (r : Int32 × sm_H) => res = (some (.int r.1), r.2)) r) : Ex (P_G L xs) (RUN L xs d) (sm_lk P_t29) 0 420 [some (.ref 34), none, none] [] h res := by
  unfold F_29_420 at hf
  refine Ex.seg 3 (pc' := 426) (lc' := [some (.ref 34), none, none]) (st' := [.int 18, .ref 5]) (h' := h) (sg1 rfl rfl (sg1 rfl rfl (sg1 rfl rfl rfl))) ?_
  obtain ⟨q2, e_q2, hf⟩ := bnd hf
  refine Ex.callV (a := 5) (As := [.int 18]) (r := []) (v := none) (h' := q2) rfl rfl (by decide) rfl (Nat.le_of_ble_eq_true rfl) rfl (E_229 (Nat.le_trans (by decide) hd) e_q2) rfl ?_
  refine Ex.seg 3 (pc' := 434) (lc' := [some (.ref 34), none, none]) (st' := [.int (q2.1 34 9), .ref 34]) (h' := q2) (sg1 rfl rfl (sg1 rfl rfl (sg1 rfl rfl rfl))) ?_
  obtain ⟨q3, e_q3, hf⟩ := bnd hf
  refine Ex.callV (a := 34) (As := [.int (q2.1 34 9)]) (r := []) (v := some (.int q3.1)) (h' := q3.2) rfl rfl (by decide) rfl (Nat.le_of_ble_eq_true rfl) rfl (E_31 (Nat.le_trans (by decide) hd) e_q3) rfl ?_
  obtain rfl := Option.some.inj hf
  exact Ex.iret rfl rfl (fun c0 => by cases c0) hs
theorem B_29_411 {L : Nat} {xs : Nat → Int32} {d : Nat} (hd : 3 ≤ d) {res : Option Value × sm_H}   {h : sm_H} {r : (Int32 × sm_H)} (hf : F_29_411  h = some r) (hs : (fun (r : Int32 × sm_H) => res = (some (.int r.1), r.2)) r) : Ex (P_G L xs) (RUN L xs d) (sm_lk P_t29) 0 411 [some (.ref 34), none, none] [] h res := by
  unfold F_29_411 at hf
  refine Ex.seg 3 (pc' := 416) (lc' := [some (.ref 34), none, none]) (st' := [.int (h.1 34 9), .ref 34]) (h' := h) (sg1 rfl rfl (sg1 rfl rfl (sg1 rfl rfl rfl))) ?_
  obtain ⟨q4, e_q4, hf⟩ := bnd hf
  refine Ex.callV (a := 34) (As := [.int (h.1 34 9)]) (r := []) (v := some (.int q4.1)) (h' := q4.2) rfl rfl (by decide) rfl (Nat.le_of_ble_eq_true rfl) rfl (E_31 (Nat.le_trans (by decide) hd) e_q4) rfl ?_
  obtain rfl := Option.some.inj hf
  exact Ex.iret rfl rfl (fun c0 => by cases c0) hs
theorem B_29_395 {L : Nat} {xs : Nat → Int32} {d : Nat} (hd : 3 ≤ d) {res : Option Value × sm_H}   {h : sm_H} {r : (Int32 × sm_H)} (hf : F_29_395  h = some r) (hs : (fun (r : Int32 × sm_H) => res = (some (.int r.1), r.2)) r) : Ex (P_G L xs) (RUN L xs d) (sm_lk P_t29) 0 395 [some (.ref 34), none, none] [] h res := by
  unfold F_29_395 at hf
  refine Ex.seg 5 (pc' := 404) (lc' := [some (.ref 34), none, none]) (st' := [.int (h.1 34 12), .ref 10, .ref 34]) (h' := h) (sg1 rfl rfl (sg1 rfl rfl (sg1 rfl rfl (sg1 rfl rfl (sg1 rfl rfl rfl))))) ?_
  obtain ⟨q5, e_q5, hf⟩ := bnd hf
  refine Ex.callV (a := 10) (As := [.int (h.1 34 12)]) (r := [.ref 34]) (v := some (.int q5.1)) (h' := q5.2) rfl rfl (by decide) rfl (Nat.le_of_ble_eq_true rfl) rfl (E_41 (Nat.le_trans (by decide) hd) e_q5) rfl ?_
  obtain ⟨q6, e_q6, hf⟩ := bnd hf
  refine Ex.callV (a := 34) (As := [.int q5.1]) (r := []) (v := some (.int q6.1)) (h' := q6.2) rfl rfl (by decide) rfl (Nat.le_of_ble_eq_true rfl) rfl (E_31 (Nat.le_trans (by decide) hd) e_q6) rfl ?_
  obtain rfl := Option.some.inj hf
  exact Ex.iret rfl rfl (fun c0 => by cases c0) hs
theorem B_29_367 {L : Nat} {xs : Nat → Int32} {d : Nat} (hd : 3 ≤ d) {res : Option Value × sm_H}   {h : sm_H} {r : (Int32 × sm_H)} (hf : F_29_367  h = some r) (hs : (fun (r : Int32 × sm_H) => res = (some (.int r.1), r.2)) r) : Ex (P_G L xs) (RUN L xs d) (sm_lk P_t29) 0 367 [some (.ref 34), none, none] [] h res := by
  unfold F_29_367 at hf
  refine Ex.seg 4 (pc' := 375) (lc' := [some (.ref 34), none, none]) (st' := [.int (h.1 34 12), .ref 10]) (h' := h) (sg1 rfl rfl (sg1 rfl rfl (sg1 rfl rfl (sg1 rfl rfl rfl)))) ?_
  obtain ⟨q7, e_q7, hf⟩ := bnd hf
  refine Ex.callV (a := 10) (As := [.int (h.1 34 12)]) (r := []) (v := some (.int q7.1)) (h' := q7.2) rfl rfl (by decide) rfl (Nat.le_of_ble_eq_true rfl) rfl (E_44 (Nat.le_trans (by decide) hd) e_q7) rfl ?_
  obtain rfl := Option.some.inj hf
  exact Ex.iret rfl rfl (fun c0 => by cases c0) hs
theorem B_29_329B {L : Nat} {xs : Nat → Int32} {d : Nat} (hd : 3 ≤ d) {res : Option Value × sm_H} {S1 : (Int32 × sm_H) → Prop} (hS1 : ∀ s, S1 s → Ex (P_G L xs) (RUN L xs d) (sm_lk P_t29) 0 329 [some (.ref 34), none, some (.int s.1)] [] s.2 res) {s : (Int32 × sm_H)}  {r : ((Int32 × sm_H) ⊕ (Int32 × sm_H))} (hf : F_29_329B s = some r) (hs : (Sum.elim S1 (fun (r : Int32 × sm_H) => res = (some (.int r.1), r.2))) r) : Ex (P_G L xs) (RUN L xs d) (sm_lk P_t29) 0 329 [some (.ref 34), none, some (.int s.1)] [] s.2 res := by
  unfold F_29_329B at hf
  refine Ex.seg 3 (pc' := 334) (lc' := [some (.ref 34), none, some (.int s.1)]) (st' := [.int (s.2.1 34 9), .int s.1]) (h' := s.2) (sg1 rfl rfl (sg1 rfl rfl (sg1 rfl rfl rfl))) ?_
  refine Ex.icmp rfl rfl (fun (c0 : (s.2.1 34 9) ≤ s.1) => ?_) (fun (c0 : ¬ ((s.2.1 34 9) ≤ s.1)) => ?_)
  · rw [if_pos c0] at hf
    obtain ⟨r0, hf0, rfl⟩ := Option.map_eq_some_iff.mp hf
    exact Ex.weak (sm_le_s (sm_le_s (sm_le_n sm_le_nil))) (B_29_367 hd  hf0 hs)
  · rw [if_neg c0] at hf
    refine Ex.seg 2 (pc' := 340) (lc' := [some (.ref 34), none, some (.int s.1)]) (st' := [.int 10, .int s.1]) (h' := s.2) (sg1 rfl rfl (sg1 rfl rfl rfl)) ?_
    refine Ex.icmp rfl rfl (fun (c0 : 10 ≤ s.1) => ?_) (fun (c0 : ¬ (10 ≤ s.1)) => ?_)
    · rw [if_pos c0] at hf
      obtain ⟨r0, hf0, rfl⟩ := Option.map_eq_some_iff.mp hf
      exact Ex.weak (sm_le_s (sm_le_s (sm_le_n sm_le_nil))) (B_29_367 hd  hf0 hs)
    · rw [if_neg c0] at hf
      refine Ex.seg 5 (pc' := 352) (lc' := [some (.ref 34), none, some (.int s.1)]) (st' := [.ref 34, .ref 1, .ref 5]) (h' := s.2) (sg1 rfl rfl (sg1 rfl rfl (sg1 rfl rfl (sg1 rfl rfl (sg1 rfl rfl rfl))))) ?_
      obtain ⟨q8, e_q8, hf⟩ := bnd hf
      refine Ex.callV (a := 34) (As := []) (r := [.ref 1, .ref 5]) (v := some (.int q8.1)) (h' := q8.2) rfl rfl (by decide) rfl (Nat.le_of_ble_eq_true rfl) rfl (E_15 (Nat.le_trans (by decide) hd) e_q8) rfl ?_
      obtain ⟨q9, e_q9, hf⟩ := bnd hf
      refine Ex.callV (a := 1) (As := [.int q8.1]) (r := [.ref 5]) (v := some (.int q9.1)) (h' := q9.2) rfl rfl (by decide) rfl (Nat.le_of_ble_eq_true rfl) rfl (E_63 (Nat.le_trans (by decide) hd) e_q9) rfl ?_
      obtain ⟨q10, e_q10, hf⟩ := bnd hf
      refine Ex.callV (a := 5) (As := [.int q9.1]) (r := []) (v := none) (h' := q10) rfl rfl (by decide) rfl (Nat.le_of_ble_eq_true rfl) rfl (E_229 (Nat.le_trans (by decide) hd) e_q10) rfl ?_
      refine Ex.seg 1 (pc' := 364) (lc' := [some (.ref 34), none, some (.int (s.1 + 1))]) (st' := []) (h' := q10) (sg1 rfl rfl rfl) ?_
      obtain ⟨v11, e_v11, hf⟩ := bnd hf
      rw [Option.some.inj e_v11]
      refine Ex.seg 1 (pc' := 329) (lc' := [some (.ref 34), none, some (.int v11)]) (st' := []) (h' := q10) (sg1 rfl rfl rfl) ?_
      obtain rfl := Option.some.inj hf
      exact Ex.weak (sm_le_s (sm_le_s (sm_le_s sm_le_nil))) (hS1 _ hs)
theorem B_29_329 {L : Nat} {xs : Nat → Int32} {d : Nat} (hd : 3 ≤ d) {res : Option Value × sm_H} {y2 : Int32}  {h : sm_H} {r : (Int32 × sm_H)} (hf : F_29_329 y2 h = some r) (hs : (fun (r : Int32 × sm_H) => res = (some (.int r.1), r.2)) r) : Ex (P_G L xs) (RUN L xs d) (sm_lk P_t29) 0 329 [some (.ref 34), none, some (.int y2)] [] h res := by
  unfold F_29_329 at hf
  exact lp_ok (P := fun (s : (Int32 × sm_H)) => Ex (P_G L xs) (RUN L xs d) (sm_lk P_t29) 0 329 [some (.ref 34), none, some (.int s.1)] [] s.2 res) (S := (fun (r : Int32 × sm_H) => res = (some (.int r.1), r.2))) (fun s x hx hsx => by
    intros
    exact B_29_329B hd  (fun _ q => q) hx hsx) 1000000 _ r hf hs
theorem B_29_0 {L : Nat} {xs : Nat → Int32} {d : Nat} (hd : 3 ≤ d) {res : Option Value × sm_H}   {h : sm_H} {r : (Int32 × sm_H)} (hf : F_29_0  h = some r) (hs : (fun (r : Int32 × sm_H) => res = (some (.int r.1), r.2)) r) : Ex (P_G L xs) (RUN L xs d) (sm_lk P_t29) 0 0 [some (.ref 34), none, none] [] h res := by
  unfold F_29_0 at hf
  refine Ex.seg 2 (pc' := 4) (lc' := [some (.ref 34), none, none]) (st' := [.ref 5]) (h' := h) (sg1 rfl rfl (sg1 rfl rfl rfl)) ?_
  obtain ⟨q12, e_q12, hf⟩ := bnd hf
  refine Ex.callV (a := 5) (As := []) (r := []) (v := none) (h' := q12) rfl rfl (by decide) rfl (Nat.le_of_ble_eq_true rfl) rfl (E_228 (Nat.le_trans (by decide) hd) e_q12) rfl ?_
  refine Ex.seg 4 (pc' := 15) (lc' := [some (.ref 34), none, none]) (st' := [.int (q12.1 34 12), .ref 10]) (h' := q12) (sg1 rfl rfl (sg1 rfl rfl (sg1 rfl rfl (sg1 rfl rfl rfl)))) ?_
  obtain ⟨q13, e_q13, hf⟩ := bnd hf
  refine Ex.callV (a := 10) (As := [.int (q12.1 34 12)]) (r := []) (v := some (.int q13.1)) (h' := q13.2) rfl rfl (by decide) rfl (Nat.le_of_ble_eq_true rfl) rfl (E_45 (Nat.le_trans (by decide) hd) e_q13) rfl ?_
  refine Ex.seg 3 (pc' := 23) (lc' := [some (.ref 34), some (.int q13.1), none]) (st' := [.int (q13.2.1 34 7)]) (h' := q13.2) (sg1 rfl rfl (sg1 rfl rfl (sg1 rfl rfl rfl))) ?_
  rcases Classical.em ((q13.2.1 34 7) = 4) with n1 | n1
  · rw [if_pos n1] at hf
    refine Ex.swt (t := 160) rfl rfl (by rw [n1]; exact Or.inr ⟨by decide, by decide, _, rfl, by decide⟩) ?_
    refine Ex.seg 5 (pc' := 169) (lc' := [some (.ref 34), some (.int q13.1), none]) (st' := [.int (q13.2.1 34 8), .int (q13.2.1 34 9), .ref 34]) (h' := q13.2) (sg1 rfl rfl (sg1 rfl rfl (sg1 rfl rfl (sg1 rfl rfl (sg1 rfl rfl rfl))))) ?_
    obtain ⟨q14, e_q14, hf⟩ := bnd hf
    refine Ex.callV (a := 34) (As := [.int (q13.2.1 34 9), .int (q13.2.1 34 8)]) (r := []) (v := some (.int q14.1)) (h' := q14.2) rfl rfl (by decide) rfl (Nat.le_of_ble_eq_true rfl) rfl (E_30 (Nat.le_trans (by decide) hd) e_q14) rfl ?_
    obtain rfl := Option.some.inj hf
    exact Ex.iret rfl rfl (fun c0 => by cases c0) hs
  rw [if_neg n1] at hf
  rcases Classical.em ((q13.2.1 34 7) = 5) with n2 | n2
  · rw [if_pos n2] at hf
    refine Ex.swt (t := 411) rfl rfl (by rw [n2]; exact Or.inr ⟨by decide, by decide, _, rfl, by decide⟩) ?_
    exact Ex.weak (sm_le_s (sm_le_n (sm_le_s sm_le_nil))) (B_29_411 hd  hf hs)
  rw [if_neg n2] at hf
  rcases Classical.em ((q13.2.1 34 7) = 6) with n3 | n3
  · rw [if_pos n3] at hf
    refine Ex.swt (t := 173) rfl rfl (by rw [n3]; exact Or.inr ⟨by decide, by decide, _, rfl, by decide⟩) ?_
    refine Ex.seg 6 (pc' := 181) (lc' := [some (.ref 34), some (.int q13.1), none]) (st' := [.int ((q13.2.1 34 8) + 1), .int (-1), .ref 34]) (h' := q13.2) (sg1 rfl rfl (sg1 rfl rfl (sg1 rfl rfl (sg1 rfl rfl (sg1 rfl rfl (sg1 rfl rfl rfl)))))) ?_
    obtain ⟨q15, e_q15, hf⟩ := bnd hf
    refine Ex.callV (a := 34) (As := [.int (-1), .int ((q13.2.1 34 8) + 1)]) (r := []) (v := some (.int q15.1)) (h' := q15.2) rfl rfl (by decide) rfl (Nat.le_of_ble_eq_true rfl) rfl (E_30 (Nat.le_trans (by decide) hd) e_q15) rfl ?_
    obtain rfl := Option.some.inj hf
    exact Ex.iret rfl rfl (fun c0 => by cases c0) hs
  rw [if_neg n3] at hf
  rcases Classical.em ((q13.2.1 34 7) = 7) with n4 | n4
  · rw [if_pos n4] at hf
    refine Ex.swt (t := 185) rfl rfl (by rw [n4]; exact Or.inr ⟨by decide, by decide, _, rfl, by decide⟩) ?_
    refine Ex.seg 5 (pc' := 194) (lc' := [some (.ref 34), some (.int q13.1), none]) (st' := [.int (q13.2.1 34 13), .ref 10, .ref 34]) (h' := q13.2) (sg1 rfl rfl (sg1 rfl rfl (sg1 rfl rfl (sg1 rfl rfl (sg1 rfl rfl rfl))))) ?_
    obtain ⟨q16, e_q16, hf⟩ := bnd hf
    refine Ex.callV (a := 10) (As := [.int (q13.2.1 34 13)]) (r := [.ref 34]) (v := some (.int q16.1)) (h' := q16.2) rfl rfl (by decide) rfl (Nat.le_of_ble_eq_true rfl) rfl (E_41 (Nat.le_trans (by decide) hd) e_q16) rfl ?_
    refine Ex.seg 3 (pc' := 202) (lc' := [some (.ref 34), some (.int q13.1), none]) (st' := [.ref 34, .int (q16.2.1 34 8), .int q16.1, .ref 34]) (h' := q16.2) (sg1 rfl rfl (sg1 rfl rfl (sg1 rfl rfl rfl))) ?_
    obtain ⟨q17, e_q17, hf⟩ := bnd hf
    refine Ex.callV (a := 34) (As := []) (r := [.int (q16.2.1 34 8), .int q16.1, .ref 34]) (v := some (.int q17.1)) (h' := q17.2) rfl rfl (by decide) rfl (Nat.le_of_ble_eq_true rfl) rfl (E_12 (Nat.le_trans (by decide) hd) e_q17) rfl ?_
    refine Ex.seg 1 (pc' := 206) (lc' := [some (.ref 34), some (.int q13.1), none]) (st' := [.int ((q16.2.1 34 8) + q17.1), .int q16.1, .ref 34]) (h' := q17.2) (sg1 rfl rfl rfl) ?_
    obtain ⟨q18, e_q18, hf⟩ := bnd hf
    refine Ex.callV (a := 34) (As := [.int q16.1, .int ((q16.2.1 34 8) + q17.1)]) (r := []) (v := some (.int q18.1)) (h' := q18.2) rfl rfl (by decide) rfl (Nat.le_of_ble_eq_true rfl) rfl (E_30 (Nat.le_trans (by decide) hd) e_q18) rfl ?_
    obtain rfl := Option.some.inj hf
    exact Ex.iret rfl rfl (fun c0 => by cases c0) hs
  rw [if_neg n4] at hf
  rcases Classical.em ((q13.2.1 34 7) = 8) with n5 | n5
  · rw [if_pos n5] at hf
    refine Ex.swt (t := 210) rfl rfl (by rw [n5]; exact Or.inr ⟨by decide, by decide, _, rfl, by decide⟩) ?_
    refine Ex.seg 5 (pc' := 217) (lc' := [some (.ref 34), some (.int q13.1), none]) (st' := [.ref 34, .int (q13.2.1 34 8), .int (-1), .ref 34]) (h' := q13.2) (sg1 rfl rfl (sg1 rfl rfl (sg1 rfl rfl (sg1 rfl rfl (sg1 rfl rfl rfl))))) ?_
    obtain ⟨q19, e_q19, hf⟩ := bnd hf
    refine Ex.callV (a := 34) (As := []) (r := [.int (q13.2.1 34 8), .int (-1), .ref 34]) (v := some (.int q19.1)) (h' := q19.2) rfl rfl (by decide) rfl (Nat.le_of_ble_eq_true rfl) rfl (E_12 (Nat.le_trans (by decide) hd) e_q19) rfl ?_
    refine Ex.seg 1 (pc' := 221) (lc' := [some (.ref 34), some (.int q13.1), none]) (st' := [.int ((q13.2.1 34 8) + q19.1), .int (-1), .ref 34]) (h' := q19.2) (sg1 rfl rfl rfl) ?_
    obtain ⟨q20, e_q20, hf⟩ := bnd hf
    refine Ex.callV (a := 34) (As := [.int (-1), .int ((q13.2.1 34 8) + q19.1)]) (r := []) (v := some (.int q20.1)) (h' := q20.2) rfl rfl (by decide) rfl (Nat.le_of_ble_eq_true rfl) rfl (E_30 (Nat.le_trans (by decide) hd) e_q20) rfl ?_
    obtain rfl := Option.some.inj hf
    exact Ex.iret rfl rfl (fun c0 => by cases c0) hs
  rw [if_neg n5] at hf
  rcases Classical.em ((q13.2.1 34 7) = 9) with n6 | n6
  · rw [if_pos n6] at hf
    refine Ex.swt (t := 225) rfl rfl (by rw [n6]; exact Or.inr ⟨by decide, by decide, _, rfl, by decide⟩) ?_
    refine Ex.seg 6 (pc' := 237) (lc' := [some (.ref 34), some (.int q13.1), none]) (st' := [.int (q13.2.1 34 12), .ref 10, .ref 5]) (h' := q13.2) (sg1 rfl rfl (sg1 rfl rfl (sg1 rfl rfl (sg1 rfl rfl (sg1 rfl rfl (sg1 rfl rfl rfl)))))) ?_
    obtain ⟨q21, e_q21, hf⟩ := bnd hf
    refine Ex.callV (a := 10) (As := [.int (q13.2.1 34 12)]) (r := [.ref 5]) (v := some (.int q21.1)) (h' := q21.2) rfl rfl (by decide) rfl (Nat.le_of_ble_eq_true rfl) rfl (E_41 (Nat.le_trans (by decide) hd) e_q21) rfl ?_
    refine Ex.seg 2 (pc' := 242) (lc' := [some (.ref 34), some (.int q13.1), none]) (st' := [.int q13.1, .int 0, .int q21.1, .ref 5]) (h' := q21.2) (sg1 rfl rfl (sg1 rfl rfl rfl)) ?_
    obtain ⟨q22, e_q22, hf⟩ := bnd hf
    refine Ex.callV (a := 5) (As := [.int q21.1, .int 0, .int q13.1]) (r := []) (v := none) (h' := q22) rfl rfl (by decide) rfl (Nat.le_of_ble_eq_true rfl) rfl (E_230 (Nat.le_trans (by decide) hd) e_q22) rfl ?_
    refine Ex.seg 4 (pc' := 253) (lc' := [some (.ref 34), some (.int q13.1), none]) (st' := [.int (q22.1 34 13), .ref 10]) (h' := q22) (sg1 rfl rfl (sg1 rfl rfl (sg1 rfl rfl (sg1 rfl rfl rfl)))) ?_
    obtain ⟨q23, e_q23, hf⟩ := bnd hf
    refine Ex.callV (a := 10) (As := [.int (q22.1 34 13)]) (r := []) (v := some (.int q23.1)) (h' := q23.2) rfl rfl (by decide) rfl (Nat.le_of_ble_eq_true rfl) rfl (E_44 (Nat.le_trans (by decide) hd) e_q23) rfl ?_
    obtain rfl := Option.some.inj hf
    exact Ex.iret rfl rfl (fun c0 => by cases c0) hs
  rw [if_neg n6] at hf
  rcases Classical.em ((q13.2.1 34 7) = 10) with n7 | n7
  · rw [if_pos n7] at hf
    refine Ex.swt (t := 257) rfl rfl (by rw [n7]; exact Or.inr ⟨by decide, by decide, _, rfl, by decide⟩) ?_
    refine Ex.seg 6 (pc' := 269) (lc' := [some (.ref 34), some (.int q13.1), none]) (st' := [.int (q13.2.1 34 12), .ref 10, .ref 5]) (h' := q13.2) (sg1 rfl rfl (sg1 rfl rfl (sg1 rfl rfl (sg1 rfl rfl (sg1 rfl rfl (sg1 rfl rfl rfl)))))) ?_
    obtain ⟨q24, e_q24, hf⟩ := bnd hf
    refine Ex.callV (a := 10) (As := [.int (q13.2.1 34 12)]) (r := [.ref 5]) (v := some (.int q24.1)) (h' := q24.2) rfl rfl (by decide) rfl (Nat.le_of_ble_eq_true rfl) rfl (E_41 (Nat.le_trans (by decide) hd) e_q24) rfl ?_
    refine Ex.seg 5 (pc' := 279) (lc' := [some (.ref 34), some (.int q13.1), none]) (st' := [.int (q13.1 - (q24.2.1 34 9)), .int 0, .int q24.1, .ref 5]) (h' := q24.2) (sg1 rfl rfl (sg1 rfl rfl (sg1 rfl rfl (sg1 rfl rfl (sg1 rfl rfl rfl))))) ?_
    obtain ⟨q25, e_q25, hf⟩ := bnd hf
    refine Ex.callV (a := 5) (As := [.int q24.1, .int 0, .int (q13.1 - (q24.2.1 34 9))]) (r := []) (v := none) (h' := q25) rfl rfl (by decide) rfl (Nat.le_of_ble_eq_true rfl) rfl (E_230 (Nat.le_trans (by decide) hd) e_q25) rfl ?_
    refine Ex.seg 4 (pc' := 290) (lc' := [some (.ref 34), some (.int q13.1), none]) (st' := [.int (q25.1 34 8), .ref 5]) (h' := q25) (sg1 rfl rfl (sg1 rfl rfl (sg1 rfl rfl (sg1 rfl rfl rfl)))) ?_
    obtain ⟨q26, e_q26, hf⟩ := bnd hf
    refine Ex.callV (a := 5) (As := [.int (q25.1 34 8)]) (r := []) (v := none) (h' := q26) rfl rfl (by decide) rfl (Nat.le_of_ble_eq_true rfl) rfl (E_229 (Nat.le_trans (by decide) hd) e_q26) rfl ?_
    refine Ex.seg 4 (pc' := 301) (lc' := [some (.ref 34), some (.int q13.1), none]) (st' := [.int (q26.1 34 12), .ref 10]) (h' := q26) (sg1 rfl rfl (sg1 rfl rfl (sg1 rfl rfl (sg1 rfl rfl rfl)))) ?_
    obtain ⟨q27, e_q27, hf⟩ := bnd hf
    refine Ex.callV (a := 10) (As := [.int (q26.1 34 12)]) (r := []) (v := some (.int q27.1)) (h' := q27.2) rfl rfl (by decide) rfl (Nat.le_of_ble_eq_true rfl) rfl (E_44 (Nat.le_trans (by decide) hd) e_q27) rfl ?_
    obtain rfl := Option.some.inj hf
    exact Ex.iret rfl rfl (fun c0 => by cases c0) hs
  rw [if_neg n7] at hf
  rcases Classical.em ((q13.2.1 34 7) = 11) with n8 | n8
  · rw [if_pos n8] at hf
    refine Ex.swt (t := 305) rfl rfl (by rw [n8]; exact Or.inr ⟨by decide, by decide, _, rfl, by decide⟩) ?_
    refine Ex.seg 6 (pc' := 317) (lc' := [some (.ref 34), some (.int q13.1), none]) (st' := [.int (q13.2.1 34 12), .ref 10, .ref 5]) (h' := q13.2) (sg1 rfl rfl (sg1 rfl rfl (sg1 rfl rfl (sg1 rfl rfl (sg1 rfl rfl (sg1 rfl rfl rfl)))))) ?_
    obtain ⟨q28, e_q28, hf⟩ := bnd hf
    refine Ex.callV (a := 10) (As := [.int (q13.2.1 34 12)]) (r := [.ref 5]) (v := some (.int q28.1)) (h' := q28.2) rfl rfl (by decide) rfl (Nat.le_of_ble_eq_true rfl) rfl (E_41 (Nat.le_trans (by decide) hd) e_q28) rfl ?_
    refine Ex.seg 4 (pc' := 324) (lc' := [some (.ref 34), some (.int q13.1), none]) (st' := [.int (q13.1 - 1), .int 0, .int q28.1, .ref 5]) (h' := q28.2) (sg1 rfl rfl (sg1 rfl rfl (sg1 rfl rfl (sg1 rfl rfl rfl)))) ?_
    obtain ⟨q29, e_q29, hf⟩ := bnd hf
    refine Ex.callV (a := 5) (As := [.int q28.1, .int 0, .int (q13.1 - 1)]) (r := []) (v := none) (h' := q29) rfl rfl (by decide) rfl (Nat.le_of_ble_eq_true rfl) rfl (E_230 (Nat.le_trans (by decide) hd) e_q29) rfl ?_
    refine Ex.seg 2 (pc' := 329) (lc' := [some (.ref 34), some (.int q13.1), some (.int 0)]) (st' := []) (h' := q29) (sg1 rfl rfl (sg1 rfl rfl rfl)) ?_
    exact Ex.weak (sm_le_s (sm_le_n (sm_le_s sm_le_nil))) (B_29_329 hd  hf hs)
  rw [if_neg n8] at hf
  rcases Classical.em ((q13.2.1 34 7) = 12) with n9 | n9
  · rw [if_pos n9] at hf
    refine Ex.swt (t := 411) rfl rfl (by rw [n9]; exact Or.inr ⟨by decide, by decide, _, rfl, by decide⟩) ?_
    exact Ex.weak (sm_le_s (sm_le_n (sm_le_s sm_le_nil))) (B_29_411 hd  hf hs)
  rw [if_neg n9] at hf
  rcases Classical.em ((q13.2.1 34 7) = 13) with n10 | n10
  · rw [if_pos n10] at hf
    refine Ex.swt (t := 411) rfl rfl (by rw [n10]; exact Or.inr ⟨by decide, by decide, _, rfl, by decide⟩) ?_
    exact Ex.weak (sm_le_s (sm_le_n (sm_le_s sm_le_nil))) (B_29_411 hd  hf hs)
  rw [if_neg n10] at hf
  rcases Classical.em ((q13.2.1 34 7) = 14) with n11 | n11
  · rw [if_pos n11] at hf
    refine Ex.swt (t := 379) rfl rfl (by rw [n11]; exact Or.inr ⟨by decide, by decide, _, rfl, by decide⟩) ?_
    refine Ex.seg 5 (pc' := 388) (lc' := [some (.ref 34), some (.int q13.1), none]) (st' := [.int (q13.2.1 34 13), .ref 10, .ref 34]) (h' := q13.2) (sg1 rfl rfl (sg1 rfl rfl (sg1 rfl rfl (sg1 rfl rfl (sg1 rfl rfl rfl))))) ?_
    obtain ⟨q30, e_q30, hf⟩ := bnd hf
    refine Ex.callV (a := 10) (As := [.int (q13.2.1 34 13)]) (r := [.ref 34]) (v := some (.int q30.1)) (h' := q30.2) rfl rfl (by decide) rfl (Nat.le_of_ble_eq_true rfl) rfl (E_41 (Nat.le_trans (by decide) hd) e_q30) rfl ?_
    obtain ⟨q31, e_q31, hf⟩ := bnd hf
    refine Ex.callV (a := 34) (As := [.int q30.1]) (r := []) (v := some (.int q31.1)) (h' := q31.2) rfl rfl (by decide) rfl (Nat.le_of_ble_eq_true rfl) rfl (E_31 (Nat.le_trans (by decide) hd) e_q31) rfl ?_
    obtain rfl := Option.some.inj hf
    exact Ex.iret rfl rfl (fun c0 => by cases c0) hs
  rw [if_neg n11] at hf
  rcases Classical.em ((q13.2.1 34 7) = 15) with n12 | n12
  · rw [if_pos n12] at hf
    refine Ex.swt (t := 395) rfl rfl (by rw [n12]; exact Or.inr ⟨by decide, by decide, _, rfl, by decide⟩) ?_
    exact Ex.weak (sm_le_s (sm_le_n (sm_le_s sm_le_nil))) (B_29_395 hd  hf hs)
  rw [if_neg n12] at hf
  rcases Classical.em ((q13.2.1 34 7) = 16) with n13 | n13
  · rw [if_pos n13] at hf
    refine Ex.swt (t := 395) rfl rfl (by rw [n13]; exact Or.inr ⟨by decide, by decide, _, rfl, by decide⟩) ?_
    exact Ex.weak (sm_le_s (sm_le_n (sm_le_s sm_le_nil))) (B_29_395 hd  hf hs)
  rw [if_neg n13] at hf
  rcases Classical.em ((q13.2.1 34 7) = 17) with n14 | n14
  · rw [if_pos n14] at hf
    refine Ex.swt (t := 395) rfl rfl (by rw [n14]; exact Or.inr ⟨by decide, by decide, _, rfl, by decide⟩) ?_
    exact Ex.weak (sm_le_s (sm_le_n (sm_le_s sm_le_nil))) (B_29_395 hd  hf hs)
  rw [if_neg n14] at hf
  rcases Classical.em ((q13.2.1 34 7) = 18) with n15 | n15
  · rw [if_pos n15] at hf
    refine Ex.swt (t := 411) rfl rfl (by rw [n15]; exact Or.inr ⟨by decide, by decide, _, rfl, by decide⟩) ?_
    exact Ex.weak (sm_le_s (sm_le_n (sm_le_s sm_le_nil))) (B_29_411 hd  hf hs)
  rw [if_neg n15] at hf
  rcases Classical.em ((q13.2.1 34 7) = 27) with n16 | n16
  · rw [if_pos n16] at hf
    refine Ex.swt (t := 420) rfl rfl (by rw [n16]; exact Or.inr ⟨by decide, by decide, _, rfl, by decide⟩) ?_
    exact Ex.weak (sm_le_s (sm_le_n (sm_le_s sm_le_nil))) (B_29_420 hd  hf hs)
  rw [if_neg n16] at hf
  rcases Classical.em ((q13.2.1 34 7) = 28) with n17 | n17
  · rw [if_pos n17] at hf
    refine Ex.swt (t := 420) rfl rfl (by rw [n17]; exact Or.inr ⟨by decide, by decide, _, rfl, by decide⟩) ?_
    exact Ex.weak (sm_le_s (sm_le_n (sm_le_s sm_le_nil))) (B_29_420 hd  hf hs)
  rw [if_neg n17] at hf
  rcases Classical.em ((q13.2.1 34 7) = 29) with n18 | n18
  · rw [if_pos n18] at hf
    refine Ex.swt (t := 438) rfl rfl (by rw [n18]; exact Or.inr ⟨by decide, by decide, _, rfl, by decide⟩) ?_
    refine Ex.seg 7 (pc' := 451) (lc' := [some (.ref 34), some (.int q13.1), none]) (st' := [.int (q13.2.1 34 8), .ref 21, .ref 10, .ref 34]) (h' := q13.2) (sg1 rfl rfl (sg1 rfl rfl (sg1 rfl rfl (sg1 rfl rfl (sg1 rfl rfl (sg1 rfl rfl (sg1 rfl rfl rfl))))))) ?_
    obtain ⟨q32, e_q32, hf⟩ := bnd hf
    refine Ex.callV (a := 21) (As := [.int (q13.2.1 34 8)]) (r := [.ref 10, .ref 34]) (v := some (.int q32.1)) (h' := q32.2) rfl rfl (by decide) rfl (Nat.le_of_ble_eq_true rfl) rfl (E_157 (Nat.le_trans (by decide) hd) e_q32) rfl ?_
    obtain ⟨q33, e_q33, hf⟩ := bnd hf
    refine Ex.callV (a := 10) (As := [.int q32.1]) (r := [.ref 34]) (v := some (.int q33.1)) (h' := q33.2) rfl rfl (by decide) rfl (Nat.le_of_ble_eq_true rfl) rfl (E_41 (Nat.le_trans (by decide) hd) e_q33) rfl ?_
    obtain ⟨q34, e_q34, hf⟩ := bnd hf
    refine Ex.callV (a := 34) (As := [.int q33.1]) (r := []) (v := some (.int q34.1)) (h' := q34.2) rfl rfl (by decide) rfl (Nat.le_of_ble_eq_true rfl) rfl (E_31 (Nat.le_trans (by decide) hd) e_q34) rfl ?_
    obtain rfl := Option.some.inj hf
    exact Ex.iret rfl rfl (fun c0 => by cases c0) hs
  rw [if_neg n18] at hf
  rcases Classical.em ((q13.2.1 34 7) = 30) with n19 | n19
  · rw [if_pos n19] at hf
    refine Ex.swt (t := 395) rfl rfl (by rw [n19]; exact Or.inr ⟨by decide, by decide, _, rfl, by decide⟩) ?_
    exact Ex.weak (sm_le_s (sm_le_n (sm_le_s sm_le_nil))) (B_29_395 hd  hf hs)
  rw [if_neg n19] at hf
  rcases Classical.em ((q13.2.1 34 7) = 34) with n20 | n20
  · rw [if_pos n20] at hf
    refine Ex.swt (t := 411) rfl rfl (by rw [n20]; exact Or.inr ⟨by decide, by decide, _, rfl, by decide⟩) ?_
    exact Ex.weak (sm_le_s (sm_le_n (sm_le_s sm_le_nil))) (B_29_411 hd  hf hs)
  rw [if_neg n20] at hf
  refine Ex.swt (t := 461) rfl rfl (sw_dflt (by decide) (by decide) (fun k hk he => ?_)) ?_
  · have hk : k < 31 := hk
    rcases (show k = 0 ∨ k = 1 ∨ k = 2 ∨ k = 3 ∨ k = 4 ∨ k = 5 ∨ k = 6 ∨ k = 7 ∨ k = 8 ∨ k = 9 ∨ k = 10 ∨ k = 11 ∨ k = 12 ∨ k = 13 ∨ k = 14 ∨ k = 15 ∨ k = 16 ∨ k = 17 ∨ k = 18 ∨ k = 19 ∨ k = 20 ∨ k = 21 ∨ k = 22 ∨ k = 23 ∨ k = 24 ∨ k = 25 ∨ k = 26 ∨ k = 27 ∨ k = 28 ∨ k = 29 ∨ k = 30 by omega) with rfl | rfl | rfl | rfl | rfl | rfl | rfl | rfl | rfl | rfl | rfl | rfl | rfl | rfl | rfl | rfl | rfl | rfl | rfl | rfl | rfl | rfl | rfl | rfl | rfl | rfl | rfl | rfl | rfl | rfl | rfl
    · exact absurd (Int32.toInt_inj.mp (he.symm.trans (by decide : (_ : Int) = Int32.toInt 4))) n1
    · exact absurd (Int32.toInt_inj.mp (he.symm.trans (by decide : (_ : Int) = Int32.toInt 5))) n2
    · exact absurd (Int32.toInt_inj.mp (he.symm.trans (by decide : (_ : Int) = Int32.toInt 6))) n3
    · exact absurd (Int32.toInt_inj.mp (he.symm.trans (by decide : (_ : Int) = Int32.toInt 7))) n4
    · exact absurd (Int32.toInt_inj.mp (he.symm.trans (by decide : (_ : Int) = Int32.toInt 8))) n5
    · exact absurd (Int32.toInt_inj.mp (he.symm.trans (by decide : (_ : Int) = Int32.toInt 9))) n6
    · exact absurd (Int32.toInt_inj.mp (he.symm.trans (by decide : (_ : Int) = Int32.toInt 10))) n7
    · exact absurd (Int32.toInt_inj.mp (he.symm.trans (by decide : (_ : Int) = Int32.toInt 11))) n8
    · exact absurd (Int32.toInt_inj.mp (he.symm.trans (by decide : (_ : Int) = Int32.toInt 12))) n9
    · exact absurd (Int32.toInt_inj.mp (he.symm.trans (by decide : (_ : Int) = Int32.toInt 13))) n10
    · exact absurd (Int32.toInt_inj.mp (he.symm.trans (by decide : (_ : Int) = Int32.toInt 14))) n11
    · exact absurd (Int32.toInt_inj.mp (he.symm.trans (by decide : (_ : Int) = Int32.toInt 15))) n12
    · exact absurd (Int32.toInt_inj.mp (he.symm.trans (by decide : (_ : Int) = Int32.toInt 16))) n13
    · exact absurd (Int32.toInt_inj.mp (he.symm.trans (by decide : (_ : Int) = Int32.toInt 17))) n14
    · exact absurd (Int32.toInt_inj.mp (he.symm.trans (by decide : (_ : Int) = Int32.toInt 18))) n15
    · rfl
    · rfl
    · rfl
    · rfl
    · rfl
    · rfl
    · rfl
    · rfl
    · exact absurd (Int32.toInt_inj.mp (he.symm.trans (by decide : (_ : Int) = Int32.toInt 27))) n16
    · exact absurd (Int32.toInt_inj.mp (he.symm.trans (by decide : (_ : Int) = Int32.toInt 28))) n17
    · exact absurd (Int32.toInt_inj.mp (he.symm.trans (by decide : (_ : Int) = Int32.toInt 29))) n18
    · exact absurd (Int32.toInt_inj.mp (he.symm.trans (by decide : (_ : Int) = Int32.toInt 30))) n19
    · rfl
    · rfl
    · rfl
    · exact absurd (Int32.toInt_inj.mp (he.symm.trans (by decide : (_ : Int) = Int32.toInt 34))) n20
  exact Ex.weak (sm_le_s (sm_le_n (sm_le_s sm_le_nil))) (B_29_461 hd  hf hs)
theorem E_29 {L : Nat} {xs : Nat → Int32} {d : Nat} (hd : 4 ≤ d)  {h : sm_H} {r : Int32 × sm_H} (hf : F_29  h = some r) : RUN L xs d 29 [.ref 34] h (some (.int r.1), r.2) := by
  obtain ⟨d, rfl⟩ : ∃ e, d = e + 1 := ⟨d - 1, by omega⟩
  exact ⟨Nat.le_of_ble_eq_true rfl, B_29_0 (by omega) hf rfl⟩
