theorem B_1_0 {L : Nat} {xs : Nat → Int32} {d : Nat} (hd : 0 ≤ d) {res : Option Value × sm_H}   {h : sm_H} {r : (Nat × sm_H)} (hf : F_1_0  h = some r) (hs : (fun (r : Nat × sm_H) => res = (some (.ref r.1), r.2)) r) : Ex (P_G L xs) (RUN L xs d) (sm_lk P_t1) 0 0 [some (.ref 34)] [] h res := by
  unfold F_1_0 at hf
  refine Ex.seg 2 (pc' := 4) (lc' := [some (.ref 34)]) (st' := [.ref 1]) (h' := h) (sg1 rfl rfl (sg1 rfl rfl rfl)) ?_
  obtain rfl := Option.some.inj hf
  exact Ex.aret rfl rfl hs
theorem E_1 {L : Nat} {xs : Nat → Int32} {d : Nat} (hd : 1 ≤ d)  {h : sm_H} {r : Nat × sm_H} (hf : F_1  h = some r) : RUN L xs d 1 [.ref 34] h (some (.ref r.1), r.2) := by
  obtain ⟨d, rfl⟩ : ∃ e, d = e + 1 := ⟨d - 1, by omega⟩
  exact ⟨Nat.le_of_ble_eq_true rfl, B_1_0 (by omega) hf rfl⟩
theorem B_2_0 {L : Nat} {xs : Nat → Int32} {d : Nat} (hd : 0 ≤ d) {res : Option Value × sm_H}   {h : sm_H} {r : (Nat × sm_H)} (hf : F_2_0  h = some r) (hs : (fun (r : Nat × sm_H) => res = (some (.ref r.1), r.2)) r) : Ex (P_G L xs) (RUN L xs d) (sm_lk P_t2) 0 0 [some (.ref 34)] [] h res := by
  unfold F_2_0 at hf
  refine Ex.seg 2 (pc' := 4) (lc' := [some (.ref 34)]) (st' := [.ref 5]) (h' := h) (sg1 rfl rfl (sg1 rfl rfl rfl)) ?_
  obtain rfl := Option.some.inj hf
  exact Ex.aret rfl rfl hs
theorem E_2 {L : Nat} {xs : Nat → Int32} {d : Nat} (hd : 1 ≤ d)  {h : sm_H} {r : Nat × sm_H} (hf : F_2  h = some r) : RUN L xs d 2 [.ref 34] h (some (.ref r.1), r.2) := by
  obtain ⟨d, rfl⟩ : ∃ e, d = e + 1 := ⟨d - 1, by omega⟩
  exact ⟨Nat.le_of_ble_eq_true rfl, B_2_0 (by omega) hf rfl⟩
theorem B_3_0 {L : Nat} {xs : Nat → Int32} {d : Nat} (hd : 0 ≤ d) {res : Option Value × sm_H}   {h : sm_H} {r : (Nat × sm_H)} (hf : F_3_0  h = some r) (hs : (fun (r : Nat × sm_H) => res = (some (.ref r.1), r.2)) r) : Ex (P_G L xs) (RUN L xs d) (sm_lk P_t3) 0 0 [some (.ref 34)] [] h res := by
  unfold F_3_0 at hf
  refine Ex.seg 2 (pc' := 4) (lc' := [some (.ref 34)]) (st' := [.ref 10]) (h' := h) (sg1 rfl rfl (sg1 rfl rfl rfl)) ?_
  obtain rfl := Option.some.inj hf
  exact Ex.aret rfl rfl hs
theorem E_3 {L : Nat} {xs : Nat → Int32} {d : Nat} (hd : 1 ≤ d)  {h : sm_H} {r : Nat × sm_H} (hf : F_3  h = some r) : RUN L xs d 3 [.ref 34] h (some (.ref r.1), r.2) := by
  obtain ⟨d, rfl⟩ : ∃ e, d = e + 1 := ⟨d - 1, by omega⟩
  exact ⟨Nat.le_of_ble_eq_true rfl, B_3_0 (by omega) hf rfl⟩
theorem B_4_0 {L : Nat} {xs : Nat → Int32} {d : Nat} (hd : 0 ≤ d) {res : Option Value × sm_H}   {h : sm_H} {r : (Nat × sm_H)} (hf : F_4_0  h = some r) (hs : (fun (r : Nat × sm_H) => res = (some (.ref r.1), r.2)) r) : Ex (P_G L xs) (RUN L xs d) (sm_lk P_t4) 0 0 [some (.ref 34)] [] h res := by
  unfold F_4_0 at hf
  refine Ex.seg 2 (pc' := 4) (lc' := [some (.ref 34)]) (st' := [.ref 21]) (h' := h) (sg1 rfl rfl (sg1 rfl rfl rfl)) ?_
  obtain rfl := Option.some.inj hf
  exact Ex.aret rfl rfl hs
theorem E_4 {L : Nat} {xs : Nat → Int32} {d : Nat} (hd : 1 ≤ d)  {h : sm_H} {r : Nat × sm_H} (hf : F_4  h = some r) : RUN L xs d 4 [.ref 34] h (some (.ref r.1), r.2) := by
  obtain ⟨d, rfl⟩ : ∃ e, d = e + 1 := ⟨d - 1, by omega⟩
  exact ⟨Nat.le_of_ble_eq_true rfl, B_4_0 (by omega) hf rfl⟩
theorem B_35_0 {L : Nat} {xs : Nat → Int32} {d : Nat} (hd : 0 ≤ d) {res : Option Value × sm_H}   {h : sm_H} {r : (Int32 × sm_H)} (hf : F_35_0  h = some r) (hs : (fun (r : Int32 × sm_H) => res = (some (.int r.1), r.2)) r) : Ex (P_G L xs) (RUN L xs d) (sm_lk P_t35) 0 0 [some (.ref 10)] [] h res := by
  unfold F_35_0 at hf
  refine Ex.seg 2 (pc' := 4) (lc' := [some (.ref 10)]) (st' := [.int (h.1 10 11)]) (h' := h) (sg1 rfl rfl (sg1 rfl rfl rfl)) ?_
  obtain rfl := Option.some.inj hf
  exact Ex.iret rfl rfl (fun c0 => by cases c0) hs
theorem E_35 {L : Nat} {xs : Nat → Int32} {d : Nat} (hd : 1 ≤ d)  {h : sm_H} {r : Int32 × sm_H} (hf : F_35  h = some r) : RUN L xs d 35 [.ref 10] h (some (.int r.1), r.2) := by
  obtain ⟨d, rfl⟩ : ∃ e, d = e + 1 := ⟨d - 1, by omega⟩
  exact ⟨Nat.le_of_ble_eq_true rfl, B_35_0 (by omega) hf rfl⟩
theorem B_36_17 {L : Nat} {xs : Nat → Int32} {d : Nat} (hd : 0 ≤ d) {res : Option Value × sm_H} {z0 : Int32}  {h : sm_H} {r : (Int32 × sm_H)} (hf : F_36_17 z0 h = some r) (hs : (fun (r : Int32 × sm_H) => res = (some (.int r.1), r.2)) r) : Ex (P_G L xs) (RUN L xs d) (sm_lk P_t36) 3 17 [none, none] [.int z0] h res := by
  unfold F_36_17 at hf
  rcases Classical.em (z0 = 0 ∨ z0 = 1) with c0 | c0
  · rw [if_pos c0] at hf
    obtain rfl := Option.some.inj hf
    exact Ex.iret rfl rfl (fun _ => c0) hs
  · rw [if_neg c0] at hf
    cases hf
theorem B_36_16 {L : Nat} {xs : Nat → Int32} {d : Nat} (hd : 0 ≤ d) {res : Option Value × sm_H}   {h : sm_H} {r : (Int32 × sm_H)} (hf : F_36_16  h = some r) (hs : (fun (r : Int32 × sm_H) => res = (some (.int r.1), r.2)) r) : Ex (P_G L xs) (RUN L xs d) (sm_lk P_t36) 3 16 [none, none] [] h res := by
  unfold F_36_16 at hf
  refine Ex.seg 1 (pc' := 17) (lc' := [none, none]) (st' := [.int 0]) (h' := h) (sg1 rfl rfl rfl) ?_
  exact Ex.weak (sm_le_s (sm_le_s sm_le_nil)) (B_36_17 hd  hf hs)
theorem B_36_0 {L : Nat} {xs : Nat → Int32} {d : Nat} (hd : 0 ≤ d) {res : Option Value × sm_H} {x1 : Int32}  {h : sm_H} {r : (Int32 × sm_H)} (hf : F_36_0 x1 h = some r) (hs : (fun (r : Int32 × sm_H) => res = (some (.int r.1), r.2)) r) : Ex (P_G L xs) (RUN L xs d) (sm_lk P_t36) 3 0 [some (.ref 10), some (.int x1)] [] h res := by
  unfold F_36_0 at hf
  refine Ex.seg 1 (pc' := 1) (lc' := [some (.ref 10), some (.int x1)]) (st' := [.int x1]) (h' := h) (sg1 rfl rfl rfl) ?_
  refine Ex.ifc rfl rfl (fun (c0 : x1 < 0) => ?_) (fun (c0 : ¬ (x1 < 0)) => ?_)
  · rw [if_pos c0] at hf
    exact Ex.weak (sm_le_n (sm_le_n sm_le_nil)) (B_36_16 hd  hf hs)
  · rw [if_neg c0] at hf
    refine Ex.seg 3 (pc' := 9) (lc' := [some (.ref 10), some (.int x1)]) (st' := [.int (h.1 10 11), .int x1]) (h' := h) (sg1 rfl rfl (sg1 rfl rfl (sg1 rfl rfl rfl))) ?_
    refine Ex.icmp rfl rfl (fun (c0 : (h.1 10 11) ≤ x1) => ?_) (fun (c0 : ¬ ((h.1 10 11) ≤ x1)) => ?_)
    · rw [if_pos c0] at hf
      exact Ex.weak (sm_le_n (sm_le_n sm_le_nil)) (B_36_16 hd  hf hs)
    · rw [if_neg c0] at hf
      refine Ex.seg 2 (pc' := 17) (lc' := [some (.ref 10), some (.int x1)]) (st' := [.int 1]) (h' := h) (sg1 rfl rfl (sg1 rfl rfl rfl)) ?_
      exact Ex.weak (sm_le_n (sm_le_n sm_le_nil)) (B_36_17 hd  hf hs)
theorem E_36 {L : Nat} {xs : Nat → Int32} {d : Nat} (hd : 1 ≤ d) {x1 : Int32} {h : sm_H} {r : Int32 × sm_H} (hf : F_36 x1 h = some r) : RUN L xs d 36 [.ref 10, .int x1] h (some (.int r.1), r.2) := by
  obtain ⟨d, rfl⟩ : ∃ e, d = e + 1 := ⟨d - 1, by omega⟩
  exact ⟨Nat.le_of_ble_eq_true rfl, B_36_0 (by omega) hf rfl⟩
theorem B_37_22 {L : Nat} {xs : Nat → Int32} {d : Nat} (hd : 0 ≤ d) {res : Option Value × sm_H} {z0 : Int32}  {h : sm_H} {r : (Int32 × sm_H)} (hf : F_37_22 z0 h = some r) (hs : (fun (r : Int32 × sm_H) => res = (some (.int r.1), r.2)) r) : Ex (P_G L xs) (RUN L xs d) (sm_lk P_t37) 0 22 [none, none] [.int z0] h res := by
  unfold F_37_22 at hf
  obtain rfl := Option.some.inj hf
  exact Ex.iret rfl rfl (fun c0 => by cases c0) hs
theorem B_37_21 {L : Nat} {xs : Nat → Int32} {d : Nat} (hd : 0 ≤ d) {res : Option Value × sm_H}   {h : sm_H} {r : (Int32 × sm_H)} (hf : F_37_21  h = some r) (hs : (fun (r : Int32 × sm_H) => res = (some (.int r.1), r.2)) r) : Ex (P_G L xs) (RUN L xs d) (sm_lk P_t37) 0 21 [none, none] [] h res := by
  unfold F_37_21 at hf
  refine Ex.seg 1 (pc' := 22) (lc' := [none, none]) (st' := [.int (-1)]) (h' := h) (sg1 rfl rfl rfl) ?_
  exact Ex.weak (sm_le_s (sm_le_s sm_le_nil)) (B_37_22 hd  hf hs)
theorem B_37_0 {L : Nat} {xs : Nat → Int32} {d : Nat} (hd : 0 ≤ d) {res : Option Value × sm_H} {x1 : Int32}  {h : sm_H} {r : (Int32 × sm_H)} (hf : F_37_0 x1 h = some r) (hs : (fun (r : Int32 × sm_H) => res = (some (.int r.1), r.2)) r) : Ex (P_G L xs) (RUN L xs d) (sm_lk P_t37) 0 0 [some (.ref 10), some (.int x1)] [] h res := by
  unfold F_37_0 at hf
  refine Ex.seg 1 (pc' := 1) (lc' := [some (.ref 10), some (.int x1)]) (st' := [.int x1]) (h' := h) (sg1 rfl rfl rfl) ?_
  refine Ex.ifc rfl rfl (fun (c0 : x1 < 0) => ?_) (fun (c0 : ¬ (x1 < 0)) => ?_)
  · rw [if_pos c0] at hf
    exact Ex.weak (sm_le_n (sm_le_n sm_le_nil)) (B_37_21 hd  hf hs)
  · rw [if_neg c0] at hf
    refine Ex.seg 3 (pc' := 9) (lc' := [some (.ref 10), some (.int x1)]) (st' := [.int (h.1 10 11), .int x1]) (h' := h) (sg1 rfl rfl (sg1 rfl rfl (sg1 rfl rfl rfl))) ?_
    refine Ex.icmp rfl rfl (fun (c0 : (h.1 10 11) ≤ x1) => ?_) (fun (c0 : ¬ ((h.1 10 11) ≤ x1)) => ?_)
    · rw [if_pos c0] at hf
      exact Ex.weak (sm_le_n (sm_le_n sm_le_nil)) (B_37_21 hd  hf hs)
    · rw [if_neg c0] at hf
      refine Ex.seg 3 (pc' := 17) (lc' := [some (.ref 10), some (.int x1)]) (st' := [.int x1, .ref 11]) (h' := h) (sg1 rfl rfl (sg1 rfl rfl (sg1 rfl rfl rfl))) ?_
      obtain ⟨v1, e_v1, hf⟩ := bnd hf
      refine Ex.iald e_v1 rfl rfl ?_
      refine Ex.seg 1 (pc' := 22) (lc' := [some (.ref 10), some (.int x1)]) (st' := [.int v1]) (h' := h) (sg1 rfl rfl rfl) ?_
      exact Ex.weak (sm_le_n (sm_le_n sm_le_nil)) (B_37_22 hd  hf hs)
theorem E_37 {L : Nat} {xs : Nat → Int32} {d : Nat} (hd : 1 ≤ d) {x1 : Int32} {h : sm_H} {r : Int32 × sm_H} (hf : F_37 x1 h = some r) : RUN L xs d 37 [.ref 10, .int x1] h (some (.int r.1), r.2) := by
  obtain ⟨d, rfl⟩ : ∃ e, d = e + 1 := ⟨d - 1, by omega⟩
  exact ⟨Nat.le_of_ble_eq_true rfl, B_37_0 (by omega) hf rfl⟩
theorem B_38_22 {L : Nat} {xs : Nat → Int32} {d : Nat} (hd : 0 ≤ d) {res : Option Value × sm_H} {z0 : Int32}  {h : sm_H} {r : (Int32 × sm_H)} (hf : F_38_22 z0 h = some r) (hs : (fun (r : Int32 × sm_H) => res = (some (.int r.1), r.2)) r) : Ex (P_G L xs) (RUN L xs d) (sm_lk P_t38) 0 22 [none, none] [.int z0] h res := by
  unfold F_38_22 at hf
  obtain rfl := Option.some.inj hf
  exact Ex.iret rfl rfl (fun c0 => by cases c0) hs
theorem B_38_21 {L : Nat} {xs : Nat → Int32} {d : Nat} (hd : 0 ≤ d) {res : Option Value × sm_H}   {h : sm_H} {r : (Int32 × sm_H)} (hf : F_38_21  h = some r) (hs : (fun (r : Int32 × sm_H) => res = (some (.int r.1), r.2)) r) : Ex (P_G L xs) (RUN L xs d) (sm_lk P_t38) 0 21 [none, none] [] h res := by
  unfold F_38_21 at hf
  refine Ex.seg 1 (pc' := 22) (lc' := [none, none]) (st' := [.int 0]) (h' := h) (sg1 rfl rfl rfl) ?_
  exact Ex.weak (sm_le_s (sm_le_s sm_le_nil)) (B_38_22 hd  hf hs)
theorem B_38_0 {L : Nat} {xs : Nat → Int32} {d : Nat} (hd : 0 ≤ d) {res : Option Value × sm_H} {x1 : Int32}  {h : sm_H} {r : (Int32 × sm_H)} (hf : F_38_0 x1 h = some r) (hs : (fun (r : Int32 × sm_H) => res = (some (.int r.1), r.2)) r) : Ex (P_G L xs) (RUN L xs d) (sm_lk P_t38) 0 0 [some (.ref 10), some (.int x1)] [] h res := by
  unfold F_38_0 at hf
  refine Ex.seg 1 (pc' := 1) (lc' := [some (.ref 10), some (.int x1)]) (st' := [.int x1]) (h' := h) (sg1 rfl rfl rfl) ?_
  refine Ex.ifc rfl rfl (fun (c0 : x1 < 0) => ?_) (fun (c0 : ¬ (x1 < 0)) => ?_)
  · rw [if_pos c0] at hf
    exact Ex.weak (sm_le_n (sm_le_n sm_le_nil)) (B_38_21 hd  hf hs)
  · rw [if_neg c0] at hf
    refine Ex.seg 3 (pc' := 9) (lc' := [some (.ref 10), some (.int x1)]) (st' := [.int (h.1 10 11), .int x1]) (h' := h) (sg1 rfl rfl (sg1 rfl rfl (sg1 rfl rfl rfl))) ?_
    refine Ex.icmp rfl rfl (fun (c0 : (h.1 10 11) ≤ x1) => ?_) (fun (c0 : ¬ ((h.1 10 11) ≤ x1)) => ?_)
    · rw [if_pos c0] at hf
      exact Ex.weak (sm_le_n (sm_le_n sm_le_nil)) (B_38_21 hd  hf hs)
    · rw [if_neg c0] at hf
      refine Ex.seg 3 (pc' := 17) (lc' := [some (.ref 10), some (.int x1)]) (st' := [.int x1, .ref 12]) (h' := h) (sg1 rfl rfl (sg1 rfl rfl (sg1 rfl rfl rfl))) ?_
      obtain ⟨v1, e_v1, hf⟩ := bnd hf
      refine Ex.iald e_v1 rfl rfl ?_
      refine Ex.seg 1 (pc' := 22) (lc' := [some (.ref 10), some (.int x1)]) (st' := [.int v1]) (h' := h) (sg1 rfl rfl rfl) ?_
      exact Ex.weak (sm_le_n (sm_le_n sm_le_nil)) (B_38_22 hd  hf hs)
theorem E_38 {L : Nat} {xs : Nat → Int32} {d : Nat} (hd : 1 ≤ d) {x1 : Int32} {h : sm_H} {r : Int32 × sm_H} (hf : F_38 x1 h = some r) : RUN L xs d 38 [.ref 10, .int x1] h (some (.int r.1), r.2) := by
  obtain ⟨d, rfl⟩ : ∃ e, d = e + 1 := ⟨d - 1, by omega⟩
  exact ⟨Nat.le_of_ble_eq_true rfl, B_38_0 (by omega) hf rfl⟩
theorem B_39_22 {L : Nat} {xs : Nat → Int32} {d : Nat} (hd : 0 ≤ d) {res : Option Value × sm_H} {z0 : Int32}  {h : sm_H} {r : (Int32 × sm_H)} (hf : F_39_22 z0 h = some r) (hs : (fun (r : Int32 × sm_H) => res = (some (.int r.1), r.2)) r) : Ex (P_G L xs) (RUN L xs d) (sm_lk P_t39) 0 22 [none, none] [.int z0] h res := by
  unfold F_39_22 at hf
  obtain rfl := Option.some.inj hf
  exact Ex.iret rfl rfl (fun c0 => by cases c0) hs
theorem B_39_21 {L : Nat} {xs : Nat → Int32} {d : Nat} (hd : 0 ≤ d) {res : Option Value × sm_H}   {h : sm_H} {r : (Int32 × sm_H)} (hf : F_39_21  h = some r) (hs : (fun (r : Int32 × sm_H) => res = (some (.int r.1), r.2)) r) : Ex (P_G L xs) (RUN L xs d) (sm_lk P_t39) 0 21 [none, none] [] h res := by
  unfold F_39_21 at hf
  refine Ex.seg 1 (pc' := 22) (lc' := [none, none]) (st' := [.int 0]) (h' := h) (sg1 rfl rfl rfl) ?_
  exact Ex.weak (sm_le_s (sm_le_s sm_le_nil)) (B_39_22 hd  hf hs)
theorem B_39_0 {L : Nat} {xs : Nat → Int32} {d : Nat} (hd : 0 ≤ d) {res : Option Value × sm_H} {x1 : Int32}  {h : sm_H} {r : (Int32 × sm_H)} (hf : F_39_0 x1 h = some r) (hs : (fun (r : Int32 × sm_H) => res = (some (.int r.1), r.2)) r) : Ex (P_G L xs) (RUN L xs d) (sm_lk P_t39) 0 0 [some (.ref 10), some (.int x1)] [] h res := by
  unfold F_39_0 at hf
  refine Ex.seg 1 (pc' := 1) (lc' := [some (.ref 10), some (.int x1)]) (st' := [.int x1]) (h' := h) (sg1 rfl rfl rfl) ?_
  refine Ex.ifc rfl rfl (fun (c0 : x1 < 0) => ?_) (fun (c0 : ¬ (x1 < 0)) => ?_)
  · rw [if_pos c0] at hf
    exact Ex.weak (sm_le_n (sm_le_n sm_le_nil)) (B_39_21 hd  hf hs)
  · rw [if_neg c0] at hf
    refine Ex.seg 3 (pc' := 9) (lc' := [some (.ref 10), some (.int x1)]) (st' := [.int (h.1 10 11), .int x1]) (h' := h) (sg1 rfl rfl (sg1 rfl rfl (sg1 rfl rfl rfl))) ?_
    refine Ex.icmp rfl rfl (fun (c0 : (h.1 10 11) ≤ x1) => ?_) (fun (c0 : ¬ ((h.1 10 11) ≤ x1)) => ?_)
    · rw [if_pos c0] at hf
      exact Ex.weak (sm_le_n (sm_le_n sm_le_nil)) (B_39_21 hd  hf hs)
    · rw [if_neg c0] at hf
      refine Ex.seg 3 (pc' := 17) (lc' := [some (.ref 10), some (.int x1)]) (st' := [.int x1, .ref 13]) (h' := h) (sg1 rfl rfl (sg1 rfl rfl (sg1 rfl rfl rfl))) ?_
      obtain ⟨v1, e_v1, hf⟩ := bnd hf
      refine Ex.iald e_v1 rfl rfl ?_
      refine Ex.seg 1 (pc' := 22) (lc' := [some (.ref 10), some (.int x1)]) (st' := [.int v1]) (h' := h) (sg1 rfl rfl rfl) ?_
      exact Ex.weak (sm_le_n (sm_le_n sm_le_nil)) (B_39_22 hd  hf hs)
theorem E_39 {L : Nat} {xs : Nat → Int32} {d : Nat} (hd : 1 ≤ d) {x1 : Int32} {h : sm_H} {r : Int32 × sm_H} (hf : F_39 x1 h = some r) : RUN L xs d 39 [.ref 10, .int x1] h (some (.int r.1), r.2) := by
  obtain ⟨d, rfl⟩ : ∃ e, d = e + 1 := ⟨d - 1, by omega⟩
  exact ⟨Nat.le_of_ble_eq_true rfl, B_39_0 (by omega) hf rfl⟩
theorem B_40_22 {L : Nat} {xs : Nat → Int32} {d : Nat} (hd : 0 ≤ d) {res : Option Value × sm_H} {z0 : Int64}  {h : sm_H} {r : (Int64 × sm_H)} (hf : F_40_22 z0 h = some r) (hs : (fun (r : Int64 × sm_H) => res = (some (.long r.1), r.2)) r) : Ex (P_G L xs) (RUN L xs d) (sm_lk P_t40) 0 22 [none, none] [.long z0] h res := by
  unfold F_40_22 at hf
  obtain rfl := Option.some.inj hf
  exact Ex.lret rfl rfl hs
theorem B_40_21 {L : Nat} {xs : Nat → Int32} {d : Nat} (hd : 0 ≤ d) {res : Option Value × sm_H}   {h : sm_H} {r : (Int64 × sm_H)} (hf : F_40_21  h = some r) (hs : (fun (r : Int64 × sm_H) => res = (some (.long r.1), r.2)) r) : Ex (P_G L xs) (RUN L xs d) (sm_lk P_t40) 0 21 [none, none] [] h res := by
  unfold F_40_21 at hf
  refine Ex.seg 1 (pc' := 22) (lc' := [none, none]) (st' := [.long 0]) (h' := h) (sg1 rfl rfl rfl) ?_
  exact Ex.weak (sm_le_s (sm_le_s sm_le_nil)) (B_40_22 hd  hf hs)
theorem B_40_0 {L : Nat} {xs : Nat → Int32} {d : Nat} (hd : 0 ≤ d) {res : Option Value × sm_H} {x1 : Int32}  {h : sm_H} {r : (Int64 × sm_H)} (hf : F_40_0 x1 h = some r) (hs : (fun (r : Int64 × sm_H) => res = (some (.long r.1), r.2)) r) : Ex (P_G L xs) (RUN L xs d) (sm_lk P_t40) 0 0 [some (.ref 10), some (.int x1)] [] h res := by
  unfold F_40_0 at hf
  refine Ex.seg 1 (pc' := 1) (lc' := [some (.ref 10), some (.int x1)]) (st' := [.int x1]) (h' := h) (sg1 rfl rfl rfl) ?_
  refine Ex.ifc rfl rfl (fun (c0 : x1 < 0) => ?_) (fun (c0 : ¬ (x1 < 0)) => ?_)
  · rw [if_pos c0] at hf
    exact Ex.weak (sm_le_n (sm_le_n sm_le_nil)) (B_40_21 hd  hf hs)
  · rw [if_neg c0] at hf
    refine Ex.seg 3 (pc' := 9) (lc' := [some (.ref 10), some (.int x1)]) (st' := [.int (h.1 10 11), .int x1]) (h' := h) (sg1 rfl rfl (sg1 rfl rfl (sg1 rfl rfl rfl))) ?_
    refine Ex.icmp rfl rfl (fun (c0 : (h.1 10 11) ≤ x1) => ?_) (fun (c0 : ¬ ((h.1 10 11) ≤ x1)) => ?_)
    · rw [if_pos c0] at hf
      exact Ex.weak (sm_le_n (sm_le_n sm_le_nil)) (B_40_21 hd  hf hs)
    · rw [if_neg c0] at hf
      refine Ex.seg 3 (pc' := 17) (lc' := [some (.ref 10), some (.int x1)]) (st' := [.int x1, .ref 14]) (h' := h) (sg1 rfl rfl (sg1 rfl rfl (sg1 rfl rfl rfl))) ?_
      obtain ⟨v1, e_v1, hf⟩ := bnd hf
      refine Ex.lald e_v1 rfl rfl ?_
      refine Ex.seg 1 (pc' := 22) (lc' := [some (.ref 10), some (.int x1)]) (st' := [.long v1]) (h' := h) (sg1 rfl rfl rfl) ?_
      exact Ex.weak (sm_le_n (sm_le_n sm_le_nil)) (B_40_22 hd  hf hs)
theorem E_40 {L : Nat} {xs : Nat → Int32} {d : Nat} (hd : 1 ≤ d) {x1 : Int32} {h : sm_H} {r : Int64 × sm_H} (hf : F_40 x1 h = some r) : RUN L xs d 40 [.ref 10, .int x1] h (some (.long r.1), r.2) := by
  obtain ⟨d, rfl⟩ : ∃ e, d = e + 1 := ⟨d - 1, by omega⟩
  exact ⟨Nat.le_of_ble_eq_true rfl, B_40_0 (by omega) hf rfl⟩
theorem B_41_22 {L : Nat} {xs : Nat → Int32} {d : Nat} (hd : 0 ≤ d) {res : Option Value × sm_H} {z0 : Int32}  {h : sm_H} {r : (Int32 × sm_H)} (hf : F_41_22 z0 h = some r) (hs : (fun (r : Int32 × sm_H) => res = (some (.int r.1), r.2)) r) : Ex (P_G L xs) (RUN L xs d) (sm_lk P_t41) 0 22 [none, none] [.int z0] h res := by
  unfold F_41_22 at hf
  obtain rfl := Option.some.inj hf
  exact Ex.iret rfl rfl (fun c0 => by cases c0) hs
theorem B_41_21 {L : Nat} {xs : Nat → Int32} {d : Nat} (hd : 0 ≤ d) {res : Option Value × sm_H}   {h : sm_H} {r : (Int32 × sm_H)} (hf : F_41_21  h = some r) (hs : (fun (r : Int32 × sm_H) => res = (some (.int r.1), r.2)) r) : Ex (P_G L xs) (RUN L xs d) (sm_lk P_t41) 0 21 [none, none] [] h res := by
  unfold F_41_21 at hf
  refine Ex.seg 1 (pc' := 22) (lc' := [none, none]) (st' := [.int (-1)]) (h' := h) (sg1 rfl rfl rfl) ?_
  exact Ex.weak (sm_le_s (sm_le_s sm_le_nil)) (B_41_22 hd  hf hs)
theorem B_41_0 {L : Nat} {xs : Nat → Int32} {d : Nat} (hd : 0 ≤ d) {res : Option Value × sm_H} {x1 : Int32}  {h : sm_H} {r : (Int32 × sm_H)} (hf : F_41_0 x1 h = some r) (hs : (fun (r : Int32 × sm_H) => res = (some (.int r.1), r.2)) r) : Ex (P_G L xs) (RUN L xs d) (sm_lk P_t41) 0 0 [some (.ref 10), some (.int x1)] [] h res := by
  unfold F_41_0 at hf
  refine Ex.seg 1 (pc' := 1) (lc' := [some (.ref 10), some (.int x1)]) (st' := [.int x1]) (h' := h) (sg1 rfl rfl rfl) ?_
  refine Ex.ifc rfl rfl (fun (c0 : x1 < 0) => ?_) (fun (c0 : ¬ (x1 < 0)) => ?_)
  · rw [if_pos c0] at hf
    exact Ex.weak (sm_le_n (sm_le_n sm_le_nil)) (B_41_21 hd  hf hs)
  · rw [if_neg c0] at hf
    refine Ex.seg 3 (pc' := 9) (lc' := [some (.ref 10), some (.int x1)]) (st' := [.int (h.1 10 11), .int x1]) (h' := h) (sg1 rfl rfl (sg1 rfl rfl (sg1 rfl rfl rfl))) ?_
    refine Ex.icmp rfl rfl (fun (c0 : (h.1 10 11) ≤ x1) => ?_) (fun (c0 : ¬ ((h.1 10 11) ≤ x1)) => ?_)
    · rw [if_pos c0] at hf
      exact Ex.weak (sm_le_n (sm_le_n sm_le_nil)) (B_41_21 hd  hf hs)
    · rw [if_neg c0] at hf
      refine Ex.seg 3 (pc' := 17) (lc' := [some (.ref 10), some (.int x1)]) (st' := [.int x1, .ref 17]) (h' := h) (sg1 rfl rfl (sg1 rfl rfl (sg1 rfl rfl rfl))) ?_
      obtain ⟨v1, e_v1, hf⟩ := bnd hf
      refine Ex.iald e_v1 rfl rfl ?_
      refine Ex.seg 1 (pc' := 22) (lc' := [some (.ref 10), some (.int x1)]) (st' := [.int v1]) (h' := h) (sg1 rfl rfl rfl) ?_
      exact Ex.weak (sm_le_n (sm_le_n sm_le_nil)) (B_41_22 hd  hf hs)
theorem E_41 {L : Nat} {xs : Nat → Int32} {d : Nat} (hd : 1 ≤ d) {x1 : Int32} {h : sm_H} {r : Int32 × sm_H} (hf : F_41 x1 h = some r) : RUN L xs d 41 [.ref 10, .int x1] h (some (.int r.1), r.2) := by
  obtain ⟨d, rfl⟩ : ∃ e, d = e + 1 := ⟨d - 1, by omega⟩
  exact ⟨Nat.le_of_ble_eq_true rfl, B_41_0 (by omega) hf rfl⟩
theorem B_42_22 {L : Nat} {xs : Nat → Int32} {d : Nat} (hd : 0 ≤ d) {res : Option Value × sm_H} {z0 : Int32}  {h : sm_H} {r : (Int32 × sm_H)} (hf : F_42_22 z0 h = some r) (hs : (fun (r : Int32 × sm_H) => res = (some (.int r.1), r.2)) r) : Ex (P_G L xs) (RUN L xs d) (sm_lk P_t42) 0 22 [none, none] [.int z0] h res := by
  unfold F_42_22 at hf
  obtain rfl := Option.some.inj hf
  exact Ex.iret rfl rfl (fun c0 => by cases c0) hs
theorem B_42_21 {L : Nat} {xs : Nat → Int32} {d : Nat} (hd : 0 ≤ d) {res : Option Value × sm_H}   {h : sm_H} {r : (Int32 × sm_H)} (hf : F_42_21  h = some r) (hs : (fun (r : Int32 × sm_H) => res = (some (.int r.1), r.2)) r) : Ex (P_G L xs) (RUN L xs d) (sm_lk P_t42) 0 21 [none, none] [] h res := by
  unfold F_42_21 at hf
  refine Ex.seg 1 (pc' := 22) (lc' := [none, none]) (st' := [.int 0]) (h' := h) (sg1 rfl rfl rfl) ?_
  exact Ex.weak (sm_le_s (sm_le_s sm_le_nil)) (B_42_22 hd  hf hs)
theorem B_42_0 {L : Nat} {xs : Nat → Int32} {d : Nat} (hd : 0 ≤ d) {res : Option Value × sm_H} {x1 : Int32}  {h : sm_H} {r : (Int32 × sm_H)} (hf : F_42_0 x1 h = some r) (hs : (fun (r : Int32 × sm_H) => res = (some (.int r.1), r.2)) r) : Ex (P_G L xs) (RUN L xs d) (sm_lk P_t42) 0 0 [some (.ref 10), some (.int x1)] [] h res := by
  unfold F_42_0 at hf
  refine Ex.seg 1 (pc' := 1) (lc' := [some (.ref 10), some (.int x1)]) (st' := [.int x1]) (h' := h) (sg1 rfl rfl rfl) ?_
  refine Ex.ifc rfl rfl (fun (c0 : x1 < 0) => ?_) (fun (c0 : ¬ (x1 < 0)) => ?_)
  · rw [if_pos c0] at hf
    exact Ex.weak (sm_le_n (sm_le_n sm_le_nil)) (B_42_21 hd  hf hs)
  · rw [if_neg c0] at hf
    refine Ex.seg 3 (pc' := 9) (lc' := [some (.ref 10), some (.int x1)]) (st' := [.int (h.1 10 11), .int x1]) (h' := h) (sg1 rfl rfl (sg1 rfl rfl (sg1 rfl rfl rfl))) ?_
    refine Ex.icmp rfl rfl (fun (c0 : (h.1 10 11) ≤ x1) => ?_) (fun (c0 : ¬ ((h.1 10 11) ≤ x1)) => ?_)
    · rw [if_pos c0] at hf
      exact Ex.weak (sm_le_n (sm_le_n sm_le_nil)) (B_42_21 hd  hf hs)
    · rw [if_neg c0] at hf
      refine Ex.seg 3 (pc' := 17) (lc' := [some (.ref 10), some (.int x1)]) (st' := [.int x1, .ref 15]) (h' := h) (sg1 rfl rfl (sg1 rfl rfl (sg1 rfl rfl rfl))) ?_
      obtain ⟨v1, e_v1, hf⟩ := bnd hf
      refine Ex.iald e_v1 rfl rfl ?_
      refine Ex.seg 1 (pc' := 22) (lc' := [some (.ref 10), some (.int x1)]) (st' := [.int v1]) (h' := h) (sg1 rfl rfl rfl) ?_
      exact Ex.weak (sm_le_n (sm_le_n sm_le_nil)) (B_42_22 hd  hf hs)
theorem E_42 {L : Nat} {xs : Nat → Int32} {d : Nat} (hd : 1 ≤ d) {x1 : Int32} {h : sm_H} {r : Int32 × sm_H} (hf : F_42 x1 h = some r) : RUN L xs d 42 [.ref 10, .int x1] h (some (.int r.1), r.2) := by
  obtain ⟨d, rfl⟩ : ∃ e, d = e + 1 := ⟨d - 1, by omega⟩
  exact ⟨Nat.le_of_ble_eq_true rfl, B_42_0 (by omega) hf rfl⟩
theorem B_43_26 {L : Nat} {xs : Nat → Int32} {d : Nat} (hd : 0 ≤ d) {res : Option Value × sm_H}   {h : sm_H} {r : (Int32 × sm_H)} (hf : F_43_26  h = some r) (hs : (fun (r : Int32 × sm_H) => res = (some (.int r.1), r.2)) r) : Ex (P_G L xs) (RUN L xs d) (sm_lk P_t43) 0 26 [none, none, none] [] h res := by
  unfold F_43_26 at hf
  refine Ex.seg 1 (pc' := 27) (lc' := [none, none, none]) (st' := [.int (-1)]) (h' := h) (sg1 rfl rfl rfl) ?_
  obtain rfl := Option.some.inj hf
  exact Ex.iret rfl rfl (fun c0 => by cases c0) hs
theorem B_43_0 {L : Nat} {xs : Nat → Int32} {d : Nat} (hd : 0 ≤ d) {res : Option Value × sm_H} {x1 : Int32} {x2 : Int32}  {h : sm_H} {r : (Int32 × sm_H)} (hf : F_43_0 x1 x2 h = some r) (hs : (fun (r : Int32 × sm_H) => res = (some (.int r.1), r.2)) r) : Ex (P_G L xs) (RUN L xs d) (sm_lk P_t43) 0 0 [some (.ref 10), some (.int x1), some (.int x2)] [] h res := by
  unfold F_43_0 at hf
  refine Ex.seg 1 (pc' := 1) (lc' := [some (.ref 10), some (.int x1), some (.int x2)]) (st' := [.int x1]) (h' := h) (sg1 rfl rfl rfl) ?_
  refine Ex.ifc rfl rfl (fun (c0 : x1 < 0) => ?_) (fun (c0 : ¬ (x1 < 0)) => ?_)
  · rw [if_pos c0] at hf
    exact Ex.weak (sm_le_n (sm_le_n (sm_le_n sm_le_nil))) (B_43_26 hd  hf hs)
  · rw [if_neg c0] at hf
    refine Ex.seg 3 (pc' := 9) (lc' := [some (.ref 10), some (.int x1), some (.int x2)]) (st' := [.int (h.1 10 11), .int x1]) (h' := h) (sg1 rfl rfl (sg1 rfl rfl (sg1 rfl rfl rfl))) ?_
    refine Ex.icmp rfl rfl (fun (c0 : (h.1 10 11) ≤ x1) => ?_) (fun (c0 : ¬ ((h.1 10 11) ≤ x1)) => ?_)
    · rw [if_pos c0] at hf
      exact Ex.weak (sm_le_n (sm_le_n (sm_le_n sm_le_nil))) (B_43_26 hd  hf hs)
    · rw [if_neg c0] at hf
      refine Ex.seg 1 (pc' := 13) (lc' := [some (.ref 10), some (.int x1), some (.int x2)]) (st' := [.int x2]) (h' := h) (sg1 rfl rfl rfl) ?_
      refine Ex.ifc rfl rfl (fun (c0 : x2 < 0) => ?_) (fun (c0 : ¬ (x2 < 0)) => ?_)
      · rw [if_pos c0] at hf
        exact Ex.weak (sm_le_n (sm_le_n (sm_le_n sm_le_nil))) (B_43_26 hd  hf hs)
      · rw [if_neg c0] at hf
        refine Ex.seg 4 (pc' := 22) (lc' := [some (.ref 10), some (.int x1), some (.int x2)]) (st' := [.int x1, .ref 15, .int x2]) (h' := h) (sg1 rfl rfl (sg1 rfl rfl (sg1 rfl rfl (sg1 rfl rfl rfl)))) ?_
        obtain ⟨v1, e_v1, hf⟩ := bnd hf
        refine Ex.iald e_v1 rfl rfl ?_
        refine Ex.icmp rfl rfl (fun (c0 : x2 < v1) => ?_) (fun (c0 : ¬ (x2 < v1)) => ?_)
        · rw [if_pos c0] at hf
          refine Ex.seg 7 (pc' := 38) (lc' := [some (.ref 10), some (.int x1), some (.int x2)]) (st' := [.int ((x1 * 20) + x2), .ref 16]) (h' := h) (sg1 rfl rfl (sg1 rfl rfl (sg1 rfl rfl (sg1 rfl rfl (sg1 rfl rfl (sg1 rfl rfl (sg1 rfl rfl rfl))))))) ?_
          obtain ⟨v2, e_v2, hf⟩ := bnd hf
          refine Ex.iald e_v2 rfl rfl ?_
          obtain rfl := Option.some.inj hf
          exact Ex.iret rfl rfl (fun c0 => by cases c0) hs
        · rw [if_neg c0] at hf
          exact Ex.weak (sm_le_n (sm_le_n (sm_le_n sm_le_nil))) (B_43_26 hd  hf hs)
theorem E_43 {L : Nat} {xs : Nat → Int32} {d : Nat} (hd : 1 ≤ d) {x1 : Int32} {x2 : Int32} {h : sm_H} {r : Int32 × sm_H} (hf : F_43 x1 x2 h = some r) : RUN L xs d 43 [.ref 10, .int x1, .int x2] h (some (.int r.1), r.2) := by
  obtain ⟨d, rfl⟩ : ∃ e, d = e + 1 := ⟨d - 1, by omega⟩
  exact ⟨Nat.le_of_ble_eq_true rfl, B_43_0 (by omega) hf rfl⟩
theorem B_44_22 {L : Nat} {xs : Nat → Int32} {d : Nat} (hd : 0 ≤ d) {res : Option Value × sm_H} {z0 : Int32}  {h : sm_H} {r : (Int32 × sm_H)} (hf : F_44_22 z0 h = some r) (hs : (fun (r : Int32 × sm_H) => res = (some (.int r.1), r.2)) r) : Ex (P_G L xs) (RUN L xs d) (sm_lk P_t44) 0 22 [none, none] [.int z0] h res := by
  unfold F_44_22 at hf
  obtain rfl := Option.some.inj hf
  exact Ex.iret rfl rfl (fun c0 => by cases c0) hs
theorem B_44_21 {L : Nat} {xs : Nat → Int32} {d : Nat} (hd : 0 ≤ d) {res : Option Value × sm_H}   {h : sm_H} {r : (Int32 × sm_H)} (hf : F_44_21  h = some r) (hs : (fun (r : Int32 × sm_H) => res = (some (.int r.1), r.2)) r) : Ex (P_G L xs) (RUN L xs d) (sm_lk P_t44) 0 21 [none, none] [] h res := by
  unfold F_44_21 at hf
  refine Ex.seg 1 (pc' := 22) (lc' := [none, none]) (st' := [.int (-1)]) (h' := h) (sg1 rfl rfl rfl) ?_
  exact Ex.weak (sm_le_s (sm_le_s sm_le_nil)) (B_44_22 hd  hf hs)
theorem B_44_0 {L : Nat} {xs : Nat → Int32} {d : Nat} (hd : 0 ≤ d) {res : Option Value × sm_H} {x1 : Int32}  {h : sm_H} {r : (Int32 × sm_H)} (hf : F_44_0 x1 h = some r) (hs : (fun (r : Int32 × sm_H) => res = (some (.int r.1), r.2)) r) : Ex (P_G L xs) (RUN L xs d) (sm_lk P_t44) 0 0 [some (.ref 10), some (.int x1)] [] h res := by
  unfold F_44_0 at hf
  refine Ex.seg 1 (pc' := 1) (lc' := [some (.ref 10), some (.int x1)]) (st' := [.int x1]) (h' := h) (sg1 rfl rfl rfl) ?_
  refine Ex.ifc rfl rfl (fun (c0 : x1 < 0) => ?_) (fun (c0 : ¬ (x1 < 0)) => ?_)
  · rw [if_pos c0] at hf
    exact Ex.weak (sm_le_n (sm_le_n sm_le_nil)) (B_44_21 hd  hf hs)
  · rw [if_neg c0] at hf
    refine Ex.seg 3 (pc' := 9) (lc' := [some (.ref 10), some (.int x1)]) (st' := [.int (h.1 10 11), .int x1]) (h' := h) (sg1 rfl rfl (sg1 rfl rfl (sg1 rfl rfl rfl))) ?_
    refine Ex.icmp rfl rfl (fun (c0 : (h.1 10 11) ≤ x1) => ?_) (fun (c0 : ¬ ((h.1 10 11) ≤ x1)) => ?_)
    · rw [if_pos c0] at hf
      exact Ex.weak (sm_le_n (sm_le_n sm_le_nil)) (B_44_21 hd  hf hs)
    · rw [if_neg c0] at hf
      refine Ex.seg 3 (pc' := 17) (lc' := [some (.ref 10), some (.int x1)]) (st' := [.int x1, .ref 18]) (h' := h) (sg1 rfl rfl (sg1 rfl rfl (sg1 rfl rfl rfl))) ?_
      obtain ⟨v1, e_v1, hf⟩ := bnd hf
      refine Ex.iald e_v1 rfl rfl ?_
      refine Ex.seg 1 (pc' := 22) (lc' := [some (.ref 10), some (.int x1)]) (st' := [.int v1]) (h' := h) (sg1 rfl rfl rfl) ?_
      exact Ex.weak (sm_le_n (sm_le_n sm_le_nil)) (B_44_22 hd  hf hs)
theorem E_44 {L : Nat} {xs : Nat → Int32} {d : Nat} (hd : 1 ≤ d) {x1 : Int32} {h : sm_H} {r : Int32 × sm_H} (hf : F_44 x1 h = some r) : RUN L xs d 44 [.ref 10, .int x1] h (some (.int r.1), r.2) := by
  obtain ⟨d, rfl⟩ : ∃ e, d = e + 1 := ⟨d - 1, by omega⟩
  exact ⟨Nat.le_of_ble_eq_true rfl, B_44_0 (by omega) hf rfl⟩
theorem B_45_22 {L : Nat} {xs : Nat → Int32} {d : Nat} (hd : 0 ≤ d) {res : Option Value × sm_H} {z0 : Int32}  {h : sm_H} {r : (Int32 × sm_H)} (hf : F_45_22 z0 h = some r) (hs : (fun (r : Int32 × sm_H) => res = (some (.int r.1), r.2)) r) : Ex (P_G L xs) (RUN L xs d) (sm_lk P_t45) 0 22 [none, none] [.int z0] h res := by
  unfold F_45_22 at hf
  obtain rfl := Option.some.inj hf
  exact Ex.iret rfl rfl (fun c0 => by cases c0) hs
theorem B_45_21 {L : Nat} {xs : Nat → Int32} {d : Nat} (hd : 0 ≤ d) {res : Option Value × sm_H}   {h : sm_H} {r : (Int32 × sm_H)} (hf : F_45_21  h = some r) (hs : (fun (r : Int32 × sm_H) => res = (some (.int r.1), r.2)) r) : Ex (P_G L xs) (RUN L xs d) (sm_lk P_t45) 0 21 [none, none] [] h res := by
  unfold F_45_21 at hf
  refine Ex.seg 1 (pc' := 22) (lc' := [none, none]) (st' := [.int 0]) (h' := h) (sg1 rfl rfl rfl) ?_
  exact Ex.weak (sm_le_s (sm_le_s sm_le_nil)) (B_45_22 hd  hf hs)
theorem B_45_0 {L : Nat} {xs : Nat → Int32} {d : Nat} (hd : 0 ≤ d) {res : Option Value × sm_H} {x1 : Int32}  {h : sm_H} {r : (Int32 × sm_H)} (hf : F_45_0 x1 h = some r) (hs : (fun (r : Int32 × sm_H) => res = (some (.int r.1), r.2)) r) : Ex (P_G L xs) (RUN L xs d) (sm_lk P_t45) 0 0 [some (.ref 10), some (.int x1)] [] h res := by
  unfold F_45_0 at hf
  refine Ex.seg 1 (pc' := 1) (lc' := [some (.ref 10), some (.int x1)]) (st' := [.int x1]) (h' := h) (sg1 rfl rfl rfl) ?_
  refine Ex.ifc rfl rfl (fun (c0 : x1 < 0) => ?_) (fun (c0 : ¬ (x1 < 0)) => ?_)
  · rw [if_pos c0] at hf
    exact Ex.weak (sm_le_n (sm_le_n sm_le_nil)) (B_45_21 hd  hf hs)
  · rw [if_neg c0] at hf
    refine Ex.seg 3 (pc' := 9) (lc' := [some (.ref 10), some (.int x1)]) (st' := [.int (h.1 10 11), .int x1]) (h' := h) (sg1 rfl rfl (sg1 rfl rfl (sg1 rfl rfl rfl))) ?_
    refine Ex.icmp rfl rfl (fun (c0 : (h.1 10 11) ≤ x1) => ?_) (fun (c0 : ¬ ((h.1 10 11) ≤ x1)) => ?_)
    · rw [if_pos c0] at hf
      exact Ex.weak (sm_le_n (sm_le_n sm_le_nil)) (B_45_21 hd  hf hs)
    · rw [if_neg c0] at hf
      refine Ex.seg 3 (pc' := 17) (lc' := [some (.ref 10), some (.int x1)]) (st' := [.int x1, .ref 19]) (h' := h) (sg1 rfl rfl (sg1 rfl rfl (sg1 rfl rfl rfl))) ?_
      obtain ⟨v1, e_v1, hf⟩ := bnd hf
      refine Ex.iald e_v1 rfl rfl ?_
      refine Ex.seg 1 (pc' := 22) (lc' := [some (.ref 10), some (.int x1)]) (st' := [.int v1]) (h' := h) (sg1 rfl rfl rfl) ?_
      exact Ex.weak (sm_le_n (sm_le_n sm_le_nil)) (B_45_22 hd  hf hs)
theorem E_45 {L : Nat} {xs : Nat → Int32} {d : Nat} (hd : 1 ≤ d) {x1 : Int32} {h : sm_H} {r : Int32 × sm_H} (hf : F_45 x1 h = some r) : RUN L xs d 45 [.ref 10, .int x1] h (some (.int r.1), r.2) := by
  obtain ⟨d, rfl⟩ : ∃ e, d = e + 1 := ⟨d - 1, by omega⟩
  exact ⟨Nat.le_of_ble_eq_true rfl, B_45_0 (by omega) hf rfl⟩
theorem B_46_26 {L : Nat} {xs : Nat → Int32} {d : Nat} (hd : 0 ≤ d) {res : Option Value × sm_H}   {h : sm_H} {r : (Int32 × sm_H)} (hf : F_46_26  h = some r) (hs : (fun (r : Int32 × sm_H) => res = (some (.int r.1), r.2)) r) : Ex (P_G L xs) (RUN L xs d) (sm_lk P_t46) 0 26 [none, none, none] [] h res := by
  unfold F_46_26 at hf
  refine Ex.seg 1 (pc' := 27) (lc' := [none, none, none]) (st' := [.int (-1)]) (h' := h) (sg1 rfl rfl rfl) ?_
  obtain rfl := Option.some.inj hf
  exact Ex.iret rfl rfl (fun c0 => by cases c0) hs
theorem B_46_0 {L : Nat} {xs : Nat → Int32} {d : Nat} (hd : 0 ≤ d) {res : Option Value × sm_H} {x1 : Int32} {x2 : Int32}  {h : sm_H} {r : (Int32 × sm_H)} (hf : F_46_0 x1 x2 h = some r) (hs : (fun (r : Int32 × sm_H) => res = (some (.int r.1), r.2)) r) : Ex (P_G L xs) (RUN L xs d) (sm_lk P_t46) 0 0 [some (.ref 10), some (.int x1), some (.int x2)] [] h res := by
  unfold F_46_0 at hf
  refine Ex.seg 1 (pc' := 1) (lc' := [some (.ref 10), some (.int x1), some (.int x2)]) (st' := [.int x1]) (h' := h) (sg1 rfl rfl rfl) ?_
  refine Ex.ifc rfl rfl (fun (c0 : x1 < 0) => ?_) (fun (c0 : ¬ (x1 < 0)) => ?_)
  · rw [if_pos c0] at hf
    exact Ex.weak (sm_le_n (sm_le_n (sm_le_n sm_le_nil))) (B_46_26 hd  hf hs)
  · rw [if_neg c0] at hf
    refine Ex.seg 3 (pc' := 9) (lc' := [some (.ref 10), some (.int x1), some (.int x2)]) (st' := [.int (h.1 10 11), .int x1]) (h' := h) (sg1 rfl rfl (sg1 rfl rfl (sg1 rfl rfl rfl))) ?_
    refine Ex.icmp rfl rfl (fun (c0 : (h.1 10 11) ≤ x1) => ?_) (fun (c0 : ¬ ((h.1 10 11) ≤ x1)) => ?_)
    · rw [if_pos c0] at hf
      exact Ex.weak (sm_le_n (sm_le_n (sm_le_n sm_le_nil))) (B_46_26 hd  hf hs)
    · rw [if_neg c0] at hf
      refine Ex.seg 1 (pc' := 13) (lc' := [some (.ref 10), some (.int x1), some (.int x2)]) (st' := [.int x2]) (h' := h) (sg1 rfl rfl rfl) ?_
      refine Ex.ifc rfl rfl (fun (c0 : x2 < 0) => ?_) (fun (c0 : ¬ (x2 < 0)) => ?_)
      · rw [if_pos c0] at hf
        exact Ex.weak (sm_le_n (sm_le_n (sm_le_n sm_le_nil))) (B_46_26 hd  hf hs)
      · rw [if_neg c0] at hf
        refine Ex.seg 4 (pc' := 22) (lc' := [some (.ref 10), some (.int x1), some (.int x2)]) (st' := [.int x1, .ref 19, .int x2]) (h' := h) (sg1 rfl rfl (sg1 rfl rfl (sg1 rfl rfl (sg1 rfl rfl rfl)))) ?_
        obtain ⟨v1, e_v1, hf⟩ := bnd hf
        refine Ex.iald e_v1 rfl rfl ?_
        refine Ex.icmp rfl rfl (fun (c0 : x2 < v1) => ?_) (fun (c0 : ¬ (x2 < v1)) => ?_)
        · rw [if_pos c0] at hf
          refine Ex.seg 7 (pc' := 38) (lc' := [some (.ref 10), some (.int x1), some (.int x2)]) (st' := [.int ((x1 * 10) + x2), .ref 20]) (h' := h) (sg1 rfl rfl (sg1 rfl rfl (sg1 rfl rfl (sg1 rfl rfl (sg1 rfl rfl (sg1 rfl rfl (sg1 rfl rfl rfl))))))) ?_
          obtain ⟨v2, e_v2, hf⟩ := bnd hf
          refine Ex.iald e_v2 rfl rfl ?_
          obtain rfl := Option.some.inj hf
          exact Ex.iret rfl rfl (fun c0 => by cases c0) hs
        · rw [if_neg c0] at hf
          exact Ex.weak (sm_le_n (sm_le_n (sm_le_n sm_le_nil))) (B_46_26 hd  hf hs)
theorem E_46 {L : Nat} {xs : Nat → Int32} {d : Nat} (hd : 1 ≤ d) {x1 : Int32} {x2 : Int32} {h : sm_H} {r : Int32 × sm_H} (hf : F_46 x1 x2 h = some r) : RUN L xs d 46 [.ref 10, .int x1, .int x2] h (some (.int r.1), r.2) := by
  obtain ⟨d, rfl⟩ : ∃ e, d = e + 1 := ⟨d - 1, by omega⟩
  exact ⟨Nat.le_of_ble_eq_true rfl, B_46_0 (by omega) hf rfl⟩
theorem B_47_33 {L : Nat} {xs : Nat → Int32} {d : Nat} (hd : 0 ≤ d) {res : Option Value × sm_H} {z0 : Int32}  {h : sm_H} {r : (Int32 × sm_H)} (hf : F_47_33 z0 h = some r) (hs : (fun (r : Int32 × sm_H) => res = (some (.int r.1), r.2)) r) : Ex (P_G L xs) (RUN L xs d) (sm_lk P_t47) 0 33 [none, none, none, none] [.int z0] h res := by
  unfold F_47_33 at hf
  obtain rfl := Option.some.inj hf
  exact Ex.iret rfl rfl (fun c0 => by cases c0) hs
theorem B_47_23 {L : Nat} {xs : Nat → Int32} {d : Nat} (hd : 0 ≤ d) {res : Option Value × sm_H}   {h : sm_H} {r : (Int32 × sm_H)} (hf : F_47_23  h = some r) (hs : (fun (r : Int32 × sm_H) => res = (some (.int r.1), r.2)) r) : Ex (P_G L xs) (RUN L xs d) (sm_lk P_t47) 0 23 [none, none, none, none] [] h res := by
  unfold F_47_23 at hf
  refine Ex.seg 2 (pc' := 33) (lc' := [none, none, none, none]) (st' := [.int 0]) (h' := h) (sg1 rfl rfl (sg1 rfl rfl rfl)) ?_
  exact Ex.weak (sm_le_s (sm_le_s (sm_le_s (sm_le_s sm_le_nil)))) (B_47_33 hd  hf hs)
theorem B_47_10 {L : Nat} {xs : Nat → Int32} {d : Nat} (hd : 0 ≤ d) {res : Option Value × sm_H} {z0 : Int32}  {h : sm_H} {r : (Int32 × sm_H)} (hf : F_47_10 z0 h = some r) (hs : (fun (r : Int32 × sm_H) => res = (some (.int r.1), r.2)) r) : Ex (P_G L xs) (RUN L xs d) (sm_lk P_t47) 0 10 [some (.ref 10), none, none, none] [.int z0] h res := by
  unfold F_47_10 at hf
  refine Ex.seg 2 (pc' := 12) (lc' := [some (.ref 10), none, none, some (.int z0)]) (st' := [.int z0]) (h' := h) (sg1 rfl rfl (sg1 rfl rfl rfl)) ?_
  refine Ex.ifc rfl rfl (fun (c0 : z0 < 0) => ?_) (fun (c0 : ¬ (z0 < 0)) => ?_)
  · rw [if_pos c0] at hf
    exact Ex.weak (sm_le_n (sm_le_s (sm_le_s (sm_le_n sm_le_nil)))) (B_47_23 hd  hf hs)
  · rw [if_neg c0] at hf
    refine Ex.seg 3 (pc' := 20) (lc' := [some (.ref 10), none, none, some (.int z0)]) (st' := [.int (h.1 10 11), .int z0]) (h' := h) (sg1 rfl rfl (sg1 rfl rfl (sg1 rfl rfl rfl))) ?_
    refine Ex.icmp rfl rfl (fun (c0 : z0 < (h.1 10 11)) => ?_) (fun (c0 : ¬ (z0 < (h.1 10 11))) => ?_)
    · rw [if_pos c0] at hf
      refine Ex.seg 3 (pc' := 32) (lc' := [some (.ref 10), none, none, some (.int z0)]) (st' := [.int z0, .ref 18]) (h' := h) (sg1 rfl rfl (sg1 rfl rfl (sg1 rfl rfl rfl))) ?_
      obtain ⟨v1, e_v1, hf⟩ := bnd hf
      refine Ex.iald e_v1 rfl rfl ?_
      exact Ex.weak (sm_le_n (sm_le_s (sm_le_s (sm_le_n sm_le_nil)))) (B_47_33 hd  hf hs)
    · rw [if_neg c0] at hf
      exact Ex.weak (sm_le_n (sm_le_s (sm_le_s (sm_le_n sm_le_nil)))) (B_47_23 hd  hf hs)
theorem B_47_0 {L : Nat} {xs : Nat → Int32} {d : Nat} (hd : 0 ≤ d) {res : Option Value × sm_H} {x1 : Int32} {x2 : Int32}  {h : sm_H} {r : (Int32 × sm_H)} (hf : F_47_0 x1 x2 h = some r) (hs : (fun (r : Int32 × sm_H) => res = (some (.int r.1), r.2)) r) : Ex (P_G L xs) (RUN L xs d) (sm_lk P_t47) 0 0 [some (.ref 10), some (.int x1), some (.int x2), none] [] h res := by
  unfold F_47_0 at hf
  refine Ex.seg 2 (pc' := 2) (lc' := [some (.ref 10), some (.int x1), some (.int x2), none]) (st' := [.int (-1), .int x2]) (h' := h) (sg1 rfl rfl (sg1 rfl rfl rfl)) ?_
  refine Ex.icmp rfl rfl (fun (c0 : ¬ (x2 = (-1))) => ?_) (fun (c0 : ¬ ¬ (x2 = (-1))) => ?_)
  · rw [if_neg c0] at hf
    refine Ex.seg 1 (pc' := 10) (lc' := [some (.ref 10), some (.int x1), some (.int x2), none]) (st' := [.int x2]) (h' := h) (sg1 rfl rfl rfl) ?_
    exact Ex.weak (sm_le_s (sm_le_n (sm_le_n (sm_le_s sm_le_nil)))) (B_47_10 hd  hf hs)
  · rw [if_pos (Classical.not_not.mp c0)] at hf
    refine Ex.seg 2 (pc' := 10) (lc' := [some (.ref 10), some (.int x1), some (.int x2), none]) (st' := [.int x1]) (h' := h) (sg1 rfl rfl (sg1 rfl rfl rfl)) ?_
    exact Ex.weak (sm_le_s (sm_le_n (sm_le_n (sm_le_s sm_le_nil)))) (B_47_10 hd  hf hs)
theorem E_47 {L : Nat} {xs : Nat → Int32} {d : Nat} (hd : 1 ≤ d) {x1 : Int32} {x2 : Int32} {h : sm_H} {r : Int32 × sm_H} (hf : F_47 x1 x2 h = some r) : RUN L xs d 47 [.ref 10, .int x1, .int x2] h (some (.int r.1), r.2) := by
  obtain ⟨d, rfl⟩ : ∃ e, d = e + 1 := ⟨d - 1, by omega⟩
  exact ⟨Nat.le_of_ble_eq_true rfl, B_47_0 (by omega) hf rfl⟩
theorem B_53_17 {L : Nat} {xs : Nat → Int32} {d : Nat} (hd : 0 ≤ d) {res : Option Value × sm_H} {z0 : Int32}  {h : sm_H} {r : (Int32 × sm_H)} (hf : F_53_17 z0 h = some r) (hs : (fun (r : Int32 × sm_H) => res = (some (.int r.1), r.2)) r) : Ex (P_G L xs) (RUN L xs d) (sm_lk P_t53) 3 17 [none, none] [.int z0] h res := by
  unfold F_53_17 at hf
  rcases Classical.em (z0 = 0 ∨ z0 = 1) with c0 | c0
  · rw [if_pos c0] at hf
    obtain rfl := Option.some.inj hf
    exact Ex.iret rfl rfl (fun _ => c0) hs
  · rw [if_neg c0] at hf
    cases hf
theorem B_53_16 {L : Nat} {xs : Nat → Int32} {d : Nat} (hd : 0 ≤ d) {res : Option Value × sm_H}   {h : sm_H} {r : (Int32 × sm_H)} (hf : F_53_16  h = some r) (hs : (fun (r : Int32 × sm_H) => res = (some (.int r.1), r.2)) r) : Ex (P_G L xs) (RUN L xs d) (sm_lk P_t53) 3 16 [none, none] [] h res := by
  unfold F_53_16 at hf
  refine Ex.seg 1 (pc' := 17) (lc' := [none, none]) (st' := [.int 0]) (h' := h) (sg1 rfl rfl rfl) ?_
  exact Ex.weak (sm_le_s (sm_le_s sm_le_nil)) (B_53_17 hd  hf hs)
theorem B_53_0 {L : Nat} {xs : Nat → Int32} {d : Nat} (hd : 0 ≤ d) {res : Option Value × sm_H} {x1 : Int32}  {h : sm_H} {r : (Int32 × sm_H)} (hf : F_53_0 x1 h = some r) (hs : (fun (r : Int32 × sm_H) => res = (some (.int r.1), r.2)) r) : Ex (P_G L xs) (RUN L xs d) (sm_lk P_t53) 3 0 [some (.ref 1), some (.int x1)] [] h res := by
  unfold F_53_0 at hf
  refine Ex.seg 1 (pc' := 1) (lc' := [some (.ref 1), some (.int x1)]) (st' := [.int x1]) (h' := h) (sg1 rfl rfl rfl) ?_
  refine Ex.ifc rfl rfl (fun (c0 : x1 < 0) => ?_) (fun (c0 : ¬ (x1 < 0)) => ?_)
  · rw [if_pos c0] at hf
    exact Ex.weak (sm_le_n (sm_le_n sm_le_nil)) (B_53_16 hd  hf hs)
  · rw [if_neg c0] at hf
    refine Ex.seg 3 (pc' := 9) (lc' := [some (.ref 1), some (.int x1)]) (st' := [.int (h.1 1 3), .int x1]) (h' := h) (sg1 rfl rfl (sg1 rfl rfl (sg1 rfl rfl rfl))) ?_
    refine Ex.icmp rfl rfl (fun (c0 : (h.1 1 3) ≤ x1) => ?_) (fun (c0 : ¬ ((h.1 1 3) ≤ x1)) => ?_)
    · rw [if_pos c0] at hf
      exact Ex.weak (sm_le_n (sm_le_n sm_le_nil)) (B_53_16 hd  hf hs)
    · rw [if_neg c0] at hf
      refine Ex.seg 2 (pc' := 17) (lc' := [some (.ref 1), some (.int x1)]) (st' := [.int 1]) (h' := h) (sg1 rfl rfl (sg1 rfl rfl rfl)) ?_
      exact Ex.weak (sm_le_n (sm_le_n sm_le_nil)) (B_53_17 hd  hf hs)
theorem E_53 {L : Nat} {xs : Nat → Int32} {d : Nat} (hd : 1 ≤ d) {x1 : Int32} {h : sm_H} {r : Int32 × sm_H} (hf : F_53 x1 h = some r) : RUN L xs d 53 [.ref 1, .int x1] h (some (.int r.1), r.2) := by
  obtain ⟨d, rfl⟩ : ∃ e, d = e + 1 := ⟨d - 1, by omega⟩
  exact ⟨Nat.le_of_ble_eq_true rfl, B_53_0 (by omega) hf rfl⟩
theorem B_54_17 {L : Nat} {xs : Nat → Int32} {d : Nat} (hd : 1 ≤ d) {res : Option Value × sm_H} {z0 : Int32}  {h : sm_H} {r : (Int32 × sm_H)} (hf : F_54_17 z0 h = some r) (hs : (fun (r : Int32 × sm_H) => res = (some (.int r.1), r.2)) r) : Ex (P_G L xs) (RUN L xs d) (sm_lk P_t54) 3 17 [none, none] [.int z0] h res := by
  unfold F_54_17 at hf
  rcases Classical.em (z0 = 0 ∨ z0 = 1) with c0 | c0
  · rw [if_pos c0] at hf
    obtain rfl := Option.some.inj hf
    exact Ex.iret rfl rfl (fun _ => c0) hs
  · rw [if_neg c0] at hf
    cases hf
theorem B_54_16 {L : Nat} {xs : Nat → Int32} {d : Nat} (hd : 1 ≤ d) {res : Option Value × sm_H}   {h : sm_H} {r : (Int32 × sm_H)} (hf : F_54_16  h = some r) (hs : (fun (r : Int32 × sm_H) => res = (some (.int r.1), r.2)) r) : Ex (P_G L xs) (RUN L xs d) (sm_lk P_t54) 3 16 [none, none] [] h res := by
  unfold F_54_16 at hf
  refine Ex.seg 1 (pc' := 17) (lc' := [none, none]) (st' := [.int 0]) (h' := h) (sg1 rfl rfl rfl) ?_
  exact Ex.weak (sm_le_s (sm_le_s sm_le_nil)) (B_54_17 hd  hf hs)
theorem B_54_0 {L : Nat} {xs : Nat → Int32} {d : Nat} (hd : 1 ≤ d) {res : Option Value × sm_H} {x1 : Int32}  {h : sm_H} {r : (Int32 × sm_H)} (hf : F_54_0 x1 h = some r) (hs : (fun (r : Int32 × sm_H) => res = (some (.int r.1), r.2)) r) : Ex (P_G L xs) (RUN L xs d) (sm_lk P_t54) 3 0 [some (.ref 1), some (.int x1)] [] h res := by
  unfold F_54_0 at hf
  refine Ex.seg 2 (pc' := 2) (lc' := [some (.ref 1), some (.int x1)]) (st' := [.int x1, .ref 1]) (h' := h) (sg1 rfl rfl (sg1 rfl rfl rfl)) ?_
  obtain ⟨q1, e_q1, hf⟩ := bnd hf
  refine Ex.callV (a := 1) (As := [.int x1]) (r := []) (v := some (.int q1.1)) (h' := q1.2) rfl rfl (by decide) rfl (Nat.le_of_ble_eq_true rfl) rfl (E_53 (Nat.le_trans (by decide) hd) e_q1) rfl ?_
  refine Ex.ifc rfl rfl (fun (c0 : q1.1 = 0) => ?_) (fun (c0 : ¬ (q1.1 = 0)) => ?_)
  · rw [if_pos c0] at hf
    exact Ex.weak (sm_le_n (sm_le_n sm_le_nil)) (B_54_16 hd  hf hs)
  · rw [if_neg c0] at hf
    refine Ex.seg 1 (pc' := 9) (lc' := [some (.ref 1), some (.int x1)]) (st' := [.int x1]) (h' := q1.2) (sg1 rfl rfl rfl) ?_
    refine Ex.ifc rfl rfl (fun (c0 : x1 = 0) => ?_) (fun (c0 : ¬ (x1 = 0)) => ?_)
    · rw [if_pos c0] at hf
      exact Ex.weak (sm_le_n (sm_le_n sm_le_nil)) (B_54_16 hd  hf hs)
    · rw [if_neg c0] at hf
      refine Ex.seg 2 (pc' := 17) (lc' := [some (.ref 1), some (.int x1)]) (st' := [.int 1]) (h' := q1.2) (sg1 rfl rfl (sg1 rfl rfl rfl)) ?_
      exact Ex.weak (sm_le_n (sm_le_n sm_le_nil)) (B_54_17 hd  hf hs)
theorem E_54 {L : Nat} {xs : Nat → Int32} {d : Nat} (hd : 2 ≤ d) {x1 : Int32} {h : sm_H} {r : Int32 × sm_H} (hf : F_54 x1 h = some r) : RUN L xs d 54 [.ref 1, .int x1] h (some (.int r.1), r.2) := by
  obtain ⟨d, rfl⟩ : ∃ e, d = e + 1 := ⟨d - 1, by omega⟩
  exact ⟨Nat.le_of_ble_eq_true rfl, B_54_0 (by omega) hf rfl⟩
theorem B_55_19 {L : Nat} {xs : Nat → Int32} {d : Nat} (hd : 0 ≤ d) {res : Option Value × sm_H} {z0 : Int32}  {h : sm_H} {r : (Int32 × sm_H)} (hf : F_55_19 z0 h = some r) (hs : (fun (r : Int32 × sm_H) => res = (some (.int r.1), r.2)) r) : Ex (P_G L xs) (RUN L xs d) (sm_lk P_t55) 3 19 [none, none] [.int z0] h res := by
  unfold F_55_19 at hf
  rcases Classical.em (z0 = 0 ∨ z0 = 1) with c0 | c0
  · rw [if_pos c0] at hf
    obtain rfl := Option.some.inj hf
    exact Ex.iret rfl rfl (fun _ => c0) hs
  · rw [if_neg c0] at hf
    cases hf
theorem B_55_18 {L : Nat} {xs : Nat → Int32} {d : Nat} (hd : 0 ≤ d) {res : Option Value × sm_H}   {h : sm_H} {r : (Int32 × sm_H)} (hf : F_55_18  h = some r) (hs : (fun (r : Int32 × sm_H) => res = (some (.int r.1), r.2)) r) : Ex (P_G L xs) (RUN L xs d) (sm_lk P_t55) 3 18 [none, none] [] h res := by
  unfold F_55_18 at hf
  refine Ex.seg 1 (pc' := 19) (lc' := [none, none]) (st' := [.int 0]) (h' := h) (sg1 rfl rfl rfl) ?_
  exact Ex.weak (sm_le_s (sm_le_s sm_le_nil)) (B_55_19 hd  hf hs)
theorem B_55_0 {L : Nat} {xs : Nat → Int32} {d : Nat} (hd : 0 ≤ d) {res : Option Value × sm_H} {x1 : Int32}  {h : sm_H} {r : (Int32 × sm_H)} (hf : F_55_0 x1 h = some r) (hs : (fun (r : Int32 × sm_H) => res = (some (.int r.1), r.2)) r) : Ex (P_G L xs) (RUN L xs d) (sm_lk P_t55) 3 0 [some (.ref 1), some (.int x1)] [] h res := by
  unfold F_55_0 at hf
  refine Ex.seg 2 (pc' := 3) (lc' := [some (.ref 1), some (.int x1)]) (st' := [.int 20, .int x1]) (h' := h) (sg1 rfl rfl (sg1 rfl rfl rfl)) ?_
  refine Ex.icmp rfl rfl (fun (c0 : x1 < 20) => ?_) (fun (c0 : ¬ (x1 < 20)) => ?_)
  · rw [if_pos c0] at hf
    exact Ex.weak (sm_le_n (sm_le_n sm_le_nil)) (B_55_18 hd  hf hs)
  · rw [if_neg c0] at hf
    refine Ex.seg 3 (pc' := 11) (lc' := [some (.ref 1), some (.int x1)]) (st' := [.int (h.1 1 3), .int x1]) (h' := h) (sg1 rfl rfl (sg1 rfl rfl (sg1 rfl rfl rfl))) ?_
    refine Ex.icmp rfl rfl (fun (c0 : (h.1 1 3) ≤ x1) => ?_) (fun (c0 : ¬ ((h.1 1 3) ≤ x1)) => ?_)
    · rw [if_pos c0] at hf
      exact Ex.weak (sm_le_n (sm_le_n sm_le_nil)) (B_55_18 hd  hf hs)
    · rw [if_neg c0] at hf
      refine Ex.seg 2 (pc' := 19) (lc' := [some (.ref 1), some (.int x1)]) (st' := [.int 1]) (h' := h) (sg1 rfl rfl (sg1 rfl rfl rfl)) ?_
      exact Ex.weak (sm_le_n (sm_le_n sm_le_nil)) (B_55_19 hd  hf hs)
theorem E_55 {L : Nat} {xs : Nat → Int32} {d : Nat} (hd : 1 ≤ d) {x1 : Int32} {h : sm_H} {r : Int32 × sm_H} (hf : F_55 x1 h = some r) : RUN L xs d 55 [.ref 1, .int x1] h (some (.int r.1), r.2) := by
  obtain ⟨d, rfl⟩ : ∃ e, d = e + 1 := ⟨d - 1, by omega⟩
  exact ⟨Nat.le_of_ble_eq_true rfl, B_55_0 (by omega) hf rfl⟩
theorem B_56_16 {L : Nat} {xs : Nat → Int32} {d : Nat} (hd : 0 ≤ d) {res : Option Value × sm_H} {z0 : Int32}  {h : sm_H} {r : (Int32 × sm_H)} (hf : F_56_16 z0 h = some r) (hs : (fun (r : Int32 × sm_H) => res = (some (.int r.1), r.2)) r) : Ex (P_G L xs) (RUN L xs d) (sm_lk P_t56) 3 16 [none, none] [.int z0] h res := by
  unfold F_56_16 at hf
  rcases Classical.em (z0 = 0 ∨ z0 = 1) with c0 | c0
  · rw [if_pos c0] at hf
    obtain rfl := Option.some.inj hf
    exact Ex.iret rfl rfl (fun _ => c0) hs
  · rw [if_neg c0] at hf
    cases hf
theorem B_56_15 {L : Nat} {xs : Nat → Int32} {d : Nat} (hd : 0 ≤ d) {res : Option Value × sm_H}   {h : sm_H} {r : (Int32 × sm_H)} (hf : F_56_15  h = some r) (hs : (fun (r : Int32 × sm_H) => res = (some (.int r.1), r.2)) r) : Ex (P_G L xs) (RUN L xs d) (sm_lk P_t56) 3 15 [none, none] [] h res := by
  unfold F_56_15 at hf
  refine Ex.seg 1 (pc' := 16) (lc' := [none, none]) (st' := [.int 0]) (h' := h) (sg1 rfl rfl rfl) ?_
  exact Ex.weak (sm_le_s (sm_le_s sm_le_nil)) (B_56_16 hd  hf hs)
theorem B_56_0 {L : Nat} {xs : Nat → Int32} {d : Nat} (hd : 0 ≤ d) {res : Option Value × sm_H} {x1 : Int32}  {h : sm_H} {r : (Int32 × sm_H)} (hf : F_56_0 x1 h = some r) (hs : (fun (r : Int32 × sm_H) => res = (some (.int r.1), r.2)) r) : Ex (P_G L xs) (RUN L xs d) (sm_lk P_t56) 3 0 [some (.ref 1), some (.int x1)] [] h res := by
  unfold F_56_0 at hf
  refine Ex.seg 2 (pc' := 2) (lc' := [some (.ref 1), some (.int x1)]) (st' := [.int 1, .int x1]) (h' := h) (sg1 rfl rfl (sg1 rfl rfl rfl)) ?_
  refine Ex.icmp rfl rfl (fun (c0 : x1 < 1) => ?_) (fun (c0 : ¬ (x1 < 1)) => ?_)
  · rw [if_pos c0] at hf
    exact Ex.weak (sm_le_n (sm_le_n sm_le_nil)) (B_56_15 hd  hf hs)
  · rw [if_neg c0] at hf
    refine Ex.seg 2 (pc' := 8) (lc' := [some (.ref 1), some (.int x1)]) (st' := [.int 6, .int x1]) (h' := h) (sg1 rfl rfl (sg1 rfl rfl rfl)) ?_
    refine Ex.icmp rfl rfl (fun (c0 : 6 < x1) => ?_) (fun (c0 : ¬ (6 < x1)) => ?_)
    · rw [if_pos c0] at hf
      exact Ex.weak (sm_le_n (sm_le_n sm_le_nil)) (B_56_15 hd  hf hs)
    · rw [if_neg c0] at hf
      refine Ex.seg 2 (pc' := 16) (lc' := [some (.ref 1), some (.int x1)]) (st' := [.int 1]) (h' := h) (sg1 rfl rfl (sg1 rfl rfl rfl)) ?_
      exact Ex.weak (sm_le_n (sm_le_n sm_le_nil)) (B_56_16 hd  hf hs)
theorem E_56 {L : Nat} {xs : Nat → Int32} {d : Nat} (hd : 1 ≤ d) {x1 : Int32} {h : sm_H} {r : Int32 × sm_H} (hf : F_56 x1 h = some r) : RUN L xs d 56 [.ref 1, .int x1] h (some (.int r.1), r.2) := by
  obtain ⟨d, rfl⟩ : ∃ e, d = e + 1 := ⟨d - 1, by omega⟩
  exact ⟨Nat.le_of_ble_eq_true rfl, B_56_0 (by omega) hf rfl⟩
theorem B_57_19 {L : Nat} {xs : Nat → Int32} {d : Nat} (hd : 0 ≤ d) {res : Option Value × sm_H} {z0 : Int32}  {h : sm_H} {r : (Int32 × sm_H)} (hf : F_57_19 z0 h = some r) (hs : (fun (r : Int32 × sm_H) => res = (some (.int r.1), r.2)) r) : Ex (P_G L xs) (RUN L xs d) (sm_lk P_t57) 3 19 [none, none] [.int z0] h res := by
  unfold F_57_19 at hf
  rcases Classical.em (z0 = 0 ∨ z0 = 1) with c0 | c0
  · rw [if_pos c0] at hf
    obtain rfl := Option.some.inj hf
    exact Ex.iret rfl rfl (fun _ => c0) hs
  · rw [if_neg c0] at hf
    cases hf
theorem B_57_18 {L : Nat} {xs : Nat → Int32} {d : Nat} (hd : 0 ≤ d) {res : Option Value × sm_H}   {h : sm_H} {r : (Int32 × sm_H)} (hf : F_57_18  h = some r) (hs : (fun (r : Int32 × sm_H) => res = (some (.int r.1), r.2)) r) : Ex (P_G L xs) (RUN L xs d) (sm_lk P_t57) 3 18 [none, none] [] h res := by
  unfold F_57_18 at hf
  refine Ex.seg 1 (pc' := 19) (lc' := [none, none]) (st' := [.int 0]) (h' := h) (sg1 rfl rfl rfl) ?_
  exact Ex.weak (sm_le_s (sm_le_s sm_le_nil)) (B_57_19 hd  hf hs)
theorem B_57_0 {L : Nat} {xs : Nat → Int32} {d : Nat} (hd : 0 ≤ d) {res : Option Value × sm_H} {x1 : Int32}  {h : sm_H} {r : (Int32 × sm_H)} (hf : F_57_0 x1 h = some r) (hs : (fun (r : Int32 × sm_H) => res = (some (.int r.1), r.2)) r) : Ex (P_G L xs) (RUN L xs d) (sm_lk P_t57) 3 0 [some (.ref 1), some (.int x1)] [] h res := by
  unfold F_57_0 at hf
  refine Ex.seg 2 (pc' := 3) (lc' := [some (.ref 1), some (.int x1)]) (st' := [.int 7, .int x1]) (h' := h) (sg1 rfl rfl (sg1 rfl rfl rfl)) ?_
  refine Ex.icmp rfl rfl (fun (c0 : x1 < 7) => ?_) (fun (c0 : ¬ (x1 < 7)) => ?_)
  · rw [if_pos c0] at hf
    exact Ex.weak (sm_le_n (sm_le_n sm_le_nil)) (B_57_18 hd  hf hs)
  · rw [if_neg c0] at hf
    refine Ex.seg 3 (pc' := 11) (lc' := [some (.ref 1), some (.int x1)]) (st' := [.int (h.1 1 3), .int x1]) (h' := h) (sg1 rfl rfl (sg1 rfl rfl (sg1 rfl rfl rfl))) ?_
    refine Ex.icmp rfl rfl (fun (c0 : (h.1 1 3) ≤ x1) => ?_) (fun (c0 : ¬ ((h.1 1 3) ≤ x1)) => ?_)
    · rw [if_pos c0] at hf
      exact Ex.weak (sm_le_n (sm_le_n sm_le_nil)) (B_57_18 hd  hf hs)
    · rw [if_neg c0] at hf
      refine Ex.seg 2 (pc' := 19) (lc' := [some (.ref 1), some (.int x1)]) (st' := [.int 1]) (h' := h) (sg1 rfl rfl (sg1 rfl rfl rfl)) ?_
      exact Ex.weak (sm_le_n (sm_le_n sm_le_nil)) (B_57_19 hd  hf hs)
theorem E_57 {L : Nat} {xs : Nat → Int32} {d : Nat} (hd : 1 ≤ d) {x1 : Int32} {h : sm_H} {r : Int32 × sm_H} (hf : F_57 x1 h = some r) : RUN L xs d 57 [.ref 1, .int x1] h (some (.int r.1), r.2) := by
  obtain ⟨d, rfl⟩ : ∃ e, d = e + 1 := ⟨d - 1, by omega⟩
  exact ⟨Nat.le_of_ble_eq_true rfl, B_57_0 (by omega) hf rfl⟩
theorem B_58_17 {L : Nat} {xs : Nat → Int32} {d : Nat} (hd : 0 ≤ d) {res : Option Value × sm_H} {z0 : Int32}  {h : sm_H} {r : (Int32 × sm_H)} (hf : F_58_17 z0 h = some r) (hs : (fun (r : Int32 × sm_H) => res = (some (.int r.1), r.2)) r) : Ex (P_G L xs) (RUN L xs d) (sm_lk P_t58) 3 17 [none, none] [.int z0] h res := by
  unfold F_58_17 at hf
  rcases Classical.em (z0 = 0 ∨ z0 = 1) with c0 | c0
  · rw [if_pos c0] at hf
    obtain rfl := Option.some.inj hf
    exact Ex.iret rfl rfl (fun _ => c0) hs
  · rw [if_neg c0] at hf
    cases hf
theorem B_58_16 {L : Nat} {xs : Nat → Int32} {d : Nat} (hd : 0 ≤ d) {res : Option Value × sm_H}   {h : sm_H} {r : (Int32 × sm_H)} (hf : F_58_16  h = some r) (hs : (fun (r : Int32 × sm_H) => res = (some (.int r.1), r.2)) r) : Ex (P_G L xs) (RUN L xs d) (sm_lk P_t58) 3 16 [none, none] [] h res := by
  unfold F_58_16 at hf
  refine Ex.seg 1 (pc' := 17) (lc' := [none, none]) (st' := [.int 0]) (h' := h) (sg1 rfl rfl rfl) ?_
  exact Ex.weak (sm_le_s (sm_le_s sm_le_nil)) (B_58_17 hd  hf hs)
theorem B_58_0 {L : Nat} {xs : Nat → Int32} {d : Nat} (hd : 0 ≤ d) {res : Option Value × sm_H} {x1 : Int32}  {h : sm_H} {r : (Int32 × sm_H)} (hf : F_58_0 x1 h = some r) (hs : (fun (r : Int32 × sm_H) => res = (some (.int r.1), r.2)) r) : Ex (P_G L xs) (RUN L xs d) (sm_lk P_t58) 3 0 [some (.ref 1), some (.int x1)] [] h res := by
  unfold F_58_0 at hf
  refine Ex.seg 2 (pc' := 3) (lc' := [some (.ref 1), some (.int x1)]) (st' := [.int 9, .int x1]) (h' := h) (sg1 rfl rfl (sg1 rfl rfl rfl)) ?_
  refine Ex.icmp rfl rfl (fun (c0 : x1 < 9) => ?_) (fun (c0 : ¬ (x1 < 9)) => ?_)
  · rw [if_pos c0] at hf
    exact Ex.weak (sm_le_n (sm_le_n sm_le_nil)) (B_58_16 hd  hf hs)
  · rw [if_neg c0] at hf
    refine Ex.seg 2 (pc' := 9) (lc' := [some (.ref 1), some (.int x1)]) (st' := [.int 14, .int x1]) (h' := h) (sg1 rfl rfl (sg1 rfl rfl rfl)) ?_
    refine Ex.icmp rfl rfl (fun (c0 : 14 < x1) => ?_) (fun (c0 : ¬ (14 < x1)) => ?_)
    · rw [if_pos c0] at hf
      exact Ex.weak (sm_le_n (sm_le_n sm_le_nil)) (B_58_16 hd  hf hs)
    · rw [if_neg c0] at hf
      refine Ex.seg 2 (pc' := 17) (lc' := [some (.ref 1), some (.int x1)]) (st' := [.int 1]) (h' := h) (sg1 rfl rfl (sg1 rfl rfl rfl)) ?_
      exact Ex.weak (sm_le_n (sm_le_n sm_le_nil)) (B_58_17 hd  hf hs)
theorem E_58 {L : Nat} {xs : Nat → Int32} {d : Nat} (hd : 1 ≤ d) {x1 : Int32} {h : sm_H} {r : Int32 × sm_H} (hf : F_58 x1 h = some r) : RUN L xs d 58 [.ref 1, .int x1] h (some (.int r.1), r.2) := by
  obtain ⟨d, rfl⟩ : ∃ e, d = e + 1 := ⟨d - 1, by omega⟩
  exact ⟨Nat.le_of_ble_eq_true rfl, B_58_0 (by omega) hf rfl⟩
theorem B_59_17 {L : Nat} {xs : Nat → Int32} {d : Nat} (hd : 0 ≤ d) {res : Option Value × sm_H} {z0 : Int32}  {h : sm_H} {r : (Int32 × sm_H)} (hf : F_59_17 z0 h = some r) (hs : (fun (r : Int32 × sm_H) => res = (some (.int r.1), r.2)) r) : Ex (P_G L xs) (RUN L xs d) (sm_lk P_t59) 3 17 [none, none] [.int z0] h res := by
  unfold F_59_17 at hf
  rcases Classical.em (z0 = 0 ∨ z0 = 1) with c0 | c0
  · rw [if_pos c0] at hf
    obtain rfl := Option.some.inj hf
    exact Ex.iret rfl rfl (fun _ => c0) hs
  · rw [if_neg c0] at hf
    cases hf
theorem B_59_16 {L : Nat} {xs : Nat → Int32} {d : Nat} (hd : 0 ≤ d) {res : Option Value × sm_H}   {h : sm_H} {r : (Int32 × sm_H)} (hf : F_59_16  h = some r) (hs : (fun (r : Int32 × sm_H) => res = (some (.int r.1), r.2)) r) : Ex (P_G L xs) (RUN L xs d) (sm_lk P_t59) 3 16 [none, none] [] h res := by
  unfold F_59_16 at hf
  refine Ex.seg 1 (pc' := 17) (lc' := [none, none]) (st' := [.int 0]) (h' := h) (sg1 rfl rfl rfl) ?_
  exact Ex.weak (sm_le_s (sm_le_s sm_le_nil)) (B_59_17 hd  hf hs)
theorem B_59_0 {L : Nat} {xs : Nat → Int32} {d : Nat} (hd : 0 ≤ d) {res : Option Value × sm_H} {x1 : Int32}  {h : sm_H} {r : (Int32 × sm_H)} (hf : F_59_0 x1 h = some r) (hs : (fun (r : Int32 × sm_H) => res = (some (.int r.1), r.2)) r) : Ex (P_G L xs) (RUN L xs d) (sm_lk P_t59) 3 0 [some (.ref 1), some (.int x1)] [] h res := by
  unfold F_59_0 at hf
  refine Ex.seg 2 (pc' := 3) (lc' := [some (.ref 1), some (.int x1)]) (st' := [.int 15, .int x1]) (h' := h) (sg1 rfl rfl (sg1 rfl rfl rfl)) ?_
  refine Ex.icmp rfl rfl (fun (c0 : x1 < 15) => ?_) (fun (c0 : ¬ (x1 < 15)) => ?_)
  · rw [if_pos c0] at hf
    exact Ex.weak (sm_le_n (sm_le_n sm_le_nil)) (B_59_16 hd  hf hs)
  · rw [if_neg c0] at hf
    refine Ex.seg 2 (pc' := 9) (lc' := [some (.ref 1), some (.int x1)]) (st' := [.int 17, .int x1]) (h' := h) (sg1 rfl rfl (sg1 rfl rfl rfl)) ?_
    refine Ex.icmp rfl rfl (fun (c0 : 17 < x1) => ?_) (fun (c0 : ¬ (17 < x1)) => ?_)
    · rw [if_pos c0] at hf
      exact Ex.weak (sm_le_n (sm_le_n sm_le_nil)) (B_59_16 hd  hf hs)
    · rw [if_neg c0] at hf
      refine Ex.seg 2 (pc' := 17) (lc' := [some (.ref 1), some (.int x1)]) (st' := [.int 1]) (h' := h) (sg1 rfl rfl (sg1 rfl rfl rfl)) ?_
      exact Ex.weak (sm_le_n (sm_le_n sm_le_nil)) (B_59_17 hd  hf hs)
theorem E_59 {L : Nat} {xs : Nat → Int32} {d : Nat} (hd : 1 ≤ d) {x1 : Int32} {h : sm_H} {r : Int32 × sm_H} (hf : F_59 x1 h = some r) : RUN L xs d 59 [.ref 1, .int x1] h (some (.int r.1), r.2) := by
  obtain ⟨d, rfl⟩ : ∃ e, d = e + 1 := ⟨d - 1, by omega⟩
  exact ⟨Nat.le_of_ble_eq_true rfl, B_59_0 (by omega) hf rfl⟩
theorem B_60_24 {L : Nat} {xs : Nat → Int32} {d : Nat} (hd : 0 ≤ d) {res : Option Value × sm_H}   {h : sm_H} {r : (Int32 × sm_H)} (hf : F_60_24  h = some r) (hs : (fun (r : Int32 × sm_H) => res = (some (.int r.1), r.2)) r) : Ex (P_G L xs) (RUN L xs d) (sm_lk P_t60) 3 24 [none, none, none] [] h res := by
  unfold F_60_24 at hf
  refine Ex.seg 1 (pc' := 25) (lc' := [none, none, none]) (st' := [.int 0]) (h' := h) (sg1 rfl rfl rfl) ?_
  obtain rfl := Option.some.inj hf
  exact Ex.iret rfl rfl (fun _ => by decide) hs
theorem B_60_0 {L : Nat} {xs : Nat → Int32} {d : Nat} (hd : 0 ≤ d) {res : Option Value × sm_H} {x1 : Int32} {x2 : Int32}  {h : sm_H} {r : (Int32 × sm_H)} (hf : F_60_0 x1 x2 h = some r) (hs : (fun (r : Int32 × sm_H) => res = (some (.int r.1), r.2)) r) : Ex (P_G L xs) (RUN L xs d) (sm_lk P_t60) 3 0 [some (.ref 1), some (.int x1), some (.int x2)] [] h res := by
  unfold F_60_0 at hf
  refine Ex.seg 1 (pc' := 1) (lc' := [some (.ref 1), some (.int x1), some (.int x2)]) (st' := [.int x1]) (h' := h) (sg1 rfl rfl rfl) ?_
  refine Ex.ifc rfl rfl (fun (c0 : x1 < 0) => ?_) (fun (c0 : ¬ (x1 < 0)) => ?_)
  · rw [if_pos c0] at hf
    exact Ex.weak (sm_le_n (sm_le_n (sm_le_n sm_le_nil))) (B_60_24 hd  hf hs)
  · rw [if_neg c0] at hf
    refine Ex.seg 3 (pc' := 9) (lc' := [some (.ref 1), some (.int x1), some (.int x2)]) (st' := [.int (h.1 1 3), .int x1]) (h' := h) (sg1 rfl rfl (sg1 rfl rfl (sg1 rfl rfl rfl))) ?_
    refine Ex.icmp rfl rfl (fun (c0 : (h.1 1 3) ≤ x1) => ?_) (fun (c0 : ¬ ((h.1 1 3) ≤ x1)) => ?_)
    · rw [if_pos c0] at hf
      exact Ex.weak (sm_le_n (sm_le_n (sm_le_n sm_le_nil))) (B_60_24 hd  hf hs)
    · rw [if_neg c0] at hf
      refine Ex.seg 1 (pc' := 13) (lc' := [some (.ref 1), some (.int x1), some (.int x2)]) (st' := [.int x2]) (h' := h) (sg1 rfl rfl rfl) ?_
      refine Ex.ifc rfl rfl (fun (c0 : x2 < 0) => ?_) (fun (c0 : ¬ (x2 < 0)) => ?_)
      · rw [if_pos c0] at hf
        exact Ex.weak (sm_le_n (sm_le_n (sm_le_n sm_le_nil))) (B_60_24 hd  hf hs)
      · rw [if_neg c0] at hf
        refine Ex.seg 3 (pc' := 21) (lc' := [some (.ref 1), some (.int x1), some (.int x2)]) (st' := [.int (h.1 1 3), .int x2]) (h' := h) (sg1 rfl rfl (sg1 rfl rfl (sg1 rfl rfl rfl))) ?_
        refine Ex.icmp rfl rfl (fun (c0 : x2 < (h.1 1 3)) => ?_) (fun (c0 : ¬ (x2 < (h.1 1 3))) => ?_)
        · rw [if_pos c0] at hf
          refine Ex.seg 7 (pc' := 36) (lc' := [some (.ref 1), some (.int x1), some (.int x2)]) (st' := [.int ((x1 * 32) + x2), .ref 2]) (h' := h) (sg1 rfl rfl (sg1 rfl rfl (sg1 rfl rfl (sg1 rfl rfl (sg1 rfl rfl (sg1 rfl rfl (sg1 rfl rfl rfl))))))) ?_
          obtain ⟨v1, e_v1, hf⟩ := bnd hf
          refine Ex.zald e_v1 rfl rfl ?_
          rcases Classical.em (v1 = 0 ∨ v1 = 1) with c0 | c0
          · rw [if_pos c0] at hf
            obtain rfl := Option.some.inj hf
            exact Ex.iret rfl rfl (fun _ => c0) hs
          · rw [if_neg c0] at hf
            cases hf
        · rw [if_neg c0] at hf
          exact Ex.weak (sm_le_n (sm_le_n (sm_le_n sm_le_nil))) (B_60_24 hd  hf hs)
theorem E_60 {L : Nat} {xs : Nat → Int32} {d : Nat} (hd : 1 ≤ d) {x1 : Int32} {x2 : Int32} {h : sm_H} {r : Int32 × sm_H} (hf : F_60 x1 x2 h = some r) : RUN L xs d 60 [.ref 1, .int x1, .int x2] h (some (.int r.1), r.2) := by
  obtain ⟨d, rfl⟩ : ∃ e, d = e + 1 := ⟨d - 1, by omega⟩
  exact ⟨Nat.le_of_ble_eq_true rfl, B_60_0 (by omega) hf rfl⟩
theorem B_61_18 {L : Nat} {xs : Nat → Int32} {d : Nat} (hd : 1 ≤ d) {res : Option Value × sm_H} {z0 : Int32}  {h : sm_H} {r : (Int32 × sm_H)} (hf : F_61_18 z0 h = some r) (hs : (fun (r : Int32 × sm_H) => res = (some (.int r.1), r.2)) r) : Ex (P_G L xs) (RUN L xs d) (sm_lk P_t61) 0 18 [none, none] [.int z0] h res := by
  unfold F_61_18 at hf
  obtain rfl := Option.some.inj hf
  exact Ex.iret rfl rfl (fun c0 => by cases c0) hs
theorem B_61_0 {L : Nat} {xs : Nat → Int32} {d : Nat} (hd : 1 ≤ d) {res : Option Value × sm_H} {x1 : Int32}  {h : sm_H} {r : (Int32 × sm_H)} (hf : F_61_0 x1 h = some r) (hs : (fun (r : Int32 × sm_H) => res = (some (.int r.1), r.2)) r) : Ex (P_G L xs) (RUN L xs d) (sm_lk P_t61) 0 0 [some (.ref 1), some (.int x1)] [] h res := by
  unfold F_61_0 at hf
  refine Ex.seg 2 (pc' := 2) (lc' := [some (.ref 1), some (.int x1)]) (st' := [.int x1, .ref 1]) (h' := h) (sg1 rfl rfl (sg1 rfl rfl rfl)) ?_
  obtain ⟨q1, e_q1, hf⟩ := bnd hf
  refine Ex.callV (a := 1) (As := [.int x1]) (r := []) (v := some (.int q1.1)) (h' := q1.2) rfl rfl (by decide) rfl (Nat.le_of_ble_eq_true rfl) rfl (E_55 (Nat.le_trans (by decide) hd) e_q1) rfl ?_
  refine Ex.ifc rfl rfl (fun (c0 : q1.1 = 0) => ?_) (fun (c0 : ¬ (q1.1 = 0)) => ?_)
  · rw [if_pos c0] at hf
    refine Ex.seg 1 (pc' := 18) (lc' := [some (.ref 1), some (.int x1)]) (st' := [.int (-1)]) (h' := q1.2) (sg1 rfl rfl rfl) ?_
    exact Ex.weak (sm_le_n (sm_le_n sm_le_nil)) (B_61_18 hd  hf hs)
  · rw [if_neg c0] at hf
    refine Ex.seg 3 (pc' := 13) (lc' := [some (.ref 1), some (.int x1)]) (st' := [.int x1, .ref 3]) (h' := q1.2) (sg1 rfl rfl (sg1 rfl rfl (sg1 rfl rfl rfl))) ?_
    obtain ⟨v2, e_v2, hf⟩ := bnd hf
    refine Ex.iald e_v2 rfl rfl ?_
    refine Ex.seg 1 (pc' := 18) (lc' := [some (.ref 1), some (.int x1)]) (st' := [.int v2]) (h' := q1.2) (sg1 rfl rfl rfl) ?_
    exact Ex.weak (sm_le_n (sm_le_n sm_le_nil)) (B_61_18 hd  hf hs)
theorem E_61 {L : Nat} {xs : Nat → Int32} {d : Nat} (hd : 2 ≤ d) {x1 : Int32} {h : sm_H} {r : Int32 × sm_H} (hf : F_61 x1 h = some r) : RUN L xs d 61 [.ref 1, .int x1] h (some (.int r.1), r.2) := by
  obtain ⟨d, rfl⟩ : ∃ e, d = e + 1 := ⟨d - 1, by omega⟩
  exact ⟨Nat.le_of_ble_eq_true rfl, B_61_0 (by omega) hf rfl⟩
theorem B_62_36 {L : Nat} {xs : Nat → Int32} {d : Nat} (hd : 1 ≤ d) {res : Option Value × sm_H} {z0 : Int32}  {h : sm_H} {r : (Int32 × sm_H)} (hf : F_62_36 z0 h = some r) (hs : (fun (r : Int32 × sm_H) => res = (some (.int r.1), r.2)) r) : Ex (P_G L xs) (RUN L xs d) (sm_lk P_t62) 3 36 [none, none, none] [.int z0] h res := by
  unfold F_62_36 at hf
  rcases Classical.em (z0 = 0 ∨ z0 = 1) with c0 | c0
  · rw [if_pos c0] at hf
    obtain rfl := Option.some.inj hf
    exact Ex.iret rfl rfl (fun _ => c0) hs
  · rw [if_neg c0] at hf
    cases hf
theorem B_62_35 {L : Nat} {xs : Nat → Int32} {d : Nat} (hd : 1 ≤ d) {res : Option Value × sm_H}   {h : sm_H} {r : (Int32 × sm_H)} (hf : F_62_35  h = some r) (hs : (fun (r : Int32 × sm_H) => res = (some (.int r.1), r.2)) r) : Ex (P_G L xs) (RUN L xs d) (sm_lk P_t62) 3 35 [none, none, none] [] h res := by
  unfold F_62_35 at hf
  refine Ex.seg 1 (pc' := 36) (lc' := [none, none, none]) (st' := [.int 0]) (h' := h) (sg1 rfl rfl rfl) ?_
  exact Ex.weak (sm_le_s (sm_le_s (sm_le_s sm_le_nil))) (B_62_36 hd  hf hs)
theorem B_62_0 {L : Nat} {xs : Nat → Int32} {d : Nat} (hd : 1 ≤ d) {res : Option Value × sm_H} {x1 : Int32} {x2 : Int32}  {h : sm_H} {r : (Int32 × sm_H)} (hf : F_62_0 x1 x2 h = some r) (hs : (fun (r : Int32 × sm_H) => res = (some (.int r.1), r.2)) r) : Ex (P_G L xs) (RUN L xs d) (sm_lk P_t62) 3 0 [some (.ref 1), some (.int x1), some (.int x2)] [] h res := by
  unfold F_62_0 at hf
  refine Ex.seg 2 (pc' := 2) (lc' := [some (.ref 1), some (.int x1), some (.int x2)]) (st' := [.int x1, .ref 1]) (h' := h) (sg1 rfl rfl (sg1 rfl rfl rfl)) ?_
  obtain ⟨q1, e_q1, hf⟩ := bnd hf
  refine Ex.callV (a := 1) (As := [.int x1]) (r := []) (v := some (.int q1.1)) (h' := q1.2) rfl rfl (by decide) rfl (Nat.le_of_ble_eq_true rfl) rfl (E_55 (Nat.le_trans (by decide) hd) e_q1) rfl ?_
  refine Ex.ifc rfl rfl (fun (c0 : q1.1 = 0) => ?_) (fun (c0 : ¬ (q1.1 = 0)) => ?_)
  · rw [if_pos c0] at hf
    exact Ex.weak (sm_le_n (sm_le_n (sm_le_n sm_le_nil))) (B_62_35 hd  hf hs)
  · rw [if_neg c0] at hf
    refine Ex.seg 2 (pc' := 10) (lc' := [some (.ref 1), some (.int x1), some (.int x2)]) (st' := [.int x2, .ref 1]) (h' := q1.2) (sg1 rfl rfl (sg1 rfl rfl rfl)) ?_
    obtain ⟨q2, e_q2, hf⟩ := bnd hf
    refine Ex.callV (a := 1) (As := [.int x2]) (r := []) (v := some (.int q2.1)) (h' := q2.2) rfl rfl (by decide) rfl (Nat.le_of_ble_eq_true rfl) rfl (E_55 (Nat.le_trans (by decide) hd) e_q2) rfl ?_
    refine Ex.ifc rfl rfl (fun (c0 : q2.1 = 0) => ?_) (fun (c0 : ¬ (q2.1 = 0)) => ?_)
    · rw [if_pos c0] at hf
      exact Ex.weak (sm_le_n (sm_le_n (sm_le_n sm_le_nil))) (B_62_35 hd  hf hs)
    · rw [if_neg c0] at hf
      refine Ex.seg 3 (pc' := 21) (lc' := [some (.ref 1), some (.int x1), some (.int x2)]) (st' := [.int x1, .ref 4]) (h' := q2.2) (sg1 rfl rfl (sg1 rfl rfl (sg1 rfl rfl rfl))) ?_
      obtain ⟨v3, e_v3, hf⟩ := bnd hf
      refine Ex.iald e_v3 rfl rfl ?_
      refine Ex.seg 3 (pc' := 27) (lc' := [some (.ref 1), some (.int x1), some (.int x2)]) (st' := [.int x2, .ref 4, .int v3]) (h' := q2.2) (sg1 rfl rfl (sg1 rfl rfl (sg1 rfl rfl rfl))) ?_
      obtain ⟨v4, e_v4, hf⟩ := bnd hf
      refine Ex.iald e_v4 rfl rfl ?_
      refine Ex.icmp rfl rfl (fun (c0 : ¬ (v3 = v4)) => ?_) (fun (c0 : ¬ ¬ (v3 = v4)) => ?_)
      · rw [if_neg c0] at hf
        exact Ex.weak (sm_le_n (sm_le_n (sm_le_n sm_le_nil))) (B_62_35 hd  hf hs)
      · rw [if_pos (Classical.not_not.mp c0)] at hf
        refine Ex.seg 2 (pc' := 36) (lc' := [some (.ref 1), some (.int x1), some (.int x2)]) (st' := [.int 1]) (h' := q2.2) (sg1 rfl rfl (sg1 rfl rfl rfl)) ?_
        exact Ex.weak (sm_le_n (sm_le_n (sm_le_n sm_le_nil))) (B_62_36 hd  hf hs)
theorem E_62 {L : Nat} {xs : Nat → Int32} {d : Nat} (hd : 2 ≤ d) {x1 : Int32} {x2 : Int32} {h : sm_H} {r : Int32 × sm_H} (hf : F_62 x1 x2 h = some r) : RUN L xs d 62 [.ref 1, .int x1, .int x2] h (some (.int r.1), r.2) := by
  obtain ⟨d, rfl⟩ : ∃ e, d = e + 1 := ⟨d - 1, by omega⟩
  exact ⟨Nat.le_of_ble_eq_true rfl, B_62_0 (by omega) hf rfl⟩
theorem B_63_18 {L : Nat} {xs : Nat → Int32} {d : Nat} (hd : 1 ≤ d) {res : Option Value × sm_H} {z0 : Int32}  {h : sm_H} {r : (Int32 × sm_H)} (hf : F_63_18 z0 h = some r) (hs : (fun (r : Int32 × sm_H) => res = (some (.int r.1), r.2)) r) : Ex (P_G L xs) (RUN L xs d) (sm_lk P_t63) 0 18 [none, none] [.int z0] h res := by
  unfold F_63_18 at hf
  obtain rfl := Option.some.inj hf
  exact Ex.iret rfl rfl (fun c0 => by cases c0) hs
theorem B_63_0 {L : Nat} {xs : Nat → Int32} {d : Nat} (hd : 1 ≤ d) {res : Option Value × sm_H} {x1 : Int32}  {h : sm_H} {r : (Int32 × sm_H)} (hf : F_63_0 x1 h = some r) (hs : (fun (r : Int32 × sm_H) => res = (some (.int r.1), r.2)) r) : Ex (P_G L xs) (RUN L xs d) (sm_lk P_t63) 0 0 [some (.ref 1), some (.int x1)] [] h res := by
  unfold F_63_0 at hf
  refine Ex.seg 2 (pc' := 2) (lc' := [some (.ref 1), some (.int x1)]) (st' := [.int x1, .ref 1]) (h' := h) (sg1 rfl rfl (sg1 rfl rfl rfl)) ?_
  obtain ⟨q1, e_q1, hf⟩ := bnd hf
  refine Ex.callV (a := 1) (As := [.int x1]) (r := []) (v := some (.int q1.1)) (h' := q1.2) rfl rfl (by decide) rfl (Nat.le_of_ble_eq_true rfl) rfl (E_59 (Nat.le_trans (by decide) hd) e_q1) rfl ?_
  refine Ex.ifc rfl rfl (fun (c0 : q1.1 = 0) => ?_) (fun (c0 : ¬ (q1.1 = 0)) => ?_)
  · rw [if_pos c0] at hf
    refine Ex.seg 1 (pc' := 18) (lc' := [some (.ref 1), some (.int x1)]) (st' := [.int 0]) (h' := q1.2) (sg1 rfl rfl rfl) ?_
    exact Ex.weak (sm_le_n (sm_le_n sm_le_nil)) (B_63_18 hd  hf hs)
  · rw [if_neg c0] at hf
    refine Ex.seg 6 (pc' := 18) (lc' := [some (.ref 1), some (.int x1)]) (st' := [.int ((x1 - 15) + 5)]) (h' := q1.2) (sg1 rfl rfl (sg1 rfl rfl (sg1 rfl rfl (sg1 rfl rfl (sg1 rfl rfl (sg1 rfl rfl rfl)))))) ?_
    exact Ex.weak (sm_le_n (sm_le_n sm_le_nil)) (B_63_18 hd  hf hs)
theorem E_63 {L : Nat} {xs : Nat → Int32} {d : Nat} (hd : 2 ≤ d) {x1 : Int32} {h : sm_H} {r : Int32 × sm_H} (hf : F_63 x1 h = some r) : RUN L xs d 63 [.ref 1, .int x1] h (some (.int r.1), r.2) := by
  obtain ⟨d, rfl⟩ : ∃ e, d = e + 1 := ⟨d - 1, by omega⟩
  exact ⟨Nat.le_of_ble_eq_true rfl, B_63_0 (by omega) hf rfl⟩
theorem B_67_43 {L : Nat} {xs : Nat → Int32} {d : Nat} (hd : 0 ≤ d) {res : Option Value × sm_H} {z0 : Int32}  {h : sm_H} {r : (Int32 × sm_H)} (hf : F_67_43 z0 h = some r) (hs : (fun (r : Int32 × sm_H) => res = (some (.int r.1), r.2)) r) : Ex (P_G L xs) (RUN L xs d) (sm_lk P_t67) 3 43 [none, none, none] [.int z0] h res := by
  unfold F_67_43 at hf
  rcases Classical.em (z0 = 0 ∨ z0 = 1) with c0 | c0
  · rw [if_pos c0] at hf
    obtain rfl := Option.some.inj hf
    exact Ex.iret rfl rfl (fun _ => c0) hs
  · rw [if_neg c0] at hf
    cases hf
theorem B_67_38 {L : Nat} {xs : Nat → Int32} {d : Nat} (hd : 0 ≤ d) {res : Option Value × sm_H}   {h : sm_H} {r : (Int32 × sm_H)} (hf : F_67_38  h = some r) (hs : (fun (r : Int32 × sm_H) => res = (some (.int r.1), r.2)) r) : Ex (P_G L xs) (RUN L xs d) (sm_lk P_t67) 3 38 [none, none, none] [] h res := by
  unfold F_67_38 at hf
  refine Ex.seg 2 (pc' := 43) (lc' := [none, none, none]) (st' := [.int 1]) (h' := h) (sg1 rfl rfl (sg1 rfl rfl rfl)) ?_
  exact Ex.weak (sm_le_s (sm_le_s (sm_le_s sm_le_nil))) (B_67_43 hd  hf hs)
theorem B_67_42 {L : Nat} {xs : Nat → Int32} {d : Nat} (hd : 0 ≤ d) {res : Option Value × sm_H}   {h : sm_H} {r : (Int32 × sm_H)} (hf : F_67_42  h = some r) (hs : (fun (r : Int32 × sm_H) => res = (some (.int r.1), r.2)) r) : Ex (P_G L xs) (RUN L xs d) (sm_lk P_t67) 3 42 [none, none, none] [] h res := by
  unfold F_67_42 at hf
  refine Ex.seg 1 (pc' := 43) (lc' := [none, none, none]) (st' := [.int 0]) (h' := h) (sg1 rfl rfl rfl) ?_
  exact Ex.weak (sm_le_s (sm_le_s (sm_le_s sm_le_nil))) (B_67_43 hd  hf hs)
theorem B_67_22 {L : Nat} {xs : Nat → Int32} {d : Nat} (hd : 0 ≤ d) {res : Option Value × sm_H} {y1 : Int32} {y2 : Int32}  {h : sm_H} {r : (Int32 × sm_H)} (hf : F_67_22 y1 y2 h = some r) (hs : (fun (r : Int32 × sm_H) => res = (some (.int r.1), r.2)) r) : Ex (P_G L xs) (RUN L xs d) (sm_lk P_t67) 3 22 [none, some (.int y1), some (.int y2)] [] h res := by
  unfold F_67_22 at hf
  refine Ex.seg 2 (pc' := 24) (lc' := [none, some (.int y1), some (.int y2)]) (st' := [.int y1, .int y2]) (h' := h) (sg1 rfl rfl (sg1 rfl rfl rfl)) ?_
  refine Ex.icmp rfl rfl (fun (c0 : y2 ≤ y1) => ?_) (fun (c0 : ¬ (y2 ≤ y1)) => ?_)
  · rw [if_pos c0] at hf
    exact Ex.weak (sm_le_s (sm_le_n (sm_le_n sm_le_nil))) (B_67_42 hd  hf hs)
  · rw [if_neg c0] at hf
    refine Ex.seg 2 (pc' := 29) (lc' := [none, some (.int y1), some (.int y2)]) (st' := [.int 5, .int y2]) (h' := h) (sg1 rfl rfl (sg1 rfl rfl rfl)) ?_
    refine Ex.icmp rfl rfl (fun (c0 : y2 = 5) => ?_) (fun (c0 : ¬ (y2 = 5)) => ?_)
    · rw [if_pos c0] at hf
      exact Ex.weak (sm_le_s (sm_le_n (sm_le_n sm_le_nil))) (B_67_38 hd  hf hs)
    · rw [if_neg c0] at hf
      refine Ex.seg 2 (pc' := 35) (lc' := [none, some (.int y1), some (.int y2)]) (st' := [.int 6, .int y2]) (h' := h) (sg1 rfl rfl (sg1 rfl rfl rfl)) ?_
      refine Ex.icmp rfl rfl (fun (c0 : ¬ (y2 = 6)) => ?_) (fun (c0 : ¬ ¬ (y2 = 6)) => ?_)
      · rw [if_neg c0] at hf
        exact Ex.weak (sm_le_s (sm_le_n (sm_le_n sm_le_nil))) (B_67_42 hd  hf hs)
      · rw [if_pos (Classical.not_not.mp c0)] at hf
        exact Ex.weak (sm_le_s (sm_le_n (sm_le_n sm_le_nil))) (B_67_38 hd  hf hs)
theorem B_67_10 {L : Nat} {xs : Nat → Int32} {d : Nat} (hd : 0 ≤ d) {res : Option Value × sm_H}   {h : sm_H} {r : (Int32 × sm_H)} (hf : F_67_10  h = some r) (hs : (fun (r : Int32 × sm_H) => res = (some (.int r.1), r.2)) r) : Ex (P_G L xs) (RUN L xs d) (sm_lk P_t67) 3 10 [none, none, none] [] h res := by
  unfold F_67_10 at hf
  refine Ex.seg 1 (pc' := 11) (lc' := [none, none, none]) (st' := [.int 0]) (h' := h) (sg1 rfl rfl rfl) ?_
  obtain rfl := Option.some.inj hf
  exact Ex.iret rfl rfl (fun _ => by decide) hs
theorem B_67_0 {L : Nat} {xs : Nat → Int32} {d : Nat} (hd : 0 ≤ d) {res : Option Value × sm_H} {x1 : Int32} {x2 : Int32}  {h : sm_H} {r : (Int32 × sm_H)} (hf : F_67_0 x1 x2 h = some r) (hs : (fun (r : Int32 × sm_H) => res = (some (.int r.1), r.2)) r) : Ex (P_G L xs) (RUN L xs d) (sm_lk P_t67) 3 0 [some (.ref 1), some (.int x1), some (.int x2)] [] h res := by
  unfold F_67_0 at hf
  refine Ex.seg 2 (pc' := 2) (lc' := [some (.ref 1), some (.int x1), some (.int x2)]) (st' := [.int 2, .int x1]) (h' := h) (sg1 rfl rfl (sg1 rfl rfl rfl)) ?_
  refine Ex.icmp rfl rfl (fun (c0 : x1 < 2) => ?_) (fun (c0 : ¬ (x1 < 2)) => ?_)
  · rw [if_pos c0] at hf
    exact Ex.weak (sm_le_n (sm_le_n (sm_le_n sm_le_nil))) (B_67_10 hd  hf hs)
  · rw [if_neg c0] at hf
    refine Ex.seg 2 (pc' := 7) (lc' := [some (.ref 1), some (.int x1), some (.int x2)]) (st' := [.int 5, .int x1]) (h' := h) (sg1 rfl rfl (sg1 rfl rfl rfl)) ?_
    refine Ex.icmp rfl rfl (fun (c0 : x1 ≤ 5) => ?_) (fun (c0 : ¬ (x1 ≤ 5)) => ?_)
    · rw [if_pos c0] at hf
      refine Ex.seg 2 (pc' := 14) (lc' := [some (.ref 1), some (.int x1), some (.int x2)]) (st' := [.int 2, .int x1]) (h' := h) (sg1 rfl rfl (sg1 rfl rfl rfl)) ?_
      refine Ex.icmp rfl rfl (fun (c0 : ¬ (x1 = 2)) => ?_) (fun (c0 : ¬ ¬ (x1 = 2)) => ?_)
      · rw [if_neg c0] at hf
        exact Ex.weak (sm_le_n (sm_le_s (sm_le_s sm_le_nil))) (B_67_22 hd  hf hs)
      · rw [if_pos (Classical.not_not.mp c0)] at hf
        refine Ex.seg 2 (pc' := 19) (lc' := [some (.ref 1), some (.int x1), some (.int x2)]) (st' := [.int 3, .int x2]) (h' := h) (sg1 rfl rfl (sg1 rfl rfl rfl)) ?_
        refine Ex.icmp rfl rfl (fun (c0 : x2 = 3) => ?_) (fun (c0 : ¬ (x2 = 3)) => ?_)
        · rw [if_pos c0] at hf
          exact Ex.weak (sm_le_n (sm_le_n (sm_le_n sm_le_nil))) (B_67_38 hd  hf hs)
        · rw [if_neg c0] at hf
          exact Ex.weak (sm_le_n (sm_le_s (sm_le_s sm_le_nil))) (B_67_22 hd  hf hs)
    · rw [if_neg c0] at hf
      exact Ex.weak (sm_le_n (sm_le_n (sm_le_n sm_le_nil))) (B_67_10 hd  hf hs)
theorem E_67 {L : Nat} {xs : Nat → Int32} {d : Nat} (hd : 1 ≤ d) {x1 : Int32} {x2 : Int32} {h : sm_H} {r : Int32 × sm_H} (hf : F_67 x1 x2 h = some r) : RUN L xs d 67 [.ref 1, .int x1, .int x2] h (some (.int r.1), r.2) := by
  obtain ⟨d, rfl⟩ : ∃ e, d = e + 1 := ⟨d - 1, by omega⟩
  exact ⟨Nat.le_of_ble_eq_true rfl, B_67_0 (by omega) hf rfl⟩
theorem B_68_0 {L : Nat} {xs : Nat → Int32} {d : Nat} (hd : 0 ≤ d) {res : Option Value × sm_H} {x1 : Int64} {x3 : Int32}  {h : sm_H} {r : (Int64 × sm_H)} (hf : F_68_0 x1 x3 h = some r) (hs : (fun (r : Int64 × sm_H) => res = (some (.long r.1), r.2)) r) : Ex (P_G L xs) (RUN L xs d) (sm_lk P_t68) 0 0 [some (.ref 1), some (.long x1), none, some (.int x3)] [] h res := by
  unfold F_68_0 at hf
  refine Ex.seg 1 (pc' := 1) (lc' := [some (.ref 1), some (.long x1), none, some (.int x3)]) (st' := [.int x3]) (h' := h) (sg1 rfl rfl rfl) ?_
  rcases Classical.em (x3 = 1) with n1 | n1
  · rw [if_pos n1] at hf
    refine Ex.swt (t := 36) rfl rfl (by rw [n1]; exact Or.inr ⟨by decide, by decide, _, rfl, by decide⟩) ?_
    refine Ex.seg 3 (pc' := 39) (lc' := [some (.ref 1), some (.long x1), none, some (.int x3)]) (st' := [.long (x1 &&& 1)]) (h' := h) (sg1 rfl rfl (sg1 rfl rfl (sg1 rfl rfl rfl))) ?_
    obtain rfl := Option.some.inj hf
    exact Ex.lret rfl rfl hs
  rw [if_neg n1] at hf
  rcases Classical.em (x3 = 2) with n2 | n2
  · rw [if_pos n2] at hf
    refine Ex.swt (t := 40) rfl rfl (by rw [n2]; exact Or.inr ⟨by decide, by decide, _, rfl, by decide⟩) ?_
    refine Ex.seg 4 (pc' := 44) (lc' := [some (.ref 1), some (.long x1), none, some (.int x3)]) (st' := [.long (Int32.toInt64 (Int32.toInt8 (Int64.toInt32 x1)).toInt32)]) (h' := h) (sg1 rfl rfl (sg1 rfl rfl (sg1 rfl rfl (sg1 rfl rfl rfl)))) ?_
    obtain rfl := Option.some.inj hf
    exact Ex.lret rfl rfl hs
  rw [if_neg n2] at hf
  rcases Classical.em (x3 = 3) with n3 | n3
  · rw [if_pos n3] at hf
    refine Ex.swt (t := 45) rfl rfl (by rw [n3]; exact Or.inr ⟨by decide, by decide, _, rfl, by decide⟩) ?_
    refine Ex.seg 4 (pc' := 49) (lc' := [some (.ref 1), some (.long x1), none, some (.int x3)]) (st' := [.long (Int32.toInt64 (Int32.toInt16 (Int64.toInt32 x1)).toInt32)]) (h' := h) (sg1 rfl rfl (sg1 rfl rfl (sg1 rfl rfl (sg1 rfl rfl rfl)))) ?_
    obtain rfl := Option.some.inj hf
    exact Ex.lret rfl rfl hs
  rw [if_neg n3] at hf
  rcases Classical.em (x3 = 4) with n4 | n4
  · rw [if_pos n4] at hf
    refine Ex.swt (t := 50) rfl rfl (by rw [n4]; exact Or.inr ⟨by decide, by decide, _, rfl, by decide⟩) ?_
    refine Ex.seg 4 (pc' := 54) (lc' := [some (.ref 1), some (.long x1), none, some (.int x3)]) (st' := [.long (Int32.toInt64 (Int32.toUInt32 (Int64.toInt32 x1) % 65536).toInt32)]) (h' := h) (sg1 rfl rfl (sg1 rfl rfl (sg1 rfl rfl (sg1 rfl rfl rfl)))) ?_
    obtain rfl := Option.some.inj hf
    exact Ex.lret rfl rfl hs
  rw [if_neg n4] at hf
  rcases Classical.em (x3 = 5) with n5 | n5
  · rw [if_pos n5] at hf
    refine Ex.swt (t := 55) rfl rfl (by rw [n5]; exact Or.inr ⟨by decide, by decide, _, rfl, by decide⟩) ?_
    refine Ex.seg 3 (pc' := 58) (lc' := [some (.ref 1), some (.long x1), none, some (.int x3)]) (st' := [.long (Int32.toInt64 (Int64.toInt32 x1))]) (h' := h) (sg1 rfl rfl (sg1 rfl rfl (sg1 rfl rfl rfl))) ?_
    obtain rfl := Option.some.inj hf
    exact Ex.lret rfl rfl hs
  rw [if_neg n5] at hf
  refine Ex.swt (t := 59) rfl rfl (sw_dflt (by decide) (by decide) (fun k hk he => ?_)) ?_
  · have hk : k < 5 := hk
    rcases (show k = 0 ∨ k = 1 ∨ k = 2 ∨ k = 3 ∨ k = 4 by omega) with rfl | rfl | rfl | rfl | rfl
    · exact absurd (Int32.toInt_inj.mp (he.symm.trans (by decide : (_ : Int) = Int32.toInt 1))) n1
    · exact absurd (Int32.toInt_inj.mp (he.symm.trans (by decide : (_ : Int) = Int32.toInt 2))) n2
    · exact absurd (Int32.toInt_inj.mp (he.symm.trans (by decide : (_ : Int) = Int32.toInt 3))) n3
    · exact absurd (Int32.toInt_inj.mp (he.symm.trans (by decide : (_ : Int) = Int32.toInt 4))) n4
    · exact absurd (Int32.toInt_inj.mp (he.symm.trans (by decide : (_ : Int) = Int32.toInt 5))) n5
  refine Ex.seg 1 (pc' := 60) (lc' := [some (.ref 1), some (.long x1), none, some (.int x3)]) (st' := [.long x1]) (h' := h) (sg1 rfl rfl rfl) ?_
  obtain rfl := Option.some.inj hf
  exact Ex.lret rfl rfl hs
theorem E_68 {L : Nat} {xs : Nat → Int32} {d : Nat} (hd : 1 ≤ d) {x1 : Int64} {x3 : Int32} {h : sm_H} {r : Int64 × sm_H} (hf : F_68 x1 x3 h = some r) : RUN L xs d 68 [.ref 1, .long x1, .int x3] h (some (.long r.1), r.2) := by
  obtain ⟨d, rfl⟩ : ∃ e, d = e + 1 := ⟨d - 1, by omega⟩
  exact ⟨Nat.le_of_ble_eq_true rfl, B_68_0 (by omega) hf rfl⟩
theorem B_70_0 {L : Nat} {xs : Nat → Int32} {d : Nat} (hd : 0 ≤ d) {res : Option Value × sm_H}   {h : sm_H} {r : (Int64 × sm_H)} (hf : F_70_0  h = some r) (hs : (fun (r : Int64 × sm_H) => res = (some (.long r.1), r.2)) r) : Ex (P_G L xs) (RUN L xs d) (sm_lk P_t70) 0 0 [some (.ref 49)] [] h res := by
  unfold F_70_0 at hf
  refine Ex.seg 2 (pc' := 4) (lc' := [some (.ref 49)]) (st' := [.long (h.2.1 49 9)]) (h' := h) (sg1 rfl rfl (sg1 rfl rfl rfl)) ?_
  obtain rfl := Option.some.inj hf
  exact Ex.lret rfl rfl hs
theorem E_70 {L : Nat} {xs : Nat → Int32} {d : Nat} (hd : 1 ≤ d)  {h : sm_H} {r : Int64 × sm_H} (hf : F_70  h = some r) : RUN L xs d 70 [.ref 49] h (some (.long r.1), r.2) := by
  obtain ⟨d, rfl⟩ : ∃ e, d = e + 1 := ⟨d - 1, by omega⟩
  exact ⟨Nat.le_of_ble_eq_true rfl, B_70_0 (by omega) hf rfl⟩
theorem B_71_0 {L : Nat} {xs : Nat → Int32} {d : Nat} (hd : 0 ≤ d) {res : Option Value × sm_H}   {h : sm_H} {r : (Int32 × sm_H)} (hf : F_71_0  h = some r) (hs : (fun (r : Int32 × sm_H) => res = (some (.int r.1), r.2)) r) : Ex (P_G L xs) (RUN L xs d) (sm_lk P_t71) 0 0 [some (.ref 49)] [] h res := by
  unfold F_71_0 at hf
  refine Ex.seg 2 (pc' := 4) (lc' := [some (.ref 49)]) (st' := [.int (h.1 49 10)]) (h' := h) (sg1 rfl rfl (sg1 rfl rfl rfl)) ?_
  obtain rfl := Option.some.inj hf
  exact Ex.iret rfl rfl (fun c0 => by cases c0) hs
theorem E_71 {L : Nat} {xs : Nat → Int32} {d : Nat} (hd : 1 ≤ d)  {h : sm_H} {r : Int32 × sm_H} (hf : F_71  h = some r) : RUN L xs d 71 [.ref 49] h (some (.int r.1), r.2) := by
  obtain ⟨d, rfl⟩ : ∃ e, d = e + 1 := ⟨d - 1, by omega⟩
  exact ⟨Nat.le_of_ble_eq_true rfl, B_71_0 (by omega) hf rfl⟩
theorem B_72_0 {L : Nat} {xs : Nat → Int32} {d : Nat} (hd : 0 ≤ d) {res : Option Value × sm_H} {x1 : Int32}  {h : sm_H} {r : (Int32 × sm_H)} (hf : F_72_0 x1 h = some r) (hs : (fun (r : Int32 × sm_H) => res = (some (.int r.1), r.2)) r) : Ex (P_G L xs) (RUN L xs d) (sm_lk P_t72) 0 0 [some (.ref 49), some (.int x1)] [] h res := by
  unfold F_72_0 at hf
  refine Ex.seg 1 (pc' := 1) (lc' := [some (.ref 49), some (.int x1)]) (st' := [.int x1]) (h' := h) (sg1 rfl rfl rfl) ?_
  rcases Classical.em (x1 = 0) with n1 | n1
  · rw [if_pos n1] at hf
    refine Ex.swt (t := 32) rfl rfl (by rw [n1]; exact Or.inr ⟨by decide, by decide, _, rfl, by decide⟩) ?_
    refine Ex.seg 2 (pc' := 36) (lc' := [some (.ref 49), some (.int x1)]) (st' := [.int (h.1 49 11)]) (h' := h) (sg1 rfl rfl (sg1 rfl rfl rfl)) ?_
    obtain rfl := Option.some.inj hf
    exact Ex.iret rfl rfl (fun c0 => by cases c0) hs
  rw [if_neg n1] at hf
  rcases Classical.em (x1 = 1) with n2 | n2
  · rw [if_pos n2] at hf
    refine Ex.swt (t := 37) rfl rfl (by rw [n2]; exact Or.inr ⟨by decide, by decide, _, rfl, by decide⟩) ?_
    refine Ex.seg 2 (pc' := 41) (lc' := [some (.ref 49), some (.int x1)]) (st' := [.int (h.1 49 8)]) (h' := h) (sg1 rfl rfl (sg1 rfl rfl rfl)) ?_
    obtain rfl := Option.some.inj hf
    exact Ex.iret rfl rfl (fun c0 => by cases c0) hs
  rw [if_neg n2] at hf
  rcases Classical.em (x1 = 2) with n3 | n3
  · rw [if_pos n3] at hf
    refine Ex.swt (t := 42) rfl rfl (by rw [n3]; exact Or.inr ⟨by decide, by decide, _, rfl, by decide⟩) ?_
    refine Ex.seg 2 (pc' := 46) (lc' := [some (.ref 49), some (.int x1)]) (st' := [.int (h.1 49 12)]) (h' := h) (sg1 rfl rfl (sg1 rfl rfl rfl)) ?_
    obtain rfl := Option.some.inj hf
    exact Ex.iret rfl rfl (fun c0 => by cases c0) hs
  rw [if_neg n3] at hf
  rcases Classical.em (x1 = 3) with n4 | n4
  · rw [if_pos n4] at hf
    refine Ex.swt (t := 47) rfl rfl (by rw [n4]; exact Or.inr ⟨by decide, by decide, _, rfl, by decide⟩) ?_
    refine Ex.seg 2 (pc' := 51) (lc' := [some (.ref 49), some (.int x1)]) (st' := [.int (h.1 49 10)]) (h' := h) (sg1 rfl rfl (sg1 rfl rfl rfl)) ?_
    obtain rfl := Option.some.inj hf
    exact Ex.iret rfl rfl (fun c0 => by cases c0) hs
  rw [if_neg n4] at hf
  refine Ex.swt (t := 52) rfl rfl (sw_dflt (by decide) (by decide) (fun k hk he => ?_)) ?_
  · have hk : k < 4 := hk
    rcases (show k = 0 ∨ k = 1 ∨ k = 2 ∨ k = 3 by omega) with rfl | rfl | rfl | rfl
    · exact absurd (Int32.toInt_inj.mp (he.symm.trans (by decide : (_ : Int) = Int32.toInt 0))) n1
    · exact absurd (Int32.toInt_inj.mp (he.symm.trans (by decide : (_ : Int) = Int32.toInt 1))) n2
    · exact absurd (Int32.toInt_inj.mp (he.symm.trans (by decide : (_ : Int) = Int32.toInt 2))) n3
    · exact absurd (Int32.toInt_inj.mp (he.symm.trans (by decide : (_ : Int) = Int32.toInt 3))) n4
  refine Ex.seg 1 (pc' := 53) (lc' := [some (.ref 49), some (.int x1)]) (st' := [.int (-1)]) (h' := h) (sg1 rfl rfl rfl) ?_
  obtain rfl := Option.some.inj hf
  exact Ex.iret rfl rfl (fun c0 => by cases c0) hs
theorem E_72 {L : Nat} {xs : Nat → Int32} {d : Nat} (hd : 1 ≤ d) {x1 : Int32} {h : sm_H} {r : Int32 × sm_H} (hf : F_72 x1 h = some r) : RUN L xs d 72 [.ref 49, .int x1] h (some (.int r.1), r.2) := by
  obtain ⟨d, rfl⟩ : ∃ e, d = e + 1 := ⟨d - 1, by omega⟩
  exact ⟨Nat.le_of_ble_eq_true rfl, B_72_0 (by omega) hf rfl⟩
theorem B_75_0 {L : Nat} {xs : Nat → Int32} {d : Nat} (hd : 0 ≤ d) {res : Option Value × sm_H} {x1 : Int64} {x3 : Int32}  {h : sm_H} {r : (Int32 × sm_H)} (hf : F_75_0 x1 x3 h = some r) (hs : (fun (r : Int32 × sm_H) => res = (some (.int r.1), r.2)) r) : Ex (P_G L xs) (RUN L xs d) (sm_lk P_t75) 0 0 [some (.ref 49), some (.long x1), none, some (.int x3)] [] h res := by
  unfold F_75_0 at hf
  refine Ex.seg 3 (pc' := 5) (lc' := [some (.ref 49), some (.long x1), none, some (.int x3)]) (st' := []) (h' := (sm_wJ h 49 9 x1)) (sg1 rfl rfl (sg1 rfl rfl (sg1 rfl rfl rfl))) ?_
  obtain ⟨h1, e_h1, hf⟩ := bnd hf
  rw [Option.some.inj e_h1]
  refine Ex.seg 3 (pc' := 10) (lc' := [some (.ref 49), some (.long x1), none, some (.int x3)]) (st' := []) (h' := (sm_wI h1 49 10 x3)) (sg1 rfl rfl (sg1 rfl rfl (sg1 rfl rfl rfl))) ?_
  obtain ⟨h2, e_h2, hf⟩ := bnd hf
  rw [Option.some.inj e_h2]
  refine Ex.seg 1 (pc' := 11) (lc' := [some (.ref 49), some (.long x1), none, some (.int x3)]) (st' := [.int 0]) (h' := h2) (sg1 rfl rfl rfl) ?_
  obtain rfl := Option.some.inj hf
  exact Ex.iret rfl rfl (fun c0 => by cases c0) hs
theorem E_75 {L : Nat} {xs : Nat → Int32} {d : Nat} (hd : 1 ≤ d) {x1 : Int64} {x3 : Int32} {h : sm_H} {r : Int32 × sm_H} (hf : F_75 x1 x3 h = some r) : RUN L xs d 75 [.ref 49, .long x1, .int x3] h (some (.int r.1), r.2) := by
  obtain ⟨d, rfl⟩ : ∃ e, d = e + 1 := ⟨d - 1, by omega⟩
  exact ⟨Nat.le_of_ble_eq_true rfl, B_75_0 (by omega) hf rfl⟩
theorem B_76_0 {L : Nat} {xs : Nat → Int32} {d : Nat} (hd : 0 ≤ d) {res : Option Value × sm_H} {x1 : Int32}  {h : sm_H} {r : (Int32 × sm_H)} (hf : F_76_0 x1 h = some r) (hs : (fun (r : Int32 × sm_H) => res = (some (.int r.1), r.2)) r) : Ex (P_G L xs) (RUN L xs d) (sm_lk P_t76) 0 0 [some (.ref 49), some (.int x1)] [] h res := by
  unfold F_76_0 at hf
  refine Ex.seg 4 (pc' := 6) (lc' := [some (.ref 49), some (.int x1)]) (st' := []) (h' := (sm_wJ h 49 9 (Int32.toInt64 x1))) (sg1 rfl rfl (sg1 rfl rfl (sg1 rfl rfl (sg1 rfl rfl rfl)))) ?_
  obtain ⟨h1, e_h1, hf⟩ := bnd hf
  rw [Option.some.inj e_h1]
  refine Ex.seg 3 (pc' := 12) (lc' := [some (.ref 49), some (.int x1)]) (st' := []) (h' := (sm_wI h1 49 10 19)) (sg1 rfl rfl (sg1 rfl rfl (sg1 rfl rfl rfl))) ?_
  obtain ⟨h2, e_h2, hf⟩ := bnd hf
  rw [Option.some.inj e_h2]
  refine Ex.seg 1 (pc' := 13) (lc' := [some (.ref 49), some (.int x1)]) (st' := [.int 1]) (h' := h2) (sg1 rfl rfl rfl) ?_
  obtain rfl := Option.some.inj hf
  exact Ex.iret rfl rfl (fun c0 => by cases c0) hs
theorem E_76 {L : Nat} {xs : Nat → Int32} {d : Nat} (hd : 1 ≤ d) {x1 : Int32} {h : sm_H} {r : Int32 × sm_H} (hf : F_76 x1 h = some r) : RUN L xs d 76 [.ref 49, .int x1] h (some (.int r.1), r.2) := by
  obtain ⟨d, rfl⟩ : ∃ e, d = e + 1 := ⟨d - 1, by omega⟩
  exact ⟨Nat.le_of_ble_eq_true rfl, B_76_0 (by omega) hf rfl⟩
theorem B_77_30 {L : Nat} {xs : Nat → Int32} {d : Nat} (hd : 0 ≤ d) {res : Option Value × sm_H} {z0 : Int64}  {h : sm_H} {r : (Int64 × sm_H)} (hf : F_77_30 z0 h = some r) (hs : (fun (r : Int64 × sm_H) => res = (some (.long r.1), r.2)) r) : Ex (P_G L xs) (RUN L xs d) (sm_lk P_t77) 0 30 [none, none, none, none] [.long z0] h res := by
  unfold F_77_30 at hf
  obtain rfl := Option.some.inj hf
  exact Ex.lret rfl rfl hs
theorem B_77_29 {L : Nat} {xs : Nat → Int32} {d : Nat} (hd : 0 ≤ d) {res : Option Value × sm_H}   {h : sm_H} {r : (Int64 × sm_H)} (hf : F_77_29  h = some r) (hs : (fun (r : Int64 × sm_H) => res = (some (.long r.1), r.2)) r) : Ex (P_G L xs) (RUN L xs d) (sm_lk P_t77) 0 29 [none, none, none, none] [] h res := by
  unfold F_77_29 at hf
  refine Ex.seg 1 (pc' := 30) (lc' := [none, none, none, none]) (st' := [.long 0]) (h' := h) (sg1 rfl rfl rfl) ?_
  exact Ex.weak (sm_le_s (sm_le_s (sm_le_s (sm_le_s sm_le_nil)))) (B_77_30 hd  hf hs)
theorem B_77_0 {L : Nat} {xs : Nat → Int32} {d : Nat} (hd : 0 ≤ d) {res : Option Value × sm_H} {x1 : Int32} {x2 : Int32}  {h : sm_H} {r : (Int64 × sm_H)} (hf : F_77_0 x1 x2 h = some r) (hs : (fun (r : Int64 × sm_H) => res = (some (.long r.1), r.2)) r) : Ex (P_G L xs) (RUN L xs d) (sm_lk P_t77) 0 0 [some (.ref 49), some (.int x1), some (.int x2), none] [] h res := by
  unfold F_77_0 at hf
  refine Ex.seg 6 (pc' := 7) (lc' := [some (.ref 49), some (.int x1), some (.int x2), some (.int ((x1 * 16) + x2))]) (st' := []) (h' := h) (sg1 rfl rfl (sg1 rfl rfl (sg1 rfl rfl (sg1 rfl rfl (sg1 rfl rfl (sg1 rfl rfl rfl)))))) ?_
  obtain ⟨v1, e_v1, hf⟩ := bnd hf
  rw [Option.some.inj e_v1]
  refine Ex.seg 1 (pc' := 8) (lc' := [some (.ref 49), some (.int x1), some (.int x2), some (.int v1)]) (st' := [.int v1]) (h' := h) (sg1 rfl rfl rfl) ?_
  refine Ex.ifc rfl rfl (fun (c0 : v1 < 0) => ?_) (fun (c0 : ¬ (v1 < 0)) => ?_)
  · rw [if_pos c0] at hf
    exact Ex.weak (sm_le_n (sm_le_n (sm_le_n (sm_le_n sm_le_nil)))) (B_77_29 hd  hf hs)
  · rw [if_neg c0] at hf
    refine Ex.seg 3 (pc' := 16) (lc' := [some (.ref 49), some (.int x1), some (.int x2), some (.int v1)]) (st' := [.ref 50, .int v1]) (h' := h) (sg1 rfl rfl (sg1 rfl rfl (sg1 rfl rfl rfl))) ?_
    obtain ⟨v2, e_v2, hf⟩ := bnd hf
    refine Ex.alen e_v2 rfl rfl ?_
    refine Ex.icmp rfl rfl (fun (c0 : v2 ≤ v1) => ?_) (fun (c0 : ¬ (v2 ≤ v1)) => ?_)
    · rw [if_pos c0] at hf
      exact Ex.weak (sm_le_n (sm_le_n (sm_le_n (sm_le_n sm_le_nil)))) (B_77_29 hd  hf hs)
    · rw [if_neg c0] at hf
      refine Ex.seg 3 (pc' := 25) (lc' := [some (.ref 49), some (.int x1), some (.int x2), some (.int v1)]) (st' := [.int v1, .ref 50]) (h' := h) (sg1 rfl rfl (sg1 rfl rfl (sg1 rfl rfl rfl))) ?_
      obtain ⟨v3, e_v3, hf⟩ := bnd hf
      refine Ex.lald e_v3 rfl rfl ?_
      refine Ex.seg 1 (pc' := 30) (lc' := [some (.ref 49), some (.int x1), some (.int x2), some (.int v1)]) (st' := [.long v3]) (h' := h) (sg1 rfl rfl rfl) ?_
      exact Ex.weak (sm_le_n (sm_le_n (sm_le_n (sm_le_n sm_le_nil)))) (B_77_30 hd  hf hs)
theorem E_77 {L : Nat} {xs : Nat → Int32} {d : Nat} (hd : 1 ≤ d) {x1 : Int32} {x2 : Int32} {h : sm_H} {r : Int64 × sm_H} (hf : F_77 x1 x2 h = some r) : RUN L xs d 77 [.ref 49, .int x1, .int x2] h (some (.long r.1), r.2) := by
  obtain ⟨d, rfl⟩ : ∃ e, d = e + 1 := ⟨d - 1, by omega⟩
  exact ⟨Nat.le_of_ble_eq_true rfl, B_77_0 (by omega) hf rfl⟩
theorem B_78_30 {L : Nat} {xs : Nat → Int32} {d : Nat} (hd : 0 ≤ d) {res : Option Value × sm_H} {z0 : Int32}  {h : sm_H} {r : (Int32 × sm_H)} (hf : F_78_30 z0 h = some r) (hs : (fun (r : Int32 × sm_H) => res = (some (.int r.1), r.2)) r) : Ex (P_G L xs) (RUN L xs d) (sm_lk P_t78) 0 30 [none, none, none, none] [.int z0] h res := by
  unfold F_78_30 at hf
  obtain rfl := Option.some.inj hf
  exact Ex.iret rfl rfl (fun c0 => by cases c0) hs
theorem B_78_29 {L : Nat} {xs : Nat → Int32} {d : Nat} (hd : 0 ≤ d) {res : Option Value × sm_H}   {h : sm_H} {r : (Int32 × sm_H)} (hf : F_78_29  h = some r) (hs : (fun (r : Int32 × sm_H) => res = (some (.int r.1), r.2)) r) : Ex (P_G L xs) (RUN L xs d) (sm_lk P_t78) 0 29 [none, none, none, none] [] h res := by
  unfold F_78_29 at hf
  refine Ex.seg 1 (pc' := 30) (lc' := [none, none, none, none]) (st' := [.int 0]) (h' := h) (sg1 rfl rfl rfl) ?_
  exact Ex.weak (sm_le_s (sm_le_s (sm_le_s (sm_le_s sm_le_nil)))) (B_78_30 hd  hf hs)
theorem B_78_0 {L : Nat} {xs : Nat → Int32} {d : Nat} (hd : 0 ≤ d) {res : Option Value × sm_H} {x1 : Int32} {x2 : Int32}  {h : sm_H} {r : (Int32 × sm_H)} (hf : F_78_0 x1 x2 h = some r) (hs : (fun (r : Int32 × sm_H) => res = (some (.int r.1), r.2)) r) : Ex (P_G L xs) (RUN L xs d) (sm_lk P_t78) 0 0 [some (.ref 49), some (.int x1), some (.int x2), none] [] h res := by
  unfold F_78_0 at hf
  refine Ex.seg 6 (pc' := 7) (lc' := [some (.ref 49), some (.int x1), some (.int x2), some (.int ((x1 * 16) + x2))]) (st' := []) (h' := h) (sg1 rfl rfl (sg1 rfl rfl (sg1 rfl rfl (sg1 rfl rfl (sg1 rfl rfl (sg1 rfl rfl rfl)))))) ?_
  obtain ⟨v1, e_v1, hf⟩ := bnd hf
  rw [Option.some.inj e_v1]
  refine Ex.seg 1 (pc' := 8) (lc' := [some (.ref 49), some (.int x1), some (.int x2), some (.int v1)]) (st' := [.int v1]) (h' := h) (sg1 rfl rfl rfl) ?_
  refine Ex.ifc rfl rfl (fun (c0 : v1 < 0) => ?_) (fun (c0 : ¬ (v1 < 0)) => ?_)
  · rw [if_pos c0] at hf
    exact Ex.weak (sm_le_n (sm_le_n (sm_le_n (sm_le_n sm_le_nil)))) (B_78_29 hd  hf hs)
  · rw [if_neg c0] at hf
    refine Ex.seg 3 (pc' := 16) (lc' := [some (.ref 49), some (.int x1), some (.int x2), some (.int v1)]) (st' := [.ref 51, .int v1]) (h' := h) (sg1 rfl rfl (sg1 rfl rfl (sg1 rfl rfl rfl))) ?_
    obtain ⟨v2, e_v2, hf⟩ := bnd hf
    refine Ex.alen e_v2 rfl rfl ?_
    refine Ex.icmp rfl rfl (fun (c0 : v2 ≤ v1) => ?_) (fun (c0 : ¬ (v2 ≤ v1)) => ?_)
    · rw [if_pos c0] at hf
      exact Ex.weak (sm_le_n (sm_le_n (sm_le_n (sm_le_n sm_le_nil)))) (B_78_29 hd  hf hs)
    · rw [if_neg c0] at hf
      refine Ex.seg 3 (pc' := 25) (lc' := [some (.ref 49), some (.int x1), some (.int x2), some (.int v1)]) (st' := [.int v1, .ref 51]) (h' := h) (sg1 rfl rfl (sg1 rfl rfl (sg1 rfl rfl rfl))) ?_
      obtain ⟨v3, e_v3, hf⟩ := bnd hf
      refine Ex.iald e_v3 rfl rfl ?_
      refine Ex.seg 1 (pc' := 30) (lc' := [some (.ref 49), some (.int x1), some (.int x2), some (.int v1)]) (st' := [.int v3]) (h' := h) (sg1 rfl rfl rfl) ?_
      exact Ex.weak (sm_le_n (sm_le_n (sm_le_n (sm_le_n sm_le_nil)))) (B_78_30 hd  hf hs)
theorem E_78 {L : Nat} {xs : Nat → Int32} {d : Nat} (hd : 1 ≤ d) {x1 : Int32} {x2 : Int32} {h : sm_H} {r : Int32 × sm_H} (hf : F_78 x1 x2 h = some r) : RUN L xs d 78 [.ref 49, .int x1, .int x2] h (some (.int r.1), r.2) := by
  obtain ⟨d, rfl⟩ : ∃ e, d = e + 1 := ⟨d - 1, by omega⟩
  exact ⟨Nat.le_of_ble_eq_true rfl, B_78_0 (by omega) hf rfl⟩
theorem B_79_50 {L : Nat} {xs : Nat → Int32} {d : Nat} (hd : 0 ≤ d) {res : Option Value × sm_H}   {h : sm_H} {r : (sm_H)} (hf : F_79_50  h = some r) (hs : (fun (r : sm_H) => res = (none, r)) r) : Ex (P_G L xs) (RUN L xs d) (sm_lk P_t79) 0 50 [none, none, none, none, none, none, none] [] h res := by
  unfold F_79_50 at hf
  obtain rfl := Option.some.inj hf
  exact Ex.vret rfl rfl hs
theorem B_79_0 {L : Nat} {xs : Nat → Int32} {d : Nat} (hd : 0 ≤ d) {res : Option Value × sm_H} {x1 : Int32} {x2 : Int32} {x3 : Int64} {x5 : Int32}  {h : sm_H} {r : (sm_H)} (hf : F_79_0 x1 x2 x3 x5 h = some r) (hs : (fun (r : sm_H) => res = (none, r)) r) : Ex (P_G L xs) (RUN L xs d) (sm_lk P_t79) 0 0 [some (.ref 49), some (.int x1), some (.int x2), some (.long x3), none, some (.int x5), none] [] h res := by
  unfold F_79_0 at hf
  refine Ex.seg 6 (pc' := 8) (lc' := [some (.ref 49), some (.int x1), some (.int x2), some (.long x3), none, some (.int x5), some (.int ((x1 * 16) + x2))]) (st' := []) (h' := h) (sg1 rfl rfl (sg1 rfl rfl (sg1 rfl rfl (sg1 rfl rfl (sg1 rfl rfl (sg1 rfl rfl rfl)))))) ?_
  obtain ⟨v1, e_v1, hf⟩ := bnd hf
  rw [Option.some.inj e_v1]
  refine Ex.seg 1 (pc' := 10) (lc' := [some (.ref 49), some (.int x1), some (.int x2), some (.long x3), none, some (.int x5), some (.int v1)]) (st' := [.int v1]) (h' := h) (sg1 rfl rfl rfl) ?_
  refine Ex.ifc rfl rfl (fun (c0 : v1 < 0) => ?_) (fun (c0 : ¬ (v1 < 0)) => ?_)
  · rw [if_pos c0] at hf
    exact Ex.weak (sm_le_n (sm_le_n (sm_le_n (sm_le_n (sm_le_s (sm_le_n (sm_le_n sm_le_nil))))))) (B_79_50 hd  hf hs)
  · rw [if_neg c0] at hf
    refine Ex.seg 3 (pc' := 19) (lc' := [some (.ref 49), some (.int x1), some (.int x2), some (.long x3), none, some (.int x5), some (.int v1)]) (st' := [.ref 50, .int v1]) (h' := h) (sg1 rfl rfl (sg1 rfl rfl (sg1 rfl rfl rfl))) ?_
    obtain ⟨v2, e_v2, hf⟩ := bnd hf
    refine Ex.alen e_v2 rfl rfl ?_
    refine Ex.icmp rfl rfl (fun (c0 : v2 ≤ v1) => ?_) (fun (c0 : ¬ (v2 ≤ v1)) => ?_)
    · rw [if_pos c0] at hf
      exact Ex.weak (sm_le_n (sm_le_n (sm_le_n (sm_le_n (sm_le_s (sm_le_n (sm_le_n sm_le_nil))))))) (B_79_50 hd  hf hs)
    · rw [if_neg c0] at hf
      refine Ex.seg 3 (pc' := 29) (lc' := [some (.ref 49), some (.int x1), some (.int x2), some (.long x3), none, some (.int x5), some (.int v1)]) (st' := [.ref 51, .int v1]) (h' := h) (sg1 rfl rfl (sg1 rfl rfl (sg1 rfl rfl rfl))) ?_
      obtain ⟨v3, e_v3, hf⟩ := bnd hf
      refine Ex.alen e_v3 rfl rfl ?_
      refine Ex.icmp rfl rfl (fun (c0 : v3 ≤ v1) => ?_) (fun (c0 : ¬ (v3 ≤ v1)) => ?_)
      · rw [if_pos c0] at hf
        exact Ex.weak (sm_le_n (sm_le_n (sm_le_n (sm_le_n (sm_le_s (sm_le_n (sm_le_n sm_le_nil))))))) (B_79_50 hd  hf hs)
      · rw [if_neg c0] at hf
        refine Ex.seg 4 (pc' := 40) (lc' := [some (.ref 49), some (.int x1), some (.int x2), some (.long x3), none, some (.int x5), some (.int v1)]) (st' := [.long x3, .int v1, .ref 50]) (h' := h) (sg1 rfl rfl (sg1 rfl rfl (sg1 rfl rfl (sg1 rfl rfl rfl)))) ?_
        obtain ⟨h4, e_h4, hf⟩ := bnd hf
        refine Ex.last e_h4 rfl rfl ?_
        refine Ex.seg 4 (pc' := 49) (lc' := [some (.ref 49), some (.int x1), some (.int x2), some (.long x3), none, some (.int x5), some (.int v1)]) (st' := [.int x5, .int v1, .ref 51]) (h' := h4) (sg1 rfl rfl (sg1 rfl rfl (sg1 rfl rfl (sg1 rfl rfl rfl)))) ?_
        obtain ⟨h5, e_h5, hf⟩ := bnd hf
        refine Ex.iast e_h5 rfl rfl ?_
        exact Ex.weak (sm_le_n (sm_le_n (sm_le_n (sm_le_n (sm_le_s (sm_le_n (sm_le_n sm_le_nil))))))) (B_79_50 hd  hf hs)
theorem E_79 {L : Nat} {xs : Nat → Int32} {d : Nat} (hd : 1 ≤ d) {x1 : Int32} {x2 : Int32} {x3 : Int64} {x5 : Int32} {h : sm_H} {r : sm_H} (hf : F_79 x1 x2 x3 x5 h = some r) : RUN L xs d 79 [.ref 49, .int x1, .int x2, .long x3, .int x5] h (none, r) := by
  obtain ⟨d, rfl⟩ : ∃ e, d = e + 1 := ⟨d - 1, by omega⟩
  exact ⟨Nat.le_of_ble_eq_true rfl, B_79_0 (by omega) hf rfl⟩
theorem B_80_52 {L : Nat} {xs : Nat → Int32} {d : Nat} (hd : 1 ≤ d) {res : Option Value × sm_H}   {h : sm_H} {r : (sm_H)} (hf : F_80_52  h = some r) (hs : (fun (r : sm_H) => res = (none, r)) r) : Ex (P_G L xs) (RUN L xs d) (sm_lk P_t80) 0 52 [none, none, none, none, none, none] [] h res := by
  unfold F_80_52 at hf
  obtain rfl := Option.some.inj hf
  exact Ex.vret rfl rfl hs
theorem B_80_3B {L : Nat} {xs : Nat → Int32} {d : Nat} (hd : 1 ≤ d) {res : Option Value × sm_H} {S1 : (Int32 × Int32 × Int32 × Int32 × Int32 × sm_H) → Prop} (hS1 : ∀ s, S1 s → Ex (P_G L xs) (RUN L xs d) (sm_lk P_t80) 0 3 [some (.ref 49), some (.int s.1), some (.int s.2.1), some (.int s.2.2.1), some (.int s.2.2.2.1), some (.int s.2.2.2.2.1)] [] s.2.2.2.2.2 res) {s : (Int32 × Int32 × Int32 × Int32 × Int32 × sm_H)}  {r : ((Int32 × Int32 × Int32 × Int32 × Int32 × sm_H) ⊕ (sm_H))} (hf : F_80_3B s = some r) (hs : (Sum.elim S1 (fun (r : sm_H) => res = (none, r))) r) : Ex (P_G L xs) (RUN L xs d) (sm_lk P_t80) 0 3 [some (.ref 49), some (.int s.1), some (.int s.2.1), some (.int s.2.2.1), some (.int s.2.2.2.1), some (.int s.2.2.2.2.1)] [] s.2.2.2.2.2 res := by
  unfold F_80_3B at hf
  refine Ex.seg 2 (pc' := 7) (lc' := [some (.ref 49), some (.int s.1), some (.int s.2.1), some (.int s.2.2.1), some (.int s.2.2.2.1), some (.int s.2.2.2.2.1)]) (st' := [.int s.2.2.2.1, .int s.2.2.2.2.1]) (h' := s.2.2.2.2.2) (sg1 rfl rfl (sg1 rfl rfl rfl)) ?_
  refine Ex.icmp rfl rfl (fun (c0 : s.2.2.2.1 ≤ s.2.2.2.2.1) => ?_) (fun (c0 : ¬ (s.2.2.2.1 ≤ s.2.2.2.2.1)) => ?_)
  · rw [if_pos c0] at hf
    obtain ⟨r0, hf0, rfl⟩ := Option.map_eq_some_iff.mp hf
    exact Ex.weak (sm_le_n (sm_le_n (sm_le_n (sm_le_n (sm_le_n (sm_le_n sm_le_nil)))))) (B_80_52 hd  hf0 hs)
  · rw [if_neg c0] at hf
    refine Ex.seg 2 (pc' := 14) (lc' := [some (.ref 49), some (.int s.1), some (.int s.2.1), some (.int s.2.2.1), some (.int s.2.2.2.1), some (.int s.2.2.2.2.1)]) (st' := [.int 16, .int s.2.2.2.2.1]) (h' := s.2.2.2.2.2) (sg1 rfl rfl (sg1 rfl rfl rfl)) ?_
    refine Ex.icmp rfl rfl (fun (c0 : 16 ≤ s.2.2.2.2.1) => ?_) (fun (c0 : ¬ (16 ≤ s.2.2.2.2.1)) => ?_)
    · rw [if_pos c0] at hf
      obtain ⟨r0, hf0, rfl⟩ := Option.map_eq_some_iff.mp hf
      exact Ex.weak (sm_le_n (sm_le_n (sm_le_n (sm_le_n (sm_le_n (sm_le_n sm_le_nil)))))) (B_80_52 hd  hf0 hs)
    · rw [if_neg c0] at hf
      refine Ex.seg 12 (pc' := 31) (lc' := [some (.ref 49), some (.int s.1), some (.int s.2.1), some (.int s.2.2.1), some (.int s.2.2.2.1), some (.int s.2.2.2.2.1)]) (st' := [.int (s.2.1 + s.2.2.2.2.1), .int s.1, .ref 49, .int (s.2.2.1 + s.2.2.2.2.1), .int (s.1 + 1), .ref 49]) (h' := s.2.2.2.2.2) (sg1 rfl rfl (sg1 rfl rfl (sg1 rfl rfl (sg1 rfl rfl (sg1 rfl rfl (sg1 rfl rfl (sg1 rfl rfl (sg1 rfl rfl (sg1 rfl rfl (sg1 rfl rfl (sg1 rfl rfl (sg1 rfl rfl rfl)))))))))))) ?_
      obtain ⟨q1, e_q1, hf⟩ := bnd hf
      refine Ex.callV (a := 49) (As := [.int s.1, .int (s.2.1 + s.2.2.2.2.1)]) (r := [.int (s.2.2.1 + s.2.2.2.2.1), .int (s.1 + 1), .ref 49]) (v := some (.long q1.1)) (h' := q1.2) rfl rfl (by decide) rfl (Nat.le_of_ble_eq_true rfl) rfl (E_77 (Nat.le_trans (by decide) hd) e_q1) rfl ?_
      refine Ex.seg 5 (pc' := 40) (lc' := [some (.ref 49), some (.int s.1), some (.int s.2.1), some (.int s.2.2.1), some (.int s.2.2.2.1), some (.int s.2.2.2.2.1)]) (st' := [.int (s.2.1 + s.2.2.2.2.1), .int s.1, .ref 49, .long q1.1, .int (s.2.2.1 + s.2.2.2.2.1), .int (s.1 + 1), .ref 49]) (h' := q1.2) (sg1 rfl rfl (sg1 rfl rfl (sg1 rfl rfl (sg1 rfl rfl (sg1 rfl rfl rfl))))) ?_
      obtain ⟨q2, e_q2, hf⟩ := bnd hf
      refine Ex.callV (a := 49) (As := [.int s.1, .int (s.2.1 + s.2.2.2.2.1)]) (r := [.long q1.1, .int (s.2.2.1 + s.2.2.2.2.1), .int (s.1 + 1), .ref 49]) (v := some (.int q2.1)) (h' := q2.2) rfl rfl (by decide) rfl (Nat.le_of_ble_eq_true rfl) rfl (E_78 (Nat.le_trans (by decide) hd) e_q2) rfl ?_
      obtain ⟨q3, e_q3, hf⟩ := bnd hf
      refine Ex.callV (a := 49) (As := [.int (s.1 + 1), .int (s.2.2.1 + s.2.2.2.2.1), .long q1.1, .int q2.1]) (r := []) (v := none) (h' := q3) rfl rfl (by decide) rfl (Nat.le_of_ble_eq_true rfl) rfl (E_79 (Nat.le_trans (by decide) hd) e_q3) rfl ?_
      refine Ex.seg 1 (pc' := 49) (lc' := [some (.ref 49), some (.int s.1), some (.int s.2.1), some (.int s.2.2.1), some (.int s.2.2.2.1), some (.int (s.2.2.2.2.1 + 1))]) (st' := []) (h' := q3) (sg1 rfl rfl rfl) ?_
      obtain ⟨v4, e_v4, hf⟩ := bnd hf
      rw [Option.some.inj e_v4]
      refine Ex.seg 1 (pc' := 3) (lc' := [some (.ref 49), some (.int s.1), some (.int s.2.1), some (.int s.2.2.1), some (.int s.2.2.2.1), some (.int v4)]) (st' := []) (h' := q3) (sg1 rfl rfl rfl) ?_
      obtain rfl := Option.some.inj hf
      exact Ex.weak (sm_le_s (sm_le_s (sm_le_s (sm_le_s (sm_le_s (sm_le_s sm_le_nil)))))) (hS1 _ hs)
theorem B_80_3 {L : Nat} {xs : Nat → Int32} {d : Nat} (hd : 1 ≤ d) {res : Option Value × sm_H} {y1 : Int32} {y2 : Int32} {y3 : Int32} {y4 : Int32} {y5 : Int32}  {h : sm_H} {r : (sm_H)} (hf : F_80_3 y1 y2 y3 y4 y5 h = some r) (hs : (fun (r : sm_H) => res = (none, r)) r) : Ex (P_G L xs) (RUN L xs d) (sm_lk P_t80) 0 3 [some (.ref 49), some (.int y1), some (.int y2), some (.int y3), some (.int y4), some (.int y5)] [] h res := by
  unfold F_80_3 at hf
  exact lp_ok (P := fun (s : (Int32 × Int32 × Int32 × Int32 × Int32 × sm_H)) => Ex (P_G L xs) (RUN L xs d) (sm_lk P_t80) 0 3 [some (.ref 49), some (.int s.1), some (.int s.2.1), some (.int s.2.2.1), some (.int s.2.2.2.1), some (.int s.2.2.2.2.1)] [] s.2.2.2.2.2 res) (S := (fun (r : sm_H) => res = (none, r))) (fun s x hx hsx => by
    intros
    exact B_80_3B hd  (fun _ q => q) hx hsx) 1000000 _ r hf hs
theorem B_80_0 {L : Nat} {xs : Nat → Int32} {d : Nat} (hd : 1 ≤ d) {res : Option Value × sm_H} {x1 : Int32} {x2 : Int32} {x3 : Int32} {x4 : Int32}  {h : sm_H} {r : (sm_H)} (hf : F_80_0 x1 x2 x3 x4 h = some r) (hs : (fun (r : sm_H) => res = (none, r)) r) : Ex (P_G L xs) (RUN L xs d) (sm_lk P_t80) 0 0 [some (.ref 49), some (.int x1), some (.int x2), some (.int x3), some (.int x4), none] [] h res := by
  unfold F_80_0 at hf
  refine Ex.seg 2 (pc' := 3) (lc' := [some (.ref 49), some (.int x1), some (.int x2), some (.int x3), some (.int x4), some (.int 0)]) (st' := []) (h' := h) (sg1 rfl rfl (sg1 rfl rfl rfl)) ?_
  exact Ex.weak (sm_le_s (sm_le_s (sm_le_s (sm_le_s (sm_le_s (sm_le_s sm_le_nil)))))) (B_80_3 hd  hf hs)
theorem E_80 {L : Nat} {xs : Nat → Int32} {d : Nat} (hd : 2 ≤ d) {x1 : Int32} {x2 : Int32} {x3 : Int32} {x4 : Int32} {h : sm_H} {r : sm_H} (hf : F_80 x1 x2 x3 x4 h = some r) : RUN L xs d 80 [.ref 49, .int x1, .int x2, .int x3, .int x4] h (none, r) := by
  obtain ⟨d, rfl⟩ : ∃ e, d = e + 1 := ⟨d - 1, by omega⟩
  exact ⟨Nat.le_of_ble_eq_true rfl, B_80_0 (by omega) hf rfl⟩
theorem B_81_0 {L : Nat} {xs : Nat → Int32} {d : Nat} (hd : 2 ≤ d) {res : Option Value × sm_H} {x1 : Int32} {x2 : Int32}  {h : sm_H} {r : (sm_H)} (hf : F_81_0 x1 x2 h = some r) (hs : (fun (r : sm_H) => res = (none, r)) r) : Ex (P_G L xs) (RUN L xs d) (sm_lk P_t81) 0 0 [some (.ref 49), some (.int x1), some (.int x2)] [] h res := by
  unfold F_81_0 at hf
  refine Ex.seg 7 (pc' := 9) (lc' := [some (.ref 49), some (.int x1), some (.int x2)]) (st' := [.int x2, .ref 10, .int 0, .int 0, .int x1, .ref 49]) (h' := h) (sg1 rfl rfl (sg1 rfl rfl (sg1 rfl rfl (sg1 rfl rfl (sg1 rfl rfl (sg1 rfl rfl (sg1 rfl rfl rfl))))))) ?_
  obtain ⟨q1, e_q1, hf⟩ := bnd hf
  refine Ex.callV (a := 10) (As := [.int x2]) (r := [.int 0, .int 0, .int x1, .ref 49]) (v := some (.int q1.1)) (h' := q1.2) rfl rfl (by decide) rfl (Nat.le_of_ble_eq_true rfl) rfl (E_45 (Nat.le_trans (by decide) hd) e_q1) rfl ?_
  obtain ⟨q2, e_q2, hf⟩ := bnd hf
  refine Ex.callV (a := 49) (As := [.int x1, .int 0, .int 0, .int q1.1]) (r := []) (v := none) (h' := q2) rfl rfl (by decide) rfl (Nat.le_of_ble_eq_true rfl) rfl (E_80 (Nat.le_trans (by decide) hd) e_q2) rfl ?_
  obtain rfl := Option.some.inj hf
  exact Ex.vret rfl rfl hs
theorem E_81 {L : Nat} {xs : Nat → Int32} {d : Nat} (hd : 3 ≤ d) {x1 : Int32} {x2 : Int32} {h : sm_H} {r : sm_H} (hf : F_81 x1 x2 h = some r) : RUN L xs d 81 [.ref 49, .int x1, .int x2] h (none, r) := by
  obtain ⟨d, rfl⟩ : ∃ e, d = e + 1 := ⟨d - 1, by omega⟩
  exact ⟨Nat.le_of_ble_eq_true rfl, B_81_0 (by omega) hf rfl⟩
theorem B_84_47 {L : Nat} {xs : Nat → Int32} {d : Nat} (hd : 1 ≤ d) {res : Option Value × sm_H} {z1 : Int32} {z2 : Int32}  {h : sm_H} {r : (Int32 × sm_H)} (hf : F_84_47 z1 z2 h = some r) (hs : (fun (r : Int32 × sm_H) => res = (some (.int r.1), r.2)) r) : Ex (P_G L xs) (RUN L xs d) (sm_lk P_t84) 0 47 [none, none, none, none, none] [.int z2, .int z1, .ref 10] h res := by
  unfold F_84_47 at hf
  obtain ⟨q1, e_q1, hf⟩ := bnd hf
  refine Ex.callV (a := 10) (As := [.int z1, .int z2]) (r := []) (v := some (.int q1.1)) (h' := q1.2) rfl rfl (by decide) rfl (Nat.le_of_ble_eq_true rfl) rfl (E_43 (Nat.le_trans (by decide) hd) e_q1) rfl ?_
  obtain rfl := Option.some.inj hf
  exact Ex.iret rfl rfl (fun c0 => by cases c0) hs
theorem B_84_27 {L : Nat} {xs : Nat → Int32} {d : Nat} (hd : 1 ≤ d) {res : Option Value × sm_H} {y1 : Int32} {y2 : Int64} {z0 : Int32}  {h : sm_H} {r : (Int32 × sm_H)} (hf : F_84_27 y1 y2 z0 h = some r) (hs : (fun (r : Int32 × sm_H) => res = (some (.int r.1), r.2)) r) : Ex (P_G L xs) (RUN L xs d) (sm_lk P_t84) 0 27 [some (.ref 49), some (.int y1), some (.long y2), none, none] [.int z0] h res := by
  unfold F_84_27 at hf
  refine Ex.seg 5 (pc' := 36) (lc' := [some (.ref 49), some (.int y1), some (.long y2), none, some (.int z0)]) (st' := [.int z0, .int y1, .ref 10]) (h' := h) (sg1 rfl rfl (sg1 rfl rfl (sg1 rfl rfl (sg1 rfl rfl (sg1 rfl rfl rfl))))) ?_
  refine Ex.ifc rfl rfl (fun (c0 : z0 = 0) => ?_) (fun (c0 : ¬ (z0 = 0)) => ?_)
  · rw [if_pos c0] at hf
    refine Ex.seg 1 (pc' := 47) (lc' := [some (.ref 49), some (.int y1), some (.long y2), none, some (.int z0)]) (st' := [.int 0, .int y1, .ref 10]) (h' := h) (sg1 rfl rfl rfl) ?_
    exact Ex.weak (sm_le_n (sm_le_n (sm_le_n (sm_le_s (sm_le_n sm_le_nil))))) (B_84_47 hd  hf hs)
  · rw [if_neg c0] at hf
    refine Ex.seg 5 (pc' := 47) (lc' := [some (.ref 49), some (.int y1), some (.long y2), none, some (.int z0)]) (st' := [.int ((Int64.toInt32 y2) + 1), .int y1, .ref 10]) (h' := h) (sg1 rfl rfl (sg1 rfl rfl (sg1 rfl rfl (sg1 rfl rfl (sg1 rfl rfl rfl))))) ?_
    exact Ex.weak (sm_le_n (sm_le_n (sm_le_n (sm_le_s (sm_le_n sm_le_nil))))) (B_84_47 hd  hf hs)
theorem B_84_26 {L : Nat} {xs : Nat → Int32} {d : Nat} (hd : 1 ≤ d) {res : Option Value × sm_H} {y1 : Int32} {y2 : Int64}  {h : sm_H} {r : (Int32 × sm_H)} (hf : F_84_26 y1 y2 h = some r) (hs : (fun (r : Int32 × sm_H) => res = (some (.int r.1), r.2)) r) : Ex (P_G L xs) (RUN L xs d) (sm_lk P_t84) 0 26 [some (.ref 49), some (.int y1), some (.long y2), none, none] [] h res := by
  unfold F_84_26 at hf
  refine Ex.seg 1 (pc' := 27) (lc' := [some (.ref 49), some (.int y1), some (.long y2), none, none]) (st' := [.int 0]) (h' := h) (sg1 rfl rfl rfl) ?_
  exact Ex.weak (sm_le_s (sm_le_s (sm_le_s (sm_le_s (sm_le_s sm_le_nil))))) (B_84_27 hd  hf hs)
theorem B_84_0 {L : Nat} {xs : Nat → Int32} {d : Nat} (hd : 1 ≤ d) {res : Option Value × sm_H} {x1 : Int32} {x2 : Int64}  {h : sm_H} {r : (Int32 × sm_H)} (hf : F_84_0 x1 x2 h = some r) (hs : (fun (r : Int32 × sm_H) => res = (some (.int r.1), r.2)) r) : Ex (P_G L xs) (RUN L xs d) (sm_lk P_t84) 0 0 [some (.ref 49), some (.int x1), some (.long x2), none, none] [] h res := by
  unfold F_84_0 at hf
  refine Ex.seg 3 (pc' := 3) (lc' := [some (.ref 49), some (.int x1), some (.long x2), none, none]) (st' := [.int (lg_cmp x2 0)]) (h' := h) (sg1 rfl rfl (sg1 rfl rfl (sg1 rfl rfl rfl))) ?_
  refine Ex.ifc rfl rfl (fun (c0 : (lg_cmp x2 0) < 0) => ?_) (fun (c0 : ¬ ((lg_cmp x2 0) < 0)) => ?_)
  · rw [if_pos c0] at hf
    exact Ex.weak (sm_le_s (sm_le_s (sm_le_s (sm_le_s (sm_le_s sm_le_nil))))) (B_84_26 hd  hf hs)
  · rw [if_neg c0] at hf
    refine Ex.seg 4 (pc' := 12) (lc' := [some (.ref 49), some (.int x1), some (.long x2), none, none]) (st' := [.int x1, .ref 10, .long x2]) (h' := h) (sg1 rfl rfl (sg1 rfl rfl (sg1 rfl rfl (sg1 rfl rfl rfl)))) ?_
    obtain ⟨q2, e_q2, hf⟩ := bnd hf
    refine Ex.callV (a := 10) (As := [.int x1]) (r := [.long x2]) (v := some (.int q2.1)) (h' := q2.2) rfl rfl (by decide) rfl (Nat.le_of_ble_eq_true rfl) rfl (E_42 (Nat.le_trans (by decide) hd) e_q2) rfl ?_
    refine Ex.seg 4 (pc' := 19) (lc' := [some (.ref 49), some (.int x1), some (.long x2), none, none]) (st' := [.int (lg_cmp x2 (Int32.toInt64 (q2.1 - 1)))]) (h' := q2.2) (sg1 rfl rfl (sg1 rfl rfl (sg1 rfl rfl (sg1 rfl rfl rfl)))) ?_
    refine Ex.ifc rfl rfl (fun (c0 : 0 ≤ (lg_cmp x2 (Int32.toInt64 (q2.1 - 1)))) => ?_) (fun (c0 : ¬ (0 ≤ (lg_cmp x2 (Int32.toInt64 (q2.1 - 1))))) => ?_)
    · rw [if_pos c0] at hf
      exact Ex.weak (sm_le_s (sm_le_s (sm_le_s (sm_le_s (sm_le_s sm_le_nil))))) (B_84_26 hd  hf hs)
    · rw [if_neg c0] at hf
      refine Ex.seg 2 (pc' := 27) (lc' := [some (.ref 49), some (.int x1), some (.long x2), none, none]) (st' := [.int 1]) (h' := q2.2) (sg1 rfl rfl (sg1 rfl rfl rfl)) ?_
      exact Ex.weak (sm_le_s (sm_le_s (sm_le_s (sm_le_s (sm_le_s sm_le_nil))))) (B_84_27 hd  hf hs)
theorem E_84 {L : Nat} {xs : Nat → Int32} {d : Nat} (hd : 2 ≤ d) {x1 : Int32} {x2 : Int64} {h : sm_H} {r : Int32 × sm_H} (hf : F_84 x1 x2 h = some r) : RUN L xs d 84 [.ref 49, .int x1, .long x2] h (some (.int r.1), r.2) := by
  obtain ⟨d, rfl⟩ : ∃ e, d = e + 1 := ⟨d - 1, by omega⟩
  exact ⟨Nat.le_of_ble_eq_true rfl, B_84_0 (by omega) hf rfl⟩
theorem B_97_52 {L : Nat} {xs : Nat → Int32} {d : Nat} (hd : 1 ≤ d) {res : Option Value × sm_H} {S1 : (Int32 × Int32 × Int32 × sm_H) → Prop} (hS1 : ∀ s, S1 s → Ex (P_G L xs) (RUN L xs d) (sm_lk P_t97) 0 4 [some (.ref 49), some (.int s.1), some (.int s.2.1), some (.int s.2.2.1)] [] s.2.2.2 res) {y1 : Int32} {y3 : Int32} {z0 : Int32} {z1 : Int32}  {h : sm_H} {r : ((Int32 × Int32 × Int32 × sm_H) ⊕ (Int32 × sm_H))} (hf : F_97_52 y1 y3 z0 z1 h = some r) (hs : (Sum.elim S1 (fun (r : Int32 × sm_H) => res = (some (.int r.1), r.2))) r) : Ex (P_G L xs) (RUN L xs d) (sm_lk P_t97) 0 52 [some (.ref 49), some (.int y1), none, some (.int y3)] [.int z1, .int z0] h res := by
  unfold F_97_52 at hf
  refine Ex.seg 2 (pc' := 54) (lc' := [some (.ref 49), some (.int y1), some (.int (z0 + z1)), some (.int y3)]) (st' := []) (h' := h) (sg1 rfl rfl (sg1 rfl rfl rfl)) ?_
  obtain ⟨v1, e_v1, hf⟩ := bnd hf
  rw [Option.some.inj e_v1]
  refine Ex.seg 1 (pc' := 57) (lc' := [some (.ref 49), some (.int y1), some (.int v1), some (.int (y3 + 4))]) (st' := []) (h' := h) (sg1 rfl rfl rfl) ?_
  obtain ⟨v2, e_v2, hf⟩ := bnd hf
  rw [Option.some.inj e_v2]
  refine Ex.seg 1 (pc' := 4) (lc' := [some (.ref 49), some (.int y1), some (.int v1), some (.int v2)]) (st' := []) (h' := h) (sg1 rfl rfl rfl) ?_
  obtain rfl := Option.some.inj hf
  exact Ex.weak (sm_le_s (sm_le_s (sm_le_s (sm_le_s sm_le_nil)))) (hS1 _ hs)
theorem B_97_4B {L : Nat} {xs : Nat → Int32} {d : Nat} (hd : 1 ≤ d) {res : Option Value × sm_H} {S1 : (Int32 × Int32 × Int32 × sm_H) → Prop} (hS1 : ∀ s, S1 s → Ex (P_G L xs) (RUN L xs d) (sm_lk P_t97) 0 4 [some (.ref 49), some (.int s.1), some (.int s.2.1), some (.int s.2.2.1)] [] s.2.2.2 res) {s : (Int32 × Int32 × Int32 × sm_H)}  {r : ((Int32 × Int32 × Int32 × sm_H) ⊕ (Int32 × sm_H))} (hf : F_97_4B s = some r) (hs : (Sum.elim S1 (fun (r : Int32 × sm_H) => res = (some (.int r.1), r.2))) r) : Ex (P_G L xs) (RUN L xs d) (sm_lk P_t97) 0 4 [some (.ref 49), some (.int s.1), some (.int s.2.1), some (.int s.2.2.1)] [] s.2.2.2 res := by
  unfold F_97_4B at hf
  refine Ex.seg 4 (pc' := 10) (lc' := [some (.ref 49), some (.int s.1), some (.int s.2.1), some (.int s.2.2.1)]) (st' := [.int s.1, .ref 10, .int s.2.2.1]) (h' := s.2.2.2) (sg1 rfl rfl (sg1 rfl rfl (sg1 rfl rfl (sg1 rfl rfl rfl)))) ?_
  obtain ⟨q3, e_q3, hf⟩ := bnd hf
  refine Ex.callV (a := 10) (As := [.int s.1]) (r := [.int s.2.2.1]) (v := some (.int q3.1)) (h' := q3.2) rfl rfl (by decide) rfl (Nat.le_of_ble_eq_true rfl) rfl (E_42 (Nat.le_trans (by decide) hd) e_q3) rfl ?_
  refine Ex.icmp rfl rfl (fun (c0 : q3.1 ≤ s.2.2.1) => ?_) (fun (c0 : ¬ (q3.1 ≤ s.2.2.1)) => ?_)
  · rw [if_pos c0] at hf
    refine Ex.seg 1 (pc' := 61) (lc' := [some (.ref 49), some (.int s.1), some (.int s.2.1), some (.int s.2.2.1)]) (st' := [.int s.2.1]) (h' := q3.2) (sg1 rfl rfl rfl) ?_
    obtain rfl := Option.some.inj hf
    exact Ex.iret rfl rfl (fun c0 => by cases c0) hs
  · rw [if_neg c0] at hf
    refine Ex.seg 7 (pc' := 27) (lc' := [some (.ref 49), some (.int s.1), some (.int s.2.1), some (.int s.2.2.1)]) (st' := [.int s.2.2.1, .int s.1, .ref 10, .ref 10, .int s.2.1]) (h' := q3.2) (sg1 rfl rfl (sg1 rfl rfl (sg1 rfl rfl (sg1 rfl rfl (sg1 rfl rfl (sg1 rfl rfl (sg1 rfl rfl rfl))))))) ?_
    obtain ⟨q4, e_q4, hf⟩ := bnd hf
    refine Ex.callV (a := 10) (As := [.int s.1, .int s.2.2.1]) (r := [.ref 10, .int s.2.1]) (v := some (.int q4.1)) (h' := q4.2) rfl rfl (by decide) rfl (Nat.le_of_ble_eq_true rfl) rfl (E_43 (Nat.le_trans (by decide) hd) e_q4) rfl ?_
    refine Ex.seg 6 (pc' := 38) (lc' := [some (.ref 49), some (.int s.1), some (.int s.2.1), some (.int s.2.2.1)]) (st' := [.int (s.2.2.1 + 1), .int s.1, .ref 10, .int q4.1, .ref 10, .int s.2.1]) (h' := q4.2) (sg1 rfl rfl (sg1 rfl rfl (sg1 rfl rfl (sg1 rfl rfl (sg1 rfl rfl (sg1 rfl rfl rfl)))))) ?_
    obtain ⟨q5, e_q5, hf⟩ := bnd hf
    refine Ex.callV (a := 10) (As := [.int s.1, .int (s.2.2.1 + 1)]) (r := [.int q4.1, .ref 10, .int s.2.1]) (v := some (.int q5.1)) (h' := q5.2) rfl rfl (by decide) rfl (Nat.le_of_ble_eq_true rfl) rfl (E_43 (Nat.le_trans (by decide) hd) e_q5) rfl ?_
    obtain ⟨q6, e_q6, hf⟩ := bnd hf
    refine Ex.callV (a := 10) (As := [.int q4.1, .int q5.1]) (r := [.int s.2.1]) (v := some (.int q6.1)) (h' := q6.2) rfl rfl (by decide) rfl (Nat.le_of_ble_eq_true rfl) rfl (E_47 (Nat.le_trans (by decide) hd) e_q6) rfl ?_
    refine Ex.ifc rfl rfl (fun (c0 : q6.1 = 0) => ?_) (fun (c0 : ¬ (q6.1 = 0)) => ?_)
    · rw [if_pos c0] at hf
      refine Ex.seg 1 (pc' := 52) (lc' := [some (.ref 49), some (.int s.1), some (.int s.2.1), some (.int s.2.2.1)]) (st' := [.int 0, .int s.2.1]) (h' := q6.2) (sg1 rfl rfl rfl) ?_
      exact Ex.weak (sm_le_s (sm_le_s (sm_le_n (sm_le_s sm_le_nil)))) (B_97_52 hd hS1 hf hs)
    · rw [if_neg c0] at hf
      refine Ex.seg 2 (pc' := 52) (lc' := [some (.ref 49), some (.int s.1), some (.int s.2.1), some (.int s.2.2.1)]) (st' := [.int 1, .int s.2.1]) (h' := q6.2) (sg1 rfl rfl (sg1 rfl rfl rfl)) ?_
      exact Ex.weak (sm_le_s (sm_le_s (sm_le_n (sm_le_s sm_le_nil)))) (B_97_52 hd hS1 hf hs)
theorem B_97_4 {L : Nat} {xs : Nat → Int32} {d : Nat} (hd : 1 ≤ d) {res : Option Value × sm_H} {y1 : Int32} {y2 : Int32} {y3 : Int32}  {h : sm_H} {r : (Int32 × sm_H)} (hf : F_97_4 y1 y2 y3 h = some r) (hs : (fun (r : Int32 × sm_H) => res = (some (.int r.1), r.2)) r) : Ex (P_G L xs) (RUN L xs d) (sm_lk P_t97) 0 4 [some (.ref 49), some (.int y1), some (.int y2), some (.int y3)] [] h res := by
  unfold F_97_4 at hf
  exact lp_ok (P := fun (s : (Int32 × Int32 × Int32 × sm_H)) => Ex (P_G L xs) (RUN L xs d) (sm_lk P_t97) 0 4 [some (.ref 49), some (.int s.1), some (.int s.2.1), some (.int s.2.2.1)] [] s.2.2.2 res) (S := (fun (r : Int32 × sm_H) => res = (some (.int r.1), r.2))) (fun s x hx hsx => by
    intros
    exact B_97_4B hd  (fun _ q => q) hx hsx) 1000000 _ r hf hs
theorem B_97_0 {L : Nat} {xs : Nat → Int32} {d : Nat} (hd : 1 ≤ d) {res : Option Value × sm_H} {x1 : Int32}  {h : sm_H} {r : (Int32 × sm_H)} (hf : F_97_0 x1 h = some r) (hs : (fun (r : Int32 × sm_H) => res = (some (.int r.1), r.2)) r) : Ex (P_G L xs) (RUN L xs d) (sm_lk P_t97) 0 0 [some (.ref 49), some (.int x1), none, none] [] h res := by
  unfold F_97_0 at hf
  refine Ex.seg 4 (pc' := 4) (lc' := [some (.ref 49), some (.int x1), some (.int 0), some (.int 0)]) (st' := []) (h' := h) (sg1 rfl rfl (sg1 rfl rfl (sg1 rfl rfl (sg1 rfl rfl rfl)))) ?_
  exact Ex.weak (sm_le_s (sm_le_s (sm_le_s (sm_le_s sm_le_nil)))) (B_97_4 hd  hf hs)
theorem E_97 {L : Nat} {xs : Nat → Int32} {d : Nat} (hd : 2 ≤ d) {x1 : Int32} {h : sm_H} {r : Int32 × sm_H} (hf : F_97 x1 h = some r) : RUN L xs d 97 [.ref 49, .int x1] h (some (.int r.1), r.2) := by
  obtain ⟨d, rfl⟩ : ∃ e, d = e + 1 := ⟨d - 1, by omega⟩
  exact ⟨Nat.le_of_ble_eq_true rfl, B_97_0 (by omega) hf rfl⟩
theorem B_98_0 {L : Nat} {xs : Nat → Int32} {d : Nat} (hd : 2 ≤ d) {res : Option Value × sm_H} {x1 : Int32} {x2 : Int32} {x3 : Int32}  {h : sm_H} {r : (sm_H)} (hf : F_98_0 x1 x2 x3 h = some r) (hs : (fun (r : sm_H) => res = (none, r)) r) : Ex (P_G L xs) (RUN L xs d) (sm_lk P_t98) 0 0 [some (.ref 49), some (.int x1), some (.int x2), some (.int x3), none] [] h res := by
  unfold F_98_0 at hf
  refine Ex.seg 3 (pc' := 5) (lc' := [some (.ref 49), some (.int x1), some (.int x2), some (.int x3), none]) (st' := [.int x1, .ref 10]) (h' := h) (sg1 rfl rfl (sg1 rfl rfl (sg1 rfl rfl rfl))) ?_
  obtain ⟨q1, e_q1, hf⟩ := bnd hf
  refine Ex.callV (a := 10) (As := [.int x1]) (r := []) (v := some (.int q1.1)) (h' := q1.2) rfl rfl (by decide) rfl (Nat.le_of_ble_eq_true rfl) rfl (E_45 (Nat.le_trans (by decide) hd) e_q1) rfl ?_
  refine Ex.seg 7 (pc' := 18) (lc' := [some (.ref 49), some (.int x1), some (.int x2), some (.int x3), some (.int q1.1)]) (st' := [.int q1.1, .int x2, .int 0, .int 10, .int x3, .ref 49]) (h' := q1.2) (sg1 rfl rfl (sg1 rfl rfl (sg1 rfl rfl (sg1 rfl rfl (sg1 rfl rfl (sg1 rfl rfl (sg1 rfl rfl rfl))))))) ?_
  refine Ex.mn rfl rfl rfl (Nat.le_of_ble_eq_true rfl) ?_
  obtain ⟨q2, e_q2, hf⟩ := bnd hf
  refine Ex.callV (a := 49) (As := [.int x3, .int 10, .int 0, .int (if q1.1 < x2 then q1.1 else x2)]) (r := []) (v := none) (h' := q2) rfl rfl (by decide) rfl (Nat.le_of_ble_eq_true rfl) rfl (E_80 (Nat.le_trans (by decide) hd) e_q2) rfl ?_
  refine Ex.seg 7 (pc' := 32) (lc' := [some (.ref 49), some (.int x1), some (.int x2), some (.int x3), some (.int q1.1)]) (st' := [.int (q1.1 - x2), .int x2, .int 0, .int x3, .ref 49]) (h' := q2) (sg1 rfl rfl (sg1 rfl rfl (sg1 rfl rfl (sg1 rfl rfl (sg1 rfl rfl (sg1 rfl rfl (sg1 rfl rfl rfl))))))) ?_
  obtain ⟨q3, e_q3, hf⟩ := bnd hf
  refine Ex.callV (a := 49) (As := [.int x3, .int 0, .int x2, .int (q1.1 - x2)]) (r := []) (v := none) (h' := q3) rfl rfl (by decide) rfl (Nat.le_of_ble_eq_true rfl) rfl (E_80 (Nat.le_trans (by decide) hd) e_q3) rfl ?_
  obtain rfl := Option.some.inj hf
  exact Ex.vret rfl rfl hs
theorem E_98 {L : Nat} {xs : Nat → Int32} {d : Nat} (hd : 3 ≤ d) {x1 : Int32} {x2 : Int32} {x3 : Int32} {h : sm_H} {r : sm_H} (hf : F_98 x1 x2 x3 h = some r) : RUN L xs d 98 [.ref 49, .int x1, .int x2, .int x3] h (none, r) := by
  obtain ⟨d, rfl⟩ : ∃ e, d = e + 1 := ⟨d - 1, by omega⟩
  exact ⟨Nat.le_of_ble_eq_true rfl, B_98_0 (by omega) hf rfl⟩
theorem B_103_36 {L : Nat} {xs : Nat → Int32} {d : Nat} (hd : 1 ≤ d) {res : Option Value × sm_H} {z0 : Int32}  {h : sm_H} {r : (Int32 × sm_H)} (hf : F_103_36 z0 h = some r) (hs : (fun (r : Int32 × sm_H) => res = (some (.int r.1), r.2)) r) : Ex (P_G L xs) (RUN L xs d) (sm_lk P_t103) 3 36 [none, none] [.int z0] h res := by
  unfold F_103_36 at hf
  rcases Classical.em (z0 = 0 ∨ z0 = 1) with c0 | c0
  · rw [if_pos c0] at hf
    obtain rfl := Option.some.inj hf
    exact Ex.iret rfl rfl (fun _ => c0) hs
  · rw [if_neg c0] at hf
    cases hf
theorem B_103_35 {L : Nat} {xs : Nat → Int32} {d : Nat} (hd : 1 ≤ d) {res : Option Value × sm_H}   {h : sm_H} {r : (Int32 × sm_H)} (hf : F_103_35  h = some r) (hs : (fun (r : Int32 × sm_H) => res = (some (.int r.1), r.2)) r) : Ex (P_G L xs) (RUN L xs d) (sm_lk P_t103) 3 35 [none, none] [] h res := by
  unfold F_103_35 at hf
  refine Ex.seg 1 (pc' := 36) (lc' := [none, none]) (st' := [.int 0]) (h' := h) (sg1 rfl rfl rfl) ?_
  exact Ex.weak (sm_le_s (sm_le_s sm_le_nil)) (B_103_36 hd  hf hs)
theorem B_103_0 {L : Nat} {xs : Nat → Int32} {d : Nat} (hd : 1 ≤ d) {res : Option Value × sm_H} {x1 : Int32}  {h : sm_H} {r : (Int32 × sm_H)} (hf : F_103_0 x1 h = some r) (hs : (fun (r : Int32 × sm_H) => res = (some (.int r.1), r.2)) r) : Ex (P_G L xs) (RUN L xs d) (sm_lk P_t103) 3 0 [some (.ref 49), some (.int x1)] [] h res := by
  unfold F_103_0 at hf
  refine Ex.seg 3 (pc' := 3) (lc' := [some (.ref 49), some (.int x1)]) (st' := [.int 0, .int x1, .ref 49]) (h' := h) (sg1 rfl rfl (sg1 rfl rfl (sg1 rfl rfl rfl))) ?_
  obtain ⟨q1, e_q1, hf⟩ := bnd hf
  refine Ex.callV (a := 49) (As := [.int x1, .int 0]) (r := []) (v := some (.long q1.1)) (h' := q1.2) rfl rfl (by decide) rfl (Nat.le_of_ble_eq_true rfl) rfl (E_77 (Nat.le_trans (by decide) hd) e_q1) rfl ?_
  refine Ex.seg 3 (pc' := 9) (lc' := [some (.ref 49), some (.int x1)]) (st' := [.int 1, .int x1, .ref 49, .long q1.1]) (h' := q1.2) (sg1 rfl rfl (sg1 rfl rfl (sg1 rfl rfl rfl))) ?_
  obtain ⟨q2, e_q2, hf⟩ := bnd hf
  refine Ex.callV (a := 49) (As := [.int x1, .int 1]) (r := [.long q1.1]) (v := some (.long q2.1)) (h' := q2.2) rfl rfl (by decide) rfl (Nat.le_of_ble_eq_true rfl) rfl (E_77 (Nat.le_trans (by decide) hd) e_q2) rfl ?_
  refine Ex.seg 1 (pc' := 13) (lc' := [some (.ref 49), some (.int x1)]) (st' := [.int (lg_cmp q1.1 q2.1)]) (h' := q2.2) (sg1 rfl rfl rfl) ?_
  refine Ex.ifc rfl rfl (fun (c0 : ¬ ((lg_cmp q1.1 q2.1) = 0)) => ?_) (fun (c0 : ¬ ¬ ((lg_cmp q1.1 q2.1) = 0)) => ?_)
  · rw [if_neg c0] at hf
    exact Ex.weak (sm_le_n (sm_le_n sm_le_nil)) (B_103_35 hd  hf hs)
  · rw [if_pos (Classical.not_not.mp c0)] at hf
    refine Ex.seg 3 (pc' := 19) (lc' := [some (.ref 49), some (.int x1)]) (st' := [.int 0, .int x1, .ref 49]) (h' := q2.2) (sg1 rfl rfl (sg1 rfl rfl (sg1 rfl rfl rfl))) ?_
    obtain ⟨q3, e_q3, hf⟩ := bnd hf
    refine Ex.callV (a := 49) (As := [.int x1, .int 0]) (r := []) (v := some (.int q3.1)) (h' := q3.2) rfl rfl (by decide) rfl (Nat.le_of_ble_eq_true rfl) rfl (E_78 (Nat.le_trans (by decide) hd) e_q3) rfl ?_
    refine Ex.seg 3 (pc' := 25) (lc' := [some (.ref 49), some (.int x1)]) (st' := [.int 1, .int x1, .ref 49, .int q3.1]) (h' := q3.2) (sg1 rfl rfl (sg1 rfl rfl (sg1 rfl rfl rfl))) ?_
    obtain ⟨q4, e_q4, hf⟩ := bnd hf
    refine Ex.callV (a := 49) (As := [.int x1, .int 1]) (r := [.int q3.1]) (v := some (.int q4.1)) (h' := q4.2) rfl rfl (by decide) rfl (Nat.le_of_ble_eq_true rfl) rfl (E_78 (Nat.le_trans (by decide) hd) e_q4) rfl ?_
    refine Ex.icmp rfl rfl (fun (c0 : ¬ (q3.1 = q4.1)) => ?_) (fun (c0 : ¬ ¬ (q3.1 = q4.1)) => ?_)
    · rw [if_neg c0] at hf
      exact Ex.weak (sm_le_n (sm_le_n sm_le_nil)) (B_103_35 hd  hf hs)
    · rw [if_pos (Classical.not_not.mp c0)] at hf
      refine Ex.seg 2 (pc' := 36) (lc' := [some (.ref 49), some (.int x1)]) (st' := [.int 1]) (h' := q4.2) (sg1 rfl rfl (sg1 rfl rfl rfl)) ?_
      exact Ex.weak (sm_le_n (sm_le_n sm_le_nil)) (B_103_36 hd  hf hs)
theorem E_103 {L : Nat} {xs : Nat → Int32} {d : Nat} (hd : 2 ≤ d) {x1 : Int32} {h : sm_H} {r : Int32 × sm_H} (hf : F_103 x1 h = some r) : RUN L xs d 103 [.ref 49, .int x1] h (some (.int r.1), r.2) := by
  obtain ⟨d, rfl⟩ : ∃ e, d = e + 1 := ⟨d - 1, by omega⟩
  exact ⟨Nat.le_of_ble_eq_true rfl, B_103_0 (by omega) hf rfl⟩
theorem B_105_90 {L : Nat} {xs : Nat → Int32} {d : Nat} (hd : 0 ≤ d) {res : Option Value × sm_H} {z0 : Int64}  {h : sm_H} {r : (Int64 × sm_H)} (hf : F_105_90 z0 h = some r) (hs : (fun (r : Int64 × sm_H) => res = (some (.long r.1), r.2)) r) : Ex (P_G L xs) (RUN L xs d) (sm_lk P_t105) 0 90 [none, none, none, none, none, none] [.long z0] h res := by
  unfold F_105_90 at hf
  obtain rfl := Option.some.inj hf
  exact Ex.lret rfl rfl hs
theorem B_105_74 {L : Nat} {xs : Nat → Int32} {d : Nat} (hd : 0 ≤ d) {res : Option Value × sm_H} {z0 : Int64}  {h : sm_H} {r : (Int64 × sm_H)} (hf : F_105_74 z0 h = some r) (hs : (fun (r : Int64 × sm_H) => res = (some (.long r.1), r.2)) r) : Ex (P_G L xs) (RUN L xs d) (sm_lk P_t105) 0 74 [none, none, none, none, none, none] [.long z0] h res := by
  unfold F_105_74 at hf
  obtain rfl := Option.some.inj hf
  exact Ex.lret rfl rfl hs
theorem B_105_0 {L : Nat} {xs : Nat → Int32} {d : Nat} (hd : 0 ≤ d) {res : Option Value × sm_H} {x1 : Int32} {x2 : Int64} {x4 : Int64}  {h : sm_H} {r : (Int64 × sm_H)} (hf : F_105_0 x1 x2 x4 h = some r) (hs : (fun (r : Int64 × sm_H) => res = (some (.long r.1), r.2)) r) : Ex (P_G L xs) (RUN L xs d) (sm_lk P_t105) 0 0 [some (.ref 49), some (.int x1), some (.long x2), none, some (.long x4), none] [] h res := by
  unfold F_105_0 at hf
  refine Ex.seg 1 (pc' := 1) (lc' := [some (.ref 49), some (.int x1), some (.long x2), none, some (.long x4), none]) (st' := [.int x1]) (h' := h) (sg1 rfl rfl rfl) ?_
  rcases Classical.em (x1 = 0) with n1 | n1
  · rw [if_pos n1] at hf
    refine Ex.swt (t := 44) rfl rfl (by rw [n1]; exact Or.inr ⟨by decide, by decide, _, rfl, by decide⟩) ?_
    refine Ex.seg 3 (pc' := 48) (lc' := [some (.ref 49), some (.int x1), some (.long x2), none, some (.long x4), none]) (st' := [.long (x2 + x4)]) (h' := h) (sg1 rfl rfl (sg1 rfl rfl (sg1 rfl rfl rfl))) ?_
    obtain rfl := Option.some.inj hf
    exact Ex.lret rfl rfl hs
  rw [if_neg n1] at hf
  rcases Classical.em (x1 = 1) with n2 | n2
  · rw [if_pos n2] at hf
    refine Ex.swt (t := 49) rfl rfl (by rw [n2]; exact Or.inr ⟨by decide, by decide, _, rfl, by decide⟩) ?_
    refine Ex.seg 3 (pc' := 53) (lc' := [some (.ref 49), some (.int x1), some (.long x2), none, some (.long x4), none]) (st' := [.long (x2 - x4)]) (h' := h) (sg1 rfl rfl (sg1 rfl rfl (sg1 rfl rfl rfl))) ?_
    obtain rfl := Option.some.inj hf
    exact Ex.lret rfl rfl hs
  rw [if_neg n2] at hf
  rcases Classical.em (x1 = 2) with n3 | n3
  · rw [if_pos n3] at hf
    refine Ex.swt (t := 54) rfl rfl (by rw [n3]; exact Or.inr ⟨by decide, by decide, _, rfl, by decide⟩) ?_
    refine Ex.seg 3 (pc' := 58) (lc' := [some (.ref 49), some (.int x1), some (.long x2), none, some (.long x4), none]) (st' := [.long (x2 * x4)]) (h' := h) (sg1 rfl rfl (sg1 rfl rfl (sg1 rfl rfl rfl))) ?_
    obtain rfl := Option.some.inj hf
    exact Ex.lret rfl rfl hs
  rw [if_neg n3] at hf
  rcases Classical.em (x1 = 3) with n4 | n4
  · rw [if_pos n4] at hf
    refine Ex.swt (t := 59) rfl rfl (by rw [n4]; exact Or.inr ⟨by decide, by decide, _, rfl, by decide⟩) ?_
    refine Ex.seg 3 (pc' := 63) (lc' := [some (.ref 49), some (.int x1), some (.long x2), none, some (.long x4), none]) (st' := [.int (lg_cmp x4 0)]) (h' := h) (sg1 rfl rfl (sg1 rfl rfl (sg1 rfl rfl rfl))) ?_
    refine Ex.ifc rfl rfl (fun (c0 : ¬ ((lg_cmp x4 0) = 0)) => ?_) (fun (c0 : ¬ ¬ ((lg_cmp x4 0) = 0)) => ?_)
    · rw [if_neg c0] at hf
      refine Ex.seg 2 (pc' := 73) (lc' := [some (.ref 49), some (.int x1), some (.long x2), none, some (.long x4), none]) (st' := [.long x4, .long x2]) (h' := h) (sg1 rfl rfl (sg1 rfl rfl rfl)) ?_
      rcases Classical.em (x4 = 0) with c0 | c0
      · rw [if_pos c0] at hf
        cases hf
      rw [if_neg c0] at hf
      refine Ex.ldiv c0 rfl rfl ?_
      exact Ex.weak (sm_le_n (sm_le_n (sm_le_n (sm_le_s (sm_le_n (sm_le_s sm_le_nil)))))) (B_105_74 hd  hf hs)
    · rw [if_pos (Classical.not_not.mp c0)] at hf
      refine Ex.seg 2 (pc' := 74) (lc' := [some (.ref 49), some (.int x1), some (.long x2), none, some (.long x4), none]) (st' := [.long 0]) (h' := h) (sg1 rfl rfl (sg1 rfl rfl rfl)) ?_
      exact Ex.weak (sm_le_n (sm_le_n (sm_le_n (sm_le_s (sm_le_n (sm_le_s sm_le_nil)))))) (B_105_74 hd  hf hs)
  rw [if_neg n4] at hf
  rcases Classical.em (x1 = 4) with n5 | n5
  · rw [if_pos n5] at hf
    refine Ex.swt (t := 75) rfl rfl (by rw [n5]; exact Or.inr ⟨by decide, by decide, _, rfl, by decide⟩) ?_
    refine Ex.seg 3 (pc' := 79) (lc' := [some (.ref 49), some (.int x1), some (.long x2), none, some (.long x4), none]) (st' := [.int (lg_cmp x4 0)]) (h' := h) (sg1 rfl rfl (sg1 rfl rfl (sg1 rfl rfl rfl))) ?_
    refine Ex.ifc rfl rfl (fun (c0 : ¬ ((lg_cmp x4 0) = 0)) => ?_) (fun (c0 : ¬ ¬ ((lg_cmp x4 0) = 0)) => ?_)
    · rw [if_neg c0] at hf
      refine Ex.seg 2 (pc' := 89) (lc' := [some (.ref 49), some (.int x1), some (.long x2), none, some (.long x4), none]) (st' := [.long x4, .long x2]) (h' := h) (sg1 rfl rfl (sg1 rfl rfl rfl)) ?_
      rcases Classical.em (x4 = 0) with c0 | c0
      · rw [if_pos c0] at hf
        cases hf
      rw [if_neg c0] at hf
      refine Ex.lrem c0 rfl rfl ?_
      exact Ex.weak (sm_le_n (sm_le_n (sm_le_n (sm_le_s (sm_le_n (sm_le_s sm_le_nil)))))) (B_105_90 hd  hf hs)
    · rw [if_pos (Classical.not_not.mp c0)] at hf
      refine Ex.seg 2 (pc' := 90) (lc' := [some (.ref 49), some (.int x1), some (.long x2), none, some (.long x4), none]) (st' := [.long 0]) (h' := h) (sg1 rfl rfl (sg1 rfl rfl rfl)) ?_
      exact Ex.weak (sm_le_n (sm_le_n (sm_le_n (sm_le_s (sm_le_n (sm_le_s sm_le_nil)))))) (B_105_90 hd  hf hs)
  rw [if_neg n5] at hf
  rcases Classical.em (x1 = 5) with n6 | n6
  · rw [if_pos n6] at hf
    refine Ex.swt (t := 91) rfl rfl (by rw [n6]; exact Or.inr ⟨by decide, by decide, _, rfl, by decide⟩) ?_
    refine Ex.seg 3 (pc' := 95) (lc' := [some (.ref 49), some (.int x1), some (.long x2), none, some (.long x4), none]) (st' := [.long (x2 &&& x4)]) (h' := h) (sg1 rfl rfl (sg1 rfl rfl (sg1 rfl rfl rfl))) ?_
    obtain rfl := Option.some.inj hf
    exact Ex.lret rfl rfl hs
  rw [if_neg n6] at hf
  rcases Classical.em (x1 = 6) with n7 | n7
  · rw [if_pos n7] at hf
    refine Ex.swt (t := 96) rfl rfl (by rw [n7]; exact Or.inr ⟨by decide, by decide, _, rfl, by decide⟩) ?_
    refine Ex.seg 3 (pc' := 100) (lc' := [some (.ref 49), some (.int x1), some (.long x2), none, some (.long x4), none]) (st' := [.long (x2 ||| x4)]) (h' := h) (sg1 rfl rfl (sg1 rfl rfl (sg1 rfl rfl rfl))) ?_
    obtain rfl := Option.some.inj hf
    exact Ex.lret rfl rfl hs
  rw [if_neg n7] at hf
  refine Ex.swt (t := 101) rfl rfl (sw_dflt (by decide) (by decide) (fun k hk he => ?_)) ?_
  · have hk : k < 7 := hk
    rcases (show k = 0 ∨ k = 1 ∨ k = 2 ∨ k = 3 ∨ k = 4 ∨ k = 5 ∨ k = 6 by omega) with rfl | rfl | rfl | rfl | rfl | rfl | rfl
    · exact absurd (Int32.toInt_inj.mp (he.symm.trans (by decide : (_ : Int) = Int32.toInt 0))) n1
    · exact absurd (Int32.toInt_inj.mp (he.symm.trans (by decide : (_ : Int) = Int32.toInt 1))) n2
    · exact absurd (Int32.toInt_inj.mp (he.symm.trans (by decide : (_ : Int) = Int32.toInt 2))) n3
    · exact absurd (Int32.toInt_inj.mp (he.symm.trans (by decide : (_ : Int) = Int32.toInt 3))) n4
    · exact absurd (Int32.toInt_inj.mp (he.symm.trans (by decide : (_ : Int) = Int32.toInt 4))) n5
    · exact absurd (Int32.toInt_inj.mp (he.symm.trans (by decide : (_ : Int) = Int32.toInt 5))) n6
    · exact absurd (Int32.toInt_inj.mp (he.symm.trans (by decide : (_ : Int) = Int32.toInt 6))) n7
  refine Ex.seg 3 (pc' := 105) (lc' := [some (.ref 49), some (.int x1), some (.long x2), none, some (.long x4), none]) (st' := [.long (x2 ^^^ x4)]) (h' := h) (sg1 rfl rfl (sg1 rfl rfl (sg1 rfl rfl rfl))) ?_
  obtain rfl := Option.some.inj hf
  exact Ex.lret rfl rfl hs
theorem E_105 {L : Nat} {xs : Nat → Int32} {d : Nat} (hd : 1 ≤ d) {x1 : Int32} {x2 : Int64} {x4 : Int64} {h : sm_H} {r : Int64 × sm_H} (hf : F_105 x1 x2 x4 h = some r) : RUN L xs d 105 [.ref 49, .int x1, .long x2, .long x4] h (some (.long r.1), r.2) := by
  obtain ⟨d, rfl⟩ : ∃ e, d = e + 1 := ⟨d - 1, by omega⟩
  exact ⟨Nat.le_of_ble_eq_true rfl, B_105_0 (by omega) hf rfl⟩
