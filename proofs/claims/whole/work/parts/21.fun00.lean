theorem sg1 {G : sm_G} {T : Nat → Option sm_I} {k pc : Nat} {lc : sm_L} {st : List Value} {h : sm_H} {i : sm_I} {c1 : Nat × sm_L × List Value × sm_H} {o : Option (Nat × sm_L × List Value × sm_H)} (ht : T pc = some i) (h1 : sm_one G i pc lc st h = some c1) (e : sm_seg G T k c1 = o) : sm_seg G T (k + 1) (pc, lc, st, h) = o := by
  unfold sm_seg
  dsimp only
  rw [ht]
  dsimp only
  rw [h1]
  exact e
abbrev RUN (L : Nat) (xs : Nat → Int32) (d : Nat) : Nat → List Value → sm_H → Option Value × sm_H → Prop := sm_run (P_G L xs) (fun j pc => sm_lk (P_TT j) pc) P_Y.2.2.1 P_Y.2.2.2.2 d
theorem B_289_20 {L : Nat} {xs : Nat → Int32} {d : Nat} (hd : 0 ≤ d) {res : Option Value × sm_H} {z0 : Int32}  {h : sm_H} {r : (Int32 × sm_H)} (hf : F_289_20 z0 h = some r) (hs : (fun (r : Int32 × sm_H) => res = (some (.int r.1), r.2)) r) : Ex (P_G L xs) (RUN L xs d) (sm_lk P_t289) 3 20 [none, none] [.int z0] h res := by
  unfold F_289_20 at hf
  rcases Classical.em (z0 = 0 ∨ z0 = 1) with c0 | c0
  · rw [if_pos c0] at hf
    obtain rfl := Option.some.inj hf
    exact Ex.iret rfl rfl (fun _ => c0) hs
  · rw [if_neg c0] at hf
    cases hf
theorem B_289_19 {L : Nat} {xs : Nat → Int32} {d : Nat} (hd : 0 ≤ d) {res : Option Value × sm_H}   {h : sm_H} {r : (Int32 × sm_H)} (hf : F_289_19  h = some r) (hs : (fun (r : Int32 × sm_H) => res = (some (.int r.1), r.2)) r) : Ex (P_G L xs) (RUN L xs d) (sm_lk P_t289) 3 19 [none, none] [] h res := by
  unfold F_289_19 at hf
  refine Ex.seg 1 (pc' := 20) (lc' := [none, none]) (st' := [.int 0]) (h' := h) (sg1 rfl rfl rfl) ?_
  exact Ex.weak (sm_le_s (sm_le_s sm_le_nil)) (B_289_20 hd  hf hs)
theorem B_289_0 {L : Nat} {xs : Nat → Int32} {d : Nat} (hd : 0 ≤ d) {res : Option Value × sm_H} {x1 : Int32}  {h : sm_H} {r : (Int32 × sm_H)} (hf : F_289_0 x1 h = some r) (hs : (fun (r : Int32 × sm_H) => res = (some (.int r.1), r.2)) r) : Ex (P_G L xs) (RUN L xs d) (sm_lk P_t289) 3 0 [some (.ref 67), some (.int x1)] [] h res := by
  unfold F_289_0 at hf
  refine Ex.seg 1 (pc' := 1) (lc' := [some (.ref 67), some (.int x1)]) (st' := [.int x1]) (h' := h) (sg1 rfl rfl rfl) ?_
  refine Ex.ifc rfl rfl (fun (c0 : x1 < 0) => ?_) (fun (c0 : ¬ (x1 < 0)) => ?_)
  · rw [if_pos c0] at hf
    exact Ex.weak (sm_le_n (sm_le_n sm_le_nil)) (B_289_19 hd  hf hs)
  · rw [if_neg c0] at hf
    refine Ex.seg 5 (pc' := 12) (lc' := [some (.ref 67), some (.int x1)]) (st' := [.int (20 + (h.1 67 6)), .int x1]) (h' := h) (sg1 rfl rfl (sg1 rfl rfl (sg1 rfl rfl (sg1 rfl rfl (sg1 rfl rfl rfl))))) ?_
    refine Ex.icmp rfl rfl (fun (c0 : (20 + (h.1 67 6)) ≤ x1) => ?_) (fun (c0 : ¬ ((20 + (h.1 67 6)) ≤ x1)) => ?_)
    · rw [if_pos c0] at hf
      exact Ex.weak (sm_le_n (sm_le_n sm_le_nil)) (B_289_19 hd  hf hs)
    · rw [if_neg c0] at hf
      refine Ex.seg 2 (pc' := 20) (lc' := [some (.ref 67), some (.int x1)]) (st' := [.int 1]) (h' := h) (sg1 rfl rfl (sg1 rfl rfl rfl)) ?_
      exact Ex.weak (sm_le_n (sm_le_n sm_le_nil)) (B_289_20 hd  hf hs)
theorem E_289 {L : Nat} {xs : Nat → Int32} {d : Nat} (hd : 1 ≤ d) {x1 : Int32} {h : sm_H} {r : Int32 × sm_H} (hf : F_289 x1 h = some r) : RUN L xs d 289 [.ref 67, .int x1] h (some (.int r.1), r.2) := by
  obtain ⟨d, rfl⟩ : ∃ e, d = e + 1 := ⟨d - 1, by omega⟩
  exact ⟨Nat.le_of_ble_eq_true rfl, B_289_0 (by omega) hf rfl⟩
theorem B_290_16 {L : Nat} {xs : Nat → Int32} {d : Nat} (hd : 0 ≤ d) {res : Option Value × sm_H} {z0 : Int32}  {h : sm_H} {r : (Int32 × sm_H)} (hf : F_290_16 z0 h = some r) (hs : (fun (r : Int32 × sm_H) => res = (some (.int r.1), r.2)) r) : Ex (P_G L xs) (RUN L xs d) (sm_lk P_t290) 3 16 [none] [.int z0] h res := by
  unfold F_290_16 at hf
  rcases Classical.em (z0 = 0 ∨ z0 = 1) with c0 | c0
  · rw [if_pos c0] at hf
    obtain rfl := Option.some.inj hf
    exact Ex.iret rfl rfl (fun _ => c0) hs
  · rw [if_neg c0] at hf
    cases hf
theorem B_290_15 {L : Nat} {xs : Nat → Int32} {d : Nat} (hd : 0 ≤ d) {res : Option Value × sm_H}   {h : sm_H} {r : (Int32 × sm_H)} (hf : F_290_15  h = some r) (hs : (fun (r : Int32 × sm_H) => res = (some (.int r.1), r.2)) r) : Ex (P_G L xs) (RUN L xs d) (sm_lk P_t290) 3 15 [none] [] h res := by
  unfold F_290_15 at hf
  refine Ex.seg 1 (pc' := 16) (lc' := [none]) (st' := [.int 0]) (h' := h) (sg1 rfl rfl rfl) ?_
  exact Ex.weak (sm_le_s sm_le_nil) (B_290_16 hd  hf hs)
theorem B_290_0 {L : Nat} {xs : Nat → Int32} {d : Nat} (hd : 0 ≤ d) {res : Option Value × sm_H} {x0 : Int32}  {h : sm_H} {r : (Int32 × sm_H)} (hf : F_290_0 x0 h = some r) (hs : (fun (r : Int32 × sm_H) => res = (some (.int r.1), r.2)) r) : Ex (P_G L xs) (RUN L xs d) (sm_lk P_t290) 3 0 [some (.int x0)] [] h res := by
  unfold F_290_0 at hf
  refine Ex.seg 2 (pc' := 2) (lc' := [some (.int x0)]) (st' := [.int 1, .int x0]) (h' := h) (sg1 rfl rfl (sg1 rfl rfl rfl)) ?_
  refine Ex.icmp rfl rfl (fun (c0 : x0 < 1) => ?_) (fun (c0 : ¬ (x0 < 1)) => ?_)
  · rw [if_pos c0] at hf
    exact Ex.weak (sm_le_n sm_le_nil) (B_290_15 hd  hf hs)
  · rw [if_neg c0] at hf
    refine Ex.seg 2 (pc' := 8) (lc' := [some (.int x0)]) (st' := [.int 6, .int x0]) (h' := h) (sg1 rfl rfl (sg1 rfl rfl rfl)) ?_
    refine Ex.icmp rfl rfl (fun (c0 : 6 < x0) => ?_) (fun (c0 : ¬ (6 < x0)) => ?_)
    · rw [if_pos c0] at hf
      exact Ex.weak (sm_le_n sm_le_nil) (B_290_15 hd  hf hs)
    · rw [if_neg c0] at hf
      refine Ex.seg 2 (pc' := 16) (lc' := [some (.int x0)]) (st' := [.int 1]) (h' := h) (sg1 rfl rfl (sg1 rfl rfl rfl)) ?_
      exact Ex.weak (sm_le_n sm_le_nil) (B_290_16 hd  hf hs)
theorem E_290 {L : Nat} {xs : Nat → Int32} {d : Nat} (hd : 1 ≤ d) {x0 : Int32} {h : sm_H} {r : Int32 × sm_H} (hf : F_290 x0 h = some r) : RUN L xs d 290 [.int x0] h (some (.int r.1), r.2) := by
  obtain ⟨d, rfl⟩ : ∃ e, d = e + 1 := ⟨d - 1, by omega⟩
  exact ⟨Nat.le_of_ble_eq_true rfl, B_290_0 (by omega) hf rfl⟩
theorem B_291_11 {L : Nat} {xs : Nat → Int32} {d : Nat} (hd : 0 ≤ d) {res : Option Value × sm_H} {z0 : Int32}  {h : sm_H} {r : (Int32 × sm_H)} (hf : F_291_11 z0 h = some r) (hs : (fun (r : Int32 × sm_H) => res = (some (.int r.1), r.2)) r) : Ex (P_G L xs) (RUN L xs d) (sm_lk P_t291) 3 11 [none] [.int z0] h res := by
  unfold F_291_11 at hf
  rcases Classical.em (z0 = 0 ∨ z0 = 1) with c0 | c0
  · rw [if_pos c0] at hf
    obtain rfl := Option.some.inj hf
    exact Ex.iret rfl rfl (fun _ => c0) hs
  · rw [if_neg c0] at hf
    cases hf
theorem B_291_0 {L : Nat} {xs : Nat → Int32} {d : Nat} (hd : 0 ≤ d) {res : Option Value × sm_H} {x0 : Int32}  {h : sm_H} {r : (Int32 × sm_H)} (hf : F_291_0 x0 h = some r) (hs : (fun (r : Int32 × sm_H) => res = (some (.int r.1), r.2)) r) : Ex (P_G L xs) (RUN L xs d) (sm_lk P_t291) 3 0 [some (.int x0)] [] h res := by
  unfold F_291_0 at hf
  refine Ex.seg 2 (pc' := 3) (lc' := [some (.int x0)]) (st' := [.int 7, .int x0]) (h' := h) (sg1 rfl rfl (sg1 rfl rfl rfl)) ?_
  refine Ex.icmp rfl rfl (fun (c0 : x0 < 7) => ?_) (fun (c0 : ¬ (x0 < 7)) => ?_)
  · rw [if_pos c0] at hf
    refine Ex.seg 1 (pc' := 11) (lc' := [some (.int x0)]) (st' := [.int 0]) (h' := h) (sg1 rfl rfl rfl) ?_
    exact Ex.weak (sm_le_n sm_le_nil) (B_291_11 hd  hf hs)
  · rw [if_neg c0] at hf
    refine Ex.seg 2 (pc' := 11) (lc' := [some (.int x0)]) (st' := [.int 1]) (h' := h) (sg1 rfl rfl (sg1 rfl rfl rfl)) ?_
    exact Ex.weak (sm_le_n sm_le_nil) (B_291_11 hd  hf hs)
theorem E_291 {L : Nat} {xs : Nat → Int32} {d : Nat} (hd : 1 ≤ d) {x0 : Int32} {h : sm_H} {r : Int32 × sm_H} (hf : F_291 x0 h = some r) : RUN L xs d 291 [.int x0] h (some (.int r.1), r.2) := by
  obtain ⟨d, rfl⟩ : ∃ e, d = e + 1 := ⟨d - 1, by omega⟩
  exact ⟨Nat.le_of_ble_eq_true rfl, B_291_0 (by omega) hf rfl⟩
theorem B_292_17 {L : Nat} {xs : Nat → Int32} {d : Nat} (hd : 0 ≤ d) {res : Option Value × sm_H} {z0 : Int32}  {h : sm_H} {r : (Int32 × sm_H)} (hf : F_292_17 z0 h = some r) (hs : (fun (r : Int32 × sm_H) => res = (some (.int r.1), r.2)) r) : Ex (P_G L xs) (RUN L xs d) (sm_lk P_t292) 3 17 [none] [.int z0] h res := by
  unfold F_292_17 at hf
  rcases Classical.em (z0 = 0 ∨ z0 = 1) with c0 | c0
  · rw [if_pos c0] at hf
    obtain rfl := Option.some.inj hf
    exact Ex.iret rfl rfl (fun _ => c0) hs
  · rw [if_neg c0] at hf
    cases hf
theorem B_292_16 {L : Nat} {xs : Nat → Int32} {d : Nat} (hd : 0 ≤ d) {res : Option Value × sm_H}   {h : sm_H} {r : (Int32 × sm_H)} (hf : F_292_16  h = some r) (hs : (fun (r : Int32 × sm_H) => res = (some (.int r.1), r.2)) r) : Ex (P_G L xs) (RUN L xs d) (sm_lk P_t292) 3 16 [none] [] h res := by
  unfold F_292_16 at hf
  refine Ex.seg 1 (pc' := 17) (lc' := [none]) (st' := [.int 0]) (h' := h) (sg1 rfl rfl rfl) ?_
  exact Ex.weak (sm_le_s sm_le_nil) (B_292_17 hd  hf hs)
theorem B_292_0 {L : Nat} {xs : Nat → Int32} {d : Nat} (hd : 0 ≤ d) {res : Option Value × sm_H} {x0 : Int32}  {h : sm_H} {r : (Int32 × sm_H)} (hf : F_292_0 x0 h = some r) (hs : (fun (r : Int32 × sm_H) => res = (some (.int r.1), r.2)) r) : Ex (P_G L xs) (RUN L xs d) (sm_lk P_t292) 3 0 [some (.int x0)] [] h res := by
  unfold F_292_0 at hf
  refine Ex.seg 2 (pc' := 3) (lc' := [some (.int x0)]) (st' := [.int 8, .int x0]) (h' := h) (sg1 rfl rfl (sg1 rfl rfl rfl)) ?_
  refine Ex.icmp rfl rfl (fun (c0 : x0 ≤ 8) => ?_) (fun (c0 : ¬ (x0 ≤ 8)) => ?_)
  · rw [if_pos c0] at hf
    exact Ex.weak (sm_le_n sm_le_nil) (B_292_16 hd  hf hs)
  · rw [if_neg c0] at hf
    refine Ex.seg 2 (pc' := 9) (lc' := [some (.int x0)]) (st' := [.int 15, .int x0]) (h' := h) (sg1 rfl rfl (sg1 rfl rfl rfl)) ?_
    refine Ex.icmp rfl rfl (fun (c0 : 15 ≤ x0) => ?_) (fun (c0 : ¬ (15 ≤ x0)) => ?_)
    · rw [if_pos c0] at hf
      exact Ex.weak (sm_le_n sm_le_nil) (B_292_16 hd  hf hs)
    · rw [if_neg c0] at hf
      refine Ex.seg 2 (pc' := 17) (lc' := [some (.int x0)]) (st' := [.int 1]) (h' := h) (sg1 rfl rfl (sg1 rfl rfl rfl)) ?_
      exact Ex.weak (sm_le_n sm_le_nil) (B_292_17 hd  hf hs)
theorem E_292 {L : Nat} {xs : Nat → Int32} {d : Nat} (hd : 1 ≤ d) {x0 : Int32} {h : sm_H} {r : Int32 × sm_H} (hf : F_292 x0 h = some r) : RUN L xs d 292 [.int x0] h (some (.int r.1), r.2) := by
  obtain ⟨d, rfl⟩ : ∃ e, d = e + 1 := ⟨d - 1, by omega⟩
  exact ⟨Nat.le_of_ble_eq_true rfl, B_292_0 (by omega) hf rfl⟩
theorem B_293_17 {L : Nat} {xs : Nat → Int32} {d : Nat} (hd : 0 ≤ d) {res : Option Value × sm_H} {z0 : Int32}  {h : sm_H} {r : (Int32 × sm_H)} (hf : F_293_17 z0 h = some r) (hs : (fun (r : Int32 × sm_H) => res = (some (.int r.1), r.2)) r) : Ex (P_G L xs) (RUN L xs d) (sm_lk P_t293) 3 17 [none] [.int z0] h res := by
  unfold F_293_17 at hf
  rcases Classical.em (z0 = 0 ∨ z0 = 1) with c0 | c0
  · rw [if_pos c0] at hf
    obtain rfl := Option.some.inj hf
    exact Ex.iret rfl rfl (fun _ => c0) hs
  · rw [if_neg c0] at hf
    cases hf
theorem B_293_16 {L : Nat} {xs : Nat → Int32} {d : Nat} (hd : 0 ≤ d) {res : Option Value × sm_H}   {h : sm_H} {r : (Int32 × sm_H)} (hf : F_293_16  h = some r) (hs : (fun (r : Int32 × sm_H) => res = (some (.int r.1), r.2)) r) : Ex (P_G L xs) (RUN L xs d) (sm_lk P_t293) 3 16 [none] [] h res := by
  unfold F_293_16 at hf
  refine Ex.seg 1 (pc' := 17) (lc' := [none]) (st' := [.int 0]) (h' := h) (sg1 rfl rfl rfl) ?_
  exact Ex.weak (sm_le_s sm_le_nil) (B_293_17 hd  hf hs)
theorem B_293_0 {L : Nat} {xs : Nat → Int32} {d : Nat} (hd : 0 ≤ d) {res : Option Value × sm_H} {x0 : Int32}  {h : sm_H} {r : (Int32 × sm_H)} (hf : F_293_0 x0 h = some r) (hs : (fun (r : Int32 × sm_H) => res = (some (.int r.1), r.2)) r) : Ex (P_G L xs) (RUN L xs d) (sm_lk P_t293) 3 0 [some (.int x0)] [] h res := by
  unfold F_293_0 at hf
  refine Ex.seg 2 (pc' := 3) (lc' := [some (.int x0)]) (st' := [.int 15, .int x0]) (h' := h) (sg1 rfl rfl (sg1 rfl rfl rfl)) ?_
  refine Ex.icmp rfl rfl (fun (c0 : x0 < 15) => ?_) (fun (c0 : ¬ (x0 < 15)) => ?_)
  · rw [if_pos c0] at hf
    exact Ex.weak (sm_le_n sm_le_nil) (B_293_16 hd  hf hs)
  · rw [if_neg c0] at hf
    refine Ex.seg 2 (pc' := 9) (lc' := [some (.int x0)]) (st' := [.int 17, .int x0]) (h' := h) (sg1 rfl rfl (sg1 rfl rfl rfl)) ?_
    refine Ex.icmp rfl rfl (fun (c0 : 17 < x0) => ?_) (fun (c0 : ¬ (17 < x0)) => ?_)
    · rw [if_pos c0] at hf
      exact Ex.weak (sm_le_n sm_le_nil) (B_293_16 hd  hf hs)
    · rw [if_neg c0] at hf
      refine Ex.seg 2 (pc' := 17) (lc' := [some (.int x0)]) (st' := [.int 1]) (h' := h) (sg1 rfl rfl (sg1 rfl rfl rfl)) ?_
      exact Ex.weak (sm_le_n sm_le_nil) (B_293_17 hd  hf hs)
theorem E_293 {L : Nat} {xs : Nat → Int32} {d : Nat} (hd : 1 ≤ d) {x0 : Int32} {h : sm_H} {r : Int32 × sm_H} (hf : F_293 x0 h = some r) : RUN L xs d 293 [.int x0] h (some (.int r.1), r.2) := by
  obtain ⟨d, rfl⟩ : ∃ e, d = e + 1 := ⟨d - 1, by omega⟩
  exact ⟨Nat.le_of_ble_eq_true rfl, B_293_0 (by omega) hf rfl⟩
theorem B_294_23 {L : Nat} {xs : Nat → Int32} {d : Nat} (hd : 0 ≤ d) {res : Option Value × sm_H} {z0 : Int32}  {h : sm_H} {r : (Int32 × sm_H)} (hf : F_294_23 z0 h = some r) (hs : (fun (r : Int32 × sm_H) => res = (some (.int r.1), r.2)) r) : Ex (P_G L xs) (RUN L xs d) (sm_lk P_t294) 0 23 [none] [.int z0] h res := by
  unfold F_294_23 at hf
  obtain rfl := Option.some.inj hf
  exact Ex.iret rfl rfl (fun c0 => by cases c0) hs
theorem B_294_0 {L : Nat} {xs : Nat → Int32} {d : Nat} (hd : 0 ≤ d) {res : Option Value × sm_H} {x0 : Int32}  {h : sm_H} {r : (Int32 × sm_H)} (hf : F_294_0 x0 h = some r) (hs : (fun (r : Int32 × sm_H) => res = (some (.int r.1), r.2)) r) : Ex (P_G L xs) (RUN L xs d) (sm_lk P_t294) 0 0 [some (.int x0)] [] h res := by
  unfold F_294_0 at hf
  refine Ex.seg 2 (pc' := 3) (lc' := [some (.int x0)]) (st' := [.int 15, .int x0]) (h' := h) (sg1 rfl rfl (sg1 rfl rfl rfl)) ?_
  refine Ex.icmp rfl rfl (fun (c0 : ¬ (x0 = 15)) => ?_) (fun (c0 : ¬ ¬ (x0 = 15)) => ?_)
  · rw [if_neg c0] at hf
    refine Ex.seg 2 (pc' := 13) (lc' := [some (.int x0)]) (st' := [.int 16, .int x0]) (h' := h) (sg1 rfl rfl (sg1 rfl rfl rfl)) ?_
    refine Ex.icmp rfl rfl (fun (c0 : ¬ (x0 = 16)) => ?_) (fun (c0 : ¬ ¬ (x0 = 16)) => ?_)
    · rw [if_neg c0] at hf
      refine Ex.seg 1 (pc' := 23) (lc' := [some (.int x0)]) (st' := [.int 7]) (h' := h) (sg1 rfl rfl rfl) ?_
      exact Ex.weak (sm_le_n sm_le_nil) (B_294_23 hd  hf hs)
    · rw [if_pos (Classical.not_not.mp c0)] at hf
      refine Ex.seg 2 (pc' := 23) (lc' := [some (.int x0)]) (st' := [.int 6]) (h' := h) (sg1 rfl rfl (sg1 rfl rfl rfl)) ?_
      exact Ex.weak (sm_le_n sm_le_nil) (B_294_23 hd  hf hs)
  · rw [if_pos (Classical.not_not.mp c0)] at hf
    refine Ex.seg 2 (pc' := 23) (lc' := [some (.int x0)]) (st' := [.int 5]) (h' := h) (sg1 rfl rfl (sg1 rfl rfl rfl)) ?_
    exact Ex.weak (sm_le_n sm_le_nil) (B_294_23 hd  hf hs)
theorem E_294 {L : Nat} {xs : Nat → Int32} {d : Nat} (hd : 1 ≤ d) {x0 : Int32} {h : sm_H} {r : Int32 × sm_H} (hf : F_294 x0 h = some r) : RUN L xs d 294 [.int x0] h (some (.int r.1), r.2) := by
  obtain ⟨d, rfl⟩ : ∃ e, d = e + 1 := ⟨d - 1, by omega⟩
  exact ⟨Nat.le_of_ble_eq_true rfl, B_294_0 (by omega) hf rfl⟩
theorem B_295_69B {L : Nat} {xs : Nat → Int32} {d : Nat} (hd : 1 ≤ d) {res : Option Value × sm_H} {S1 : (Int32 × Int32 × sm_H) → Prop} (hS1 : ∀ s, S1 s → Ex (P_G L xs) (RUN L xs d) (sm_lk P_t295) 3 69 [some (.ref 67), none, some (.int s.1), some (.int s.2.1)] [] s.2.2 res) {s : (Int32 × Int32 × sm_H)}  {r : ((Int32 × Int32 × sm_H) ⊕ (Int32 × sm_H))} (hf : F_295_69B s = some r) (hs : (Sum.elim S1 (fun (r : Int32 × sm_H) => res = (some (.int r.1), r.2))) r) : Ex (P_G L xs) (RUN L xs d) (sm_lk P_t295) 3 69 [some (.ref 67), none, some (.int s.1), some (.int s.2.1)] [] s.2.2 res := by
  unfold F_295_69B at hf
  refine Ex.seg 2 (pc' := 72) (lc' := [some (.ref 67), none, some (.int s.1), some (.int s.2.1)]) (st' := [.int 20, .int s.2.1]) (h' := s.2.2) (sg1 rfl rfl (sg1 rfl rfl rfl)) ?_
  refine Ex.icmp rfl rfl (fun (c0 : s.2.1 < 20) => ?_) (fun (c0 : ¬ (s.2.1 < 20)) => ?_)
  · rw [if_pos c0] at hf
    refine Ex.seg 1 (pc' := 93) (lc' := [some (.ref 67), none, some (.int s.1), some (.int s.2.1)]) (st' := [.int 0]) (h' := s.2.2) (sg1 rfl rfl rfl) ?_
    obtain rfl := Option.some.inj hf
    exact Ex.iret rfl rfl (fun _ => by decide) hs
  · rw [if_neg c0] at hf
    refine Ex.seg 5 (pc' := 83) (lc' := [some (.ref 67), none, some (.int s.1), some (.int s.2.1)]) (st' := [.int (s.2.1 - 20), .ref 70]) (h' := s.2.2) (sg1 rfl rfl (sg1 rfl rfl (sg1 rfl rfl (sg1 rfl rfl (sg1 rfl rfl rfl))))) ?_
    obtain ⟨v1, e_v1, hf⟩ := bnd hf
    refine Ex.iald e_v1 rfl rfl ?_
    refine Ex.seg 3 (pc' := 87) (lc' := [some (.ref 67), none, some (.int s.1), some (.int v1)]) (st' := [.int s.1, .int v1]) (h' := s.2.2) (sg1 rfl rfl (sg1 rfl rfl (sg1 rfl rfl rfl))) ?_
    refine Ex.icmp rfl rfl (fun (c0 : ¬ (v1 = s.1)) => ?_) (fun (c0 : ¬ ¬ (v1 = s.1)) => ?_)
    · rw [if_neg c0] at hf
      obtain rfl := Option.some.inj hf
      exact Ex.weak (sm_le_s (sm_le_s (sm_le_s (sm_le_s sm_le_nil)))) (hS1 _ hs)
    · rw [if_pos (Classical.not_not.mp c0)] at hf
      refine Ex.seg 1 (pc' := 91) (lc' := [some (.ref 67), none, some (.int s.1), some (.int v1)]) (st' := [.int 1]) (h' := s.2.2) (sg1 rfl rfl rfl) ?_
      obtain rfl := Option.some.inj hf
      exact Ex.iret rfl rfl (fun _ => by decide) hs
theorem B_295_69 {L : Nat} {xs : Nat → Int32} {d : Nat} (hd : 1 ≤ d) {res : Option Value × sm_H} {y2 : Int32} {y3 : Int32}  {h : sm_H} {r : (Int32 × sm_H)} (hf : F_295_69 y2 y3 h = some r) (hs : (fun (r : Int32 × sm_H) => res = (some (.int r.1), r.2)) r) : Ex (P_G L xs) (RUN L xs d) (sm_lk P_t295) 3 69 [some (.ref 67), none, some (.int y2), some (.int y3)] [] h res := by
  unfold F_295_69 at hf
  exact lp_ok (P := fun (s : (Int32 × Int32 × sm_H)) => Ex (P_G L xs) (RUN L xs d) (sm_lk P_t295) 3 69 [some (.ref 67), none, some (.int s.1), some (.int s.2.1)] [] s.2.2 res) (S := (fun (r : Int32 × sm_H) => res = (some (.int r.1), r.2))) (fun s x hx hsx => by
    intros
    exact B_295_69B hd  (fun _ q => q) hx hsx) 1000000 _ r hf hs
theorem B_295_66 {L : Nat} {xs : Nat → Int32} {d : Nat} (hd : 1 ≤ d) {res : Option Value × sm_H} {z0 : Int32}  {h : sm_H} {r : (Int32 × sm_H)} (hf : F_295_66 z0 h = some r) (hs : (fun (r : Int32 × sm_H) => res = (some (.int r.1), r.2)) r) : Ex (P_G L xs) (RUN L xs d) (sm_lk P_t295) 3 66 [none, none, none, none] [.int z0] h res := by
  unfold F_295_66 at hf
  rcases Classical.em (z0 = 0 ∨ z0 = 1) with c0 | c0
  · rw [if_pos c0] at hf
    obtain rfl := Option.some.inj hf
    exact Ex.iret rfl rfl (fun _ => c0) hs
  · rw [if_neg c0] at hf
    cases hf
theorem B_295_61 {L : Nat} {xs : Nat → Int32} {d : Nat} (hd : 1 ≤ d) {res : Option Value × sm_H}   {h : sm_H} {r : (Int32 × sm_H)} (hf : F_295_61  h = some r) (hs : (fun (r : Int32 × sm_H) => res = (some (.int r.1), r.2)) r) : Ex (P_G L xs) (RUN L xs d) (sm_lk P_t295) 3 61 [none, none, none, none] [] h res := by
  unfold F_295_61 at hf
  refine Ex.seg 2 (pc' := 66) (lc' := [none, none, none, none]) (st' := [.int 1]) (h' := h) (sg1 rfl rfl (sg1 rfl rfl rfl)) ?_
  exact Ex.weak (sm_le_s (sm_le_s (sm_le_s (sm_le_s sm_le_nil)))) (B_295_66 hd  hf hs)
theorem B_295_21 {L : Nat} {xs : Nat → Int32} {d : Nat} (hd : 1 ≤ d) {res : Option Value × sm_H}   {h : sm_H} {r : (Int32 × sm_H)} (hf : F_295_21  h = some r) (hs : (fun (r : Int32 × sm_H) => res = (some (.int r.1), r.2)) r) : Ex (P_G L xs) (RUN L xs d) (sm_lk P_t295) 3 21 [none, none, none, none] [] h res := by
  unfold F_295_21 at hf
  refine Ex.seg 1 (pc' := 22) (lc' := [none, none, none, none]) (st' := [.int 0]) (h' := h) (sg1 rfl rfl rfl) ?_
  obtain rfl := Option.some.inj hf
  exact Ex.iret rfl rfl (fun _ => by decide) hs
theorem B_295_0 {L : Nat} {xs : Nat → Int32} {d : Nat} (hd : 1 ≤ d) {res : Option Value × sm_H} {x1 : Int32} {x2 : Int32}  {h : sm_H} {r : (Int32 × sm_H)} (hf : F_295_0 x1 x2 h = some r) (hs : (fun (r : Int32 × sm_H) => res = (some (.int r.1), r.2)) r) : Ex (P_G L xs) (RUN L xs d) (sm_lk P_t295) 3 0 [some (.ref 67), some (.int x1), some (.int x2), none] [] h res := by
  unfold F_295_0 at hf
  refine Ex.seg 2 (pc' := 2) (lc' := [some (.ref 67), some (.int x1), some (.int x2), none]) (st' := [.int x2, .int x1]) (h' := h) (sg1 rfl rfl (sg1 rfl rfl rfl)) ?_
  refine Ex.icmp rfl rfl (fun (c0 : ¬ (x1 = x2)) => ?_) (fun (c0 : ¬ ¬ (x1 = x2)) => ?_)
  · rw [if_neg c0] at hf
    refine Ex.seg 1 (pc' := 8) (lc' := [some (.ref 67), some (.int x1), some (.int x2), none]) (st' := [.int x1]) (h' := h) (sg1 rfl rfl rfl) ?_
    obtain ⟨q2, e_q2, hf⟩ := bnd hf
    refine Ex.callS (As := [.int x1]) (r := []) (v := some (.int q2.1)) (h' := q2.2) rfl rfl rfl rfl (Nat.le_of_ble_eq_true rfl) (E_291 (Nat.le_trans (by decide) hd) e_q2) rfl ?_
    refine Ex.ifc rfl rfl (fun (c0 : q2.1 = 0) => ?_) (fun (c0 : ¬ (q2.1 = 0)) => ?_)
    · rw [if_pos c0] at hf
      exact Ex.weak (sm_le_n (sm_le_n (sm_le_n (sm_le_s sm_le_nil)))) (B_295_21 hd  hf hs)
    · rw [if_neg c0] at hf
      refine Ex.seg 1 (pc' := 15) (lc' := [some (.ref 67), some (.int x1), some (.int x2), none]) (st' := [.int x2]) (h' := q2.2) (sg1 rfl rfl rfl) ?_
      obtain ⟨q3, e_q3, hf⟩ := bnd hf
      refine Ex.callS (As := [.int x2]) (r := []) (v := some (.int q3.1)) (h' := q3.2) rfl rfl rfl rfl (Nat.le_of_ble_eq_true rfl) (E_291 (Nat.le_trans (by decide) hd) e_q3) rfl ?_
      refine Ex.ifc rfl rfl (fun (c0 : ¬ (q3.1 = 0)) => ?_) (fun (c0 : ¬ ¬ (q3.1 = 0)) => ?_)
      · rw [if_neg c0] at hf
        refine Ex.seg 2 (pc' := 26) (lc' := [some (.ref 67), some (.int x1), some (.int x2), none]) (st' := [.int 7, .int x2]) (h' := q3.2) (sg1 rfl rfl (sg1 rfl rfl rfl)) ?_
        refine Ex.icmp rfl rfl (fun (c0 : ¬ (x2 = 7)) => ?_) (fun (c0 : ¬ ¬ (x2 = 7)) => ?_)
        · rw [if_neg c0] at hf
          refine Ex.seg 2 (pc' := 34) (lc' := [some (.ref 67), some (.int x1), some (.int x2), none]) (st' := [.int 8, .int x2]) (h' := q3.2) (sg1 rfl rfl (sg1 rfl rfl rfl)) ?_
          refine Ex.icmp rfl rfl (fun (c0 : ¬ (x2 = 8)) => ?_) (fun (c0 : ¬ ¬ (x2 = 8)) => ?_)
          · rw [if_neg c0] at hf
            refine Ex.seg 2 (pc' := 69) (lc' := [some (.ref 67), some (.int x1), some (.int x2), some (.int x1)]) (st' := []) (h' := q3.2) (sg1 rfl rfl (sg1 rfl rfl rfl)) ?_
            exact Ex.weak (sm_le_s (sm_le_n (sm_le_s (sm_le_s sm_le_nil)))) (B_295_69 hd  hf hs)
          · rw [if_pos (Classical.not_not.mp c0)] at hf
            refine Ex.seg 2 (pc' := 40) (lc' := [some (.ref 67), some (.int x1), some (.int x2), none]) (st' := [.int 10, .int x1]) (h' := q3.2) (sg1 rfl rfl (sg1 rfl rfl rfl)) ?_
            refine Ex.icmp rfl rfl (fun (c0 : x1 = 10) => ?_) (fun (c0 : ¬ (x1 = 10)) => ?_)
            · rw [if_pos c0] at hf
              exact Ex.weak (sm_le_n (sm_le_n (sm_le_n (sm_le_s sm_le_nil)))) (B_295_61 hd  hf hs)
            · rw [if_neg c0] at hf
              refine Ex.seg 2 (pc' := 46) (lc' := [some (.ref 67), some (.int x1), some (.int x2), none]) (st' := [.int 11, .int x1]) (h' := q3.2) (sg1 rfl rfl (sg1 rfl rfl rfl)) ?_
              refine Ex.icmp rfl rfl (fun (c0 : x1 = 11) => ?_) (fun (c0 : ¬ (x1 = 11)) => ?_)
              · rw [if_pos c0] at hf
                exact Ex.weak (sm_le_n (sm_le_n (sm_le_n (sm_le_s sm_le_nil)))) (B_295_61 hd  hf hs)
              · rw [if_neg c0] at hf
                refine Ex.seg 2 (pc' := 52) (lc' := [some (.ref 67), some (.int x1), some (.int x2), none]) (st' := [.int 13, .int x1]) (h' := q3.2) (sg1 rfl rfl (sg1 rfl rfl rfl)) ?_
                refine Ex.icmp rfl rfl (fun (c0 : x1 = 13) => ?_) (fun (c0 : ¬ (x1 = 13)) => ?_)
                · rw [if_pos c0] at hf
                  exact Ex.weak (sm_le_n (sm_le_n (sm_le_n (sm_le_s sm_le_nil)))) (B_295_61 hd  hf hs)
                · rw [if_neg c0] at hf
                  refine Ex.seg 2 (pc' := 58) (lc' := [some (.ref 67), some (.int x1), some (.int x2), none]) (st' := [.int 14, .int x1]) (h' := q3.2) (sg1 rfl rfl (sg1 rfl rfl rfl)) ?_
                  refine Ex.icmp rfl rfl (fun (c0 : ¬ (x1 = 14)) => ?_) (fun (c0 : ¬ ¬ (x1 = 14)) => ?_)
                  · rw [if_neg c0] at hf
                    refine Ex.seg 1 (pc' := 66) (lc' := [some (.ref 67), some (.int x1), some (.int x2), none]) (st' := [.int 0]) (h' := q3.2) (sg1 rfl rfl rfl) ?_
                    exact Ex.weak (sm_le_n (sm_le_n (sm_le_n (sm_le_s sm_le_nil)))) (B_295_66 hd  hf hs)
                  · rw [if_pos (Classical.not_not.mp c0)] at hf
                    exact Ex.weak (sm_le_n (sm_le_n (sm_le_n (sm_le_s sm_le_nil)))) (B_295_61 hd  hf hs)
        · rw [if_pos (Classical.not_not.mp c0)] at hf
          refine Ex.seg 1 (pc' := 30) (lc' := [some (.ref 67), some (.int x1), some (.int x2), none]) (st' := [.int 1]) (h' := q3.2) (sg1 rfl rfl rfl) ?_
          obtain rfl := Option.some.inj hf
          exact Ex.iret rfl rfl (fun _ => by decide) hs
      · rw [if_pos (Classical.not_not.mp c0)] at hf
        exact Ex.weak (sm_le_n (sm_le_n (sm_le_n (sm_le_s sm_le_nil)))) (B_295_21 hd  hf hs)
  · rw [if_pos (Classical.not_not.mp c0)] at hf
    refine Ex.seg 1 (pc' := 6) (lc' := [some (.ref 67), some (.int x1), some (.int x2), none]) (st' := [.int 1]) (h' := h) (sg1 rfl rfl rfl) ?_
    obtain rfl := Option.some.inj hf
    exact Ex.iret rfl rfl (fun _ => by decide) hs
theorem E_295 {L : Nat} {xs : Nat → Int32} {d : Nat} (hd : 2 ≤ d) {x1 : Int32} {x2 : Int32} {h : sm_H} {r : Int32 × sm_H} (hf : F_295 x1 x2 h = some r) : RUN L xs d 295 [.ref 67, .int x1, .int x2] h (some (.int r.1), r.2) := by
  obtain ⟨d, rfl⟩ : ∃ e, d = e + 1 := ⟨d - 1, by omega⟩
  exact ⟨Nat.le_of_ble_eq_true rfl, B_295_0 (by omega) hf rfl⟩
theorem B_296_107 {L : Nat} {xs : Nat → Int32} {d : Nat} (hd : 0 ≤ d) {res : Option Value × sm_H} {z0 : Int32}  {h : sm_H} {r : (Int32 × sm_H)} (hf : F_296_107 z0 h = some r) (hs : (fun (r : Int32 × sm_H) => res = (some (.int r.1), r.2)) r) : Ex (P_G L xs) (RUN L xs d) (sm_lk P_t296) 3 107 [none, none] [.int z0] h res := by
  unfold F_296_107 at hf
  rcases Classical.em (z0 = 0 ∨ z0 = 1) with c0 | c0
  · rw [if_pos c0] at hf
    obtain rfl := Option.some.inj hf
    exact Ex.iret rfl rfl (fun _ => c0) hs
  · rw [if_neg c0] at hf
    cases hf
theorem B_296_95 {L : Nat} {xs : Nat → Int32} {d : Nat} (hd : 0 ≤ d) {res : Option Value × sm_H} {z0 : Int32}  {h : sm_H} {r : (Int32 × sm_H)} (hf : F_296_95 z0 h = some r) (hs : (fun (r : Int32 × sm_H) => res = (some (.int r.1), r.2)) r) : Ex (P_G L xs) (RUN L xs d) (sm_lk P_t296) 3 95 [none, none] [.int z0] h res := by
  unfold F_296_95 at hf
  rcases Classical.em (z0 = 0 ∨ z0 = 1) with c0 | c0
  · rw [if_pos c0] at hf
    obtain rfl := Option.some.inj hf
    exact Ex.iret rfl rfl (fun _ => c0) hs
  · rw [if_neg c0] at hf
    cases hf
theorem B_296_90 {L : Nat} {xs : Nat → Int32} {d : Nat} (hd : 0 ≤ d) {res : Option Value × sm_H}   {h : sm_H} {r : (Int32 × sm_H)} (hf : F_296_90  h = some r) (hs : (fun (r : Int32 × sm_H) => res = (some (.int r.1), r.2)) r) : Ex (P_G L xs) (RUN L xs d) (sm_lk P_t296) 3 90 [none, none] [] h res := by
  unfold F_296_90 at hf
  refine Ex.seg 2 (pc' := 95) (lc' := [none, none]) (st' := [.int 1]) (h' := h) (sg1 rfl rfl (sg1 rfl rfl rfl)) ?_
  exact Ex.weak (sm_le_s (sm_le_s sm_le_nil)) (B_296_95 hd  hf hs)
theorem B_296_78 {L : Nat} {xs : Nat → Int32} {d : Nat} (hd : 0 ≤ d) {res : Option Value × sm_H} {z0 : Int32}  {h : sm_H} {r : (Int32 × sm_H)} (hf : F_296_78 z0 h = some r) (hs : (fun (r : Int32 × sm_H) => res = (some (.int r.1), r.2)) r) : Ex (P_G L xs) (RUN L xs d) (sm_lk P_t296) 3 78 [none, none] [.int z0] h res := by
  unfold F_296_78 at hf
  rcases Classical.em (z0 = 0 ∨ z0 = 1) with c0 | c0
  · rw [if_pos c0] at hf
    obtain rfl := Option.some.inj hf
    exact Ex.iret rfl rfl (fun _ => c0) hs
  · rw [if_neg c0] at hf
    cases hf
theorem B_296_73 {L : Nat} {xs : Nat → Int32} {d : Nat} (hd : 0 ≤ d) {res : Option Value × sm_H}   {h : sm_H} {r : (Int32 × sm_H)} (hf : F_296_73  h = some r) (hs : (fun (r : Int32 × sm_H) => res = (some (.int r.1), r.2)) r) : Ex (P_G L xs) (RUN L xs d) (sm_lk P_t296) 3 73 [none, none] [] h res := by
  unfold F_296_73 at hf
  refine Ex.seg 2 (pc' := 78) (lc' := [none, none]) (st' := [.int 1]) (h' := h) (sg1 rfl rfl (sg1 rfl rfl rfl)) ?_
  exact Ex.weak (sm_le_s (sm_le_s sm_le_nil)) (B_296_78 hd  hf hs)
theorem B_296_61 {L : Nat} {xs : Nat → Int32} {d : Nat} (hd : 0 ≤ d) {res : Option Value × sm_H} {z0 : Int32}  {h : sm_H} {r : (Int32 × sm_H)} (hf : F_296_61 z0 h = some r) (hs : (fun (r : Int32 × sm_H) => res = (some (.int r.1), r.2)) r) : Ex (P_G L xs) (RUN L xs d) (sm_lk P_t296) 3 61 [none, none] [.int z0] h res := by
  unfold F_296_61 at hf
  rcases Classical.em (z0 = 0 ∨ z0 = 1) with c0 | c0
  · rw [if_pos c0] at hf
    obtain rfl := Option.some.inj hf
    exact Ex.iret rfl rfl (fun _ => c0) hs
  · rw [if_neg c0] at hf
    cases hf
theorem B_296_56 {L : Nat} {xs : Nat → Int32} {d : Nat} (hd : 0 ≤ d) {res : Option Value × sm_H}   {h : sm_H} {r : (Int32 × sm_H)} (hf : F_296_56  h = some r) (hs : (fun (r : Int32 × sm_H) => res = (some (.int r.1), r.2)) r) : Ex (P_G L xs) (RUN L xs d) (sm_lk P_t296) 3 56 [none, none] [] h res := by
  unfold F_296_56 at hf
  refine Ex.seg 2 (pc' := 61) (lc' := [none, none]) (st' := [.int 1]) (h' := h) (sg1 rfl rfl (sg1 rfl rfl rfl)) ?_
  exact Ex.weak (sm_le_s (sm_le_s sm_le_nil)) (B_296_61 hd  hf hs)
theorem B_296_0 {L : Nat} {xs : Nat → Int32} {d : Nat} (hd : 0 ≤ d) {res : Option Value × sm_H} {x0 : Int32} {x1 : Int32}  {h : sm_H} {r : (Int32 × sm_H)} (hf : F_296_0 x0 x1 h = some r) (hs : (fun (r : Int32 × sm_H) => res = (some (.int r.1), r.2)) r) : Ex (P_G L xs) (RUN L xs d) (sm_lk P_t296) 3 0 [some (.int x0), some (.int x1)] [] h res := by
  unfold F_296_0 at hf
  refine Ex.seg 2 (pc' := 2) (lc' := [some (.int x0), some (.int x1)]) (st' := [.int x1, .int x0]) (h' := h) (sg1 rfl rfl (sg1 rfl rfl rfl)) ?_
  refine Ex.icmp rfl rfl (fun (c0 : ¬ (x0 = x1)) => ?_) (fun (c0 : ¬ ¬ (x0 = x1)) => ?_)
  · rw [if_neg c0] at hf
    refine Ex.seg 1 (pc' := 8) (lc' := [some (.int x0), some (.int x1)]) (st' := [.int x0]) (h' := h) (sg1 rfl rfl rfl) ?_
    rcases Classical.em (x0 = 2) with n1 | n1
    · rw [if_pos n1] at hf
      refine Ex.swt (t := 40) rfl rfl (by rw [n1]; exact Or.inr ⟨by decide, by decide, _, rfl, by decide⟩) ?_
      refine Ex.seg 2 (pc' := 42) (lc' := [some (.int x0), some (.int x1)]) (st' := [.int 3, .int x1]) (h' := h) (sg1 rfl rfl (sg1 rfl rfl rfl)) ?_
      refine Ex.icmp rfl rfl (fun (c0 : x1 = 3) => ?_) (fun (c0 : ¬ (x1 = 3)) => ?_)
      · rw [if_pos c0] at hf
        exact Ex.weak (sm_le_n (sm_le_n sm_le_nil)) (B_296_56 hd  hf hs)
      · rw [if_neg c0] at hf
        refine Ex.seg 2 (pc' := 47) (lc' := [some (.int x0), some (.int x1)]) (st' := [.int 5, .int x1]) (h' := h) (sg1 rfl rfl (sg1 rfl rfl rfl)) ?_
        refine Ex.icmp rfl rfl (fun (c0 : x1 = 5) => ?_) (fun (c0 : ¬ (x1 = 5)) => ?_)
        · rw [if_pos c0] at hf
          exact Ex.weak (sm_le_n (sm_le_n sm_le_nil)) (B_296_56 hd  hf hs)
        · rw [if_neg c0] at hf
          refine Ex.seg 2 (pc' := 53) (lc' := [some (.int x0), some (.int x1)]) (st' := [.int 6, .int x1]) (h' := h) (sg1 rfl rfl (sg1 rfl rfl rfl)) ?_
          refine Ex.icmp rfl rfl (fun (c0 : ¬ (x1 = 6)) => ?_) (fun (c0 : ¬ ¬ (x1 = 6)) => ?_)
          · rw [if_neg c0] at hf
            refine Ex.seg 1 (pc' := 61) (lc' := [some (.int x0), some (.int x1)]) (st' := [.int 0]) (h' := h) (sg1 rfl rfl rfl) ?_
            exact Ex.weak (sm_le_n (sm_le_n sm_le_nil)) (B_296_61 hd  hf hs)
          · rw [if_pos (Classical.not_not.mp c0)] at hf
            exact Ex.weak (sm_le_n (sm_le_n sm_le_nil)) (B_296_56 hd  hf hs)
    rw [if_neg n1] at hf
    rcases Classical.em (x0 = 3) with n2 | n2
    · rw [if_pos n2] at hf
      refine Ex.swt (t := 62) rfl rfl (by rw [n2]; exact Or.inr ⟨by decide, by decide, _, rfl, by decide⟩) ?_
      refine Ex.seg 2 (pc' := 64) (lc' := [some (.int x0), some (.int x1)]) (st' := [.int 5, .int x1]) (h' := h) (sg1 rfl rfl (sg1 rfl rfl rfl)) ?_
      refine Ex.icmp rfl rfl (fun (c0 : x1 = 5) => ?_) (fun (c0 : ¬ (x1 = 5)) => ?_)
      · rw [if_pos c0] at hf
        exact Ex.weak (sm_le_n (sm_le_n sm_le_nil)) (B_296_73 hd  hf hs)
      · rw [if_neg c0] at hf
        refine Ex.seg 2 (pc' := 70) (lc' := [some (.int x0), some (.int x1)]) (st' := [.int 6, .int x1]) (h' := h) (sg1 rfl rfl (sg1 rfl rfl rfl)) ?_
        refine Ex.icmp rfl rfl (fun (c0 : ¬ (x1 = 6)) => ?_) (fun (c0 : ¬ ¬ (x1 = 6)) => ?_)
        · rw [if_neg c0] at hf
          refine Ex.seg 1 (pc' := 78) (lc' := [some (.int x0), some (.int x1)]) (st' := [.int 0]) (h' := h) (sg1 rfl rfl rfl) ?_
          exact Ex.weak (sm_le_n (sm_le_n sm_le_nil)) (B_296_78 hd  hf hs)
        · rw [if_pos (Classical.not_not.mp c0)] at hf
          exact Ex.weak (sm_le_n (sm_le_n sm_le_nil)) (B_296_73 hd  hf hs)
    rw [if_neg n2] at hf
    rcases Classical.em (x0 = 4) with n3 | n3
    · rw [if_pos n3] at hf
      refine Ex.swt (t := 79) rfl rfl (by rw [n3]; exact Or.inr ⟨by decide, by decide, _, rfl, by decide⟩) ?_
      refine Ex.seg 2 (pc' := 81) (lc' := [some (.int x0), some (.int x1)]) (st' := [.int 5, .int x1]) (h' := h) (sg1 rfl rfl (sg1 rfl rfl rfl)) ?_
      refine Ex.icmp rfl rfl (fun (c0 : x1 = 5) => ?_) (fun (c0 : ¬ (x1 = 5)) => ?_)
      · rw [if_pos c0] at hf
        exact Ex.weak (sm_le_n (sm_le_n sm_le_nil)) (B_296_90 hd  hf hs)
      · rw [if_neg c0] at hf
        refine Ex.seg 2 (pc' := 87) (lc' := [some (.int x0), some (.int x1)]) (st' := [.int 6, .int x1]) (h' := h) (sg1 rfl rfl (sg1 rfl rfl rfl)) ?_
        refine Ex.icmp rfl rfl (fun (c0 : ¬ (x1 = 6)) => ?_) (fun (c0 : ¬ ¬ (x1 = 6)) => ?_)
        · rw [if_neg c0] at hf
          refine Ex.seg 1 (pc' := 95) (lc' := [some (.int x0), some (.int x1)]) (st' := [.int 0]) (h' := h) (sg1 rfl rfl rfl) ?_
          exact Ex.weak (sm_le_n (sm_le_n sm_le_nil)) (B_296_95 hd  hf hs)
        · rw [if_pos (Classical.not_not.mp c0)] at hf
          exact Ex.weak (sm_le_n (sm_le_n sm_le_nil)) (B_296_90 hd  hf hs)
    rw [if_neg n3] at hf
    rcases Classical.em (x0 = 5) with n4 | n4
    · rw [if_pos n4] at hf
      refine Ex.swt (t := 96) rfl rfl (by rw [n4]; exact Or.inr ⟨by decide, by decide, _, rfl, by decide⟩) ?_
      refine Ex.seg 2 (pc' := 99) (lc' := [some (.int x0), some (.int x1)]) (st' := [.int 6, .int x1]) (h' := h) (sg1 rfl rfl (sg1 rfl rfl rfl)) ?_
      refine Ex.icmp rfl rfl (fun (c0 : ¬ (x1 = 6)) => ?_) (fun (c0 : ¬ ¬ (x1 = 6)) => ?_)
      · rw [if_neg c0] at hf
        refine Ex.seg 1 (pc' := 107) (lc' := [some (.int x0), some (.int x1)]) (st' := [.int 0]) (h' := h) (sg1 rfl rfl rfl) ?_
        exact Ex.weak (sm_le_n (sm_le_n sm_le_nil)) (B_296_107 hd  hf hs)
      · rw [if_pos (Classical.not_not.mp c0)] at hf
        refine Ex.seg 2 (pc' := 107) (lc' := [some (.int x0), some (.int x1)]) (st' := [.int 1]) (h' := h) (sg1 rfl rfl (sg1 rfl rfl rfl)) ?_
        exact Ex.weak (sm_le_n (sm_le_n sm_le_nil)) (B_296_107 hd  hf hs)
    rw [if_neg n4] at hf
    refine Ex.swt (t := 108) rfl rfl (sw_dflt (by decide) (by decide) (fun k hk he => ?_)) ?_
    · have hk : k < 4 := hk
      rcases (show k = 0 ∨ k = 1 ∨ k = 2 ∨ k = 3 by omega) with rfl | rfl | rfl | rfl
      · exact absurd (Int32.toInt_inj.mp (he.symm.trans (by decide : (_ : Int) = Int32.toInt 2))) n1
      · exact absurd (Int32.toInt_inj.mp (he.symm.trans (by decide : (_ : Int) = Int32.toInt 3))) n2
      · exact absurd (Int32.toInt_inj.mp (he.symm.trans (by decide : (_ : Int) = Int32.toInt 4))) n3
      · exact absurd (Int32.toInt_inj.mp (he.symm.trans (by decide : (_ : Int) = Int32.toInt 5))) n4
    refine Ex.seg 1 (pc' := 109) (lc' := [some (.int x0), some (.int x1)]) (st' := [.int 0]) (h' := h) (sg1 rfl rfl rfl) ?_
    obtain rfl := Option.some.inj hf
    exact Ex.iret rfl rfl (fun _ => by decide) hs
  · rw [if_pos (Classical.not_not.mp c0)] at hf
    refine Ex.seg 1 (pc' := 6) (lc' := [some (.int x0), some (.int x1)]) (st' := [.int 1]) (h' := h) (sg1 rfl rfl rfl) ?_
    obtain rfl := Option.some.inj hf
    exact Ex.iret rfl rfl (fun _ => by decide) hs
theorem E_296 {L : Nat} {xs : Nat → Int32} {d : Nat} (hd : 1 ≤ d) {x0 : Int32} {x1 : Int32} {h : sm_H} {r : Int32 × sm_H} (hf : F_296 x0 x1 h = some r) : RUN L xs d 296 [.int x0, .int x1] h (some (.int r.1), r.2) := by
  obtain ⟨d, rfl⟩ : ∃ e, d = e + 1 := ⟨d - 1, by omega⟩
  exact ⟨Nat.le_of_ble_eq_true rfl, B_296_0 (by omega) hf rfl⟩
theorem B_297_148 {L : Nat} {xs : Nat → Int32} {d : Nat} (hd : 2 ≤ d) {res : Option Value × sm_H} {z0 : Int32}  {h : sm_H} {r : (Int32 × sm_H)} (hf : F_297_148 z0 h = some r) (hs : (fun (r : Int32 × sm_H) => res = (some (.int r.1), r.2)) r) : Ex (P_G L xs) (RUN L xs d) (sm_lk P_t297) 3 148 [none, none, none, none, none] [.int z0] h res := by
  unfold F_297_148 at hf
  rcases Classical.em (z0 = 0 ∨ z0 = 1) with c0 | c0
  · rw [if_pos c0] at hf
    obtain rfl := Option.some.inj hf
    exact Ex.iret rfl rfl (fun _ => c0) hs
  · rw [if_neg c0] at hf
    cases hf
theorem B_297_147 {L : Nat} {xs : Nat → Int32} {d : Nat} (hd : 2 ≤ d) {res : Option Value × sm_H}   {h : sm_H} {r : (Int32 × sm_H)} (hf : F_297_147  h = some r) (hs : (fun (r : Int32 × sm_H) => res = (some (.int r.1), r.2)) r) : Ex (P_G L xs) (RUN L xs d) (sm_lk P_t297) 3 147 [none, none, none, none, none] [] h res := by
  unfold F_297_147 at hf
  refine Ex.seg 1 (pc' := 148) (lc' := [none, none, none, none, none]) (st' := [.int 0]) (h' := h) (sg1 rfl rfl rfl) ?_
  exact Ex.weak (sm_le_s (sm_le_s (sm_le_s (sm_le_s (sm_le_s sm_le_nil))))) (B_297_148 hd  hf hs)
theorem B_297_143 {L : Nat} {xs : Nat → Int32} {d : Nat} (hd : 2 ≤ d) {res : Option Value × sm_H}   {h : sm_H} {r : (Int32 × sm_H)} (hf : F_297_143  h = some r) (hs : (fun (r : Int32 × sm_H) => res = (some (.int r.1), r.2)) r) : Ex (P_G L xs) (RUN L xs d) (sm_lk P_t297) 3 143 [none, none, none, none, none] [] h res := by
  unfold F_297_143 at hf
  refine Ex.seg 2 (pc' := 148) (lc' := [none, none, none, none, none]) (st' := [.int 1]) (h' := h) (sg1 rfl rfl (sg1 rfl rfl rfl)) ?_
  exact Ex.weak (sm_le_s (sm_le_s (sm_le_s (sm_le_s (sm_le_s sm_le_nil))))) (B_297_148 hd  hf hs)
theorem B_297_120 {L : Nat} {xs : Nat → Int32} {d : Nat} (hd : 2 ≤ d) {res : Option Value × sm_H} {z0 : Int32}  {h : sm_H} {r : (Int32 × sm_H)} (hf : F_297_120 z0 h = some r) (hs : (fun (r : Int32 × sm_H) => res = (some (.int r.1), r.2)) r) : Ex (P_G L xs) (RUN L xs d) (sm_lk P_t297) 3 120 [none, none, none, none, none] [.int z0] h res := by
  unfold F_297_120 at hf
  rcases Classical.em (z0 = 0 ∨ z0 = 1) with c0 | c0
  · rw [if_pos c0] at hf
    obtain rfl := Option.some.inj hf
    exact Ex.iret rfl rfl (fun _ => c0) hs
  · rw [if_neg c0] at hf
    cases hf
theorem B_297_115 {L : Nat} {xs : Nat → Int32} {d : Nat} (hd : 2 ≤ d) {res : Option Value × sm_H}   {h : sm_H} {r : (Int32 × sm_H)} (hf : F_297_115  h = some r) (hs : (fun (r : Int32 × sm_H) => res = (some (.int r.1), r.2)) r) : Ex (P_G L xs) (RUN L xs d) (sm_lk P_t297) 3 115 [none, none, none, none, none] [] h res := by
  unfold F_297_115 at hf
  refine Ex.seg 2 (pc' := 120) (lc' := [none, none, none, none, none]) (st' := [.int 1]) (h' := h) (sg1 rfl rfl (sg1 rfl rfl rfl)) ?_
  exact Ex.weak (sm_le_s (sm_le_s (sm_le_s (sm_le_s (sm_le_s sm_le_nil))))) (B_297_120 hd  hf hs)
theorem B_297_50 {L : Nat} {xs : Nat → Int32} {d : Nat} (hd : 2 ≤ d) {res : Option Value × sm_H} {y1 : Int32} {y2 : Int32} {y3 : Int32}  {h : sm_H} {r : (Int32 × sm_H)} (hf : F_297_50 y1 y2 y3 h = some r) (hs : (fun (r : Int32 × sm_H) => res = (some (.int r.1), r.2)) r) : Ex (P_G L xs) (RUN L xs d) (sm_lk P_t297) 3 50 [some (.ref 67), some (.int y1), some (.int y2), some (.int y3), none] [] h res := by
  unfold F_297_50 at hf
  refine Ex.seg 1 (pc' := 51) (lc' := [some (.ref 67), some (.int y1), some (.int y2), some (.int y3), none]) (st' := [.int y1]) (h' := h) (sg1 rfl rfl rfl) ?_
  obtain ⟨q1, e_q1, hf⟩ := bnd hf
  refine Ex.callS (As := [.int y1]) (r := []) (v := some (.int q1.1)) (h' := q1.2) rfl rfl rfl rfl (Nat.le_of_ble_eq_true rfl) (E_290 (Nat.le_trans (by decide) hd) e_q1) rfl ?_
  refine Ex.ifc rfl rfl (fun (c0 : q1.1 = 0) => ?_) (fun (c0 : ¬ (q1.1 = 0)) => ?_)
  · rw [if_pos c0] at hf
    refine Ex.seg 1 (pc' := 68) (lc' := [some (.ref 67), some (.int y1), some (.int y2), some (.int y3), none]) (st' := [.int y2]) (h' := q1.2) (sg1 rfl rfl rfl) ?_
    obtain ⟨q2, e_q2, hf⟩ := bnd hf
    refine Ex.callS (As := [.int y2]) (r := []) (v := some (.int q2.1)) (h' := q2.2) rfl rfl rfl rfl (Nat.le_of_ble_eq_true rfl) (E_291 (Nat.le_trans (by decide) hd) e_q2) rfl ?_
    refine Ex.ifc rfl rfl (fun (c0 : q2.1 = 0) => ?_) (fun (c0 : ¬ (q2.1 = 0)) => ?_)
    · rw [if_pos c0] at hf
      refine Ex.seg 2 (pc' := 79) (lc' := [some (.ref 67), some (.int y1), some (.int y2), some (.int y3), none]) (st' := [.int 7, .int y1]) (h' := q2.2) (sg1 rfl rfl (sg1 rfl rfl rfl)) ?_
      refine Ex.icmp rfl rfl (fun (c0 : ¬ (y1 = 7)) => ?_) (fun (c0 : ¬ ¬ (y1 = 7)) => ?_)
      · rw [if_neg c0] at hf
        refine Ex.seg 2 (pc' := 87) (lc' := [some (.ref 67), some (.int y1), some (.int y2), some (.int y3), none]) (st' := [.int 8, .int y1]) (h' := q2.2) (sg1 rfl rfl (sg1 rfl rfl rfl)) ?_
        refine Ex.icmp rfl rfl (fun (c0 : ¬ (y1 = 8)) => ?_) (fun (c0 : ¬ ¬ (y1 = 8)) => ?_)
        · rw [if_neg c0] at hf
          refine Ex.seg 1 (pc' := 122) (lc' := [some (.ref 67), some (.int y1), some (.int y2), some (.int y3), none]) (st' := [.int y1]) (h' := q2.2) (sg1 rfl rfl rfl) ?_
          obtain ⟨q3, e_q3, hf⟩ := bnd hf
          refine Ex.callS (As := [.int y1]) (r := []) (v := some (.int q3.1)) (h' := q3.2) rfl rfl rfl rfl (Nat.le_of_ble_eq_true rfl) (E_292 (Nat.le_trans (by decide) hd) e_q3) rfl ?_
          refine Ex.ifc rfl rfl (fun (c0 : q3.1 = 0) => ?_) (fun (c0 : ¬ (q3.1 = 0)) => ?_)
          · rw [if_pos c0] at hf
            exact Ex.weak (sm_le_n (sm_le_n (sm_le_n (sm_le_n (sm_le_s sm_le_nil))))) (B_297_147 hd  hf hs)
          · rw [if_neg c0] at hf
            refine Ex.seg 1 (pc' := 129) (lc' := [some (.ref 67), some (.int y1), some (.int y2), some (.int y3), none]) (st' := [.int y3]) (h' := q3.2) (sg1 rfl rfl rfl) ?_
            refine Ex.ifc rfl rfl (fun (c0 : ¬ (y3 = 0)) => ?_) (fun (c0 : ¬ ¬ (y3 = 0)) => ?_)
            · rw [if_neg c0] at hf
              exact Ex.weak (sm_le_n (sm_le_n (sm_le_n (sm_le_n (sm_le_s sm_le_nil))))) (B_297_143 hd  hf hs)
            · rw [if_pos (Classical.not_not.mp c0)] at hf
              refine Ex.seg 4 (pc' := 137) (lc' := [some (.ref 67), some (.int y1), some (.int y2), some (.int y3), none]) (st' := [.int y2, .int (y1 - 8)]) (h' := q3.2) (sg1 rfl rfl (sg1 rfl rfl (sg1 rfl rfl (sg1 rfl rfl rfl)))) ?_
              obtain ⟨q4, e_q4, hf⟩ := bnd hf
              refine Ex.callS (As := [.int (y1 - 8), .int y2]) (r := []) (v := some (.int q4.1)) (h' := q4.2) rfl rfl rfl rfl (Nat.le_of_ble_eq_true rfl) (E_296 (Nat.le_trans (by decide) hd) e_q4) rfl ?_
              refine Ex.ifc rfl rfl (fun (c0 : q4.1 = 0) => ?_) (fun (c0 : ¬ (q4.1 = 0)) => ?_)
              · rw [if_pos c0] at hf
                exact Ex.weak (sm_le_n (sm_le_n (sm_le_n (sm_le_n (sm_le_s sm_le_nil))))) (B_297_147 hd  hf hs)
              · rw [if_neg c0] at hf
                exact Ex.weak (sm_le_n (sm_le_n (sm_le_n (sm_le_n (sm_le_s sm_le_nil))))) (B_297_143 hd  hf hs)
        · rw [if_pos (Classical.not_not.mp c0)] at hf
          refine Ex.seg 1 (pc' := 91) (lc' := [some (.ref 67), some (.int y1), some (.int y2), some (.int y3), none]) (st' := [.int y3]) (h' := q2.2) (sg1 rfl rfl rfl) ?_
          refine Ex.ifc rfl rfl (fun (c0 : ¬ (y3 = 0)) => ?_) (fun (c0 : ¬ ¬ (y3 = 0)) => ?_)
          · rw [if_neg c0] at hf
            exact Ex.weak (sm_le_n (sm_le_n (sm_le_n (sm_le_n (sm_le_s sm_le_nil))))) (B_297_115 hd  hf hs)
          · rw [if_pos (Classical.not_not.mp c0)] at hf
            refine Ex.seg 2 (pc' := 96) (lc' := [some (.ref 67), some (.int y1), some (.int y2), some (.int y3), none]) (st' := [.int 2, .int y2]) (h' := q2.2) (sg1 rfl rfl (sg1 rfl rfl rfl)) ?_
            refine Ex.icmp rfl rfl (fun (c0 : y2 = 2) => ?_) (fun (c0 : ¬ (y2 = 2)) => ?_)
            · rw [if_pos c0] at hf
              exact Ex.weak (sm_le_n (sm_le_n (sm_le_n (sm_le_n (sm_le_s sm_le_nil))))) (B_297_115 hd  hf hs)
            · rw [if_neg c0] at hf
              refine Ex.seg 2 (pc' := 101) (lc' := [some (.ref 67), some (.int y1), some (.int y2), some (.int y3), none]) (st' := [.int 3, .int y2]) (h' := q2.2) (sg1 rfl rfl (sg1 rfl rfl rfl)) ?_
              refine Ex.icmp rfl rfl (fun (c0 : y2 = 3) => ?_) (fun (c0 : ¬ (y2 = 3)) => ?_)
              · rw [if_pos c0] at hf
                exact Ex.weak (sm_le_n (sm_le_n (sm_le_n (sm_le_n (sm_le_s sm_le_nil))))) (B_297_115 hd  hf hs)
              · rw [if_neg c0] at hf
                refine Ex.seg 2 (pc' := 106) (lc' := [some (.ref 67), some (.int y1), some (.int y2), some (.int y3), none]) (st' := [.int 5, .int y2]) (h' := q2.2) (sg1 rfl rfl (sg1 rfl rfl rfl)) ?_
                refine Ex.icmp rfl rfl (fun (c0 : y2 = 5) => ?_) (fun (c0 : ¬ (y2 = 5)) => ?_)
                · rw [if_pos c0] at hf
                  exact Ex.weak (sm_le_n (sm_le_n (sm_le_n (sm_le_n (sm_le_s sm_le_nil))))) (B_297_115 hd  hf hs)
                · rw [if_neg c0] at hf
                  refine Ex.seg 2 (pc' := 112) (lc' := [some (.ref 67), some (.int y1), some (.int y2), some (.int y3), none]) (st' := [.int 6, .int y2]) (h' := q2.2) (sg1 rfl rfl (sg1 rfl rfl rfl)) ?_
                  refine Ex.icmp rfl rfl (fun (c0 : ¬ (y2 = 6)) => ?_) (fun (c0 : ¬ ¬ (y2 = 6)) => ?_)
                  · rw [if_neg c0] at hf
                    refine Ex.seg 1 (pc' := 120) (lc' := [some (.ref 67), some (.int y1), some (.int y2), some (.int y3), none]) (st' := [.int 0]) (h' := q2.2) (sg1 rfl rfl rfl) ?_
                    exact Ex.weak (sm_le_n (sm_le_n (sm_le_n (sm_le_n (sm_le_s sm_le_nil))))) (B_297_120 hd  hf hs)
                  · rw [if_pos (Classical.not_not.mp c0)] at hf
                    exact Ex.weak (sm_le_n (sm_le_n (sm_le_n (sm_le_n (sm_le_s sm_le_nil))))) (B_297_115 hd  hf hs)
      · rw [if_pos (Classical.not_not.mp c0)] at hf
        refine Ex.seg 1 (pc' := 83) (lc' := [some (.ref 67), some (.int y1), some (.int y2), some (.int y3), none]) (st' := [.int 1]) (h' := q2.2) (sg1 rfl rfl rfl) ?_
        obtain rfl := Option.some.inj hf
        exact Ex.iret rfl rfl (fun _ => by decide) hs
    · rw [if_neg c0] at hf
      refine Ex.seg 1 (pc' := 75) (lc' := [some (.ref 67), some (.int y1), some (.int y2), some (.int y3), none]) (st' := [.int 1]) (h' := q2.2) (sg1 rfl rfl rfl) ?_
      obtain rfl := Option.some.inj hf
      exact Ex.iret rfl rfl (fun _ => by decide) hs
  · rw [if_neg c0] at hf
    refine Ex.seg 5 (pc' := 63) (lc' := [some (.ref 67), some (.int y1), some (.int y2), some (.int y3), none]) (st' := [.int y2, .int (y1 + 8), .ref 67]) (h' := q1.2) (sg1 rfl rfl (sg1 rfl rfl (sg1 rfl rfl (sg1 rfl rfl (sg1 rfl rfl rfl))))) ?_
    obtain ⟨q5, e_q5, hf⟩ := bnd hf
    refine Ex.callV (a := 67) (As := [.int (y1 + 8), .int y2]) (r := []) (v := some (.int q5.1)) (h' := q5.2) rfl rfl (by decide) rfl (Nat.le_of_ble_eq_true rfl) rfl (E_295 (Nat.le_trans (by decide) hd) e_q5) rfl ?_
    rcases Classical.em (q5.1 = 0 ∨ q5.1 = 1) with c0 | c0
    · rw [if_pos c0] at hf
      obtain rfl := Option.some.inj hf
      exact Ex.iret rfl rfl (fun _ => c0) hs
    · rw [if_neg c0] at hf
      cases hf
theorem B_297_49 {L : Nat} {xs : Nat → Int32} {d : Nat} (hd : 2 ≤ d) {res : Option Value × sm_H} {z0 : Int32}  {h : sm_H} {r : (Int32 × sm_H)} (hf : F_297_49 z0 h = some r) (hs : (fun (r : Int32 × sm_H) => res = (some (.int r.1), r.2)) r) : Ex (P_G L xs) (RUN L xs d) (sm_lk P_t297) 3 49 [none, none, none, none, none] [.int z0] h res := by
  unfold F_297_49 at hf
  rcases Classical.em (z0 = 0 ∨ z0 = 1) with c0 | c0
  · rw [if_pos c0] at hf
    obtain rfl := Option.some.inj hf
    exact Ex.iret rfl rfl (fun _ => c0) hs
  · rw [if_neg c0] at hf
    cases hf
theorem B_297_44 {L : Nat} {xs : Nat → Int32} {d : Nat} (hd : 2 ≤ d) {res : Option Value × sm_H}   {h : sm_H} {r : (Int32 × sm_H)} (hf : F_297_44  h = some r) (hs : (fun (r : Int32 × sm_H) => res = (some (.int r.1), r.2)) r) : Ex (P_G L xs) (RUN L xs d) (sm_lk P_t297) 3 44 [none, none, none, none, none] [] h res := by
  unfold F_297_44 at hf
  refine Ex.seg 2 (pc' := 49) (lc' := [none, none, none, none, none]) (st' := [.int 1]) (h' := h) (sg1 rfl rfl (sg1 rfl rfl rfl)) ?_
  exact Ex.weak (sm_le_s (sm_le_s (sm_le_s (sm_le_s (sm_le_s sm_le_nil))))) (B_297_49 hd  hf hs)
theorem B_297_15 {L : Nat} {xs : Nat → Int32} {d : Nat} (hd : 2 ≤ d) {res : Option Value × sm_H} {y4 : Int32}  {h : sm_H} {r : (Int32 × sm_H)} (hf : F_297_15 y4 h = some r) (hs : (fun (r : Int32 × sm_H) => res = (some (.int r.1), r.2)) r) : Ex (P_G L xs) (RUN L xs d) (sm_lk P_t297) 3 15 [none, none, none, none, some (.int y4)] [] h res := by
  unfold F_297_15 at hf
  refine Ex.seg 1 (pc' := 17) (lc' := [none, none, none, none, some (.int y4)]) (st' := [.int y4]) (h' := h) (sg1 rfl rfl rfl) ?_
  rcases Classical.em (y4 = 0 ∨ y4 = 1) with c0 | c0
  · rw [if_pos c0] at hf
    obtain rfl := Option.some.inj hf
    exact Ex.iret rfl rfl (fun _ => c0) hs
  · rw [if_neg c0] at hf
    cases hf
theorem B_297_0 {L : Nat} {xs : Nat → Int32} {d : Nat} (hd : 2 ≤ d) {res : Option Value × sm_H} {x1 : Int32} {x2 : Int32} {x3 : Int32} {x4 : Int32}  {h : sm_H} {r : (Int32 × sm_H)} (hf : F_297_0 x1 x2 x3 x4 h = some r) (hs : (fun (r : Int32 × sm_H) => res = (some (.int r.1), r.2)) r) : Ex (P_G L xs) (RUN L xs d) (sm_lk P_t297) 3 0 [some (.ref 67), some (.int x1), some (.int x2), some (.int x3), some (.int x4)] [] h res := by
  unfold F_297_0 at hf
  refine Ex.seg 2 (pc' := 2) (lc' := [some (.ref 67), some (.int x1), some (.int x2), some (.int x3), some (.int x4)]) (st' := [.int x2, .int x1]) (h' := h) (sg1 rfl rfl (sg1 rfl rfl rfl)) ?_
  refine Ex.icmp rfl rfl (fun (c0 : ¬ (x1 = x2)) => ?_) (fun (c0 : ¬ ¬ (x1 = x2)) => ?_)
  · rw [if_neg c0] at hf
    refine Ex.seg 1 (pc' := 8) (lc' := [some (.ref 67), some (.int x1), some (.int x2), some (.int x3), some (.int x4)]) (st' := [.int x1]) (h' := h) (sg1 rfl rfl rfl) ?_
    refine Ex.ifc rfl rfl (fun (c0 : x1 = 0) => ?_) (fun (c0 : ¬ (x1 = 0)) => ?_)
    · rw [if_pos c0] at hf
      exact Ex.weak (sm_le_n (sm_le_n (sm_le_n (sm_le_n (sm_le_s sm_le_nil))))) (B_297_15 hd  hf hs)
    · rw [if_neg c0] at hf
      refine Ex.seg 1 (pc' := 12) (lc' := [some (.ref 67), some (.int x1), some (.int x2), some (.int x3), some (.int x4)]) (st' := [.int x2]) (h' := h) (sg1 rfl rfl rfl) ?_
      refine Ex.ifc rfl rfl (fun (c0 : ¬ (x2 = 0)) => ?_) (fun (c0 : ¬ ¬ (x2 = 0)) => ?_)
      · rw [if_neg c0] at hf
        refine Ex.seg 1 (pc' := 19) (lc' := [some (.ref 67), some (.int x1), some (.int x2), some (.int x3), some (.int x4)]) (st' := [.int x1]) (h' := h) (sg1 rfl rfl rfl) ?_
        obtain ⟨q6, e_q6, hf⟩ := bnd hf
        refine Ex.callS (As := [.int x1]) (r := []) (v := some (.int q6.1)) (h' := q6.2) rfl rfl rfl rfl (Nat.le_of_ble_eq_true rfl) (E_290 (Nat.le_trans (by decide) hd) e_q6) rfl ?_
        refine Ex.ifc rfl rfl (fun (c0 : q6.1 = 0) => ?_) (fun (c0 : ¬ (q6.1 = 0)) => ?_)
        · rw [if_pos c0] at hf
          exact Ex.weak (sm_le_s (sm_le_s (sm_le_s (sm_le_s (sm_le_n sm_le_nil))))) (B_297_50 hd  hf hs)
        · rw [if_neg c0] at hf
          refine Ex.seg 1 (pc' := 26) (lc' := [some (.ref 67), some (.int x1), some (.int x2), some (.int x3), some (.int x4)]) (st' := [.int x2]) (h' := q6.2) (sg1 rfl rfl rfl) ?_
          obtain ⟨q7, e_q7, hf⟩ := bnd hf
          refine Ex.callS (As := [.int x2]) (r := []) (v := some (.int q7.1)) (h' := q7.2) rfl rfl rfl rfl (Nat.le_of_ble_eq_true rfl) (E_290 (Nat.le_trans (by decide) hd) e_q7) rfl ?_
          refine Ex.ifc rfl rfl (fun (c0 : q7.1 = 0) => ?_) (fun (c0 : ¬ (q7.1 = 0)) => ?_)
          · rw [if_pos c0] at hf
            exact Ex.weak (sm_le_s (sm_le_s (sm_le_s (sm_le_s (sm_le_n sm_le_nil))))) (B_297_50 hd  hf hs)
          · rw [if_neg c0] at hf
            refine Ex.seg 1 (pc' := 33) (lc' := [some (.ref 67), some (.int x1), some (.int x2), some (.int x3), some (.int x4)]) (st' := [.int x3]) (h' := q7.2) (sg1 rfl rfl rfl) ?_
            refine Ex.ifc rfl rfl (fun (c0 : ¬ (x3 = 0)) => ?_) (fun (c0 : ¬ ¬ (x3 = 0)) => ?_)
            · rw [if_neg c0] at hf
              exact Ex.weak (sm_le_n (sm_le_n (sm_le_n (sm_le_n (sm_le_n sm_le_nil))))) (B_297_44 hd  hf hs)
            · rw [if_pos (Classical.not_not.mp c0)] at hf
              refine Ex.seg 2 (pc' := 38) (lc' := [some (.ref 67), some (.int x1), some (.int x2), some (.int x3), some (.int x4)]) (st' := [.int x2, .int x1]) (h' := q7.2) (sg1 rfl rfl (sg1 rfl rfl rfl)) ?_
              obtain ⟨q8, e_q8, hf⟩ := bnd hf
              refine Ex.callS (As := [.int x1, .int x2]) (r := []) (v := some (.int q8.1)) (h' := q8.2) rfl rfl rfl rfl (Nat.le_of_ble_eq_true rfl) (E_296 (Nat.le_trans (by decide) hd) e_q8) rfl ?_
              refine Ex.ifc rfl rfl (fun (c0 : q8.1 = 0) => ?_) (fun (c0 : ¬ (q8.1 = 0)) => ?_)
              · rw [if_pos c0] at hf
                refine Ex.seg 1 (pc' := 49) (lc' := [some (.ref 67), some (.int x1), some (.int x2), some (.int x3), some (.int x4)]) (st' := [.int 0]) (h' := q8.2) (sg1 rfl rfl rfl) ?_
                exact Ex.weak (sm_le_n (sm_le_n (sm_le_n (sm_le_n (sm_le_n sm_le_nil))))) (B_297_49 hd  hf hs)
              · rw [if_neg c0] at hf
                exact Ex.weak (sm_le_n (sm_le_n (sm_le_n (sm_le_n (sm_le_n sm_le_nil))))) (B_297_44 hd  hf hs)
      · rw [if_pos (Classical.not_not.mp c0)] at hf
        exact Ex.weak (sm_le_n (sm_le_n (sm_le_n (sm_le_n (sm_le_s sm_le_nil))))) (B_297_15 hd  hf hs)
  · rw [if_pos (Classical.not_not.mp c0)] at hf
    refine Ex.seg 1 (pc' := 6) (lc' := [some (.ref 67), some (.int x1), some (.int x2), some (.int x3), some (.int x4)]) (st' := [.int 1]) (h' := h) (sg1 rfl rfl rfl) ?_
    obtain rfl := Option.some.inj hf
    exact Ex.iret rfl rfl (fun _ => by decide) hs
theorem E_297 {L : Nat} {xs : Nat → Int32} {d : Nat} (hd : 3 ≤ d) {x1 : Int32} {x2 : Int32} {x3 : Int32} {x4 : Int32} {h : sm_H} {r : Int32 × sm_H} (hf : F_297 x1 x2 x3 x4 h = some r) : RUN L xs d 297 [.ref 67, .int x1, .int x2, .int x3, .int x4] h (some (.int r.1), r.2) := by
  obtain ⟨d, rfl⟩ : ∃ e, d = e + 1 := ⟨d - 1, by omega⟩
  exact ⟨Nat.le_of_ble_eq_true rfl, B_297_0 (by omega) hf rfl⟩
theorem B_298_0 {L : Nat} {xs : Nat → Int32} {d : Nat} (hd : 0 ≤ d) {res : Option Value × sm_H} {x0 : Int32} {x1 : Int64}  {h : sm_H} {r : (Int64 × sm_H)} (hf : F_298_0 x0 x1 h = some r) (hs : (fun (r : Int64 × sm_H) => res = (some (.long r.1), r.2)) r) : Ex (P_G L xs) (RUN L xs d) (sm_lk P_t298) 0 0 [some (.int x0), some (.long x1), none] [] h res := by
  unfold F_298_0 at hf
  refine Ex.seg 1 (pc' := 1) (lc' := [some (.int x0), some (.long x1), none]) (st' := [.int x0]) (h' := h) (sg1 rfl rfl rfl) ?_
  rcases Classical.em (x0 = 1) with n1 | n1
  · rw [if_pos n1] at hf
    refine Ex.swt (t := 36) rfl rfl (by rw [n1]; exact Or.inr ⟨by decide, by decide, _, rfl, by decide⟩) ?_
    refine Ex.seg 3 (pc' := 39) (lc' := [some (.int x0), some (.long x1), none]) (st' := [.long (x1 &&& 1)]) (h' := h) (sg1 rfl rfl (sg1 rfl rfl (sg1 rfl rfl rfl))) ?_
    obtain rfl := Option.some.inj hf
    exact Ex.lret rfl rfl hs
  rw [if_neg n1] at hf
  rcases Classical.em (x0 = 2) with n2 | n2
  · rw [if_pos n2] at hf
    refine Ex.swt (t := 40) rfl rfl (by rw [n2]; exact Or.inr ⟨by decide, by decide, _, rfl, by decide⟩) ?_
    refine Ex.seg 4 (pc' := 44) (lc' := [some (.int x0), some (.long x1), none]) (st' := [.long (Int32.toInt64 (Int32.toInt8 (Int64.toInt32 x1)).toInt32)]) (h' := h) (sg1 rfl rfl (sg1 rfl rfl (sg1 rfl rfl (sg1 rfl rfl rfl)))) ?_
    obtain rfl := Option.some.inj hf
    exact Ex.lret rfl rfl hs
  rw [if_neg n2] at hf
  rcases Classical.em (x0 = 3) with n3 | n3
  · rw [if_pos n3] at hf
    refine Ex.swt (t := 45) rfl rfl (by rw [n3]; exact Or.inr ⟨by decide, by decide, _, rfl, by decide⟩) ?_
    refine Ex.seg 4 (pc' := 49) (lc' := [some (.int x0), some (.long x1), none]) (st' := [.long (Int32.toInt64 (Int32.toInt16 (Int64.toInt32 x1)).toInt32)]) (h' := h) (sg1 rfl rfl (sg1 rfl rfl (sg1 rfl rfl (sg1 rfl rfl rfl)))) ?_
    obtain rfl := Option.some.inj hf
    exact Ex.lret rfl rfl hs
  rw [if_neg n3] at hf
  rcases Classical.em (x0 = 4) with n4 | n4
  · rw [if_pos n4] at hf
    refine Ex.swt (t := 50) rfl rfl (by rw [n4]; exact Or.inr ⟨by decide, by decide, _, rfl, by decide⟩) ?_
    refine Ex.seg 3 (pc' := 55) (lc' := [some (.int x0), some (.long x1), none]) (st' := [.long (x1 &&& 65535)]) (h' := h) (sg1 rfl rfl (sg1 rfl rfl (sg1 rfl rfl rfl))) ?_
    obtain rfl := Option.some.inj hf
    exact Ex.lret rfl rfl hs
  rw [if_neg n4] at hf
  rcases Classical.em (x0 = 5) with n5 | n5
  · rw [if_pos n5] at hf
    refine Ex.swt (t := 56) rfl rfl (by rw [n5]; exact Or.inr ⟨by decide, by decide, _, rfl, by decide⟩) ?_
    refine Ex.seg 3 (pc' := 59) (lc' := [some (.int x0), some (.long x1), none]) (st' := [.long (Int32.toInt64 (Int64.toInt32 x1))]) (h' := h) (sg1 rfl rfl (sg1 rfl rfl (sg1 rfl rfl rfl))) ?_
    obtain rfl := Option.some.inj hf
    exact Ex.lret rfl rfl hs
  rw [if_neg n5] at hf
  refine Ex.swt (t := 60) rfl rfl (sw_dflt (by decide) (by decide) (fun k hk he => ?_)) ?_
  · have hk : k < 5 := hk
    rcases (show k = 0 ∨ k = 1 ∨ k = 2 ∨ k = 3 ∨ k = 4 by omega) with rfl | rfl | rfl | rfl | rfl
    · exact absurd (Int32.toInt_inj.mp (he.symm.trans (by decide : (_ : Int) = Int32.toInt 1))) n1
    · exact absurd (Int32.toInt_inj.mp (he.symm.trans (by decide : (_ : Int) = Int32.toInt 2))) n2
    · exact absurd (Int32.toInt_inj.mp (he.symm.trans (by decide : (_ : Int) = Int32.toInt 3))) n3
    · exact absurd (Int32.toInt_inj.mp (he.symm.trans (by decide : (_ : Int) = Int32.toInt 4))) n4
    · exact absurd (Int32.toInt_inj.mp (he.symm.trans (by decide : (_ : Int) = Int32.toInt 5))) n5
  refine Ex.seg 1 (pc' := 61) (lc' := [some (.int x0), some (.long x1), none]) (st' := [.long x1]) (h' := h) (sg1 rfl rfl rfl) ?_
  obtain rfl := Option.some.inj hf
  exact Ex.lret rfl rfl hs
theorem E_298 {L : Nat} {xs : Nat → Int32} {d : Nat} (hd : 1 ≤ d) {x0 : Int32} {x1 : Int64} {h : sm_H} {r : Int64 × sm_H} (hf : F_298 x0 x1 h = some r) : RUN L xs d 298 [.int x0, .long x1] h (some (.long r.1), r.2) := by
  obtain ⟨d, rfl⟩ : ∃ e, d = e + 1 := ⟨d - 1, by omega⟩
  exact ⟨Nat.le_of_ble_eq_true rfl, B_298_0 (by omega) hf rfl⟩
theorem B_299_13 {L : Nat} {xs : Nat → Int32} {d : Nat} (hd : 1 ≤ d) {res : Option Value × sm_H} {z1 : Int32}  {h : sm_H} {r : (sm_H)} (hf : F_299_13 z1 h = some r) (hs : (fun (r : sm_H) => res = (none, r)) r) : Ex (P_G L xs) (RUN L xs d) (sm_lk P_t299) 0 13 [some (.ref 67), none] [.int z1, .ref 67] h res := by
  unfold F_299_13 at hf
  refine Ex.seg 1 (pc' := 16) (lc' := [some (.ref 67), none]) (st' := []) (h' := (sm_wI h 67 48 z1)) (sg1 rfl rfl rfl) ?_
  obtain ⟨h1, e_h1, hf⟩ := bnd hf
  rw [Option.some.inj e_h1]
  refine Ex.seg 3 (pc' := 21) (lc' := [some (.ref 67), none]) (st' := []) (h' := (sm_wJ h1 67 49 0)) (sg1 rfl rfl (sg1 rfl rfl (sg1 rfl rfl rfl))) ?_
  obtain ⟨h2, e_h2, hf⟩ := bnd hf
  rw [Option.some.inj e_h2]
  obtain rfl := Option.some.inj hf
  exact Ex.vret rfl rfl hs
theorem B_299_0 {L : Nat} {xs : Nat → Int32} {d : Nat} (hd : 1 ≤ d) {res : Option Value × sm_H} {x1 : Int32}  {h : sm_H} {r : (sm_H)} (hf : F_299_0 x1 h = some r) (hs : (fun (r : sm_H) => res = (none, r)) r) : Ex (P_G L xs) (RUN L xs d) (sm_lk P_t299) 0 0 [some (.ref 67), some (.int x1)] [] h res := by
  unfold F_299_0 at hf
  refine Ex.seg 2 (pc' := 2) (lc' := [some (.ref 67), some (.int x1)]) (st' := [.int x1, .ref 67]) (h' := h) (sg1 rfl rfl (sg1 rfl rfl rfl)) ?_
  obtain ⟨q3, e_q3, hf⟩ := bnd hf
  refine Ex.callS (As := [.int x1]) (r := [.ref 67]) (v := some (.int q3.1)) (h' := q3.2) rfl rfl rfl rfl (Nat.le_of_ble_eq_true rfl) (E_290 (Nat.le_trans (by decide) hd) e_q3) rfl ?_
  refine Ex.ifc rfl rfl (fun (c0 : q3.1 = 0) => ?_) (fun (c0 : ¬ (q3.1 = 0)) => ?_)
  · rw [if_pos c0] at hf
    refine Ex.seg 1 (pc' := 13) (lc' := [some (.ref 67), some (.int x1)]) (st' := [.int 0, .ref 67]) (h' := q3.2) (sg1 rfl rfl rfl) ?_
    exact Ex.weak (sm_le_s (sm_le_n sm_le_nil)) (B_299_13 hd  hf hs)
  · rw [if_neg c0] at hf
    refine Ex.seg 2 (pc' := 13) (lc' := [some (.ref 67), some (.int x1)]) (st' := [.int x1, .ref 67]) (h' := q3.2) (sg1 rfl rfl (sg1 rfl rfl rfl)) ?_
    exact Ex.weak (sm_le_s (sm_le_n sm_le_nil)) (B_299_13 hd  hf hs)
theorem E_299 {L : Nat} {xs : Nat → Int32} {d : Nat} (hd : 2 ≤ d) {x1 : Int32} {h : sm_H} {r : sm_H} (hf : F_299 x1 h = some r) : RUN L xs d 299 [.ref 67, .int x1] h (none, r) := by
  obtain ⟨d, rfl⟩ : ∃ e, d = e + 1 := ⟨d - 1, by omega⟩
  exact ⟨Nat.le_of_ble_eq_true rfl, B_299_0 (by omega) hf rfl⟩
theorem B_300_191 {L : Nat} {xs : Nat → Int32} {d : Nat} (hd : 2 ≤ d) {res : Option Value × sm_H} {z1 : Int64}  {h : sm_H} {r : (Int32 × sm_H)} (hf : F_300_191 z1 h = some r) (hs : (fun (r : Int32 × sm_H) => res = (some (.int r.1), r.2)) r) : Ex (P_G L xs) (RUN L xs d) (sm_lk P_t300) 0 191 [none, none, none, none, none, none, none] [.long z1, .ref 67] h res := by
  unfold F_300_191 at hf
  refine Ex.seg 1 (pc' := 194) (lc' := [none, none, none, none, none, none, none]) (st' := []) (h' := (sm_wJ h 67 49 z1)) (sg1 rfl rfl rfl) ?_
  obtain ⟨h1, e_h1, hf⟩ := bnd hf
  rw [Option.some.inj e_h1]
  refine Ex.seg 1 (pc' := 195) (lc' := [none, none, none, none, none, none, none]) (st' := [.int 0]) (h' := h1) (sg1 rfl rfl rfl) ?_
  obtain rfl := Option.some.inj hf
  exact Ex.iret rfl rfl (fun c0 => by cases c0) hs
theorem B_300_169 {L : Nat} {xs : Nat → Int32} {d : Nat} (hd : 2 ≤ d) {res : Option Value × sm_H} {y2 : Int32} {y4 : Int64} {y6 : Int32}  {h : sm_H} {r : (Int32 × sm_H)} (hf : F_300_169 y2 y4 y6 h = some r) (hs : (fun (r : Int32 × sm_H) => res = (some (.int r.1), r.2)) r) : Ex (P_G L xs) (RUN L xs d) (sm_lk P_t300) 0 169 [some (.ref 67), none, some (.int y2), none, some (.long y4), none, some (.int y6)] [] h res := by
  unfold F_300_169 at hf
  refine Ex.seg 3 (pc' := 174) (lc' := [some (.ref 67), none, some (.int y2), none, some (.long y4), none, some (.int y6)]) (st' := []) (h' := (sm_wI h 67 48 y2)) (sg1 rfl rfl (sg1 rfl rfl (sg1 rfl rfl rfl))) ?_
  obtain ⟨h2, e_h2, hf⟩ := bnd hf
  rw [Option.some.inj e_h2]
  refine Ex.seg 2 (pc' := 177) (lc' := [some (.ref 67), none, some (.int y2), none, some (.long y4), none, some (.int y6)]) (st' := [.int y6, .ref 67]) (h' := h2) (sg1 rfl rfl (sg1 rfl rfl rfl)) ?_
  refine Ex.ifc rfl rfl (fun (c0 : y6 = 0) => ?_) (fun (c0 : ¬ (y6 = 0)) => ?_)
  · rw [if_pos c0] at hf
    refine Ex.seg 1 (pc' := 191) (lc' := [some (.ref 67), none, some (.int y2), none, some (.long y4), none, some (.int y6)]) (st' := [.long y4, .ref 67]) (h' := h2) (sg1 rfl rfl rfl) ?_
    exact Ex.weak (sm_le_n (sm_le_s (sm_le_n (sm_le_s (sm_le_n (sm_le_s (sm_le_n sm_le_nil))))))) (B_300_191 hd  hf hs)
  · rw [if_neg c0] at hf
    refine Ex.seg 2 (pc' := 183) (lc' := [some (.ref 67), none, some (.int y2), none, some (.long y4), none, some (.int y6)]) (st' := [.long y4, .int y2, .ref 67]) (h' := h2) (sg1 rfl rfl (sg1 rfl rfl rfl)) ?_
    obtain ⟨q3, e_q3, hf⟩ := bnd hf
    refine Ex.callS (As := [.int y2, .long y4]) (r := [.ref 67]) (v := some (.long q3.1)) (h' := q3.2) rfl rfl rfl rfl (Nat.le_of_ble_eq_true rfl) (E_298 (Nat.le_trans (by decide) hd) e_q3) rfl ?_
    refine Ex.seg 1 (pc' := 191) (lc' := [some (.ref 67), none, some (.int y2), none, some (.long y4), none, some (.int y6)]) (st' := [.long q3.1, .ref 67]) (h' := q3.2) (sg1 rfl rfl rfl) ?_
    exact Ex.weak (sm_le_n (sm_le_s (sm_le_n (sm_le_s (sm_le_n (sm_le_s (sm_le_n sm_le_nil))))))) (B_300_191 hd  hf hs)
theorem B_300_167 {L : Nat} {xs : Nat → Int32} {d : Nat} (hd : 2 ≤ d) {res : Option Value × sm_H}   {h : sm_H} {r : (Int32 × sm_H)} (hf : F_300_167  h = some r) (hs : (fun (r : Int32 × sm_H) => res = (some (.int r.1), r.2)) r) : Ex (P_G L xs) (RUN L xs d) (sm_lk P_t300) 0 167 [none, none, none, none, none, none, none] [] h res := by
  unfold F_300_167 at hf
  refine Ex.seg 1 (pc' := 168) (lc' := [none, none, none, none, none, none, none]) (st' := [.int 2]) (h' := h) (sg1 rfl rfl rfl) ?_
  obtain rfl := Option.some.inj hf
  exact Ex.iret rfl rfl (fun c0 => by cases c0) hs
theorem B_300_143 {L : Nat} {xs : Nat → Int32} {d : Nat} (hd : 2 ≤ d) {res : Option Value × sm_H} {z0 : Int32}  {h : sm_H} {r : (Int32 × sm_H)} (hf : F_300_143 z0 h = some r) (hs : (fun (r : Int32 × sm_H) => res = (some (.int r.1), r.2)) r) : Ex (P_G L xs) (RUN L xs d) (sm_lk P_t300) 0 143 [none, none, none, none, none, none, none] [.int z0] h res := by
  unfold F_300_143 at hf
  obtain rfl := Option.some.inj hf
  exact Ex.iret rfl rfl (fun c0 => by cases c0) hs
theorem B_300_123 {L : Nat} {xs : Nat → Int32} {d : Nat} (hd : 2 ≤ d) {res : Option Value × sm_H} {z0 : Int32}  {h : sm_H} {r : (Int32 × sm_H)} (hf : F_300_123 z0 h = some r) (hs : (fun (r : Int32 × sm_H) => res = (some (.int r.1), r.2)) r) : Ex (P_G L xs) (RUN L xs d) (sm_lk P_t300) 0 123 [none, none, none, none, none, none, none] [.int z0] h res := by
  unfold F_300_123 at hf
  obtain rfl := Option.some.inj hf
  exact Ex.iret rfl rfl (fun c0 => by cases c0) hs
theorem B_300_122 {L : Nat} {xs : Nat → Int32} {d : Nat} (hd : 2 ≤ d) {res : Option Value × sm_H}   {h : sm_H} {r : (Int32 × sm_H)} (hf : F_300_122  h = some r) (hs : (fun (r : Int32 × sm_H) => res = (some (.int r.1), r.2)) r) : Ex (P_G L xs) (RUN L xs d) (sm_lk P_t300) 0 122 [none, none, none, none, none, none, none] [] h res := by
  unfold F_300_122 at hf
  refine Ex.seg 1 (pc' := 123) (lc' := [none, none, none, none, none, none, none]) (st' := [.int 0]) (h' := h) (sg1 rfl rfl rfl) ?_
  exact Ex.weak (sm_le_s (sm_le_s (sm_le_s (sm_le_s (sm_le_s (sm_le_s (sm_le_s sm_le_nil))))))) (B_300_123 hd  hf hs)
theorem B_300_81 {L : Nat} {xs : Nat → Int32} {d : Nat} (hd : 2 ≤ d) {res : Option Value × sm_H} {y1 : Int32} {y2 : Int32} {y3 : Int32} {y4 : Int64} {y6 : Int32}  {h : sm_H} {r : (Int32 × sm_H)} (hf : F_300_81 y1 y2 y3 y4 y6 h = some r) (hs : (fun (r : Int32 × sm_H) => res = (some (.int r.1), r.2)) r) : Ex (P_G L xs) (RUN L xs d) (sm_lk P_t300) 0 81 [some (.ref 67), some (.int y1), some (.int y2), some (.int y3), some (.long y4), none, some (.int y6)] [] h res := by
  unfold F_300_81 at hf
  refine Ex.seg 1 (pc' := 82) (lc' := [some (.ref 67), some (.int y1), some (.int y2), some (.int y3), some (.long y4), none, some (.int y6)]) (st' := [.int y1]) (h' := h) (sg1 rfl rfl rfl) ?_
  obtain ⟨q4, e_q4, hf⟩ := bnd hf
  refine Ex.callS (As := [.int y1]) (r := []) (v := some (.int q4.1)) (h' := q4.2) rfl rfl rfl rfl (Nat.le_of_ble_eq_true rfl) (E_290 (Nat.le_trans (by decide) hd) e_q4) rfl ?_
  refine Ex.ifc rfl rfl (fun (c0 : q4.1 = 0) => ?_) (fun (c0 : ¬ (q4.1 = 0)) => ?_)
  · rw [if_pos c0] at hf
    refine Ex.seg 1 (pc' := 99) (lc' := [some (.ref 67), some (.int y1), some (.int y2), some (.int y3), some (.long y4), none, some (.int y6)]) (st' := [.int y2]) (h' := q4.2) (sg1 rfl rfl rfl) ?_
    obtain ⟨q5, e_q5, hf⟩ := bnd hf
    refine Ex.callS (As := [.int y2]) (r := []) (v := some (.int q5.1)) (h' := q5.2) rfl rfl rfl rfl (Nat.le_of_ble_eq_true rfl) (E_291 (Nat.le_trans (by decide) hd) e_q5) rfl ?_
    refine Ex.ifc rfl rfl (fun (c0 : q5.1 = 0) => ?_) (fun (c0 : ¬ (q5.1 = 0)) => ?_)
    · rw [if_pos c0] at hf
      refine Ex.seg 1 (pc' := 125) (lc' := [some (.ref 67), some (.int y1), some (.int y2), some (.int y3), some (.long y4), none, some (.int y6)]) (st' := [.int y3]) (h' := q5.2) (sg1 rfl rfl rfl) ?_
      refine Ex.ifc rfl rfl (fun (c0 : ¬ (y3 = 0)) => ?_) (fun (c0 : ¬ ¬ (y3 = 0)) => ?_)
      · rw [if_neg c0] at hf
        refine Ex.seg 1 (pc' := 145) (lc' := [some (.ref 67), some (.int y1), some (.int y2), some (.int y3), some (.long y4), none, some (.int y6)]) (st' := [.int y3]) (h' := q5.2) (sg1 rfl rfl rfl) ?_
        obtain ⟨q6, e_q6, hf⟩ := bnd hf
        refine Ex.callS (As := [.int y3]) (r := []) (v := some (.int q6.1)) (h' := q6.2) rfl rfl rfl rfl (Nat.le_of_ble_eq_true rfl) (E_292 (Nat.le_trans (by decide) hd) e_q6) rfl ?_
        refine Ex.ifc rfl rfl (fun (c0 : q6.1 = 0) => ?_) (fun (c0 : ¬ (q6.1 = 0)) => ?_)
        · rw [if_pos c0] at hf
          exact Ex.weak (sm_le_n (sm_le_n (sm_le_n (sm_le_n (sm_le_n (sm_le_s (sm_le_n sm_le_nil))))))) (B_300_167 hd  hf hs)
        · rw [if_neg c0] at hf
          refine Ex.seg 1 (pc' := 153) (lc' := [some (.ref 67), some (.int y1), some (.int y2), some (.int y3), some (.long y4), none, some (.int y6)]) (st' := [.int y6]) (h' := q6.2) (sg1 rfl rfl rfl) ?_
          refine Ex.ifc rfl rfl (fun (c0 : ¬ (y6 = 0)) => ?_) (fun (c0 : ¬ ¬ (y6 = 0)) => ?_)
          · rw [if_neg c0] at hf
            exact Ex.weak (sm_le_s (sm_le_n (sm_le_s (sm_le_n (sm_le_s (sm_le_s (sm_le_s sm_le_nil))))))) (B_300_169 hd  hf hs)
          · rw [if_pos (Classical.not_not.mp c0)] at hf
            refine Ex.seg 4 (pc' := 161) (lc' := [some (.ref 67), some (.int y1), some (.int y2), some (.int y3), some (.long y4), none, some (.int y6)]) (st' := [.int y2, .int (y3 - 8)]) (h' := q6.2) (sg1 rfl rfl (sg1 rfl rfl (sg1 rfl rfl (sg1 rfl rfl rfl)))) ?_
            obtain ⟨q7, e_q7, hf⟩ := bnd hf
            refine Ex.callS (As := [.int (y3 - 8), .int y2]) (r := []) (v := some (.int q7.1)) (h' := q7.2) rfl rfl rfl rfl (Nat.le_of_ble_eq_true rfl) (E_296 (Nat.le_trans (by decide) hd) e_q7) rfl ?_
            refine Ex.ifc rfl rfl (fun (c0 : ¬ (q7.1 = 0)) => ?_) (fun (c0 : ¬ ¬ (q7.1 = 0)) => ?_)
            · rw [if_neg c0] at hf
              exact Ex.weak (sm_le_s (sm_le_n (sm_le_s (sm_le_n (sm_le_s (sm_le_s (sm_le_s sm_le_nil))))))) (B_300_169 hd  hf hs)
            · rw [if_pos (Classical.not_not.mp c0)] at hf
              exact Ex.weak (sm_le_n (sm_le_n (sm_le_n (sm_le_n (sm_le_n (sm_le_s (sm_le_n sm_le_nil))))))) (B_300_167 hd  hf hs)
      · rw [if_pos (Classical.not_not.mp c0)] at hf
        refine Ex.seg 2 (pc' := 130) (lc' := [some (.ref 67), some (.int y1), some (.int y2), some (.int y3), some (.long y4), none, some (.int y6)]) (st' := [.int y2, .ref 67]) (h' := q5.2) (sg1 rfl rfl (sg1 rfl rfl rfl)) ?_
        obtain ⟨q8, e_q8, hf⟩ := bnd hf
        refine Ex.callV (a := 67) (As := [.int y2]) (r := []) (v := none) (h' := q8) rfl rfl (by decide) rfl (Nat.le_of_ble_eq_true rfl) rfl (E_299 (Nat.le_trans (by decide) hd) e_q8) rfl ?_
        refine Ex.seg 1 (pc' := 135) (lc' := [some (.ref 67), some (.int y1), some (.int y2), some (.int y3), some (.long y4), none, some (.int y6)]) (st' := [.int y6]) (h' := q8) (sg1 rfl rfl rfl) ?_
        refine Ex.ifc rfl rfl (fun (c0 : y6 = 0) => ?_) (fun (c0 : ¬ (y6 = 0)) => ?_)
        · rw [if_pos c0] at hf
          refine Ex.seg 1 (pc' := 143) (lc' := [some (.ref 67), some (.int y1), some (.int y2), some (.int y3), some (.long y4), none, some (.int y6)]) (st' := [.int 1]) (h' := q8) (sg1 rfl rfl rfl) ?_
          exact Ex.weak (sm_le_n (sm_le_n (sm_le_n (sm_le_n (sm_le_n (sm_le_s (sm_le_n sm_le_nil))))))) (B_300_143 hd  hf hs)
        · rw [if_neg c0] at hf
          refine Ex.seg 2 (pc' := 143) (lc' := [some (.ref 67), some (.int y1), some (.int y2), some (.int y3), some (.long y4), none, some (.int y6)]) (st' := [.int 0]) (h' := q8) (sg1 rfl rfl (sg1 rfl rfl rfl)) ?_
          exact Ex.weak (sm_le_n (sm_le_n (sm_le_n (sm_le_n (sm_le_n (sm_le_s (sm_le_n sm_le_nil))))))) (B_300_143 hd  hf hs)
    · rw [if_neg c0] at hf
      refine Ex.seg 1 (pc' := 106) (lc' := [some (.ref 67), some (.int y1), some (.int y2), some (.int y3), some (.long y4), none, some (.int y6)]) (st' := [.int y3]) (h' := q5.2) (sg1 rfl rfl rfl) ?_
      refine Ex.ifc rfl rfl (fun (c0 : y3 = 0) => ?_) (fun (c0 : ¬ (y3 = 0)) => ?_)
      · rw [if_pos c0] at hf
        exact Ex.weak (sm_le_n (sm_le_n (sm_le_n (sm_le_n (sm_le_n (sm_le_s (sm_le_n sm_le_nil))))))) (B_300_122 hd  hf hs)
      · rw [if_neg c0] at hf
        refine Ex.seg 3 (pc' := 112) (lc' := [some (.ref 67), some (.int y1), some (.int y2), some (.int y3), some (.long y4), none, some (.int y6)]) (st' := [.int y2, .int y3, .ref 67]) (h' := q5.2) (sg1 rfl rfl (sg1 rfl rfl (sg1 rfl rfl rfl))) ?_
        obtain ⟨q9, e_q9, hf⟩ := bnd hf
        refine Ex.callV (a := 67) (As := [.int y3, .int y2]) (r := []) (v := some (.int q9.1)) (h' := q9.2) rfl rfl (by decide) rfl (Nat.le_of_ble_eq_true rfl) rfl (E_295 (Nat.le_trans (by decide) hd) e_q9) rfl ?_
        refine Ex.ifc rfl rfl (fun (c0 : ¬ (q9.1 = 0)) => ?_) (fun (c0 : ¬ ¬ (q9.1 = 0)) => ?_)
        · rw [if_neg c0] at hf
          exact Ex.weak (sm_le_n (sm_le_n (sm_le_n (sm_le_n (sm_le_n (sm_le_s (sm_le_n sm_le_nil))))))) (B_300_122 hd  hf hs)
        · rw [if_pos (Classical.not_not.mp c0)] at hf
          refine Ex.seg 2 (pc' := 123) (lc' := [some (.ref 67), some (.int y1), some (.int y2), some (.int y3), some (.long y4), none, some (.int y6)]) (st' := [.int 2]) (h' := q9.2) (sg1 rfl rfl (sg1 rfl rfl rfl)) ?_
          exact Ex.weak (sm_le_n (sm_le_n (sm_le_n (sm_le_n (sm_le_n (sm_le_s (sm_le_n sm_le_nil))))))) (B_300_123 hd  hf hs)
  · rw [if_neg c0] at hf
    refine Ex.seg 5 (pc' := 96) (lc' := [some (.ref 67), some (.int y1), some (.int y2), some (.int y3), some (.long y4), none, some (.int y6)]) (st' := []) (h' := (sm_wI q4.2 67 48 (y1 + 8))) (sg1 rfl rfl (sg1 rfl rfl (sg1 rfl rfl (sg1 rfl rfl (sg1 rfl rfl rfl))))) ?_
    obtain ⟨h10, e_h10, hf⟩ := bnd hf
    rw [Option.some.inj e_h10]
    refine Ex.seg 1 (pc' := 97) (lc' := [some (.ref 67), some (.int y1), some (.int y2), some (.int y3), some (.long y4), none, some (.int y6)]) (st' := [.int 0]) (h' := h10) (sg1 rfl rfl rfl) ?_
    obtain rfl := Option.some.inj hf
    exact Ex.iret rfl rfl (fun c0 => by cases c0) hs
theorem B_300_76 {L : Nat} {xs : Nat → Int32} {d : Nat} (hd : 2 ≤ d) {res : Option Value × sm_H} {z1 : Int64}  {h : sm_H} {r : (Int32 × sm_H)} (hf : F_300_76 z1 h = some r) (hs : (fun (r : Int32 × sm_H) => res = (some (.int r.1), r.2)) r) : Ex (P_G L xs) (RUN L xs d) (sm_lk P_t300) 0 76 [none, none, none, none, none, none, none] [.long z1, .ref 67] h res := by
  unfold F_300_76 at hf
  refine Ex.seg 1 (pc' := 79) (lc' := [none, none, none, none, none, none, none]) (st' := []) (h' := (sm_wJ h 67 49 z1)) (sg1 rfl rfl rfl) ?_
  obtain ⟨h11, e_h11, hf⟩ := bnd hf
  rw [Option.some.inj e_h11]
  refine Ex.seg 1 (pc' := 80) (lc' := [none, none, none, none, none, none, none]) (st' := [.int 0]) (h' := h11) (sg1 rfl rfl rfl) ?_
  obtain rfl := Option.some.inj hf
  exact Ex.iret rfl rfl (fun c0 => by cases c0) hs
theorem B_300_0 {L : Nat} {xs : Nat → Int32} {d : Nat} (hd : 2 ≤ d) {res : Option Value × sm_H} {x1 : Int32} {x2 : Int32} {x3 : Int32} {x4 : Int64} {x6 : Int32}  {h : sm_H} {r : (Int32 × sm_H)} (hf : F_300_0 x1 x2 x3 x4 x6 h = some r) (hs : (fun (r : Int32 × sm_H) => res = (some (.int r.1), r.2)) r) : Ex (P_G L xs) (RUN L xs d) (sm_lk P_t300) 0 0 [some (.ref 67), some (.int x1), some (.int x2), some (.int x3), some (.long x4), none, some (.int x6)] [] h res := by
  unfold F_300_0 at hf
  refine Ex.seg 3 (pc' := 5) (lc' := [some (.ref 67), some (.int x1), some (.int x2), some (.int x3), some (.long x4), none, some (.int x6)]) (st' := []) (h' := (sm_wI h 67 48 x3)) (sg1 rfl rfl (sg1 rfl rfl (sg1 rfl rfl rfl))) ?_
  obtain ⟨h12, e_h12, hf⟩ := bnd hf
  rw [Option.some.inj e_h12]
  refine Ex.seg 3 (pc' := 11) (lc' := [some (.ref 67), some (.int x1), some (.int x2), some (.int x3), some (.long x4), none, some (.int x6)]) (st' := []) (h' := (sm_wJ h12 67 49 x4)) (sg1 rfl rfl (sg1 rfl rfl (sg1 rfl rfl rfl))) ?_
  obtain ⟨h13, e_h13, hf⟩ := bnd hf
  rw [Option.some.inj e_h13]
  refine Ex.seg 2 (pc' := 13) (lc' := [some (.ref 67), some (.int x1), some (.int x2), some (.int x3), some (.long x4), none, some (.int x6)]) (st' := [.int x2, .int x1]) (h' := h13) (sg1 rfl rfl (sg1 rfl rfl rfl)) ?_
  refine Ex.icmp rfl rfl (fun (c0 : ¬ (x1 = x2)) => ?_) (fun (c0 : ¬ ¬ (x1 = x2)) => ?_)
  · rw [if_neg c0] at hf
    refine Ex.seg 1 (pc' := 19) (lc' := [some (.ref 67), some (.int x1), some (.int x2), some (.int x3), some (.long x4), none, some (.int x6)]) (st' := [.int x2]) (h' := h13) (sg1 rfl rfl rfl) ?_
    refine Ex.ifc rfl rfl (fun (c0 : ¬ (x2 = 0)) => ?_) (fun (c0 : ¬ ¬ (x2 = 0)) => ?_)
    · rw [if_neg c0] at hf
      refine Ex.seg 1 (pc' := 30) (lc' := [some (.ref 67), some (.int x1), some (.int x2), some (.int x3), some (.long x4), none, some (.int x6)]) (st' := [.int x1]) (h' := h13) (sg1 rfl rfl rfl) ?_
      refine Ex.ifc rfl rfl (fun (c0 : ¬ (x1 = 0)) => ?_) (fun (c0 : ¬ ¬ (x1 = 0)) => ?_)
      · rw [if_neg c0] at hf
        refine Ex.seg 1 (pc' := 41) (lc' := [some (.ref 67), some (.int x1), some (.int x2), some (.int x3), some (.long x4), none, some (.int x6)]) (st' := [.int x1]) (h' := h13) (sg1 rfl rfl rfl) ?_
        obtain ⟨q14, e_q14, hf⟩ := bnd hf
        refine Ex.callS (As := [.int x1]) (r := []) (v := some (.int q14.1)) (h' := q14.2) rfl rfl rfl rfl (Nat.le_of_ble_eq_true rfl) (E_290 (Nat.le_trans (by decide) hd) e_q14) rfl ?_
        refine Ex.ifc rfl rfl (fun (c0 : q14.1 = 0) => ?_) (fun (c0 : ¬ (q14.1 = 0)) => ?_)
        · rw [if_pos c0] at hf
          exact Ex.weak (sm_le_s (sm_le_s (sm_le_s (sm_le_s (sm_le_s (sm_le_s (sm_le_s sm_le_nil))))))) (B_300_81 hd  hf hs)
        · rw [if_neg c0] at hf
          refine Ex.seg 1 (pc' := 48) (lc' := [some (.ref 67), some (.int x1), some (.int x2), some (.int x3), some (.long x4), none, some (.int x6)]) (st' := [.int x2]) (h' := q14.2) (sg1 rfl rfl rfl) ?_
          obtain ⟨q15, e_q15, hf⟩ := bnd hf
          refine Ex.callS (As := [.int x2]) (r := []) (v := some (.int q15.1)) (h' := q15.2) rfl rfl rfl rfl (Nat.le_of_ble_eq_true rfl) (E_290 (Nat.le_trans (by decide) hd) e_q15) rfl ?_
          refine Ex.ifc rfl rfl (fun (c0 : q15.1 = 0) => ?_) (fun (c0 : ¬ (q15.1 = 0)) => ?_)
          · rw [if_pos c0] at hf
            exact Ex.weak (sm_le_s (sm_le_s (sm_le_s (sm_le_s (sm_le_s (sm_le_s (sm_le_s sm_le_nil))))))) (B_300_81 hd  hf hs)
          · rw [if_neg c0] at hf
            refine Ex.seg 3 (pc' := 59) (lc' := [some (.ref 67), some (.int x1), some (.int x2), some (.int x3), some (.long x4), none, some (.int x6)]) (st' := []) (h' := (sm_wI q15.2 67 48 x2)) (sg1 rfl rfl (sg1 rfl rfl (sg1 rfl rfl rfl))) ?_
            obtain ⟨h16, e_h16, hf⟩ := bnd hf
            rw [Option.some.inj e_h16]
            refine Ex.seg 2 (pc' := 62) (lc' := [some (.ref 67), some (.int x1), some (.int x2), some (.int x3), some (.long x4), none, some (.int x6)]) (st' := [.int x6, .ref 67]) (h' := h16) (sg1 rfl rfl (sg1 rfl rfl rfl)) ?_
            refine Ex.ifc rfl rfl (fun (c0 : x6 = 0) => ?_) (fun (c0 : ¬ (x6 = 0)) => ?_)
            · rw [if_pos c0] at hf
              refine Ex.seg 1 (pc' := 76) (lc' := [some (.ref 67), some (.int x1), some (.int x2), some (.int x3), some (.long x4), none, some (.int x6)]) (st' := [.long x4, .ref 67]) (h' := h16) (sg1 rfl rfl rfl) ?_
              exact Ex.weak (sm_le_n (sm_le_n (sm_le_n (sm_le_n (sm_le_n (sm_le_s (sm_le_n sm_le_nil))))))) (B_300_76 hd  hf hs)
            · rw [if_neg c0] at hf
              refine Ex.seg 2 (pc' := 68) (lc' := [some (.ref 67), some (.int x1), some (.int x2), some (.int x3), some (.long x4), none, some (.int x6)]) (st' := [.long x4, .int x2, .ref 67]) (h' := h16) (sg1 rfl rfl (sg1 rfl rfl rfl)) ?_
              obtain ⟨q17, e_q17, hf⟩ := bnd hf
              refine Ex.callS (As := [.int x2, .long x4]) (r := [.ref 67]) (v := some (.long q17.1)) (h' := q17.2) rfl rfl rfl rfl (Nat.le_of_ble_eq_true rfl) (E_298 (Nat.le_trans (by decide) hd) e_q17) rfl ?_
              refine Ex.seg 1 (pc' := 76) (lc' := [some (.ref 67), some (.int x1), some (.int x2), some (.int x3), some (.long x4), none, some (.int x6)]) (st' := [.long q17.1, .ref 67]) (h' := q17.2) (sg1 rfl rfl rfl) ?_
              exact Ex.weak (sm_le_n (sm_le_n (sm_le_n (sm_le_n (sm_le_n (sm_le_s (sm_le_n sm_le_nil))))))) (B_300_76 hd  hf hs)
      · rw [if_pos (Classical.not_not.mp c0)] at hf
        refine Ex.seg 2 (pc' := 35) (lc' := [some (.ref 67), some (.int x1), some (.int x2), some (.int x3), some (.long x4), none, some (.int x6)]) (st' := [.int x2, .ref 67]) (h' := h13) (sg1 rfl rfl (sg1 rfl rfl rfl)) ?_
        obtain ⟨q18, e_q18, hf⟩ := bnd hf
        refine Ex.callV (a := 67) (As := [.int x2]) (r := []) (v := none) (h' := q18) rfl rfl (by decide) rfl (Nat.le_of_ble_eq_true rfl) rfl (E_299 (Nat.le_trans (by decide) hd) e_q18) rfl ?_
        refine Ex.seg 1 (pc' := 39) (lc' := [some (.ref 67), some (.int x1), some (.int x2), some (.int x3), some (.long x4), none, some (.int x6)]) (st' := [.int 0]) (h' := q18) (sg1 rfl rfl rfl) ?_
        obtain rfl := Option.some.inj hf
        exact Ex.iret rfl rfl (fun c0 => by cases c0) hs
    · rw [if_pos (Classical.not_not.mp c0)] at hf
      refine Ex.seg 2 (pc' := 24) (lc' := [some (.ref 67), some (.int x1), some (.int x2), some (.int x3), some (.long x4), none, some (.int x6)]) (st' := [.int 0, .ref 67]) (h' := h13) (sg1 rfl rfl (sg1 rfl rfl rfl)) ?_
      obtain ⟨q19, e_q19, hf⟩ := bnd hf
      refine Ex.callV (a := 67) (As := [.int 0]) (r := []) (v := none) (h' := q19) rfl rfl (by decide) rfl (Nat.le_of_ble_eq_true rfl) rfl (E_299 (Nat.le_trans (by decide) hd) e_q19) rfl ?_
      refine Ex.seg 1 (pc' := 28) (lc' := [some (.ref 67), some (.int x1), some (.int x2), some (.int x3), some (.long x4), none, some (.int x6)]) (st' := [.int 0]) (h' := q19) (sg1 rfl rfl rfl) ?_
      obtain rfl := Option.some.inj hf
      exact Ex.iret rfl rfl (fun c0 => by cases c0) hs
  · rw [if_pos (Classical.not_not.mp c0)] at hf
    refine Ex.seg 1 (pc' := 17) (lc' := [some (.ref 67), some (.int x1), some (.int x2), some (.int x3), some (.long x4), none, some (.int x6)]) (st' := [.int 0]) (h' := h13) (sg1 rfl rfl rfl) ?_
    obtain rfl := Option.some.inj hf
    exact Ex.iret rfl rfl (fun c0 => by cases c0) hs
theorem E_300 {L : Nat} {xs : Nat → Int32} {d : Nat} (hd : 3 ≤ d) {x1 : Int32} {x2 : Int32} {x3 : Int32} {x4 : Int64} {x6 : Int32} {h : sm_H} {r : Int32 × sm_H} (hf : F_300 x1 x2 x3 x4 x6 h = some r) : RUN L xs d 300 [.ref 67, .int x1, .int x2, .int x3, .long x4, .int x6] h (some (.int r.1), r.2) := by
  obtain ⟨d, rfl⟩ : ∃ e, d = e + 1 := ⟨d - 1, by omega⟩
  exact ⟨Nat.le_of_ble_eq_true rfl, B_300_0 (by omega) hf rfl⟩
theorem B_301_86 {L : Nat} {xs : Nat → Int32} {d : Nat} (hd : 0 ≤ d) {res : Option Value × sm_H} {S1 : (Int32 × Int32 × Int32 × sm_H) → Prop} (hS1 : ∀ s, S1 s → Ex (P_G L xs) (RUN L xs d) (sm_lk P_t301) 0 2 [some (.ref 67), some (.int s.1), some (.int s.2.1), some (.int s.2.2.1), none, none] [] s.2.2.2 res) {y1 : Int32} {y2 : Int32} {y3 : Int32} {y4 : Int32}  {h : sm_H} {r : ((Int32 × Int32 × Int32 × sm_H) ⊕ (Int32 × sm_H))} (hf : F_301_86 y1 y2 y3 y4 h = some r) (hs : (Sum.elim S1 (fun (r : Int32 × sm_H) => res = (some (.int r.1), r.2))) r) : Ex (P_G L xs) (RUN L xs d) (sm_lk P_t301) 0 86 [some (.ref 67), some (.int y1), some (.int y2), some (.int y3), some (.int y4), none] [] h res := by
  unfold F_301_86 at hf
  refine Ex.seg 1 (pc' := 88) (lc' := [some (.ref 67), some (.int y1), some (.int y2), some (.int y3), some (.int y4), none]) (st' := [.int y4]) (h' := h) (sg1 rfl rfl rfl) ?_
  refine Ex.ifc rfl rfl (fun (c0 : y4 = 0) => ?_) (fun (c0 : ¬ (y4 = 0)) => ?_)
  · rw [if_pos c0] at hf
    refine Ex.seg 1 (pc' := 96) (lc' := [some (.ref 67), some (.int y1), some (.int y2), some (.int (y3 + 1)), some (.int y4), none]) (st' := []) (h' := h) (sg1 rfl rfl rfl) ?_
    obtain ⟨v1, e_v1, hf⟩ := bnd hf
    rw [Option.some.inj e_v1]
    refine Ex.seg 1 (pc' := 2) (lc' := [some (.ref 67), some (.int y1), some (.int y2), some (.int v1), some (.int y4), none]) (st' := []) (h' := h) (sg1 rfl rfl rfl) ?_
    obtain rfl := Option.some.inj hf
    exact Ex.weak (sm_le_s (sm_le_s (sm_le_s (sm_le_s (sm_le_n (sm_le_s sm_le_nil)))))) (hS1 _ hs)
  · rw [if_neg c0] at hf
    refine Ex.seg 1 (pc' := 92) (lc' := [some (.ref 67), some (.int y1), some (.int y2), some (.int y3), some (.int y4), none]) (st' := [.int y3]) (h' := h) (sg1 rfl rfl rfl) ?_
    obtain rfl := Option.some.inj hf
    exact Ex.iret rfl rfl (fun c0 => by cases c0) hs
theorem B_301_78 {L : Nat} {xs : Nat → Int32} {d : Nat} (hd : 0 ≤ d) {res : Option Value × sm_H} {S1 : (Int32 × Int32 × Int32 × sm_H) → Prop} (hS1 : ∀ s, S1 s → Ex (P_G L xs) (RUN L xs d) (sm_lk P_t301) 0 2 [some (.ref 67), some (.int s.1), some (.int s.2.1), some (.int s.2.2.1), none, none] [] s.2.2.2 res) {S2 : (Int32 × Int32 × Int32 × Int32 × Int32 × sm_H) → Prop} (hS2 : ∀ s, S2 s → Ex (P_G L xs) (RUN L xs d) (sm_lk P_t301) 0 40 [some (.ref 67), some (.int s.1), some (.int s.2.1), some (.int s.2.2.1), some (.int s.2.2.2.1), some (.int s.2.2.2.2.1)] [] s.2.2.2.2.2 res) {y1 : Int32} {y2 : Int32} {y3 : Int32} {y5 : Int32} {z0 : Int32}  {h : sm_H} {r : ((Int32 × Int32 × Int32 × Int32 × Int32 × sm_H) ⊕ ((Int32 × Int32 × Int32 × sm_H) ⊕ (Int32 × sm_H)))} (hf : F_301_78 y1 y2 y3 y5 z0 h = some r) (hs : (Sum.elim S2 (Sum.elim S1 (fun (r : Int32 × sm_H) => res = (some (.int r.1), r.2)))) r) : Ex (P_G L xs) (RUN L xs d) (sm_lk P_t301) 0 78 [some (.ref 67), some (.int y1), some (.int y2), some (.int y3), none, some (.int y5)] [.int z0] h res := by
  unfold F_301_78 at hf
  refine Ex.seg 2 (pc' := 83) (lc' := [some (.ref 67), some (.int y1), some (.int y2), some (.int y3), some (.int z0), some (.int (y5 + 1))]) (st' := []) (h' := h) (sg1 rfl rfl (sg1 rfl rfl rfl)) ?_
  obtain ⟨v2, e_v2, hf⟩ := bnd hf
  rw [Option.some.inj e_v2]
  refine Ex.seg 1 (pc' := 40) (lc' := [some (.ref 67), some (.int y1), some (.int y2), some (.int y3), some (.int z0), some (.int v2)]) (st' := []) (h' := h) (sg1 rfl rfl rfl) ?_
  obtain rfl := Option.some.inj hf
  exact Ex.weak (sm_le_s (sm_le_s (sm_le_s (sm_le_s (sm_le_s (sm_le_s sm_le_nil)))))) (hS2 _ hs)
theorem B_301_40B {L : Nat} {xs : Nat → Int32} {d : Nat} (hd : 0 ≤ d) {res : Option Value × sm_H} {S1 : (Int32 × Int32 × Int32 × sm_H) → Prop} (hS1 : ∀ s, S1 s → Ex (P_G L xs) (RUN L xs d) (sm_lk P_t301) 0 2 [some (.ref 67), some (.int s.1), some (.int s.2.1), some (.int s.2.2.1), none, none] [] s.2.2.2 res) {S2 : (Int32 × Int32 × Int32 × Int32 × Int32 × sm_H) → Prop} (hS2 : ∀ s, S2 s → Ex (P_G L xs) (RUN L xs d) (sm_lk P_t301) 0 40 [some (.ref 67), some (.int s.1), some (.int s.2.1), some (.int s.2.2.1), some (.int s.2.2.2.1), some (.int s.2.2.2.2.1)] [] s.2.2.2.2.2 res) {s : (Int32 × Int32 × Int32 × Int32 × Int32 × sm_H)}  {r : ((Int32 × Int32 × Int32 × Int32 × Int32 × sm_H) ⊕ ((Int32 × Int32 × Int32 × sm_H) ⊕ (Int32 × sm_H)))} (hf : F_301_40B s = some r) (hs : (Sum.elim S2 (Sum.elim S1 (fun (r : Int32 × sm_H) => res = (some (.int r.1), r.2)))) r) : Ex (P_G L xs) (RUN L xs d) (sm_lk P_t301) 0 40 [some (.ref 67), some (.int s.1), some (.int s.2.1), some (.int s.2.2.1), some (.int s.2.2.2.1), some (.int s.2.2.2.2.1)] [] s.2.2.2.2.2 res := by
  unfold F_301_40B at hf
  refine Ex.seg 2 (pc' := 43) (lc' := [some (.ref 67), some (.int s.1), some (.int s.2.1), some (.int s.2.2.1), some (.int s.2.2.2.1), some (.int s.2.2.2.2.1)]) (st' := [.int s.2.1, .int s.2.2.2.2.1]) (h' := s.2.2.2.2.2) (sg1 rfl rfl (sg1 rfl rfl rfl)) ?_
  refine Ex.icmp rfl rfl (fun (c0 : s.2.1 ≤ s.2.2.2.2.1) => ?_) (fun (c0 : ¬ (s.2.1 ≤ s.2.2.2.2.1)) => ?_)
  · rw [if_pos c0] at hf
    obtain ⟨r0, hf0, rfl⟩ := Option.map_eq_some_iff.mp hf
    exact Ex.weak (sm_le_s (sm_le_s (sm_le_s (sm_le_s (sm_le_s (sm_le_n sm_le_nil)))))) (B_301_86 hd hS1 hf0 hs)
  · rw [if_neg c0] at hf
    refine Ex.seg 1 (pc' := 48) (lc' := [some (.ref 67), some (.int s.1), some (.int s.2.1), some (.int s.2.2.1), some (.int s.2.2.2.1), some (.int s.2.2.2.2.1)]) (st' := [.int s.2.2.2.1]) (h' := s.2.2.2.2.2) (sg1 rfl rfl rfl) ?_
    refine Ex.ifc rfl rfl (fun (c0 : s.2.2.2.1 = 0) => ?_) (fun (c0 : ¬ (s.2.2.2.1 = 0)) => ?_)
    · rw [if_pos c0] at hf
      obtain ⟨r0, hf0, rfl⟩ := Option.map_eq_some_iff.mp hf
      exact Ex.weak (sm_le_s (sm_le_s (sm_le_s (sm_le_s (sm_le_s (sm_le_n sm_le_nil)))))) (B_301_86 hd hS1 hf0 hs)
    · rw [if_neg c0] at hf
      refine Ex.seg 7 (pc' := 62) (lc' := [some (.ref 67), some (.int s.1), some (.int s.2.1), some (.int s.2.2.1), some (.int s.2.2.2.1), some (.int s.2.2.2.2.1)]) (st' := [.int ((10 * s.2.2.1) + s.2.2.2.2.1), .ref 74]) (h' := s.2.2.2.2.2) (sg1 rfl rfl (sg1 rfl rfl (sg1 rfl rfl (sg1 rfl rfl (sg1 rfl rfl (sg1 rfl rfl (sg1 rfl rfl rfl))))))) ?_
      obtain ⟨v3, e_v3, hf⟩ := bnd hf
      refine Ex.iald e_v3 rfl rfl ?_
      refine Ex.seg 3 (pc' := 69) (lc' := [some (.ref 67), some (.int s.1), some (.int s.2.1), some (.int s.2.2.1), some (.int s.2.2.2.1), some (.int s.2.2.2.2.1)]) (st' := [.int s.2.2.2.2.1, .ref 82, .int v3]) (h' := s.2.2.2.2.2) (sg1 rfl rfl (sg1 rfl rfl (sg1 rfl rfl rfl))) ?_
      obtain ⟨v4, e_v4, hf⟩ := bnd hf
      refine Ex.iald e_v4 rfl rfl ?_
      refine Ex.icmp rfl rfl (fun (c0 : ¬ (v3 = v4)) => ?_) (fun (c0 : ¬ ¬ (v3 = v4)) => ?_)
      · rw [if_neg c0] at hf
        refine Ex.seg 1 (pc' := 78) (lc' := [some (.ref 67), some (.int s.1), some (.int s.2.1), some (.int s.2.2.1), some (.int s.2.2.2.1), some (.int s.2.2.2.2.1)]) (st' := [.int 0]) (h' := s.2.2.2.2.2) (sg1 rfl rfl rfl) ?_
        exact Ex.weak (sm_le_s (sm_le_s (sm_le_s (sm_le_s (sm_le_n (sm_le_s sm_le_nil)))))) (B_301_78 hd hS1 hS2 hf hs)
      · rw [if_pos (Classical.not_not.mp c0)] at hf
        refine Ex.seg 2 (pc' := 78) (lc' := [some (.ref 67), some (.int s.1), some (.int s.2.1), some (.int s.2.2.1), some (.int s.2.2.2.1), some (.int s.2.2.2.2.1)]) (st' := [.int 1]) (h' := s.2.2.2.2.2) (sg1 rfl rfl (sg1 rfl rfl rfl)) ?_
        exact Ex.weak (sm_le_s (sm_le_s (sm_le_s (sm_le_s (sm_le_n (sm_le_s sm_le_nil)))))) (B_301_78 hd hS1 hS2 hf hs)
theorem B_301_40 {L : Nat} {xs : Nat → Int32} {d : Nat} (hd : 0 ≤ d) {res : Option Value × sm_H} {S1 : (Int32 × Int32 × Int32 × sm_H) → Prop} (hS1 : ∀ s, S1 s → Ex (P_G L xs) (RUN L xs d) (sm_lk P_t301) 0 2 [some (.ref 67), some (.int s.1), some (.int s.2.1), some (.int s.2.2.1), none, none] [] s.2.2.2 res) {y1 : Int32} {y2 : Int32} {y3 : Int32} {y4 : Int32} {y5 : Int32}  {h : sm_H} {r : ((Int32 × Int32 × Int32 × sm_H) ⊕ (Int32 × sm_H))} (hf : F_301_40 y1 y2 y3 y4 y5 h = some r) (hs : (Sum.elim S1 (fun (r : Int32 × sm_H) => res = (some (.int r.1), r.2))) r) : Ex (P_G L xs) (RUN L xs d) (sm_lk P_t301) 0 40 [some (.ref 67), some (.int y1), some (.int y2), some (.int y3), some (.int y4), some (.int y5)] [] h res := by
  unfold F_301_40 at hf
  exact lp_ok (P := fun (s : (Int32 × Int32 × Int32 × Int32 × Int32 × sm_H)) => Ex (P_G L xs) (RUN L xs d) (sm_lk P_t301) 0 40 [some (.ref 67), some (.int s.1), some (.int s.2.1), some (.int s.2.2.1), some (.int s.2.2.2.1), some (.int s.2.2.2.2.1)] [] s.2.2.2.2.2 res) (S := (Sum.elim S1 (fun (r : Int32 × sm_H) => res = (some (.int r.1), r.2)))) (fun s x hx hsx => by
    intros
    exact B_301_40B hd hS1 (fun _ q => q) hx hsx) 1000000 _ r hf hs
theorem B_301_35 {L : Nat} {xs : Nat → Int32} {d : Nat} (hd : 0 ≤ d) {res : Option Value × sm_H} {S1 : (Int32 × Int32 × Int32 × sm_H) → Prop} (hS1 : ∀ s, S1 s → Ex (P_G L xs) (RUN L xs d) (sm_lk P_t301) 0 2 [some (.ref 67), some (.int s.1), some (.int s.2.1), some (.int s.2.2.1), none, none] [] s.2.2.2 res) {y1 : Int32} {y2 : Int32} {y3 : Int32} {z0 : Int32}  {h : sm_H} {r : ((Int32 × Int32 × Int32 × sm_H) ⊕ (Int32 × sm_H))} (hf : F_301_35 y1 y2 y3 z0 h = some r) (hs : (Sum.elim S1 (fun (r : Int32 × sm_H) => res = (some (.int r.1), r.2))) r) : Ex (P_G L xs) (RUN L xs d) (sm_lk P_t301) 0 35 [some (.ref 67), some (.int y1), some (.int y2), some (.int y3), none, none] [.int z0] h res := by
  unfold F_301_35 at hf
  refine Ex.seg 3 (pc' := 40) (lc' := [some (.ref 67), some (.int y1), some (.int y2), some (.int y3), some (.int z0), some (.int 0)]) (st' := []) (h' := h) (sg1 rfl rfl (sg1 rfl rfl (sg1 rfl rfl rfl))) ?_
  exact Ex.weak (sm_le_s (sm_le_s (sm_le_s (sm_le_s (sm_le_s (sm_le_s sm_le_nil)))))) (B_301_40 hd hS1 hf hs)
theorem B_301_34 {L : Nat} {xs : Nat → Int32} {d : Nat} (hd : 0 ≤ d) {res : Option Value × sm_H} {S1 : (Int32 × Int32 × Int32 × sm_H) → Prop} (hS1 : ∀ s, S1 s → Ex (P_G L xs) (RUN L xs d) (sm_lk P_t301) 0 2 [some (.ref 67), some (.int s.1), some (.int s.2.1), some (.int s.2.2.1), none, none] [] s.2.2.2 res) {y1 : Int32} {y2 : Int32} {y3 : Int32}  {h : sm_H} {r : ((Int32 × Int32 × Int32 × sm_H) ⊕ (Int32 × sm_H))} (hf : F_301_34 y1 y2 y3 h = some r) (hs : (Sum.elim S1 (fun (r : Int32 × sm_H) => res = (some (.int r.1), r.2))) r) : Ex (P_G L xs) (RUN L xs d) (sm_lk P_t301) 0 34 [some (.ref 67), some (.int y1), some (.int y2), some (.int y3), none, none] [] h res := by
  unfold F_301_34 at hf
  refine Ex.seg 1 (pc' := 35) (lc' := [some (.ref 67), some (.int y1), some (.int y2), some (.int y3), none, none]) (st' := [.int 0]) (h' := h) (sg1 rfl rfl rfl) ?_
  exact Ex.weak (sm_le_s (sm_le_s (sm_le_s (sm_le_s (sm_le_s (sm_le_s sm_le_nil)))))) (B_301_35 hd hS1 hf hs)
theorem B_301_2B {L : Nat} {xs : Nat → Int32} {d : Nat} (hd : 0 ≤ d) {res : Option Value × sm_H} {S1 : (Int32 × Int32 × Int32 × sm_H) → Prop} (hS1 : ∀ s, S1 s → Ex (P_G L xs) (RUN L xs d) (sm_lk P_t301) 0 2 [some (.ref 67), some (.int s.1), some (.int s.2.1), some (.int s.2.2.1), none, none] [] s.2.2.2 res) {s : (Int32 × Int32 × Int32 × sm_H)}  {r : ((Int32 × Int32 × Int32 × sm_H) ⊕ (Int32 × sm_H))} (hf : F_301_2B s = some r) (hs : (Sum.elim S1 (fun (r : Int32 × sm_H) => res = (some (.int r.1), r.2))) r) : Ex (P_G L xs) (RUN L xs d) (sm_lk P_t301) 0 2 [some (.ref 67), some (.int s.1), some (.int s.2.1), some (.int s.2.2.1), none, none] [] s.2.2.2 res := by
  unfold F_301_2B at hf
  refine Ex.seg 3 (pc' := 7) (lc' := [some (.ref 67), some (.int s.1), some (.int s.2.1), some (.int s.2.2.1), none, none]) (st' := [.int (s.2.2.2.1 67 10), .int s.2.2.1]) (h' := s.2.2.2) (sg1 rfl rfl (sg1 rfl rfl (sg1 rfl rfl rfl))) ?_
  refine Ex.icmp rfl rfl (fun (c0 : (s.2.2.2.1 67 10) ≤ s.2.2.1) => ?_) (fun (c0 : ¬ ((s.2.2.2.1 67 10) ≤ s.2.2.1)) => ?_)
  · rw [if_pos c0] at hf
    refine Ex.seg 1 (pc' := 100) (lc' := [some (.ref 67), some (.int s.1), some (.int s.2.1), some (.int s.2.2.1), none, none]) (st' := [.int (-1)]) (h' := s.2.2.2) (sg1 rfl rfl rfl) ?_
    obtain rfl := Option.some.inj hf
    exact Ex.iret rfl rfl (fun c0 => by cases c0) hs
  · rw [if_neg c0] at hf
    refine Ex.seg 3 (pc' := 15) (lc' := [some (.ref 67), some (.int s.1), some (.int s.2.1), some (.int s.2.2.1), none, none]) (st' := [.int s.2.2.1, .ref 72]) (h' := s.2.2.2) (sg1 rfl rfl (sg1 rfl rfl (sg1 rfl rfl rfl))) ?_
    obtain ⟨v5, e_v5, hf⟩ := bnd hf
    refine Ex.iald e_v5 rfl rfl ?_
    refine Ex.seg 1 (pc' := 17) (lc' := [some (.ref 67), some (.int s.1), some (.int s.2.1), some (.int s.2.2.1), none, none]) (st' := [.int s.1, .int v5]) (h' := s.2.2.2) (sg1 rfl rfl rfl) ?_
    refine Ex.icmp rfl rfl (fun (c0 : ¬ (v5 = s.1)) => ?_) (fun (c0 : ¬ ¬ (v5 = s.1)) => ?_)
    · rw [if_neg c0] at hf
      exact Ex.weak (sm_le_s (sm_le_s (sm_le_s (sm_le_s (sm_le_s (sm_le_s sm_le_nil)))))) (B_301_34 hd hS1 hf hs)
    · rw [if_pos (Classical.not_not.mp c0)] at hf
      refine Ex.seg 3 (pc' := 25) (lc' := [some (.ref 67), some (.int s.1), some (.int s.2.1), some (.int s.2.2.1), none, none]) (st' := [.int s.2.2.1, .ref 73]) (h' := s.2.2.2) (sg1 rfl rfl (sg1 rfl rfl (sg1 rfl rfl rfl))) ?_
      obtain ⟨v6, e_v6, hf⟩ := bnd hf
      refine Ex.iald e_v6 rfl rfl ?_
      refine Ex.seg 1 (pc' := 27) (lc' := [some (.ref 67), some (.int s.1), some (.int s.2.1), some (.int s.2.2.1), none, none]) (st' := [.int s.2.1, .int v6]) (h' := s.2.2.2) (sg1 rfl rfl rfl) ?_
      refine Ex.icmp rfl rfl (fun (c0 : ¬ (v6 = s.2.1)) => ?_) (fun (c0 : ¬ ¬ (v6 = s.2.1)) => ?_)
      · rw [if_neg c0] at hf
        exact Ex.weak (sm_le_s (sm_le_s (sm_le_s (sm_le_s (sm_le_s (sm_le_s sm_le_nil)))))) (B_301_34 hd hS1 hf hs)
      · rw [if_pos (Classical.not_not.mp c0)] at hf
        refine Ex.seg 2 (pc' := 35) (lc' := [some (.ref 67), some (.int s.1), some (.int s.2.1), some (.int s.2.2.1), none, none]) (st' := [.int 1]) (h' := s.2.2.2) (sg1 rfl rfl (sg1 rfl rfl rfl)) ?_
        exact Ex.weak (sm_le_s (sm_le_s (sm_le_s (sm_le_s (sm_le_s (sm_le_s sm_le_nil)))))) (B_301_35 hd hS1 hf hs)
theorem B_301_2 {L : Nat} {xs : Nat → Int32} {d : Nat} (hd : 0 ≤ d) {res : Option Value × sm_H} {y1 : Int32} {y2 : Int32} {y3 : Int32}  {h : sm_H} {r : (Int32 × sm_H)} (hf : F_301_2 y1 y2 y3 h = some r) (hs : (fun (r : Int32 × sm_H) => res = (some (.int r.1), r.2)) r) : Ex (P_G L xs) (RUN L xs d) (sm_lk P_t301) 0 2 [some (.ref 67), some (.int y1), some (.int y2), some (.int y3), none, none] [] h res := by
  unfold F_301_2 at hf
  exact lp_ok (P := fun (s : (Int32 × Int32 × Int32 × sm_H)) => Ex (P_G L xs) (RUN L xs d) (sm_lk P_t301) 0 2 [some (.ref 67), some (.int s.1), some (.int s.2.1), some (.int s.2.2.1), none, none] [] s.2.2.2 res) (S := (fun (r : Int32 × sm_H) => res = (some (.int r.1), r.2))) (fun s x hx hsx => by
    intros
    exact B_301_2B hd  (fun _ q => q) hx hsx) 1000000 _ r hf hs
theorem B_301_0 {L : Nat} {xs : Nat → Int32} {d : Nat} (hd : 0 ≤ d) {res : Option Value × sm_H} {x1 : Int32} {x2 : Int32}  {h : sm_H} {r : (Int32 × sm_H)} (hf : F_301_0 x1 x2 h = some r) (hs : (fun (r : Int32 × sm_H) => res = (some (.int r.1), r.2)) r) : Ex (P_G L xs) (RUN L xs d) (sm_lk P_t301) 0 0 [some (.ref 67), some (.int x1), some (.int x2), none, none, none] [] h res := by
  unfold F_301_0 at hf
  refine Ex.seg 2 (pc' := 2) (lc' := [some (.ref 67), some (.int x1), some (.int x2), some (.int 0), none, none]) (st' := []) (h' := h) (sg1 rfl rfl (sg1 rfl rfl rfl)) ?_
  exact Ex.weak (sm_le_s (sm_le_s (sm_le_s (sm_le_s (sm_le_s (sm_le_s sm_le_nil)))))) (B_301_2 hd  hf hs)
theorem E_301 {L : Nat} {xs : Nat → Int32} {d : Nat} (hd : 1 ≤ d) {x1 : Int32} {x2 : Int32} {h : sm_H} {r : Int32 × sm_H} (hf : F_301 x1 x2 h = some r) : RUN L xs d 301 [.ref 67, .int x1, .int x2] h (some (.int r.1), r.2) := by
  obtain ⟨d, rfl⟩ : ∃ e, d = e + 1 := ⟨d - 1, by omega⟩
  exact ⟨Nat.le_of_ble_eq_true rfl, B_301_0 (by omega) hf rfl⟩
theorem B_302_69B {L : Nat} {xs : Nat → Int32} {d : Nat} (hd : 1 ≤ d) {res : Option Value × sm_H} {S1 : (Int32 × sm_H) → Prop} (hS1 : ∀ s, S1 s → Ex (P_G L xs) (RUN L xs d) (sm_lk P_t302) 0 69 [some (.ref 67), none, some (.int s.1)] [] s.2 res) {s : (Int32 × sm_H)}  {r : ((Int32 × sm_H) ⊕ (Int32 × sm_H))} (hf : F_302_69B s = some r) (hs : (Sum.elim S1 (fun (r : Int32 × sm_H) => res = (some (.int r.1), r.2))) r) : Ex (P_G L xs) (RUN L xs d) (sm_lk P_t302) 0 69 [some (.ref 67), none, some (.int s.1)] [] s.2 res := by
  unfold F_302_69B at hf
  refine Ex.seg 3 (pc' := 74) (lc' := [some (.ref 67), none, some (.int s.1)]) (st' := [.int (s.2.1 67 21), .int s.1]) (h' := s.2) (sg1 rfl rfl (sg1 rfl rfl (sg1 rfl rfl rfl))) ?_
  refine Ex.icmp rfl rfl (fun (c0 : (s.2.1 67 21) ≤ s.1) => ?_) (fun (c0 : ¬ ((s.2.1 67 21) ≤ s.1)) => ?_)
  · rw [if_pos c0] at hf
    refine Ex.seg 6 (pc' := 113) (lc' := [some (.ref 67), none, some (.int s.1)]) (st' := []) (h' := (sm_wI s.2 67 10 ((s.2.1 67 10) + 1))) (sg1 rfl rfl (sg1 rfl rfl (sg1 rfl rfl (sg1 rfl rfl (sg1 rfl rfl (sg1 rfl rfl rfl)))))) ?_
    obtain ⟨h1, e_h1, hf⟩ := bnd hf
    rw [Option.some.inj e_h1]
    refine Ex.seg 4 (pc' := 119) (lc' := [some (.ref 67), none, some (.int s.1)]) (st' := [.int ((h1.1 67 10) - 1)]) (h' := h1) (sg1 rfl rfl (sg1 rfl rfl (sg1 rfl rfl (sg1 rfl rfl rfl)))) ?_
    obtain rfl := Option.some.inj hf
    exact Ex.iret rfl rfl (fun c0 => by cases c0) hs
  · rw [if_neg c0] at hf
    refine Ex.seg 11 (pc' := 95) (lc' := [some (.ref 67), none, some (.int s.1)]) (st' := [.int s.1, .ref 82, .int ((10 * (s.2.1 67 10)) + s.1), .ref 74]) (h' := s.2) (sg1 rfl rfl (sg1 rfl rfl (sg1 rfl rfl (sg1 rfl rfl (sg1 rfl rfl (sg1 rfl rfl (sg1 rfl rfl (sg1 rfl rfl (sg1 rfl rfl (sg1 rfl rfl (sg1 rfl rfl rfl))))))))))) ?_
    obtain ⟨v2, e_v2, hf⟩ := bnd hf
    refine Ex.iald e_v2 rfl rfl ?_
    obtain ⟨h3, e_h3, hf⟩ := bnd hf
    refine Ex.iast e_h3 rfl rfl ?_
    refine Ex.seg 1 (pc' := 100) (lc' := [some (.ref 67), none, some (.int (s.1 + 1))]) (st' := []) (h' := h3) (sg1 rfl rfl rfl) ?_
    obtain ⟨v4, e_v4, hf⟩ := bnd hf
    rw [Option.some.inj e_v4]
    refine Ex.seg 1 (pc' := 69) (lc' := [some (.ref 67), none, some (.int v4)]) (st' := []) (h' := h3) (sg1 rfl rfl rfl) ?_
    obtain rfl := Option.some.inj hf
    exact Ex.weak (sm_le_s (sm_le_s (sm_le_s sm_le_nil))) (hS1 _ hs)
theorem B_302_69 {L : Nat} {xs : Nat → Int32} {d : Nat} (hd : 1 ≤ d) {res : Option Value × sm_H} {y2 : Int32}  {h : sm_H} {r : (Int32 × sm_H)} (hf : F_302_69 y2 h = some r) (hs : (fun (r : Int32 × sm_H) => res = (some (.int r.1), r.2)) r) : Ex (P_G L xs) (RUN L xs d) (sm_lk P_t302) 0 69 [some (.ref 67), none, some (.int y2)] [] h res := by
  unfold F_302_69 at hf
  exact lp_ok (P := fun (s : (Int32 × sm_H)) => Ex (P_G L xs) (RUN L xs d) (sm_lk P_t302) 0 69 [some (.ref 67), none, some (.int s.1)] [] s.2 res) (S := (fun (r : Int32 × sm_H) => res = (some (.int r.1), r.2))) (fun s x hx hsx => by
    intros
    exact B_302_69B hd  (fun _ q => q) hx hsx) 1000000 _ r hf hs
theorem B_302_39 {L : Nat} {xs : Nat → Int32} {d : Nat} (hd : 1 ≤ d) {res : Option Value × sm_H} {y1 : Int32}  {h : sm_H} {r : (Int32 × sm_H)} (hf : F_302_39 y1 h = some r) (hs : (fun (r : Int32 × sm_H) => res = (some (.int r.1), r.2)) r) : Ex (P_G L xs) (RUN L xs d) (sm_lk P_t302) 0 39 [none, some (.int y1), none] [] h res := by
  unfold F_302_39 at hf
  refine Ex.seg 1 (pc' := 40) (lc' := [none, some (.int y1), none]) (st' := [.int y1]) (h' := h) (sg1 rfl rfl rfl) ?_
  obtain rfl := Option.some.inj hf
  exact Ex.iret rfl rfl (fun c0 => by cases c0) hs
theorem B_302_0 {L : Nat} {xs : Nat → Int32} {d : Nat} (hd : 1 ≤ d) {res : Option Value × sm_H}   {h : sm_H} {r : (Int32 × sm_H)} (hf : F_302_0  h = some r) (hs : (fun (r : Int32 × sm_H) => res = (some (.int r.1), r.2)) r) : Ex (P_G L xs) (RUN L xs d) (sm_lk P_t302) 0 0 [some (.ref 67), none, none] [] h res := by
  unfold F_302_0 at hf
  refine Ex.seg 3 (pc' := 6) (lc' := [some (.ref 67), none, none]) (st' := [.int 10, .int (h.1 67 21)]) (h' := h) (sg1 rfl rfl (sg1 rfl rfl (sg1 rfl rfl rfl))) ?_
  refine Ex.icmp rfl rfl (fun (c0 : (h.1 67 21) ≤ 10) => ?_) (fun (c0 : ¬ ((h.1 67 21) ≤ 10)) => ?_)
  · rw [if_pos c0] at hf
    refine Ex.seg 5 (pc' := 20) (lc' := [some (.ref 67), none, none]) (st' := [.int (h.1 67 21), .int (h.1 67 20), .ref 67]) (h' := h) (sg1 rfl rfl (sg1 rfl rfl (sg1 rfl rfl (sg1 rfl rfl (sg1 rfl rfl rfl))))) ?_
    obtain ⟨q5, e_q5, hf⟩ := bnd hf
    refine Ex.callV (a := 67) (As := [.int (h.1 67 20), .int (h.1 67 21)]) (r := []) (v := some (.int q5.1)) (h' := q5.2) rfl rfl (by decide) rfl (Nat.le_of_ble_eq_true rfl) rfl (E_301 (Nat.le_trans (by decide) hd) e_q5) rfl ?_
    refine Ex.seg 3 (pc' := 26) (lc' := [some (.ref 67), some (.int q5.1), none]) (st' := [.int (-1), .int q5.1]) (h' := q5.2) (sg1 rfl rfl (sg1 rfl rfl (sg1 rfl rfl rfl))) ?_
    refine Ex.icmp rfl rfl (fun (c0 : ¬ (q5.1 = (-1))) => ?_) (fun (c0 : ¬ ¬ (q5.1 = (-1))) => ?_)
    · rw [if_neg c0] at hf
      exact Ex.weak (sm_le_n (sm_le_s (sm_le_s sm_le_nil))) (B_302_39 hd  hf hs)
    · rw [if_pos (Classical.not_not.mp c0)] at hf
      refine Ex.seg 3 (pc' := 36) (lc' := [some (.ref 67), some (.int q5.1), none]) (st' := [.int 300, .int (q5.2.1 67 10)]) (h' := q5.2) (sg1 rfl rfl (sg1 rfl rfl (sg1 rfl rfl rfl))) ?_
      refine Ex.icmp rfl rfl (fun (c0 : ¬ ((q5.2.1 67 10) = 300)) => ?_) (fun (c0 : ¬ ¬ ((q5.2.1 67 10) = 300)) => ?_)
      · rw [if_neg c0] at hf
        refine Ex.seg 6 (pc' := 53) (lc' := [some (.ref 67), some (.int q5.1), none]) (st' := [.int (q5.2.1 67 20), .int (q5.2.1 67 10), .ref 72]) (h' := q5.2) (sg1 rfl rfl (sg1 rfl rfl (sg1 rfl rfl (sg1 rfl rfl (sg1 rfl rfl (sg1 rfl rfl rfl)))))) ?_
        obtain ⟨h6, e_h6, hf⟩ := bnd hf
        refine Ex.iast e_h6 rfl rfl ?_
        refine Ex.seg 6 (pc' := 66) (lc' := [some (.ref 67), some (.int q5.1), none]) (st' := [.int (h6.1 67 21), .int (h6.1 67 10), .ref 73]) (h' := h6) (sg1 rfl rfl (sg1 rfl rfl (sg1 rfl rfl (sg1 rfl rfl (sg1 rfl rfl (sg1 rfl rfl rfl)))))) ?_
        obtain ⟨h7, e_h7, hf⟩ := bnd hf
        refine Ex.iast e_h7 rfl rfl ?_
        refine Ex.seg 2 (pc' := 69) (lc' := [some (.ref 67), some (.int q5.1), some (.int 0)]) (st' := []) (h' := h7) (sg1 rfl rfl (sg1 rfl rfl rfl)) ?_
        exact Ex.weak (sm_le_s (sm_le_n (sm_le_s sm_le_nil))) (B_302_69 hd  hf hs)
      · rw [if_pos (Classical.not_not.mp c0)] at hf
        exact Ex.weak (sm_le_n (sm_le_s (sm_le_s sm_le_nil))) (B_302_39 hd  hf hs)
  · rw [if_neg c0] at hf
    refine Ex.seg 1 (pc' := 10) (lc' := [some (.ref 67), none, none]) (st' := [.int (-1)]) (h' := h) (sg1 rfl rfl rfl) ?_
    obtain rfl := Option.some.inj hf
    exact Ex.iret rfl rfl (fun c0 => by cases c0) hs
theorem E_302 {L : Nat} {xs : Nat → Int32} {d : Nat} (hd : 2 ≤ d)  {h : sm_H} {r : Int32 × sm_H} (hf : F_302  h = some r) : RUN L xs d 302 [.ref 67] h (some (.int r.1), r.2) := by
  obtain ⟨d, rfl⟩ : ∃ e, d = e + 1 := ⟨d - 1, by omega⟩
  exact ⟨Nat.le_of_ble_eq_true rfl, B_302_0 (by omega) hf rfl⟩
theorem B_303_17 {L : Nat} {xs : Nat → Int32} {d : Nat} (hd : 0 ≤ d) {res : Option Value × sm_H} {z0 : Int32}  {h : sm_H} {r : (Int32 × sm_H)} (hf : F_303_17 z0 h = some r) (hs : (fun (r : Int32 × sm_H) => res = (some (.int r.1), r.2)) r) : Ex (P_G L xs) (RUN L xs d) (sm_lk P_t303) 3 17 [none, none] [.int z0] h res := by
  unfold F_303_17 at hf
  rcases Classical.em (z0 = 0 ∨ z0 = 1) with c0 | c0
  · rw [if_pos c0] at hf
    obtain rfl := Option.some.inj hf
    exact Ex.iret rfl rfl (fun _ => c0) hs
  · rw [if_neg c0] at hf
    cases hf
theorem B_303_16 {L : Nat} {xs : Nat → Int32} {d : Nat} (hd : 0 ≤ d) {res : Option Value × sm_H}   {h : sm_H} {r : (Int32 × sm_H)} (hf : F_303_16  h = some r) (hs : (fun (r : Int32 × sm_H) => res = (some (.int r.1), r.2)) r) : Ex (P_G L xs) (RUN L xs d) (sm_lk P_t303) 3 16 [none, none] [] h res := by
  unfold F_303_16 at hf
  refine Ex.seg 1 (pc' := 17) (lc' := [none, none]) (st' := [.int 0]) (h' := h) (sg1 rfl rfl rfl) ?_
  exact Ex.weak (sm_le_s (sm_le_s sm_le_nil)) (B_303_17 hd  hf hs)
theorem B_303_0 {L : Nat} {xs : Nat → Int32} {d : Nat} (hd : 0 ≤ d) {res : Option Value × sm_H} {x1 : Int32}  {h : sm_H} {r : (Int32 × sm_H)} (hf : F_303_0 x1 h = some r) (hs : (fun (r : Int32 × sm_H) => res = (some (.int r.1), r.2)) r) : Ex (P_G L xs) (RUN L xs d) (sm_lk P_t303) 3 0 [some (.ref 67), some (.int x1)] [] h res := by
  unfold F_303_0 at hf
  refine Ex.seg 1 (pc' := 1) (lc' := [some (.ref 67), some (.int x1)]) (st' := [.int x1]) (h' := h) (sg1 rfl rfl rfl) ?_
  refine Ex.ifc rfl rfl (fun (c0 : x1 < 0) => ?_) (fun (c0 : ¬ (x1 < 0)) => ?_)
  · rw [if_pos c0] at hf
    exact Ex.weak (sm_le_n (sm_le_n sm_le_nil)) (B_303_16 hd  hf hs)
  · rw [if_neg c0] at hf
    refine Ex.seg 3 (pc' := 9) (lc' := [some (.ref 67), some (.int x1)]) (st' := [.int (h.1 67 10), .int x1]) (h' := h) (sg1 rfl rfl (sg1 rfl rfl (sg1 rfl rfl rfl))) ?_
    refine Ex.icmp rfl rfl (fun (c0 : (h.1 67 10) ≤ x1) => ?_) (fun (c0 : ¬ ((h.1 67 10) ≤ x1)) => ?_)
    · rw [if_pos c0] at hf
      exact Ex.weak (sm_le_n (sm_le_n sm_le_nil)) (B_303_16 hd  hf hs)
    · rw [if_neg c0] at hf
      refine Ex.seg 2 (pc' := 17) (lc' := [some (.ref 67), some (.int x1)]) (st' := [.int 1]) (h' := h) (sg1 rfl rfl (sg1 rfl rfl rfl)) ?_
      exact Ex.weak (sm_le_n (sm_le_n sm_le_nil)) (B_303_17 hd  hf hs)
theorem E_303 {L : Nat} {xs : Nat → Int32} {d : Nat} (hd : 1 ≤ d) {x1 : Int32} {h : sm_H} {r : Int32 × sm_H} (hf : F_303 x1 h = some r) : RUN L xs d 303 [.ref 67, .int x1] h (some (.int r.1), r.2) := by
  obtain ⟨d, rfl⟩ : ∃ e, d = e + 1 := ⟨d - 1, by omega⟩
  exact ⟨Nat.le_of_ble_eq_true rfl, B_303_0 (by omega) hf rfl⟩
theorem B_304_17 {L : Nat} {xs : Nat → Int32} {d : Nat} (hd : 0 ≤ d) {res : Option Value × sm_H} {z0 : Int32}  {h : sm_H} {r : (Int32 × sm_H)} (hf : F_304_17 z0 h = some r) (hs : (fun (r : Int32 × sm_H) => res = (some (.int r.1), r.2)) r) : Ex (P_G L xs) (RUN L xs d) (sm_lk P_t304) 3 17 [none, none] [.int z0] h res := by
  unfold F_304_17 at hf
  rcases Classical.em (z0 = 0 ∨ z0 = 1) with c0 | c0
  · rw [if_pos c0] at hf
    obtain rfl := Option.some.inj hf
    exact Ex.iret rfl rfl (fun _ => c0) hs
  · rw [if_neg c0] at hf
    cases hf
theorem B_304_16 {L : Nat} {xs : Nat → Int32} {d : Nat} (hd : 0 ≤ d) {res : Option Value × sm_H}   {h : sm_H} {r : (Int32 × sm_H)} (hf : F_304_16  h = some r) (hs : (fun (r : Int32 × sm_H) => res = (some (.int r.1), r.2)) r) : Ex (P_G L xs) (RUN L xs d) (sm_lk P_t304) 3 16 [none, none] [] h res := by
  unfold F_304_16 at hf
  refine Ex.seg 1 (pc' := 17) (lc' := [none, none]) (st' := [.int 0]) (h' := h) (sg1 rfl rfl rfl) ?_
  exact Ex.weak (sm_le_s (sm_le_s sm_le_nil)) (B_304_17 hd  hf hs)
theorem B_304_0 {L : Nat} {xs : Nat → Int32} {d : Nat} (hd : 0 ≤ d) {res : Option Value × sm_H} {x1 : Int32}  {h : sm_H} {r : (Int32 × sm_H)} (hf : F_304_0 x1 h = some r) (hs : (fun (r : Int32 × sm_H) => res = (some (.int r.1), r.2)) r) : Ex (P_G L xs) (RUN L xs d) (sm_lk P_t304) 3 0 [some (.ref 67), some (.int x1)] [] h res := by
  unfold F_304_0 at hf
  refine Ex.seg 1 (pc' := 1) (lc' := [some (.ref 67), some (.int x1)]) (st' := [.int x1]) (h' := h) (sg1 rfl rfl rfl) ?_
  refine Ex.ifc rfl rfl (fun (c0 : x1 < 0) => ?_) (fun (c0 : ¬ (x1 < 0)) => ?_)
  · rw [if_pos c0] at hf
    exact Ex.weak (sm_le_n (sm_le_n sm_le_nil)) (B_304_16 hd  hf hs)
  · rw [if_neg c0] at hf
    refine Ex.seg 3 (pc' := 9) (lc' := [some (.ref 67), some (.int x1)]) (st' := [.int (h.1 67 18), .int x1]) (h' := h) (sg1 rfl rfl (sg1 rfl rfl (sg1 rfl rfl rfl))) ?_
    refine Ex.icmp rfl rfl (fun (c0 : (h.1 67 18) ≤ x1) => ?_) (fun (c0 : ¬ ((h.1 67 18) ≤ x1)) => ?_)
    · rw [if_pos c0] at hf
      exact Ex.weak (sm_le_n (sm_le_n sm_le_nil)) (B_304_16 hd  hf hs)
    · rw [if_neg c0] at hf
      refine Ex.seg 2 (pc' := 17) (lc' := [some (.ref 67), some (.int x1)]) (st' := [.int 1]) (h' := h) (sg1 rfl rfl (sg1 rfl rfl rfl)) ?_
      exact Ex.weak (sm_le_n (sm_le_n sm_le_nil)) (B_304_17 hd  hf hs)
theorem E_304 {L : Nat} {xs : Nat → Int32} {d : Nat} (hd : 1 ≤ d) {x1 : Int32} {h : sm_H} {r : Int32 × sm_H} (hf : F_304 x1 h = some r) : RUN L xs d 304 [.ref 67, .int x1] h (some (.int r.1), r.2) := by
  obtain ⟨d, rfl⟩ : ∃ e, d = e + 1 := ⟨d - 1, by omega⟩
  exact ⟨Nat.le_of_ble_eq_true rfl, B_304_0 (by omega) hf rfl⟩
theorem B_305_0 {L : Nat} {xs : Nat → Int32} {d : Nat} (hd : 0 ≤ d) {res : Option Value × sm_H} {x1 : Int32}  {h : sm_H} {r : (Int32 × sm_H)} (hf : F_305_0 x1 h = some r) (hs : (fun (r : Int32 × sm_H) => res = (some (.int r.1), r.2)) r) : Ex (P_G L xs) (RUN L xs d) (sm_lk P_t305) 0 0 [some (.ref 67), some (.int x1)] [] h res := by
  unfold F_305_0 at hf
  refine Ex.seg 5 (pc' := 9) (lc' := [some (.ref 67), some (.int x1)]) (st' := [.int x1, .ref 76, .ref 73]) (h' := h) (sg1 rfl rfl (sg1 rfl rfl (sg1 rfl rfl (sg1 rfl rfl (sg1 rfl rfl rfl))))) ?_
  obtain ⟨v1, e_v1, hf⟩ := bnd hf
  refine Ex.iald e_v1 rfl rfl ?_
  obtain ⟨v2, e_v2, hf⟩ := bnd hf
  refine Ex.iald e_v2 rfl rfl ?_
  obtain rfl := Option.some.inj hf
  exact Ex.iret rfl rfl (fun c0 => by cases c0) hs
theorem E_305 {L : Nat} {xs : Nat → Int32} {d : Nat} (hd : 1 ≤ d) {x1 : Int32} {h : sm_H} {r : Int32 × sm_H} (hf : F_305 x1 h = some r) : RUN L xs d 305 [.ref 67, .int x1] h (some (.int r.1), r.2) := by
  obtain ⟨d, rfl⟩ : ∃ e, d = e + 1 := ⟨d - 1, by omega⟩
  exact ⟨Nat.le_of_ble_eq_true rfl, B_305_0 (by omega) hf rfl⟩
theorem B_306_0 {L : Nat} {xs : Nat → Int32} {d : Nat} (hd : 0 ≤ d) {res : Option Value × sm_H} {x1 : Int32} {x2 : Int32}  {h : sm_H} {r : (Int32 × sm_H)} (hf : F_306_0 x1 x2 h = some r) (hs : (fun (r : Int32 × sm_H) => res = (some (.int r.1), r.2)) r) : Ex (P_G L xs) (RUN L xs d) (sm_lk P_t306) 0 0 [some (.ref 67), some (.int x1), some (.int x2)] [] h res := by
  unfold F_306_0 at hf
  refine Ex.seg 6 (pc' := 11) (lc' := [some (.ref 67), some (.int x1), some (.int x2)]) (st' := [.int x1, .ref 76, .int 10, .ref 74]) (h' := h) (sg1 rfl rfl (sg1 rfl rfl (sg1 rfl rfl (sg1 rfl rfl (sg1 rfl rfl (sg1 rfl rfl rfl)))))) ?_
  obtain ⟨v1, e_v1, hf⟩ := bnd hf
  refine Ex.iald e_v1 rfl rfl ?_
  refine Ex.seg 3 (pc' := 15) (lc' := [some (.ref 67), some (.int x1), some (.int x2)]) (st' := [.int ((10 * v1) + x2), .ref 74]) (h' := h) (sg1 rfl rfl (sg1 rfl rfl (sg1 rfl rfl rfl))) ?_
  obtain ⟨v2, e_v2, hf⟩ := bnd hf
  refine Ex.iald e_v2 rfl rfl ?_
  obtain rfl := Option.some.inj hf
  exact Ex.iret rfl rfl (fun c0 => by cases c0) hs
theorem E_306 {L : Nat} {xs : Nat → Int32} {d : Nat} (hd : 1 ≤ d) {x1 : Int32} {x2 : Int32} {h : sm_H} {r : Int32 × sm_H} (hf : F_306 x1 x2 h = some r) : RUN L xs d 306 [.ref 67, .int x1, .int x2] h (some (.int r.1), r.2) := by
  obtain ⟨d, rfl⟩ : ∃ e, d = e + 1 := ⟨d - 1, by omega⟩
  exact ⟨Nat.le_of_ble_eq_true rfl, B_306_0 (by omega) hf rfl⟩
theorem B_307_0 {L : Nat} {xs : Nat → Int32} {d : Nat} (hd : 0 ≤ d) {res : Option Value × sm_H} {x1 : Int32}  {h : sm_H} {r : (Int32 × sm_H)} (hf : F_307_0 x1 h = some r) (hs : (fun (r : Int32 × sm_H) => res = (some (.int r.1), r.2)) r) : Ex (P_G L xs) (RUN L xs d) (sm_lk P_t307) 0 0 [some (.ref 67), some (.int x1)] [] h res := by
  unfold F_307_0 at hf
  refine Ex.seg 5 (pc' := 9) (lc' := [some (.ref 67), some (.int x1)]) (st' := [.int x1, .ref 76, .ref 72]) (h' := h) (sg1 rfl rfl (sg1 rfl rfl (sg1 rfl rfl (sg1 rfl rfl (sg1 rfl rfl rfl))))) ?_
  obtain ⟨v1, e_v1, hf⟩ := bnd hf
  refine Ex.iald e_v1 rfl rfl ?_
  obtain ⟨v2, e_v2, hf⟩ := bnd hf
  refine Ex.iald e_v2 rfl rfl ?_
  obtain rfl := Option.some.inj hf
  exact Ex.iret rfl rfl (fun c0 => by cases c0) hs
theorem E_307 {L : Nat} {xs : Nat → Int32} {d : Nat} (hd : 1 ≤ d) {x1 : Int32} {h : sm_H} {r : Int32 × sm_H} (hf : F_307 x1 h = some r) : RUN L xs d 307 [.ref 67, .int x1] h (some (.int r.1), r.2) := by
  obtain ⟨d, rfl⟩ : ∃ e, d = e + 1 := ⟨d - 1, by omega⟩
  exact ⟨Nat.le_of_ble_eq_true rfl, B_307_0 (by omega) hf rfl⟩
theorem B_308_0 {L : Nat} {xs : Nat → Int32} {d : Nat} (hd : 0 ≤ d) {res : Option Value × sm_H} {x1 : Int32}  {h : sm_H} {r : (sm_H)} (hf : F_308_0 x1 h = some r) (hs : (fun (r : sm_H) => res = (none, r)) r) : Ex (P_G L xs) (RUN L xs d) (sm_lk P_t308) 0 0 [some (.ref 67), some (.int x1)] [] h res := by
  unfold F_308_0 at hf
  refine Ex.seg 3 (pc' := 5) (lc' := [some (.ref 67), some (.int x1)]) (st' := []) (h' := (sm_wI h 67 20 x1)) (sg1 rfl rfl (sg1 rfl rfl (sg1 rfl rfl rfl))) ?_
  obtain ⟨h1, e_h1, hf⟩ := bnd hf
  rw [Option.some.inj e_h1]
  refine Ex.seg 3 (pc' := 10) (lc' := [some (.ref 67), some (.int x1)]) (st' := []) (h' := (sm_wI h1 67 21 0)) (sg1 rfl rfl (sg1 rfl rfl (sg1 rfl rfl rfl))) ?_
  obtain ⟨h2, e_h2, hf⟩ := bnd hf
  rw [Option.some.inj e_h2]
  obtain rfl := Option.some.inj hf
  exact Ex.vret rfl rfl hs
theorem E_308 {L : Nat} {xs : Nat → Int32} {d : Nat} (hd : 1 ≤ d) {x1 : Int32} {h : sm_H} {r : sm_H} (hf : F_308 x1 h = some r) : RUN L xs d 308 [.ref 67, .int x1] h (none, r) := by
  obtain ⟨d, rfl⟩ : ∃ e, d = e + 1 := ⟨d - 1, by omega⟩
  exact ⟨Nat.le_of_ble_eq_true rfl, B_308_0 (by omega) hf rfl⟩
theorem B_309_0 {L : Nat} {xs : Nat → Int32} {d : Nat} (hd : 0 ≤ d) {res : Option Value × sm_H} {x1 : Int32}  {h : sm_H} {r : (sm_H)} (hf : F_309_0 x1 h = some r) (hs : (fun (r : sm_H) => res = (none, r)) r) : Ex (P_G L xs) (RUN L xs d) (sm_lk P_t309) 0 0 [some (.ref 67), some (.int x1)] [] h res := by
  unfold F_309_0 at hf
  refine Ex.seg 5 (pc' := 9) (lc' := [some (.ref 67), some (.int x1)]) (st' := [.int x1, .int (h.1 67 21), .ref 82]) (h' := h) (sg1 rfl rfl (sg1 rfl rfl (sg1 rfl rfl (sg1 rfl rfl (sg1 rfl rfl rfl))))) ?_
  obtain ⟨h1, e_h1, hf⟩ := bnd hf
  refine Ex.iast e_h1 rfl rfl ?_
  refine Ex.seg 6 (pc' := 20) (lc' := [some (.ref 67), some (.int x1)]) (st' := []) (h' := (sm_wI h1 67 21 ((h1.1 67 21) + 1))) (sg1 rfl rfl (sg1 rfl rfl (sg1 rfl rfl (sg1 rfl rfl (sg1 rfl rfl (sg1 rfl rfl rfl)))))) ?_
  obtain ⟨h2, e_h2, hf⟩ := bnd hf
  rw [Option.some.inj e_h2]
  obtain rfl := Option.some.inj hf
  exact Ex.vret rfl rfl hs
theorem E_309 {L : Nat} {xs : Nat → Int32} {d : Nat} (hd : 1 ≤ d) {x1 : Int32} {h : sm_H} {r : sm_H} (hf : F_309 x1 h = some r) : RUN L xs d 309 [.ref 67, .int x1] h (none, r) := by
  obtain ⟨d, rfl⟩ : ∃ e, d = e + 1 := ⟨d - 1, by omega⟩
  exact ⟨Nat.le_of_ble_eq_true rfl, B_309_0 (by omega) hf rfl⟩
theorem B_310_3B {L : Nat} {xs : Nat → Int32} {d : Nat} (hd : 1 ≤ d) {res : Option Value × sm_H} {S1 : (Int32 × Int32 × Int32 × sm_H) → Prop} (hS1 : ∀ s, S1 s → Ex (P_G L xs) (RUN L xs d) (sm_lk P_t310) 0 3 [some (.ref 67), some (.int s.1), none, some (.int s.2.1), some (.int s.2.2.1)] [] s.2.2.2 res) {s : (Int32 × Int32 × Int32 × sm_H)}  {r : ((Int32 × Int32 × Int32 × sm_H) ⊕ (sm_H))} (hf : F_310_3B s = some r) (hs : (Sum.elim S1 (fun (r : sm_H) => res = (none, r))) r) : Ex (P_G L xs) (RUN L xs d) (sm_lk P_t310) 0 3 [some (.ref 67), some (.int s.1), none, some (.int s.2.1), some (.int s.2.2.1)] [] s.2.2.2 res := by
  unfold F_310_3B at hf
  refine Ex.seg 2 (pc' := 6) (lc' := [some (.ref 67), some (.int s.1), none, some (.int s.2.1), some (.int s.2.2.1)]) (st' := [.int s.2.1, .int s.2.2.1]) (h' := s.2.2.2) (sg1 rfl rfl (sg1 rfl rfl rfl)) ?_
  refine Ex.icmp rfl rfl (fun (c0 : s.2.1 ≤ s.2.2.1) => ?_) (fun (c0 : ¬ (s.2.1 ≤ s.2.2.1)) => ?_)
  · rw [if_pos c0] at hf
    obtain rfl := Option.some.inj hf
    exact Ex.vret rfl rfl hs
  · rw [if_neg c0] at hf
    refine Ex.seg 4 (pc' := 14) (lc' := [some (.ref 67), some (.int s.1), none, some (.int s.2.1), some (.int s.2.2.1)]) (st' := [.int s.2.2.1, .int s.1, .ref 67, .ref 67]) (h' := s.2.2.2) (sg1 rfl rfl (sg1 rfl rfl (sg1 rfl rfl (sg1 rfl rfl rfl)))) ?_
    obtain ⟨q1, e_q1, hf⟩ := bnd hf
    refine Ex.callV (a := 67) (As := [.int s.1, .int s.2.2.1]) (r := [.ref 67]) (v := some (.int q1.1)) (h' := q1.2) rfl rfl (by decide) rfl (Nat.le_of_ble_eq_true rfl) rfl (E_306 (Nat.le_trans (by decide) hd) e_q1) rfl ?_
    obtain ⟨q2, e_q2, hf⟩ := bnd hf
    refine Ex.callV (a := 67) (As := [.int q1.1]) (r := []) (v := none) (h' := q2) rfl rfl (by decide) rfl (Nat.le_of_ble_eq_true rfl) rfl (E_309 (Nat.le_trans (by decide) hd) e_q2) rfl ?_
    refine Ex.seg 1 (pc' := 23) (lc' := [some (.ref 67), some (.int s.1), none, some (.int s.2.1), some (.int (s.2.2.1 + 1))]) (st' := []) (h' := q2) (sg1 rfl rfl rfl) ?_
    obtain ⟨v3, e_v3, hf⟩ := bnd hf
    rw [Option.some.inj e_v3]
    refine Ex.seg 1 (pc' := 3) (lc' := [some (.ref 67), some (.int s.1), none, some (.int s.2.1), some (.int v3)]) (st' := []) (h' := q2) (sg1 rfl rfl rfl) ?_
    obtain rfl := Option.some.inj hf
    exact Ex.weak (sm_le_s (sm_le_s (sm_le_s (sm_le_s (sm_le_s sm_le_nil))))) (hS1 _ hs)
theorem B_310_3 {L : Nat} {xs : Nat → Int32} {d : Nat} (hd : 1 ≤ d) {res : Option Value × sm_H} {y1 : Int32} {y3 : Int32} {y4 : Int32}  {h : sm_H} {r : (sm_H)} (hf : F_310_3 y1 y3 y4 h = some r) (hs : (fun (r : sm_H) => res = (none, r)) r) : Ex (P_G L xs) (RUN L xs d) (sm_lk P_t310) 0 3 [some (.ref 67), some (.int y1), none, some (.int y3), some (.int y4)] [] h res := by
  unfold F_310_3 at hf
  exact lp_ok (P := fun (s : (Int32 × Int32 × Int32 × sm_H)) => Ex (P_G L xs) (RUN L xs d) (sm_lk P_t310) 0 3 [some (.ref 67), some (.int s.1), none, some (.int s.2.1), some (.int s.2.2.1)] [] s.2.2.2 res) (S := (fun (r : sm_H) => res = (none, r))) (fun s x hx hsx => by
    intros
    exact B_310_3B hd  (fun _ q => q) hx hsx) 1000000 _ r hf hs
theorem B_310_0 {L : Nat} {xs : Nat → Int32} {d : Nat} (hd : 1 ≤ d) {res : Option Value × sm_H} {x1 : Int32} {x2 : Int32} {x3 : Int32}  {h : sm_H} {r : (sm_H)} (hf : F_310_0 x1 x2 x3 h = some r) (hs : (fun (r : sm_H) => res = (none, r)) r) : Ex (P_G L xs) (RUN L xs d) (sm_lk P_t310) 0 0 [some (.ref 67), some (.int x1), some (.int x2), some (.int x3), none] [] h res := by
  unfold F_310_0 at hf
  refine Ex.seg 2 (pc' := 3) (lc' := [some (.ref 67), some (.int x1), some (.int x2), some (.int x3), some (.int x2)]) (st' := []) (h' := h) (sg1 rfl rfl (sg1 rfl rfl rfl)) ?_
  exact Ex.weak (sm_le_s (sm_le_s (sm_le_n (sm_le_s (sm_le_s sm_le_nil))))) (B_310_3 hd  hf hs)
theorem E_310 {L : Nat} {xs : Nat → Int32} {d : Nat} (hd : 2 ≤ d) {x1 : Int32} {x2 : Int32} {x3 : Int32} {h : sm_H} {r : sm_H} (hf : F_310 x1 x2 x3 h = some r) : RUN L xs d 310 [.ref 67, .int x1, .int x2, .int x3] h (none, r) := by
  obtain ⟨d, rfl⟩ : ∃ e, d = e + 1 := ⟨d - 1, by omega⟩
  exact ⟨Nat.le_of_ble_eq_true rfl, B_310_0 (by omega) hf rfl⟩
theorem B_311_2B {L : Nat} {xs : Nat → Int32} {d : Nat} (hd : 1 ≤ d) {res : Option Value × sm_H} {S1 : (Int32 × Int32 × sm_H) → Prop} (hS1 : ∀ s, S1 s → Ex (P_G L xs) (RUN L xs d) (sm_lk P_t311) 0 2 [some (.ref 67), some (.int s.1), some (.int s.2.1)] [] s.2.2 res) {s : (Int32 × Int32 × sm_H)}  {r : ((Int32 × Int32 × sm_H) ⊕ (sm_H))} (hf : F_311_2B s = some r) (hs : (Sum.elim S1 (fun (r : sm_H) => res = (none, r))) r) : Ex (P_G L xs) (RUN L xs d) (sm_lk P_t311) 0 2 [some (.ref 67), some (.int s.1), some (.int s.2.1)] [] s.2.2 res := by
  unfold F_311_2B at hf
  refine Ex.seg 4 (pc' := 8) (lc' := [some (.ref 67), some (.int s.1), some (.int s.2.1)]) (st' := [.int s.1, .ref 73, .int s.2.1]) (h' := s.2.2) (sg1 rfl rfl (sg1 rfl rfl (sg1 rfl rfl (sg1 rfl rfl rfl)))) ?_
  obtain ⟨v1, e_v1, hf⟩ := bnd hf
  refine Ex.iald e_v1 rfl rfl ?_
  refine Ex.icmp rfl rfl (fun (c0 : v1 ≤ s.2.1) => ?_) (fun (c0 : ¬ (v1 ≤ s.2.1)) => ?_)
  · rw [if_pos c0] at hf
    obtain rfl := Option.some.inj hf
    exact Ex.vret rfl rfl hs
  · rw [if_neg c0] at hf
    refine Ex.seg 8 (pc' := 23) (lc' := [some (.ref 67), some (.int s.1), some (.int s.2.1)]) (st' := [.int ((10 * s.1) + s.2.1), .ref 74, .ref 67]) (h' := s.2.2) (sg1 rfl rfl (sg1 rfl rfl (sg1 rfl rfl (sg1 rfl rfl (sg1 rfl rfl (sg1 rfl rfl (sg1 rfl rfl (sg1 rfl rfl rfl)))))))) ?_
    obtain ⟨v2, e_v2, hf⟩ := bnd hf
    refine Ex.iald e_v2 rfl rfl ?_
    obtain ⟨q3, e_q3, hf⟩ := bnd hf
    refine Ex.callV (a := 67) (As := [.int v2]) (r := []) (v := none) (h' := q3) rfl rfl (by decide) rfl (Nat.le_of_ble_eq_true rfl) rfl (E_309 (Nat.le_trans (by decide) hd) e_q3) rfl ?_
    refine Ex.seg 1 (pc' := 30) (lc' := [some (.ref 67), some (.int s.1), some (.int (s.2.1 + 1))]) (st' := []) (h' := q3) (sg1 rfl rfl rfl) ?_
    obtain ⟨v4, e_v4, hf⟩ := bnd hf
    rw [Option.some.inj e_v4]
    refine Ex.seg 1 (pc' := 2) (lc' := [some (.ref 67), some (.int s.1), some (.int v4)]) (st' := []) (h' := q3) (sg1 rfl rfl rfl) ?_
    obtain rfl := Option.some.inj hf
    exact Ex.weak (sm_le_s (sm_le_s (sm_le_s sm_le_nil))) (hS1 _ hs)
theorem B_311_2 {L : Nat} {xs : Nat → Int32} {d : Nat} (hd : 1 ≤ d) {res : Option Value × sm_H} {y1 : Int32} {y2 : Int32}  {h : sm_H} {r : (sm_H)} (hf : F_311_2 y1 y2 h = some r) (hs : (fun (r : sm_H) => res = (none, r)) r) : Ex (P_G L xs) (RUN L xs d) (sm_lk P_t311) 0 2 [some (.ref 67), some (.int y1), some (.int y2)] [] h res := by
  unfold F_311_2 at hf
  exact lp_ok (P := fun (s : (Int32 × Int32 × sm_H)) => Ex (P_G L xs) (RUN L xs d) (sm_lk P_t311) 0 2 [some (.ref 67), some (.int s.1), some (.int s.2.1)] [] s.2.2 res) (S := (fun (r : sm_H) => res = (none, r))) (fun s x hx hsx => by
    intros
    exact B_311_2B hd  (fun _ q => q) hx hsx) 1000000 _ r hf hs
theorem B_311_0 {L : Nat} {xs : Nat → Int32} {d : Nat} (hd : 1 ≤ d) {res : Option Value × sm_H} {x1 : Int32}  {h : sm_H} {r : (sm_H)} (hf : F_311_0 x1 h = some r) (hs : (fun (r : sm_H) => res = (none, r)) r) : Ex (P_G L xs) (RUN L xs d) (sm_lk P_t311) 0 0 [some (.ref 67), some (.int x1), none] [] h res := by
  unfold F_311_0 at hf
  refine Ex.seg 2 (pc' := 2) (lc' := [some (.ref 67), some (.int x1), some (.int 0)]) (st' := []) (h' := h) (sg1 rfl rfl (sg1 rfl rfl rfl)) ?_
  exact Ex.weak (sm_le_s (sm_le_s (sm_le_s sm_le_nil))) (B_311_2 hd  hf hs)
theorem E_311 {L : Nat} {xs : Nat → Int32} {d : Nat} (hd : 2 ≤ d) {x1 : Int32} {h : sm_H} {r : sm_H} (hf : F_311 x1 h = some r) : RUN L xs d 311 [.ref 67, .int x1] h (none, r) := by
  obtain ⟨d, rfl⟩ : ∃ e, d = e + 1 := ⟨d - 1, by omega⟩
  exact ⟨Nat.le_of_ble_eq_true rfl, B_311_0 (by omega) hf rfl⟩
theorem B_312_47 {L : Nat} {xs : Nat → Int32} {d : Nat} (hd : 1 ≤ d) {res : Option Value × sm_H}   {h : sm_H} {r : (Int32 × sm_H)} (hf : F_312_47  h = some r) (hs : (fun (r : Int32 × sm_H) => res = (some (.int r.1), r.2)) r) : Ex (P_G L xs) (RUN L xs d) (sm_lk P_t312) 3 47 [none, none, none, none, none] [] h res := by
  unfold F_312_47 at hf
  refine Ex.seg 1 (pc' := 48) (lc' := [none, none, none, none, none]) (st' := [.int 0]) (h' := h) (sg1 rfl rfl rfl) ?_
  obtain rfl := Option.some.inj hf
  exact Ex.iret rfl rfl (fun _ => by decide) hs
theorem B_312_3B {L : Nat} {xs : Nat → Int32} {d : Nat} (hd : 1 ≤ d) {res : Option Value × sm_H} {S1 : (Int32 × Int32 × Int32 × Int32 × sm_H) → Prop} (hS1 : ∀ s, S1 s → Ex (P_G L xs) (RUN L xs d) (sm_lk P_t312) 3 3 [some (.ref 67), some (.int s.1), some (.int s.2.1), some (.int s.2.2.1), some (.int s.2.2.2.1)] [] s.2.2.2.2 res) {s : (Int32 × Int32 × Int32 × Int32 × sm_H)}  {r : ((Int32 × Int32 × Int32 × Int32 × sm_H) ⊕ (Int32 × sm_H))} (hf : F_312_3B s = some r) (hs : (Sum.elim S1 (fun (r : Int32 × sm_H) => res = (some (.int r.1), r.2))) r) : Ex (P_G L xs) (RUN L xs d) (sm_lk P_t312) 3 3 [some (.ref 67), some (.int s.1), some (.int s.2.1), some (.int s.2.2.1), some (.int s.2.2.2.1)] [] s.2.2.2.2 res := by
  unfold F_312_3B at hf
  refine Ex.seg 3 (pc' := 7) (lc' := [some (.ref 67), some (.int s.1), some (.int s.2.1), some (.int s.2.2.1), some (.int s.2.2.2.1)]) (st' := [.int s.1, .ref 67, .int s.2.2.2.1]) (h' := s.2.2.2.2) (sg1 rfl rfl (sg1 rfl rfl (sg1 rfl rfl rfl))) ?_
  obtain ⟨q1, e_q1, hf⟩ := bnd hf
  refine Ex.callV (a := 67) (As := [.int s.1]) (r := [.int s.2.2.2.1]) (v := some (.int q1.1)) (h' := q1.2) rfl rfl (by decide) rfl (Nat.le_of_ble_eq_true rfl) rfl (E_305 (Nat.le_trans (by decide) hd) e_q1) rfl ?_
  refine Ex.icmp rfl rfl (fun (c0 : q1.1 ≤ s.2.2.2.1) => ?_) (fun (c0 : ¬ (q1.1 ≤ s.2.2.2.1)) => ?_)
  · rw [if_pos c0] at hf
    refine Ex.seg 1 (pc' := 56) (lc' := [some (.ref 67), some (.int s.1), some (.int s.2.1), some (.int s.2.2.1), some (.int s.2.2.2.1)]) (st' := [.int 1]) (h' := q1.2) (sg1 rfl rfl rfl) ?_
    obtain rfl := Option.some.inj hf
    exact Ex.iret rfl rfl (fun _ => by decide) hs
  · rw [if_neg c0] at hf
    refine Ex.seg 7 (pc' := 23) (lc' := [some (.ref 67), some (.int s.1), some (.int s.2.1), some (.int s.2.2.1), some (.int s.2.2.2.1)]) (st' := [.int (q1.2.1 67 21), .int ((s.2.2.1 + s.2.2.2.1) - s.2.1)]) (h' := q1.2) (sg1 rfl rfl (sg1 rfl rfl (sg1 rfl rfl (sg1 rfl rfl (sg1 rfl rfl (sg1 rfl rfl (sg1 rfl rfl rfl))))))) ?_
    refine Ex.icmp rfl rfl (fun (c0 : (q1.2.1 67 21) ≤ ((s.2.2.1 + s.2.2.2.1) - s.2.1)) => ?_) (fun (c0 : ¬ ((q1.2.1 67 21) ≤ ((s.2.2.1 + s.2.2.2.1) - s.2.1))) => ?_)
    · rw [if_pos c0] at hf
      obtain ⟨r0, hf0, rfl⟩ := Option.map_eq_some_iff.mp hf
      exact Ex.weak (sm_le_n (sm_le_n (sm_le_n (sm_le_n (sm_le_n sm_le_nil))))) (B_312_47 hd  hf0 hs)
    · rw [if_neg c0] at hf
      refine Ex.seg 7 (pc' := 36) (lc' := [some (.ref 67), some (.int s.1), some (.int s.2.1), some (.int s.2.2.1), some (.int s.2.2.2.1)]) (st' := [.int ((s.2.2.1 + s.2.2.2.1) - s.2.1), .ref 82]) (h' := q1.2) (sg1 rfl rfl (sg1 rfl rfl (sg1 rfl rfl (sg1 rfl rfl (sg1 rfl rfl (sg1 rfl rfl (sg1 rfl rfl rfl))))))) ?_
      obtain ⟨v2, e_v2, hf⟩ := bnd hf
      refine Ex.iald e_v2 rfl rfl ?_
      refine Ex.seg 3 (pc' := 41) (lc' := [some (.ref 67), some (.int s.1), some (.int s.2.1), some (.int s.2.2.1), some (.int s.2.2.2.1)]) (st' := [.int s.2.2.2.1, .int s.1, .ref 67, .int v2]) (h' := q1.2) (sg1 rfl rfl (sg1 rfl rfl (sg1 rfl rfl rfl))) ?_
      obtain ⟨q3, e_q3, hf⟩ := bnd hf
      refine Ex.callV (a := 67) (As := [.int s.1, .int s.2.2.2.1]) (r := [.int v2]) (v := some (.int q3.1)) (h' := q3.2) rfl rfl (by decide) rfl (Nat.le_of_ble_eq_true rfl) rfl (E_306 (Nat.le_trans (by decide) hd) e_q3) rfl ?_
      refine Ex.icmp rfl rfl (fun (c0 : v2 = q3.1) => ?_) (fun (c0 : ¬ (v2 = q3.1)) => ?_)
      · rw [if_pos c0] at hf
        refine Ex.seg 1 (pc' := 52) (lc' := [some (.ref 67), some (.int s.1), some (.int s.2.1), some (.int s.2.2.1), some (.int (s.2.2.2.1 + 1))]) (st' := []) (h' := q3.2) (sg1 rfl rfl rfl) ?_
        obtain ⟨v4, e_v4, hf⟩ := bnd hf
        rw [Option.some.inj e_v4]
        refine Ex.seg 1 (pc' := 3) (lc' := [some (.ref 67), some (.int s.1), some (.int s.2.1), some (.int s.2.2.1), some (.int v4)]) (st' := []) (h' := q3.2) (sg1 rfl rfl rfl) ?_
        obtain rfl := Option.some.inj hf
        exact Ex.weak (sm_le_s (sm_le_s (sm_le_s (sm_le_s (sm_le_s sm_le_nil))))) (hS1 _ hs)
      · rw [if_neg c0] at hf
        obtain ⟨r0, hf0, rfl⟩ := Option.map_eq_some_iff.mp hf
        exact Ex.weak (sm_le_n (sm_le_n (sm_le_n (sm_le_n (sm_le_n sm_le_nil))))) (B_312_47 hd  hf0 hs)
theorem B_312_3 {L : Nat} {xs : Nat → Int32} {d : Nat} (hd : 1 ≤ d) {res : Option Value × sm_H} {y1 : Int32} {y2 : Int32} {y3 : Int32} {y4 : Int32}  {h : sm_H} {r : (Int32 × sm_H)} (hf : F_312_3 y1 y2 y3 y4 h = some r) (hs : (fun (r : Int32 × sm_H) => res = (some (.int r.1), r.2)) r) : Ex (P_G L xs) (RUN L xs d) (sm_lk P_t312) 3 3 [some (.ref 67), some (.int y1), some (.int y2), some (.int y3), some (.int y4)] [] h res := by
  unfold F_312_3 at hf
  exact lp_ok (P := fun (s : (Int32 × Int32 × Int32 × Int32 × sm_H)) => Ex (P_G L xs) (RUN L xs d) (sm_lk P_t312) 3 3 [some (.ref 67), some (.int s.1), some (.int s.2.1), some (.int s.2.2.1), some (.int s.2.2.2.1)] [] s.2.2.2.2 res) (S := (fun (r : Int32 × sm_H) => res = (some (.int r.1), r.2))) (fun s x hx hsx => by
    intros
    exact B_312_3B hd  (fun _ q => q) hx hsx) 1000000 _ r hf hs
theorem B_312_0 {L : Nat} {xs : Nat → Int32} {d : Nat} (hd : 1 ≤ d) {res : Option Value × sm_H} {x1 : Int32} {x2 : Int32} {x3 : Int32}  {h : sm_H} {r : (Int32 × sm_H)} (hf : F_312_0 x1 x2 x3 h = some r) (hs : (fun (r : Int32 × sm_H) => res = (some (.int r.1), r.2)) r) : Ex (P_G L xs) (RUN L xs d) (sm_lk P_t312) 3 0 [some (.ref 67), some (.int x1), some (.int x2), some (.int x3), none] [] h res := by
  unfold F_312_0 at hf
  refine Ex.seg 2 (pc' := 3) (lc' := [some (.ref 67), some (.int x1), some (.int x2), some (.int x3), some (.int x2)]) (st' := []) (h' := h) (sg1 rfl rfl (sg1 rfl rfl rfl)) ?_
  exact Ex.weak (sm_le_s (sm_le_s (sm_le_s (sm_le_s (sm_le_s sm_le_nil))))) (B_312_3 hd  hf hs)
theorem E_312 {L : Nat} {xs : Nat → Int32} {d : Nat} (hd : 2 ≤ d) {x1 : Int32} {x2 : Int32} {x3 : Int32} {h : sm_H} {r : Int32 × sm_H} (hf : F_312 x1 x2 x3 h = some r) : RUN L xs d 312 [.ref 67, .int x1, .int x2, .int x3] h (some (.int r.1), r.2) := by
  obtain ⟨d, rfl⟩ : ∃ e, d = e + 1 := ⟨d - 1, by omega⟩
  exact ⟨Nat.le_of_ble_eq_true rfl, B_312_0 (by omega) hf rfl⟩
theorem B_313_0 {L : Nat} {xs : Nat → Int32} {d : Nat} (hd : 0 ≤ d) {res : Option Value × sm_H} {x0 : Int32}  {h : sm_H} {r : (Int32 × sm_H)} (hf : F_313_0 x0 h = some r) (hs : (fun (r : Int32 × sm_H) => res = (some (.int r.1), r.2)) r) : Ex (P_G L xs) (RUN L xs d) (sm_lk P_t313) 0 0 [some (.int x0)] [] h res := by
  unfold F_313_0 at hf
  refine Ex.seg 3 (pc' := 3) (lc' := [some (.int x0)]) (st' := [.int ((-1) - x0)]) (h' := h) (sg1 rfl rfl (sg1 rfl rfl (sg1 rfl rfl rfl))) ?_
  obtain rfl := Option.some.inj hf
  exact Ex.iret rfl rfl (fun c0 => by cases c0) hs
theorem E_313 {L : Nat} {xs : Nat → Int32} {d : Nat} (hd : 1 ≤ d) {x0 : Int32} {h : sm_H} {r : Int32 × sm_H} (hf : F_313 x0 h = some r) : RUN L xs d 313 [.int x0] h (some (.int r.1), r.2) := by
  obtain ⟨d, rfl⟩ : ∃ e, d = e + 1 := ⟨d - 1, by omega⟩
  exact ⟨Nat.le_of_ble_eq_true rfl, B_313_0 (by omega) hf rfl⟩
