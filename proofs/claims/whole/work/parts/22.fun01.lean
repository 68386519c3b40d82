theorem B_106_81 {L : Nat} {xs : Nat → Int32} {d : Nat} (hd : 0 ≤ d) {res : Option Value × sm_H} {z0 : Int64}  {h : sm_H} {r : (Int64 × sm_H)} (hf : F_106_81 z0 h = some r) (hs : (fun (r : Int64 × sm_H) => res = (some (.long r.1), r.2)) r) : Ex (P_G L xs) (RUN L xs d) (sm_lk P_t106) 0 81 [none, none, none, none, none, none] [.long z0] h res := by
  unfold F_106_81 at hf
  obtain rfl := Option.some.inj hf
  exact Ex.lret rfl rfl hs
theorem B_106_63 {L : Nat} {xs : Nat → Int32} {d : Nat} (hd : 0 ≤ d) {res : Option Value × sm_H} {z0 : Int64}  {h : sm_H} {r : (Int64 × sm_H)} (hf : F_106_63 z0 h = some r) (hs : (fun (r : Int64 × sm_H) => res = (some (.long r.1), r.2)) r) : Ex (P_G L xs) (RUN L xs d) (sm_lk P_t106) 0 63 [none, none, none, none, none, none] [.long z0] h res := by
  unfold F_106_63 at hf
  obtain rfl := Option.some.inj hf
  exact Ex.lret rfl rfl hs
theorem B_106_45 {L : Nat} {xs : Nat → Int32} {d : Nat} (hd : 0 ≤ d) {res : Option Value × sm_H} {z0 : Int64}  {h : sm_H} {r : (Int64 × sm_H)} (hf : F_106_45 z0 h = some r) (hs : (fun (r : Int64 × sm_H) => res = (some (.long r.1), r.2)) r) : Ex (P_G L xs) (RUN L xs d) (sm_lk P_t106) 0 45 [none, none, none, none, none, none] [.long z0] h res := by
  unfold F_106_45 at hf
  obtain rfl := Option.some.inj hf
  exact Ex.lret rfl rfl hs
theorem B_106_0 {L : Nat} {xs : Nat → Int32} {d : Nat} (hd : 0 ≤ d) {res : Option Value × sm_H} {x1 : Int32} {x2 : Int32} {x3 : Int64} {x5 : Int32}  {h : sm_H} {r : (Int64 × sm_H)} (hf : F_106_0 x1 x2 x3 x5 h = some r) (hs : (fun (r : Int64 × sm_H) => res = (some (.long r.1), r.2)) r) : Ex (P_G L xs) (RUN L xs d) (sm_lk P_t106) 0 0 [some (.ref 49), some (.int x1), some (.int x2), some (.long x3), none, some (.int x5)] [] h res := by
  unfold F_106_0 at hf
  refine Ex.seg 1 (pc' := 1) (lc' := [some (.ref 49), some (.int x1), some (.int x2), some (.long x3), none, some (.int x5)]) (st' := [.int x1]) (h' := h) (sg1 rfl rfl rfl) ?_
  rcases Classical.em (x1 = 8) with n1 | n1
  · rw [if_pos n1] at hf
    refine Ex.swl (t := 28) rfl rfl (by rw [n1]; exact ⟨by decide, by decide⟩) ?_
    refine Ex.seg 1 (pc' := 29) (lc' := [some (.ref 49), some (.int x1), some (.int x2), some (.long x3), none, some (.int x5)]) (st' := [.int x2]) (h' := h) (sg1 rfl rfl rfl) ?_
    refine Ex.ifc rfl rfl (fun (c0 : x2 = 0) => ?_) (fun (c0 : ¬ (x2 = 0)) => ?_)
    · rw [if_pos c0] at hf
      refine Ex.seg 5 (pc' := 45) (lc' := [some (.ref 49), some (.int x1), some (.int x2), some (.long x3), none, some (.int x5)]) (st' := [.long (Int32.toInt64 ((Int64.toInt32 x3) <<< (x5 &&& 31)))]) (h' := h) (sg1 rfl rfl (sg1 rfl rfl (sg1 rfl rfl (sg1 rfl rfl (sg1 rfl rfl rfl))))) ?_
      exact Ex.weak (sm_le_n (sm_le_n (sm_le_n (sm_le_n (sm_le_s (sm_le_n sm_le_nil)))))) (B_106_45 hd  hf hs)
    · rw [if_neg c0] at hf
      refine Ex.seg 4 (pc' := 45) (lc' := [some (.ref 49), some (.int x1), some (.int x2), some (.long x3), none, some (.int x5)]) (st' := [.long (x3 <<< (Int32.toInt64 x5 &&& 63))]) (h' := h) (sg1 rfl rfl (sg1 rfl rfl (sg1 rfl rfl (sg1 rfl rfl rfl)))) ?_
      exact Ex.weak (sm_le_n (sm_le_n (sm_le_n (sm_le_n (sm_le_s (sm_le_n sm_le_nil)))))) (B_106_45 hd  hf hs)
  rw [if_neg n1] at hf
  rcases Classical.em (x1 = 9) with n2 | n2
  · rw [if_pos n2] at hf
    refine Ex.swl (t := 46) rfl rfl (by rw [n2]; exact ⟨by decide, by decide⟩) ?_
    refine Ex.seg 1 (pc' := 47) (lc' := [some (.ref 49), some (.int x1), some (.int x2), some (.long x3), none, some (.int x5)]) (st' := [.int x2]) (h' := h) (sg1 rfl rfl rfl) ?_
    refine Ex.ifc rfl rfl (fun (c0 : x2 = 0) => ?_) (fun (c0 : ¬ (x2 = 0)) => ?_)
    · rw [if_pos c0] at hf
      refine Ex.seg 5 (pc' := 63) (lc' := [some (.ref 49), some (.int x1), some (.int x2), some (.long x3), none, some (.int x5)]) (st' := [.long (Int32.toInt64 ((Int64.toInt32 x3) >>> (x5 &&& 31)))]) (h' := h) (sg1 rfl rfl (sg1 rfl rfl (sg1 rfl rfl (sg1 rfl rfl (sg1 rfl rfl rfl))))) ?_
      exact Ex.weak (sm_le_n (sm_le_n (sm_le_n (sm_le_n (sm_le_s (sm_le_n sm_le_nil)))))) (B_106_63 hd  hf hs)
    · rw [if_neg c0] at hf
      refine Ex.seg 4 (pc' := 63) (lc' := [some (.ref 49), some (.int x1), some (.int x2), some (.long x3), none, some (.int x5)]) (st' := [.long (x3 >>> (Int32.toInt64 x5 &&& 63))]) (h' := h) (sg1 rfl rfl (sg1 rfl rfl (sg1 rfl rfl (sg1 rfl rfl rfl)))) ?_
      exact Ex.weak (sm_le_n (sm_le_n (sm_le_n (sm_le_n (sm_le_s (sm_le_n sm_le_nil)))))) (B_106_63 hd  hf hs)
  rw [if_neg n2] at hf
  refine Ex.swl (t := 64) rfl rfl ?_ ?_
  · refine ⟨by decide, ?_⟩
    have m1 : ¬ Int32.toInt x1 = 8 := fun z => n1 (Int32.toInt_inj.mp (z.trans (by decide : (_ : Int) = Int32.toInt 8)))
    have m2 : ¬ Int32.toInt x1 = 9 := fun z => n2 (Int32.toInt_inj.mp (z.trans (by decide : (_ : Int) = Int32.toInt 9)))
    simp [Op.lookupswitch.offset]
    rw [if_neg (fun z => m1 z.symm), if_neg (fun z => m2 z.symm)]
    all_goals decide
  refine Ex.seg 1 (pc' := 65) (lc' := [some (.ref 49), some (.int x1), some (.int x2), some (.long x3), none, some (.int x5)]) (st' := [.int x2]) (h' := h) (sg1 rfl rfl rfl) ?_
  refine Ex.ifc rfl rfl (fun (c0 : x2 = 0) => ?_) (fun (c0 : ¬ (x2 = 0)) => ?_)
  · rw [if_pos c0] at hf
    refine Ex.seg 5 (pc' := 81) (lc' := [some (.ref 49), some (.int x1), some (.int x2), some (.long x3), none, some (.int x5)]) (st' := [.long (Int32.toInt64 (Int32.toUInt32 (Int64.toInt32 x3) >>> (Int32.toUInt32 x5 &&& Int32.toUInt32 31)).toInt32)]) (h' := h) (sg1 rfl rfl (sg1 rfl rfl (sg1 rfl rfl (sg1 rfl rfl (sg1 rfl rfl rfl))))) ?_
    exact Ex.weak (sm_le_n (sm_le_n (sm_le_n (sm_le_n (sm_le_s (sm_le_n sm_le_nil)))))) (B_106_81 hd  hf hs)
  · rw [if_neg c0] at hf
    refine Ex.seg 4 (pc' := 81) (lc' := [some (.ref 49), some (.int x1), some (.int x2), some (.long x3), none, some (.int x5)]) (st' := [.long (Int64.toUInt64 x3 >>> ((Int32.toInt64 x5).toUInt64 &&& Int64.toUInt64 63)).toInt64]) (h' := h) (sg1 rfl rfl (sg1 rfl rfl (sg1 rfl rfl (sg1 rfl rfl rfl)))) ?_
    exact Ex.weak (sm_le_n (sm_le_n (sm_le_n (sm_le_n (sm_le_s (sm_le_n sm_le_nil)))))) (B_106_81 hd  hf hs)
theorem E_106 {L : Nat} {xs : Nat → Int32} {d : Nat} (hd : 1 ≤ d) {x1 : Int32} {x2 : Int32} {x3 : Int64} {x5 : Int32} {h : sm_H} {r : Int64 × sm_H} (hf : F_106 x1 x2 x3 x5 h = some r) : RUN L xs d 106 [.ref 49, .int x1, .int x2, .long x3, .int x5] h (some (.long r.1), r.2) := by
  obtain ⟨d, rfl⟩ : ∃ e, d = e + 1 := ⟨d - 1, by omega⟩
  exact ⟨Nat.le_of_ble_eq_true rfl, B_106_0 (by omega) hf rfl⟩
theorem B_112_0 {L : Nat} {xs : Nat → Int32} {d : Nat} (hd : 0 ≤ d) {res : Option Value × sm_H}   {h : sm_H} {r : (Int32 × sm_H)} (hf : F_112_0  h = some r) (hs : (fun (r : Int32 × sm_H) => res = (some (.int r.1), r.2)) r) : Ex (P_G L xs) (RUN L xs d) (sm_lk P_t112) 0 0 [some (.ref 38)] [] h res := by
  unfold F_112_0 at hf
  refine Ex.seg 2 (pc' := 4) (lc' := [some (.ref 38)]) (st' := [.int (h.1 38 13)]) (h' := h) (sg1 rfl rfl (sg1 rfl rfl rfl)) ?_
  obtain rfl := Option.some.inj hf
  exact Ex.iret rfl rfl (fun c0 => by cases c0) hs
theorem E_112 {L : Nat} {xs : Nat → Int32} {d : Nat} (hd : 1 ≤ d)  {h : sm_H} {r : Int32 × sm_H} (hf : F_112  h = some r) : RUN L xs d 112 [.ref 38] h (some (.int r.1), r.2) := by
  obtain ⟨d, rfl⟩ : ∃ e, d = e + 1 := ⟨d - 1, by omega⟩
  exact ⟨Nat.le_of_ble_eq_true rfl, B_112_0 (by omega) hf rfl⟩
theorem B_113_17 {L : Nat} {xs : Nat → Int32} {d : Nat} (hd : 0 ≤ d) {res : Option Value × sm_H} {z0 : Int32}  {h : sm_H} {r : (Int32 × sm_H)} (hf : F_113_17 z0 h = some r) (hs : (fun (r : Int32 × sm_H) => res = (some (.int r.1), r.2)) r) : Ex (P_G L xs) (RUN L xs d) (sm_lk P_t113) 3 17 [none, none] [.int z0] h res := by
  unfold F_113_17 at hf
  rcases Classical.em (z0 = 0 ∨ z0 = 1) with c0 | c0
  · rw [if_pos c0] at hf
    obtain rfl := Option.some.inj hf
    exact Ex.iret rfl rfl (fun _ => c0) hs
  · rw [if_neg c0] at hf
    cases hf
theorem B_113_16 {L : Nat} {xs : Nat → Int32} {d : Nat} (hd : 0 ≤ d) {res : Option Value × sm_H}   {h : sm_H} {r : (Int32 × sm_H)} (hf : F_113_16  h = some r) (hs : (fun (r : Int32 × sm_H) => res = (some (.int r.1), r.2)) r) : Ex (P_G L xs) (RUN L xs d) (sm_lk P_t113) 3 16 [none, none] [] h res := by
  unfold F_113_16 at hf
  refine Ex.seg 1 (pc' := 17) (lc' := [none, none]) (st' := [.int 0]) (h' := h) (sg1 rfl rfl rfl) ?_
  exact Ex.weak (sm_le_s (sm_le_s sm_le_nil)) (B_113_17 hd  hf hs)
theorem B_113_0 {L : Nat} {xs : Nat → Int32} {d : Nat} (hd : 0 ≤ d) {res : Option Value × sm_H} {x1 : Int32}  {h : sm_H} {r : (Int32 × sm_H)} (hf : F_113_0 x1 h = some r) (hs : (fun (r : Int32 × sm_H) => res = (some (.int r.1), r.2)) r) : Ex (P_G L xs) (RUN L xs d) (sm_lk P_t113) 3 0 [some (.ref 38), some (.int x1)] [] h res := by
  unfold F_113_0 at hf
  refine Ex.seg 1 (pc' := 1) (lc' := [some (.ref 38), some (.int x1)]) (st' := [.int x1]) (h' := h) (sg1 rfl rfl rfl) ?_
  refine Ex.ifc rfl rfl (fun (c0 : x1 < 0) => ?_) (fun (c0 : ¬ (x1 < 0)) => ?_)
  · rw [if_pos c0] at hf
    exact Ex.weak (sm_le_n (sm_le_n sm_le_nil)) (B_113_16 hd  hf hs)
  · rw [if_neg c0] at hf
    refine Ex.seg 3 (pc' := 9) (lc' := [some (.ref 38), some (.int x1)]) (st' := [.int (h.1 38 13), .int x1]) (h' := h) (sg1 rfl rfl (sg1 rfl rfl (sg1 rfl rfl rfl))) ?_
    refine Ex.icmp rfl rfl (fun (c0 : (h.1 38 13) ≤ x1) => ?_) (fun (c0 : ¬ ((h.1 38 13) ≤ x1)) => ?_)
    · rw [if_pos c0] at hf
      exact Ex.weak (sm_le_n (sm_le_n sm_le_nil)) (B_113_16 hd  hf hs)
    · rw [if_neg c0] at hf
      refine Ex.seg 2 (pc' := 17) (lc' := [some (.ref 38), some (.int x1)]) (st' := [.int 1]) (h' := h) (sg1 rfl rfl (sg1 rfl rfl rfl)) ?_
      exact Ex.weak (sm_le_n (sm_le_n sm_le_nil)) (B_113_17 hd  hf hs)
theorem E_113 {L : Nat} {xs : Nat → Int32} {d : Nat} (hd : 1 ≤ d) {x1 : Int32} {h : sm_H} {r : Int32 × sm_H} (hf : F_113 x1 h = some r) : RUN L xs d 113 [.ref 38, .int x1] h (some (.int r.1), r.2) := by
  obtain ⟨d, rfl⟩ : ∃ e, d = e + 1 := ⟨d - 1, by omega⟩
  exact ⟨Nat.le_of_ble_eq_true rfl, B_113_0 (by omega) hf rfl⟩
theorem B_116_24 {L : Nat} {xs : Nat → Int32} {d : Nat} (hd : 0 ≤ d) {res : Option Value × sm_H} {z0 : Int32}  {h : sm_H} {r : (Int32 × sm_H)} (hf : F_116_24 z0 h = some r) (hs : (fun (r : Int32 × sm_H) => res = (some (.int r.1), r.2)) r) : Ex (P_G L xs) (RUN L xs d) (sm_lk P_t116) 3 24 [none, none, none] [.int z0] h res := by
  unfold F_116_24 at hf
  rcases Classical.em (z0 = 0 ∨ z0 = 1) with c0 | c0
  · rw [if_pos c0] at hf
    obtain rfl := Option.some.inj hf
    exact Ex.iret rfl rfl (fun _ => c0) hs
  · rw [if_neg c0] at hf
    cases hf
theorem B_116_19 {L : Nat} {xs : Nat → Int32} {d : Nat} (hd : 0 ≤ d) {res : Option Value × sm_H}   {h : sm_H} {r : (Int32 × sm_H)} (hf : F_116_19  h = some r) (hs : (fun (r : Int32 × sm_H) => res = (some (.int r.1), r.2)) r) : Ex (P_G L xs) (RUN L xs d) (sm_lk P_t116) 3 19 [none, none, none] [] h res := by
  unfold F_116_19 at hf
  refine Ex.seg 2 (pc' := 24) (lc' := [none, none, none]) (st' := [.int 1]) (h' := h) (sg1 rfl rfl (sg1 rfl rfl rfl)) ?_
  exact Ex.weak (sm_le_s (sm_le_s (sm_le_s sm_le_nil))) (B_116_24 hd  hf hs)
theorem B_116_0 {L : Nat} {xs : Nat → Int32} {d : Nat} (hd : 0 ≤ d) {res : Option Value × sm_H} {x1 : Int32} {x2 : Int32}  {h : sm_H} {r : (Int32 × sm_H)} (hf : F_116_0 x1 x2 h = some r) (hs : (fun (r : Int32 × sm_H) => res = (some (.int r.1), r.2)) r) : Ex (P_G L xs) (RUN L xs d) (sm_lk P_t116) 3 0 [some (.ref 38), some (.int x1), some (.int x2)] [] h res := by
  unfold F_116_0 at hf
  refine Ex.seg 1 (pc' := 1) (lc' := [some (.ref 38), some (.int x1), some (.int x2)]) (st' := [.int x1]) (h' := h) (sg1 rfl rfl rfl) ?_
  refine Ex.ifc rfl rfl (fun (c0 : x1 < 0) => ?_) (fun (c0 : ¬ (x1 < 0)) => ?_)
  · rw [if_pos c0] at hf
    exact Ex.weak (sm_le_n (sm_le_n (sm_le_n sm_le_nil))) (B_116_19 hd  hf hs)
  · rw [if_neg c0] at hf
    refine Ex.seg 2 (pc' := 7) (lc' := [some (.ref 38), some (.int x1), some (.int x2)]) (st' := [.int 99, .int x1]) (h' := h) (sg1 rfl rfl (sg1 rfl rfl rfl)) ?_
    refine Ex.icmp rfl rfl (fun (c0 : 99 < x1) => ?_) (fun (c0 : ¬ (99 < x1)) => ?_)
    · rw [if_pos c0] at hf
      exact Ex.weak (sm_le_n (sm_le_n (sm_le_n sm_le_nil))) (B_116_19 hd  hf hs)
    · rw [if_neg c0] at hf
      refine Ex.seg 1 (pc' := 11) (lc' := [some (.ref 38), some (.int x1), some (.int x2)]) (st' := [.int x2]) (h' := h) (sg1 rfl rfl rfl) ?_
      refine Ex.ifc rfl rfl (fun (c0 : x2 < 0) => ?_) (fun (c0 : ¬ (x2 < 0)) => ?_)
      · rw [if_pos c0] at hf
        exact Ex.weak (sm_le_n (sm_le_n (sm_le_n sm_le_nil))) (B_116_19 hd  hf hs)
      · rw [if_neg c0] at hf
        refine Ex.seg 2 (pc' := 16) (lc' := [some (.ref 38), some (.int x1), some (.int x2)]) (st' := [.int 3, .int x2]) (h' := h) (sg1 rfl rfl (sg1 rfl rfl rfl)) ?_
        refine Ex.icmp rfl rfl (fun (c0 : x2 ≤ 3) => ?_) (fun (c0 : ¬ (x2 ≤ 3)) => ?_)
        · rw [if_pos c0] at hf
          refine Ex.seg 1 (pc' := 24) (lc' := [some (.ref 38), some (.int x1), some (.int x2)]) (st' := [.int 0]) (h' := h) (sg1 rfl rfl rfl) ?_
          exact Ex.weak (sm_le_n (sm_le_n (sm_le_n sm_le_nil))) (B_116_24 hd  hf hs)
        · rw [if_neg c0] at hf
          exact Ex.weak (sm_le_n (sm_le_n (sm_le_n sm_le_nil))) (B_116_19 hd  hf hs)
theorem E_116 {L : Nat} {xs : Nat → Int32} {d : Nat} (hd : 1 ≤ d) {x1 : Int32} {x2 : Int32} {h : sm_H} {r : Int32 × sm_H} (hf : F_116 x1 x2 h = some r) : RUN L xs d 116 [.ref 38, .int x1, .int x2] h (some (.int r.1), r.2) := by
  obtain ⟨d, rfl⟩ : ∃ e, d = e + 1 := ⟨d - 1, by omega⟩
  exact ⟨Nat.le_of_ble_eq_true rfl, B_116_0 (by omega) hf rfl⟩
theorem B_117_0 {L : Nat} {xs : Nat → Int32} {d : Nat} (hd : 0 ≤ d) {res : Option Value × sm_H} {x1 : Int32} {x2 : Int32} {x3 : Int32} {x4 : Int32}  {h : sm_H} {r : (Int32 × sm_H)} (hf : F_117_0 x1 x2 x3 x4 h = some r) (hs : (fun (r : Int32 × sm_H) => res = (some (.int r.1), r.2)) r) : Ex (P_G L xs) (RUN L xs d) (sm_lk P_t117) 0 0 [some (.ref 38), some (.int x1), some (.int x2), some (.int x3), some (.int x4)] [] h res := by
  unfold F_117_0 at hf
  refine Ex.seg 3 (pc' := 6) (lc' := [some (.ref 38), some (.int x1), some (.int x2), some (.int x3), some (.int x4)]) (st' := [.int 100, .int (h.1 38 13)]) (h' := h) (sg1 rfl rfl (sg1 rfl rfl (sg1 rfl rfl rfl))) ?_
  refine Ex.icmp rfl rfl (fun (c0 : (h.1 38 13) < 100) => ?_) (fun (c0 : ¬ ((h.1 38 13) < 100)) => ?_)
  · rw [if_pos c0] at hf
    refine Ex.seg 5 (pc' := 21) (lc' := [some (.ref 38), some (.int x1), some (.int x2), some (.int x3), some (.int x4)]) (st' := [.int x1, .int (h.1 38 13), .ref 39]) (h' := h) (sg1 rfl rfl (sg1 rfl rfl (sg1 rfl rfl (sg1 rfl rfl (sg1 rfl rfl rfl))))) ?_
    obtain ⟨h1, e_h1, hf⟩ := bnd hf
    refine Ex.iast e_h1 rfl rfl ?_
    refine Ex.seg 5 (pc' := 31) (lc' := [some (.ref 38), some (.int x1), some (.int x2), some (.int x3), some (.int x4)]) (st' := [.int x2, .int (h1.1 38 13), .ref 40]) (h' := h1) (sg1 rfl rfl (sg1 rfl rfl (sg1 rfl rfl (sg1 rfl rfl (sg1 rfl rfl rfl))))) ?_
    obtain ⟨h2, e_h2, hf⟩ := bnd hf
    refine Ex.iast e_h2 rfl rfl ?_
    refine Ex.seg 5 (pc' := 41) (lc' := [some (.ref 38), some (.int x1), some (.int x2), some (.int x3), some (.int x4)]) (st' := [.int x3, .int (h2.1 38 13), .ref 42]) (h' := h2) (sg1 rfl rfl (sg1 rfl rfl (sg1 rfl rfl (sg1 rfl rfl (sg1 rfl rfl rfl))))) ?_
    obtain ⟨h3, e_h3, hf⟩ := bnd hf
    refine Ex.zast e_h3 rfl rfl ?_
    refine Ex.seg 5 (pc' := 52) (lc' := [some (.ref 38), some (.int x1), some (.int x2), some (.int x3), some (.int x4)]) (st' := [.int x4, .int (h3.1 38 13), .ref 41]) (h' := h3) (sg1 rfl rfl (sg1 rfl rfl (sg1 rfl rfl (sg1 rfl rfl (sg1 rfl rfl rfl))))) ?_
    obtain ⟨h4, e_h4, hf⟩ := bnd hf
    refine Ex.iast e_h4 rfl rfl ?_
    refine Ex.seg 6 (pc' := 63) (lc' := [some (.ref 38), some (.int x1), some (.int x2), some (.int x3), some (.int x4)]) (st' := []) (h' := (sm_wI h4 38 13 ((h4.1 38 13) + 1))) (sg1 rfl rfl (sg1 rfl rfl (sg1 rfl rfl (sg1 rfl rfl (sg1 rfl rfl (sg1 rfl rfl rfl)))))) ?_
    obtain ⟨h5, e_h5, hf⟩ := bnd hf
    rw [Option.some.inj e_h5]
    refine Ex.seg 4 (pc' := 69) (lc' := [some (.ref 38), some (.int x1), some (.int x2), some (.int x3), some (.int x4)]) (st' := [.int ((h5.1 38 13) - 1)]) (h' := h5) (sg1 rfl rfl (sg1 rfl rfl (sg1 rfl rfl (sg1 rfl rfl rfl)))) ?_
    obtain rfl := Option.some.inj hf
    exact Ex.iret rfl rfl (fun c0 => by cases c0) hs
  · rw [if_neg c0] at hf
    refine Ex.seg 1 (pc' := 11) (lc' := [some (.ref 38), some (.int x1), some (.int x2), some (.int x3), some (.int x4)]) (st' := [.int (-5)]) (h' := h) (sg1 rfl rfl rfl) ?_
    obtain rfl := Option.some.inj hf
    exact Ex.iret rfl rfl (fun c0 => by cases c0) hs
theorem E_117 {L : Nat} {xs : Nat → Int32} {d : Nat} (hd : 1 ≤ d) {x1 : Int32} {x2 : Int32} {x3 : Int32} {x4 : Int32} {h : sm_H} {r : Int32 × sm_H} (hf : F_117 x1 x2 x3 x4 h = some r) : RUN L xs d 117 [.ref 38, .int x1, .int x2, .int x3, .int x4] h (some (.int r.1), r.2) := by
  obtain ⟨d, rfl⟩ : ∃ e, d = e + 1 := ⟨d - 1, by omega⟩
  exact ⟨Nat.le_of_ble_eq_true rfl, B_117_0 (by omega) hf rfl⟩
theorem B_122_16 {L : Nat} {xs : Nat → Int32} {d : Nat} (hd : 0 ≤ d) {res : Option Value × sm_H} {z0 : Int32}  {h : sm_H} {r : (Int32 × sm_H)} (hf : F_122_16 z0 h = some r) (hs : (fun (r : Int32 × sm_H) => res = (some (.int r.1), r.2)) r) : Ex (P_G L xs) (RUN L xs d) (sm_lk P_t122) 3 16 [none, none] [.int z0] h res := by
  unfold F_122_16 at hf
  rcases Classical.em (z0 = 0 ∨ z0 = 1) with c0 | c0
  · rw [if_pos c0] at hf
    obtain rfl := Option.some.inj hf
    exact Ex.iret rfl rfl (fun _ => c0) hs
  · rw [if_neg c0] at hf
    cases hf
theorem B_122_15 {L : Nat} {xs : Nat → Int32} {d : Nat} (hd : 0 ≤ d) {res : Option Value × sm_H}   {h : sm_H} {r : (Int32 × sm_H)} (hf : F_122_15  h = some r) (hs : (fun (r : Int32 × sm_H) => res = (some (.int r.1), r.2)) r) : Ex (P_G L xs) (RUN L xs d) (sm_lk P_t122) 3 15 [none, none] [] h res := by
  unfold F_122_15 at hf
  refine Ex.seg 1 (pc' := 16) (lc' := [none, none]) (st' := [.int 0]) (h' := h) (sg1 rfl rfl rfl) ?_
  exact Ex.weak (sm_le_s (sm_le_s sm_le_nil)) (B_122_16 hd  hf hs)
theorem B_122_0 {L : Nat} {xs : Nat → Int32} {d : Nat} (hd : 0 ≤ d) {res : Option Value × sm_H} {x1 : Int32}  {h : sm_H} {r : (Int32 × sm_H)} (hf : F_122_0 x1 h = some r) (hs : (fun (r : Int32 × sm_H) => res = (some (.int r.1), r.2)) r) : Ex (P_G L xs) (RUN L xs d) (sm_lk P_t122) 3 0 [some (.ref 38), some (.int x1)] [] h res := by
  unfold F_122_0 at hf
  refine Ex.seg 2 (pc' := 2) (lc' := [some (.ref 38), some (.int x1)]) (st' := [.int 2, .int x1]) (h' := h) (sg1 rfl rfl (sg1 rfl rfl rfl)) ?_
  refine Ex.icmp rfl rfl (fun (c0 : x1 < 2) => ?_) (fun (c0 : ¬ (x1 < 2)) => ?_)
  · rw [if_pos c0] at hf
    exact Ex.weak (sm_le_n (sm_le_n sm_le_nil)) (B_122_15 hd  hf hs)
  · rw [if_neg c0] at hf
    refine Ex.seg 2 (pc' := 8) (lc' := [some (.ref 38), some (.int x1)]) (st' := [.int 6, .int x1]) (h' := h) (sg1 rfl rfl (sg1 rfl rfl rfl)) ?_
    refine Ex.icmp rfl rfl (fun (c0 : 6 < x1) => ?_) (fun (c0 : ¬ (6 < x1)) => ?_)
    · rw [if_pos c0] at hf
      exact Ex.weak (sm_le_n (sm_le_n sm_le_nil)) (B_122_15 hd  hf hs)
    · rw [if_neg c0] at hf
      refine Ex.seg 2 (pc' := 16) (lc' := [some (.ref 38), some (.int x1)]) (st' := [.int 1]) (h' := h) (sg1 rfl rfl (sg1 rfl rfl rfl)) ?_
      exact Ex.weak (sm_le_n (sm_le_n sm_le_nil)) (B_122_16 hd  hf hs)
theorem E_122 {L : Nat} {xs : Nat → Int32} {d : Nat} (hd : 1 ≤ d) {x1 : Int32} {h : sm_H} {r : Int32 × sm_H} (hf : F_122 x1 h = some r) : RUN L xs d 122 [.ref 38, .int x1] h (some (.int r.1), r.2) := by
  obtain ⟨d, rfl⟩ : ∃ e, d = e + 1 := ⟨d - 1, by omega⟩
  exact ⟨Nat.le_of_ble_eq_true rfl, B_122_0 (by omega) hf rfl⟩
theorem B_123_90 {L : Nat} {xs : Nat → Int32} {d : Nat} (hd : 2 ≤ d) {res : Option Value × sm_H} {z0 : Int32}  {h : sm_H} {r : (Int32 × sm_H)} (hf : F_123_90 z0 h = some r) (hs : (fun (r : Int32 × sm_H) => res = (some (.int r.1), r.2)) r) : Ex (P_G L xs) (RUN L xs d) (sm_lk P_t123) 3 90 [none, none, none, none] [.int z0] h res := by
  unfold F_123_90 at hf
  rcases Classical.em (z0 = 0 ∨ z0 = 1) with c0 | c0
  · rw [if_pos c0] at hf
    obtain rfl := Option.some.inj hf
    exact Ex.iret rfl rfl (fun _ => c0) hs
  · rw [if_neg c0] at hf
    cases hf
theorem B_123_85 {L : Nat} {xs : Nat → Int32} {d : Nat} (hd : 2 ≤ d) {res : Option Value × sm_H}   {h : sm_H} {r : (Int32 × sm_H)} (hf : F_123_85  h = some r) (hs : (fun (r : Int32 × sm_H) => res = (some (.int r.1), r.2)) r) : Ex (P_G L xs) (RUN L xs d) (sm_lk P_t123) 3 85 [none, none, none, none] [] h res := by
  unfold F_123_85 at hf
  refine Ex.seg 2 (pc' := 90) (lc' := [none, none, none, none]) (st' := [.int 1]) (h' := h) (sg1 rfl rfl (sg1 rfl rfl rfl)) ?_
  exact Ex.weak (sm_le_s (sm_le_s (sm_le_s (sm_le_s sm_le_nil)))) (B_123_90 hd  hf hs)
theorem B_123_50 {L : Nat} {xs : Nat → Int32} {d : Nat} (hd : 2 ≤ d) {res : Option Value × sm_H} {z0 : Int32}  {h : sm_H} {r : (Int32 × sm_H)} (hf : F_123_50 z0 h = some r) (hs : (fun (r : Int32 × sm_H) => res = (some (.int r.1), r.2)) r) : Ex (P_G L xs) (RUN L xs d) (sm_lk P_t123) 3 50 [none, none, none, none] [.int z0] h res := by
  unfold F_123_50 at hf
  rcases Classical.em (z0 = 0 ∨ z0 = 1) with c0 | c0
  · rw [if_pos c0] at hf
    obtain rfl := Option.some.inj hf
    exact Ex.iret rfl rfl (fun _ => c0) hs
  · rw [if_neg c0] at hf
    cases hf
theorem B_123_0 {L : Nat} {xs : Nat → Int32} {d : Nat} (hd : 2 ≤ d) {res : Option Value × sm_H} {x1 : Int32} {x2 : Int32}  {h : sm_H} {r : (Int32 × sm_H)} (hf : F_123_0 x1 x2 h = some r) (hs : (fun (r : Int32 × sm_H) => res = (some (.int r.1), r.2)) r) : Ex (P_G L xs) (RUN L xs d) (sm_lk P_t123) 3 0 [some (.ref 38), some (.int x1), some (.int x2), none] [] h res := by
  unfold F_123_0 at hf
  refine Ex.seg 3 (pc' := 5) (lc' := [some (.ref 38), some (.int x1), some (.int x2), none]) (st' := [.int x2, .ref 39]) (h' := h) (sg1 rfl rfl (sg1 rfl rfl (sg1 rfl rfl rfl))) ?_
  obtain ⟨v1, e_v1, hf⟩ := bnd hf
  refine Ex.iald e_v1 rfl rfl ?_
  refine Ex.seg 4 (pc' := 12) (lc' := [some (.ref 38), some (.int x1), some (.int x2), some (.int v1)]) (st' := [.int x2, .ref 41]) (h' := h) (sg1 rfl rfl (sg1 rfl rfl (sg1 rfl rfl (sg1 rfl rfl rfl)))) ?_
  obtain ⟨v2, e_v2, hf⟩ := bnd hf
  refine Ex.iald e_v2 rfl rfl ?_
  rcases Classical.em (v2 = 0) with n1 | n1
  · rw [if_pos n1] at hf
    refine Ex.swt (t := 40) rfl rfl (by rw [n1]; exact Or.inr ⟨by decide, by decide, _, rfl, by decide⟩) ?_
    refine Ex.seg 2 (pc' := 42) (lc' := [some (.ref 38), some (.int x1), some (.int x2), some (.int v1)]) (st' := [.int v1, .int x1]) (h' := h) (sg1 rfl rfl (sg1 rfl rfl rfl)) ?_
    refine Ex.icmp rfl rfl (fun (c0 : ¬ (x1 = v1)) => ?_) (fun (c0 : ¬ ¬ (x1 = v1)) => ?_)
    · rw [if_neg c0] at hf
      refine Ex.seg 1 (pc' := 50) (lc' := [some (.ref 38), some (.int x1), some (.int x2), some (.int v1)]) (st' := [.int 0]) (h' := h) (sg1 rfl rfl rfl) ?_
      exact Ex.weak (sm_le_n (sm_le_n (sm_le_n (sm_le_n sm_le_nil)))) (B_123_50 hd  hf hs)
    · rw [if_pos (Classical.not_not.mp c0)] at hf
      refine Ex.seg 2 (pc' := 50) (lc' := [some (.ref 38), some (.int x1), some (.int x2), some (.int v1)]) (st' := [.int 1]) (h' := h) (sg1 rfl rfl (sg1 rfl rfl rfl)) ?_
      exact Ex.weak (sm_le_n (sm_le_n (sm_le_n (sm_le_n sm_le_nil)))) (B_123_50 hd  hf hs)
  rw [if_neg n1] at hf
  rcases Classical.em (v2 = 1) with n2 | n2
  · rw [if_pos n2] at hf
    refine Ex.swt (t := 51) rfl rfl (by rw [n2]; exact Or.inr ⟨by decide, by decide, _, rfl, by decide⟩) ?_
    refine Ex.seg 4 (pc' := 57) (lc' := [some (.ref 38), some (.int x1), some (.int x2), some (.int v1)]) (st' := [.int v1, .int x1, .ref 1]) (h' := h) (sg1 rfl rfl (sg1 rfl rfl (sg1 rfl rfl (sg1 rfl rfl rfl)))) ?_
    obtain ⟨q3, e_q3, hf⟩ := bnd hf
    refine Ex.callV (a := 1) (As := [.int x1, .int v1]) (r := []) (v := some (.int q3.1)) (h' := q3.2) rfl rfl (by decide) rfl (Nat.le_of_ble_eq_true rfl) rfl (E_62 (Nat.le_trans (by decide) hd) e_q3) rfl ?_
    rcases Classical.em (q3.1 = 0 ∨ q3.1 = 1) with c0 | c0
    · rw [if_pos c0] at hf
      obtain rfl := Option.some.inj hf
      exact Ex.iret rfl rfl (fun _ => c0) hs
    · rw [if_neg c0] at hf
      cases hf
  rw [if_neg n2] at hf
  rcases Classical.em (v2 = 2) with n3 | n3
  · rw [if_pos n3] at hf
    refine Ex.swt (t := 61) rfl rfl (by rw [n3]; exact Or.inr ⟨by decide, by decide, _, rfl, by decide⟩) ?_
    refine Ex.seg 4 (pc' := 67) (lc' := [some (.ref 38), some (.int x1), some (.int x2), some (.int v1)]) (st' := [.int v1, .int x1, .ref 1]) (h' := h) (sg1 rfl rfl (sg1 rfl rfl (sg1 rfl rfl (sg1 rfl rfl rfl)))) ?_
    obtain ⟨q4, e_q4, hf⟩ := bnd hf
    refine Ex.callV (a := 1) (As := [.int x1, .int v1]) (r := []) (v := some (.int q4.1)) (h' := q4.2) rfl rfl (by decide) rfl (Nat.le_of_ble_eq_true rfl) rfl (E_62 (Nat.le_trans (by decide) hd) e_q4) rfl ?_
    refine Ex.ifc rfl rfl (fun (c0 : ¬ (q4.1 = 0)) => ?_) (fun (c0 : ¬ ¬ (q4.1 = 0)) => ?_)
    · rw [if_neg c0] at hf
      exact Ex.weak (sm_le_n (sm_le_n (sm_le_n (sm_le_n sm_le_nil)))) (B_123_85 hd  hf hs)
    · rw [if_pos (Classical.not_not.mp c0)] at hf
      refine Ex.seg 4 (pc' := 79) (lc' := [some (.ref 38), some (.int x1), some (.int x2), some (.int v1)]) (st' := [.int v1, .int x1, .ref 1]) (h' := q4.2) (sg1 rfl rfl (sg1 rfl rfl (sg1 rfl rfl (sg1 rfl rfl rfl)))) ?_
      obtain ⟨q5, e_q5, hf⟩ := bnd hf
      refine Ex.callV (a := 1) (As := [.int x1, .int v1]) (r := []) (v := some (.int q5.1)) (h' := q5.2) rfl rfl (by decide) rfl (Nat.le_of_ble_eq_true rfl) rfl (E_60 (Nat.le_trans (by decide) hd) e_q5) rfl ?_
      refine Ex.ifc rfl rfl (fun (c0 : q5.1 = 0) => ?_) (fun (c0 : ¬ (q5.1 = 0)) => ?_)
      · rw [if_pos c0] at hf
        refine Ex.seg 1 (pc' := 90) (lc' := [some (.ref 38), some (.int x1), some (.int x2), some (.int v1)]) (st' := [.int 0]) (h' := q5.2) (sg1 rfl rfl rfl) ?_
        exact Ex.weak (sm_le_n (sm_le_n (sm_le_n (sm_le_n sm_le_nil)))) (B_123_90 hd  hf hs)
      · rw [if_neg c0] at hf
        exact Ex.weak (sm_le_n (sm_le_n (sm_le_n (sm_le_n sm_le_nil)))) (B_123_85 hd  hf hs)
  rw [if_neg n3] at hf
  refine Ex.swt (t := 91) rfl rfl (sw_dflt (by decide) (by decide) (fun k hk he => ?_)) ?_
  · have hk : k < 3 := hk
    rcases (show k = 0 ∨ k = 1 ∨ k = 2 by omega) with rfl | rfl | rfl
    · exact absurd (Int32.toInt_inj.mp (he.symm.trans (by decide : (_ : Int) = Int32.toInt 0))) n1
    · exact absurd (Int32.toInt_inj.mp (he.symm.trans (by decide : (_ : Int) = Int32.toInt 1))) n2
    · exact absurd (Int32.toInt_inj.mp (he.symm.trans (by decide : (_ : Int) = Int32.toInt 2))) n3
  refine Ex.seg 1 (pc' := 92) (lc' := [some (.ref 38), some (.int x1), some (.int x2), some (.int v1)]) (st' := [.int 1]) (h' := h) (sg1 rfl rfl rfl) ?_
  obtain rfl := Option.some.inj hf
  exact Ex.iret rfl rfl (fun _ => by decide) hs
theorem E_123 {L : Nat} {xs : Nat → Int32} {d : Nat} (hd : 3 ≤ d) {x1 : Int32} {x2 : Int32} {h : sm_H} {r : Int32 × sm_H} (hf : F_123 x1 x2 h = some r) : RUN L xs d 123 [.ref 38, .int x1, .int x2] h (some (.int r.1), r.2) := by
  obtain ⟨d, rfl⟩ : ∃ e, d = e + 1 := ⟨d - 1, by omega⟩
  exact ⟨Nat.le_of_ble_eq_true rfl, B_123_0 (by omega) hf rfl⟩
theorem B_128_18 {L : Nat} {xs : Nat → Int32} {d : Nat} (hd : 1 ≤ d) {res : Option Value × sm_H} {z0 : Int32}  {h : sm_H} {r : (Int32 × sm_H)} (hf : F_128_18 z0 h = some r) (hs : (fun (r : Int32 × sm_H) => res = (some (.int r.1), r.2)) r) : Ex (P_G L xs) (RUN L xs d) (sm_lk P_t128) 0 18 [none, none] [.int z0] h res := by
  unfold F_128_18 at hf
  obtain rfl := Option.some.inj hf
  exact Ex.iret rfl rfl (fun c0 => by cases c0) hs
theorem B_128_0 {L : Nat} {xs : Nat → Int32} {d : Nat} (hd : 1 ≤ d) {res : Option Value × sm_H} {x1 : Int32}  {h : sm_H} {r : (Int32 × sm_H)} (hf : F_128_0 x1 h = some r) (hs : (fun (r : Int32 × sm_H) => res = (some (.int r.1), r.2)) r) : Ex (P_G L xs) (RUN L xs d) (sm_lk P_t128) 0 0 [some (.ref 38), some (.int x1)] [] h res := by
  unfold F_128_0 at hf
  refine Ex.seg 2 (pc' := 2) (lc' := [some (.ref 38), some (.int x1)]) (st' := [.int x1, .ref 38]) (h' := h) (sg1 rfl rfl (sg1 rfl rfl rfl)) ?_
  obtain ⟨q1, e_q1, hf⟩ := bnd hf
  refine Ex.callV (a := 38) (As := [.int x1]) (r := []) (v := some (.int q1.1)) (h' := q1.2) rfl rfl (by decide) rfl (Nat.le_of_ble_eq_true rfl) rfl (E_113 (Nat.le_trans (by decide) hd) e_q1) rfl ?_
  refine Ex.ifc rfl rfl (fun (c0 : q1.1 = 0) => ?_) (fun (c0 : ¬ (q1.1 = 0)) => ?_)
  · rw [if_pos c0] at hf
    refine Ex.seg 1 (pc' := 18) (lc' := [some (.ref 38), some (.int x1)]) (st' := [.int 0]) (h' := q1.2) (sg1 rfl rfl rfl) ?_
    exact Ex.weak (sm_le_n (sm_le_n sm_le_nil)) (B_128_18 hd  hf hs)
  · rw [if_neg c0] at hf
    refine Ex.seg 3 (pc' := 13) (lc' := [some (.ref 38), some (.int x1)]) (st' := [.int x1, .ref 43]) (h' := q1.2) (sg1 rfl rfl (sg1 rfl rfl (sg1 rfl rfl rfl))) ?_
    obtain ⟨v2, e_v2, hf⟩ := bnd hf
    refine Ex.iald e_v2 rfl rfl ?_
    refine Ex.seg 1 (pc' := 18) (lc' := [some (.ref 38), some (.int x1)]) (st' := [.int v2]) (h' := q1.2) (sg1 rfl rfl rfl) ?_
    exact Ex.weak (sm_le_n (sm_le_n sm_le_nil)) (B_128_18 hd  hf hs)
theorem E_128 {L : Nat} {xs : Nat → Int32} {d : Nat} (hd : 2 ≤ d) {x1 : Int32} {h : sm_H} {r : Int32 × sm_H} (hf : F_128 x1 h = some r) : RUN L xs d 128 [.ref 38, .int x1] h (some (.int r.1), r.2) := by
  obtain ⟨d, rfl⟩ : ∃ e, d = e + 1 := ⟨d - 1, by omega⟩
  exact ⟨Nat.le_of_ble_eq_true rfl, B_128_0 (by omega) hf rfl⟩
theorem B_129_18 {L : Nat} {xs : Nat → Int32} {d : Nat} (hd : 1 ≤ d) {res : Option Value × sm_H} {z0 : Int32}  {h : sm_H} {r : (Int32 × sm_H)} (hf : F_129_18 z0 h = some r) (hs : (fun (r : Int32 × sm_H) => res = (some (.int r.1), r.2)) r) : Ex (P_G L xs) (RUN L xs d) (sm_lk P_t129) 0 18 [none, none] [.int z0] h res := by
  unfold F_129_18 at hf
  obtain rfl := Option.some.inj hf
  exact Ex.iret rfl rfl (fun c0 => by cases c0) hs
theorem B_129_0 {L : Nat} {xs : Nat → Int32} {d : Nat} (hd : 1 ≤ d) {res : Option Value × sm_H} {x1 : Int32}  {h : sm_H} {r : (Int32 × sm_H)} (hf : F_129_0 x1 h = some r) (hs : (fun (r : Int32 × sm_H) => res = (some (.int r.1), r.2)) r) : Ex (P_G L xs) (RUN L xs d) (sm_lk P_t129) 0 0 [some (.ref 38), some (.int x1)] [] h res := by
  unfold F_129_0 at hf
  refine Ex.seg 2 (pc' := 2) (lc' := [some (.ref 38), some (.int x1)]) (st' := [.int x1, .ref 38]) (h' := h) (sg1 rfl rfl (sg1 rfl rfl rfl)) ?_
  obtain ⟨q1, e_q1, hf⟩ := bnd hf
  refine Ex.callV (a := 38) (As := [.int x1]) (r := []) (v := some (.int q1.1)) (h' := q1.2) rfl rfl (by decide) rfl (Nat.le_of_ble_eq_true rfl) rfl (E_113 (Nat.le_trans (by decide) hd) e_q1) rfl ?_
  refine Ex.ifc rfl rfl (fun (c0 : q1.1 = 0) => ?_) (fun (c0 : ¬ (q1.1 = 0)) => ?_)
  · rw [if_pos c0] at hf
    refine Ex.seg 1 (pc' := 18) (lc' := [some (.ref 38), some (.int x1)]) (st' := [.int (-1)]) (h' := q1.2) (sg1 rfl rfl rfl) ?_
    exact Ex.weak (sm_le_n (sm_le_n sm_le_nil)) (B_129_18 hd  hf hs)
  · rw [if_neg c0] at hf
    refine Ex.seg 3 (pc' := 13) (lc' := [some (.ref 38), some (.int x1)]) (st' := [.int x1, .ref 46]) (h' := q1.2) (sg1 rfl rfl (sg1 rfl rfl (sg1 rfl rfl rfl))) ?_
    obtain ⟨v2, e_v2, hf⟩ := bnd hf
    refine Ex.iald e_v2 rfl rfl ?_
    refine Ex.seg 1 (pc' := 18) (lc' := [some (.ref 38), some (.int x1)]) (st' := [.int v2]) (h' := q1.2) (sg1 rfl rfl rfl) ?_
    exact Ex.weak (sm_le_n (sm_le_n sm_le_nil)) (B_129_18 hd  hf hs)
theorem E_129 {L : Nat} {xs : Nat → Int32} {d : Nat} (hd : 2 ≤ d) {x1 : Int32} {h : sm_H} {r : Int32 × sm_H} (hf : F_129 x1 h = some r) : RUN L xs d 129 [.ref 38, .int x1] h (some (.int r.1), r.2) := by
  obtain ⟨d, rfl⟩ : ∃ e, d = e + 1 := ⟨d - 1, by omega⟩
  exact ⟨Nat.le_of_ble_eq_true rfl, B_129_0 (by omega) hf rfl⟩
theorem B_130_22 {L : Nat} {xs : Nat → Int32} {d : Nat} (hd : 1 ≤ d) {res : Option Value × sm_H} {z0 : Int32}  {h : sm_H} {r : (Int32 × sm_H)} (hf : F_130_22 z0 h = some r) (hs : (fun (r : Int32 × sm_H) => res = (some (.int r.1), r.2)) r) : Ex (P_G L xs) (RUN L xs d) (sm_lk P_t130) 3 22 [none, none] [.int z0] h res := by
  unfold F_130_22 at hf
  rcases Classical.em (z0 = 0 ∨ z0 = 1) with c0 | c0
  · rw [if_pos c0] at hf
    obtain rfl := Option.some.inj hf
    exact Ex.iret rfl rfl (fun _ => c0) hs
  · rw [if_neg c0] at hf
    cases hf
theorem B_130_21 {L : Nat} {xs : Nat → Int32} {d : Nat} (hd : 1 ≤ d) {res : Option Value × sm_H}   {h : sm_H} {r : (Int32 × sm_H)} (hf : F_130_21  h = some r) (hs : (fun (r : Int32 × sm_H) => res = (some (.int r.1), r.2)) r) : Ex (P_G L xs) (RUN L xs d) (sm_lk P_t130) 3 21 [none, none] [] h res := by
  unfold F_130_21 at hf
  refine Ex.seg 1 (pc' := 22) (lc' := [none, none]) (st' := [.int 0]) (h' := h) (sg1 rfl rfl rfl) ?_
  exact Ex.weak (sm_le_s (sm_le_s sm_le_nil)) (B_130_22 hd  hf hs)
theorem B_130_0 {L : Nat} {xs : Nat → Int32} {d : Nat} (hd : 1 ≤ d) {res : Option Value × sm_H} {x1 : Int32}  {h : sm_H} {r : (Int32 × sm_H)} (hf : F_130_0 x1 h = some r) (hs : (fun (r : Int32 × sm_H) => res = (some (.int r.1), r.2)) r) : Ex (P_G L xs) (RUN L xs d) (sm_lk P_t130) 3 0 [some (.ref 38), some (.int x1)] [] h res := by
  unfold F_130_0 at hf
  refine Ex.seg 2 (pc' := 2) (lc' := [some (.ref 38), some (.int x1)]) (st' := [.int x1, .ref 38]) (h' := h) (sg1 rfl rfl (sg1 rfl rfl rfl)) ?_
  obtain ⟨q1, e_q1, hf⟩ := bnd hf
  refine Ex.callV (a := 38) (As := [.int x1]) (r := []) (v := some (.int q1.1)) (h' := q1.2) rfl rfl (by decide) rfl (Nat.le_of_ble_eq_true rfl) rfl (E_113 (Nat.le_trans (by decide) hd) e_q1) rfl ?_
  refine Ex.ifc rfl rfl (fun (c0 : q1.1 = 0) => ?_) (fun (c0 : ¬ (q1.1 = 0)) => ?_)
  · rw [if_pos c0] at hf
    exact Ex.weak (sm_le_n (sm_le_n sm_le_nil)) (B_130_21 hd  hf hs)
  · rw [if_neg c0] at hf
    refine Ex.seg 3 (pc' := 13) (lc' := [some (.ref 38), some (.int x1)]) (st' := [.int x1, .ref 42]) (h' := q1.2) (sg1 rfl rfl (sg1 rfl rfl (sg1 rfl rfl rfl))) ?_
    obtain ⟨v2, e_v2, hf⟩ := bnd hf
    refine Ex.zald e_v2 rfl rfl ?_
    refine Ex.ifc rfl rfl (fun (c0 : v2 = 0) => ?_) (fun (c0 : ¬ (v2 = 0)) => ?_)
    · rw [if_pos c0] at hf
      exact Ex.weak (sm_le_n (sm_le_n sm_le_nil)) (B_130_21 hd  hf hs)
    · rw [if_neg c0] at hf
      refine Ex.seg 2 (pc' := 22) (lc' := [some (.ref 38), some (.int x1)]) (st' := [.int 1]) (h' := q1.2) (sg1 rfl rfl (sg1 rfl rfl rfl)) ?_
      exact Ex.weak (sm_le_n (sm_le_n sm_le_nil)) (B_130_22 hd  hf hs)
theorem E_130 {L : Nat} {xs : Nat → Int32} {d : Nat} (hd : 2 ≤ d) {x1 : Int32} {h : sm_H} {r : Int32 × sm_H} (hf : F_130 x1 h = some r) : RUN L xs d 130 [.ref 38, .int x1] h (some (.int r.1), r.2) := by
  obtain ⟨d, rfl⟩ : ∃ e, d = e + 1 := ⟨d - 1, by omega⟩
  exact ⟨Nat.le_of_ble_eq_true rfl, B_130_0 (by omega) hf rfl⟩
theorem B_131_18 {L : Nat} {xs : Nat → Int32} {d : Nat} (hd : 1 ≤ d) {res : Option Value × sm_H} {z0 : Int32}  {h : sm_H} {r : (Int32 × sm_H)} (hf : F_131_18 z0 h = some r) (hs : (fun (r : Int32 × sm_H) => res = (some (.int r.1), r.2)) r) : Ex (P_G L xs) (RUN L xs d) (sm_lk P_t131) 0 18 [none, none] [.int z0] h res := by
  unfold F_131_18 at hf
  obtain rfl := Option.some.inj hf
  exact Ex.iret rfl rfl (fun c0 => by cases c0) hs
theorem B_131_0 {L : Nat} {xs : Nat → Int32} {d : Nat} (hd : 1 ≤ d) {res : Option Value × sm_H} {x1 : Int32}  {h : sm_H} {r : (Int32 × sm_H)} (hf : F_131_0 x1 h = some r) (hs : (fun (r : Int32 × sm_H) => res = (some (.int r.1), r.2)) r) : Ex (P_G L xs) (RUN L xs d) (sm_lk P_t131) 0 0 [some (.ref 38), some (.int x1)] [] h res := by
  unfold F_131_0 at hf
  refine Ex.seg 2 (pc' := 2) (lc' := [some (.ref 38), some (.int x1)]) (st' := [.int x1, .ref 38]) (h' := h) (sg1 rfl rfl (sg1 rfl rfl rfl)) ?_
  obtain ⟨q1, e_q1, hf⟩ := bnd hf
  refine Ex.callV (a := 38) (As := [.int x1]) (r := []) (v := some (.int q1.1)) (h' := q1.2) rfl rfl (by decide) rfl (Nat.le_of_ble_eq_true rfl) rfl (E_113 (Nat.le_trans (by decide) hd) e_q1) rfl ?_
  refine Ex.ifc rfl rfl (fun (c0 : q1.1 = 0) => ?_) (fun (c0 : ¬ (q1.1 = 0)) => ?_)
  · rw [if_pos c0] at hf
    refine Ex.seg 1 (pc' := 18) (lc' := [some (.ref 38), some (.int x1)]) (st' := [.int (-1)]) (h' := q1.2) (sg1 rfl rfl rfl) ?_
    exact Ex.weak (sm_le_n (sm_le_n sm_le_nil)) (B_131_18 hd  hf hs)
  · rw [if_neg c0] at hf
    refine Ex.seg 3 (pc' := 13) (lc' := [some (.ref 38), some (.int x1)]) (st' := [.int x1, .ref 44]) (h' := q1.2) (sg1 rfl rfl (sg1 rfl rfl (sg1 rfl rfl rfl))) ?_
    obtain ⟨v2, e_v2, hf⟩ := bnd hf
    refine Ex.iald e_v2 rfl rfl ?_
    refine Ex.seg 1 (pc' := 18) (lc' := [some (.ref 38), some (.int x1)]) (st' := [.int v2]) (h' := q1.2) (sg1 rfl rfl rfl) ?_
    exact Ex.weak (sm_le_n (sm_le_n sm_le_nil)) (B_131_18 hd  hf hs)
theorem E_131 {L : Nat} {xs : Nat → Int32} {d : Nat} (hd : 2 ≤ d) {x1 : Int32} {h : sm_H} {r : Int32 × sm_H} (hf : F_131 x1 h = some r) : RUN L xs d 131 [.ref 38, .int x1] h (some (.int r.1), r.2) := by
  obtain ⟨d, rfl⟩ : ∃ e, d = e + 1 := ⟨d - 1, by omega⟩
  exact ⟨Nat.le_of_ble_eq_true rfl, B_131_0 (by omega) hf rfl⟩
theorem B_132_18 {L : Nat} {xs : Nat → Int32} {d : Nat} (hd : 1 ≤ d) {res : Option Value × sm_H} {z0 : Int32}  {h : sm_H} {r : (Int32 × sm_H)} (hf : F_132_18 z0 h = some r) (hs : (fun (r : Int32 × sm_H) => res = (some (.int r.1), r.2)) r) : Ex (P_G L xs) (RUN L xs d) (sm_lk P_t132) 0 18 [none, none] [.int z0] h res := by
  unfold F_132_18 at hf
  obtain rfl := Option.some.inj hf
  exact Ex.iret rfl rfl (fun c0 => by cases c0) hs
theorem B_132_0 {L : Nat} {xs : Nat → Int32} {d : Nat} (hd : 1 ≤ d) {res : Option Value × sm_H} {x1 : Int32}  {h : sm_H} {r : (Int32 × sm_H)} (hf : F_132_0 x1 h = some r) (hs : (fun (r : Int32 × sm_H) => res = (some (.int r.1), r.2)) r) : Ex (P_G L xs) (RUN L xs d) (sm_lk P_t132) 0 0 [some (.ref 38), some (.int x1)] [] h res := by
  unfold F_132_0 at hf
  refine Ex.seg 2 (pc' := 2) (lc' := [some (.ref 38), some (.int x1)]) (st' := [.int x1, .ref 38]) (h' := h) (sg1 rfl rfl (sg1 rfl rfl rfl)) ?_
  obtain ⟨q1, e_q1, hf⟩ := bnd hf
  refine Ex.callV (a := 38) (As := [.int x1]) (r := []) (v := some (.int q1.1)) (h' := q1.2) rfl rfl (by decide) rfl (Nat.le_of_ble_eq_true rfl) rfl (E_113 (Nat.le_trans (by decide) hd) e_q1) rfl ?_
  refine Ex.ifc rfl rfl (fun (c0 : q1.1 = 0) => ?_) (fun (c0 : ¬ (q1.1 = 0)) => ?_)
  · rw [if_pos c0] at hf
    refine Ex.seg 1 (pc' := 18) (lc' := [some (.ref 38), some (.int x1)]) (st' := [.int (-1)]) (h' := q1.2) (sg1 rfl rfl rfl) ?_
    exact Ex.weak (sm_le_n (sm_le_n sm_le_nil)) (B_132_18 hd  hf hs)
  · rw [if_neg c0] at hf
    refine Ex.seg 3 (pc' := 13) (lc' := [some (.ref 38), some (.int x1)]) (st' := [.int x1, .ref 39]) (h' := q1.2) (sg1 rfl rfl (sg1 rfl rfl (sg1 rfl rfl rfl))) ?_
    obtain ⟨v2, e_v2, hf⟩ := bnd hf
    refine Ex.iald e_v2 rfl rfl ?_
    refine Ex.seg 1 (pc' := 18) (lc' := [some (.ref 38), some (.int x1)]) (st' := [.int v2]) (h' := q1.2) (sg1 rfl rfl rfl) ?_
    exact Ex.weak (sm_le_n (sm_le_n sm_le_nil)) (B_132_18 hd  hf hs)
theorem E_132 {L : Nat} {xs : Nat → Int32} {d : Nat} (hd : 2 ≤ d) {x1 : Int32} {h : sm_H} {r : Int32 × sm_H} (hf : F_132 x1 h = some r) : RUN L xs d 132 [.ref 38, .int x1] h (some (.int r.1), r.2) := by
  obtain ⟨d, rfl⟩ : ∃ e, d = e + 1 := ⟨d - 1, by omega⟩
  exact ⟨Nat.le_of_ble_eq_true rfl, B_132_0 (by omega) hf rfl⟩
theorem B_136_0 {L : Nat} {xs : Nat → Int32} {d : Nat} (hd : 0 ≤ d) {res : Option Value × sm_H} {o : Nat}  {h : sm_H} {r : (Int32 × sm_H)} (hf : F_136_0 o h = some r) (hs : (fun (r : Int32 × sm_H) => res = (some (.int r.1), r.2)) r) : Ex (P_G L xs) (RUN L xs d) (sm_lk P_t136) 0 0 [some (.ref o)] [] h res := by
  unfold F_136_0 at hf
  refine Ex.seg 1 (pc' := 1) (lc' := [some (.ref o)]) (st' := [.ref o]) (h' := h) (sg1 rfl rfl rfl) ?_
  rcases Classical.em (sm_is G0 h o 5 = true) with g1 | g1
  · rw [if_pos g1] at hf
    refine Ex.getI (c := 5) (k := 1) g1 rfl rfl ?_
    obtain rfl := Option.some.inj hf
    exact Ex.iret rfl rfl (fun c0 => by cases c0) hs
  · rw [if_neg g1] at hf
    cases hf
theorem E_136 {L : Nat} {xs : Nat → Int32} {d : Nat} (hd : 1 ≤ d) {o : Nat} {h : sm_H} {r : Int32 × sm_H} (hf : F_136 o h = some r) : RUN L xs d 136 [.ref o] h (some (.int r.1), r.2) := by
  obtain ⟨d, rfl⟩ : ∃ e, d = e + 1 := ⟨d - 1, by omega⟩
  exact ⟨Nat.le_of_ble_eq_true rfl, B_136_0 (by omega) hf rfl⟩
theorem B_137_22 {L : Nat} {xs : Nat → Int32} {d : Nat} (hd : 0 ≤ d) {res : Option Value × sm_H} {z0 : Int32}  {h : sm_H} {r : (Int32 × sm_H)} (hf : F_137_22 z0 h = some r) (hs : (fun (r : Int32 × sm_H) => res = (some (.int r.1), r.2)) r) : Ex (P_G L xs) (RUN L xs d) (sm_lk P_t137) 0 22 [none, none] [.int z0] h res := by
  unfold F_137_22 at hf
  obtain rfl := Option.some.inj hf
  exact Ex.iret rfl rfl (fun c0 => by cases c0) hs
theorem B_137_21 {L : Nat} {xs : Nat → Int32} {d : Nat} (hd : 0 ≤ d) {res : Option Value × sm_H}   {h : sm_H} {r : (Int32 × sm_H)} (hf : F_137_21  h = some r) (hs : (fun (r : Int32 × sm_H) => res = (some (.int r.1), r.2)) r) : Ex (P_G L xs) (RUN L xs d) (sm_lk P_t137) 0 21 [none, none] [] h res := by
  unfold F_137_21 at hf
  refine Ex.seg 1 (pc' := 22) (lc' := [none, none]) (st' := [.int (-1)]) (h' := h) (sg1 rfl rfl rfl) ?_
  exact Ex.weak (sm_le_s (sm_le_s sm_le_nil)) (B_137_22 hd  hf hs)
theorem B_137_0 {L : Nat} {xs : Nat → Int32} {d : Nat} (hd : 0 ≤ d) {res : Option Value × sm_H} {o : Nat} {x1 : Int32}  {h : sm_H} {r : (Int32 × sm_H)} (hf : F_137_0 o x1 h = some r) (hs : (fun (r : Int32 × sm_H) => res = (some (.int r.1), r.2)) r) : Ex (P_G L xs) (RUN L xs d) (sm_lk P_t137) 0 0 [some (.ref o), some (.int x1)] [] h res := by
  unfold F_137_0 at hf
  refine Ex.seg 1 (pc' := 1) (lc' := [some (.ref o), some (.int x1)]) (st' := [.int x1]) (h' := h) (sg1 rfl rfl rfl) ?_
  refine Ex.ifc rfl rfl (fun (c0 : x1 < 0) => ?_) (fun (c0 : ¬ (x1 < 0)) => ?_)
  · rw [if_pos c0] at hf
    exact Ex.weak (sm_le_n (sm_le_n sm_le_nil)) (B_137_21 hd  hf hs)
  · rw [if_neg c0] at hf
    refine Ex.seg 2 (pc' := 6) (lc' := [some (.ref o), some (.int x1)]) (st' := [.ref o, .int x1]) (h' := h) (sg1 rfl rfl (sg1 rfl rfl rfl)) ?_
    rcases Classical.em (sm_is G0 h o 5 = true) with g1 | g1
    · rw [if_pos g1] at hf
      refine Ex.getI (c := 5) (k := 1) g1 rfl rfl ?_
      refine Ex.icmp rfl rfl (fun (c0 : (h.1 o 1) ≤ x1) => ?_) (fun (c0 : ¬ ((h.1 o 1) ≤ x1)) => ?_)
      · rw [if_pos c0] at hf
        exact Ex.weak (sm_le_n (sm_le_n sm_le_nil)) (B_137_21 hd  hf hs)
      · rw [if_neg c0] at hf
        refine Ex.seg 1 (pc' := 13) (lc' := [some (.ref o), some (.int x1)]) (st' := [.ref o]) (h' := h) (sg1 rfl rfl rfl) ?_
        rcases Classical.em (sm_is G0 h o 5 = true) with g2 | g2
        · rw [if_pos g2] at hf
          obtain ⟨b3, e_b3, hf⟩ := bnd hf
          refine Ex.getR (c := 5) (k := 0) g2 e_b3 rfl rfl ?_
          refine Ex.seg 1 (pc' := 17) (lc' := [some (.ref o), some (.int x1)]) (st' := [.int x1, .ref b3]) (h' := h) (sg1 rfl rfl rfl) ?_
          obtain ⟨v4, e_v4, hf⟩ := bnd hf
          refine Ex.iald (ldD_ok e_v4) rfl rfl ?_
          refine Ex.seg 1 (pc' := 22) (lc' := [some (.ref o), some (.int x1)]) (st' := [.int v4]) (h' := h) (sg1 rfl rfl rfl) ?_
          exact Ex.weak (sm_le_n (sm_le_n sm_le_nil)) (B_137_22 hd  hf hs)
        · rw [if_neg g2] at hf
          cases hf
    · rw [if_neg g1] at hf
      cases hf
theorem E_137 {L : Nat} {xs : Nat → Int32} {d : Nat} (hd : 1 ≤ d) {o : Nat} {x1 : Int32} {h : sm_H} {r : Int32 × sm_H} (hf : F_137 o x1 h = some r) : RUN L xs d 137 [.ref o, .int x1] h (some (.int r.1), r.2) := by
  obtain ⟨d, rfl⟩ : ∃ e, d = e + 1 := ⟨d - 1, by omega⟩
  exact ⟨Nat.le_of_ble_eq_true rfl, B_137_0 (by omega) hf rfl⟩
theorem B_138_0 {L : Nat} {xs : Nat → Int32} {d : Nat} (hd : 0 ≤ d) {res : Option Value × sm_H} {o : Nat}  {h : sm_H} {r : (sm_H)} (hf : F_138_0 o h = some r) (hs : (fun (r : sm_H) => res = (none, r)) r) : Ex (P_G L xs) (RUN L xs d) (sm_lk P_t138) 0 0 [some (.ref o)] [] h res := by
  unfold F_138_0 at hf
  refine Ex.seg 2 (pc' := 2) (lc' := [some (.ref o)]) (st' := [.int 0, .ref o]) (h' := h) (sg1 rfl rfl (sg1 rfl rfl rfl)) ?_
  rcases Classical.em (sm_is G0 h o 5 = true) with g1 | g1
  · rw [if_pos g1] at hf
    obtain ⟨h2, e_h2, hf⟩ := bnd hf
    refine Ex.putI (c := 5) (k := 1) g1 rfl rfl ?_
    rw [Option.some.inj e_h2]
    obtain rfl := Option.some.inj hf
    exact Ex.vret rfl rfl hs
  · rw [if_neg g1] at hf
    cases hf
theorem E_138 {L : Nat} {xs : Nat → Int32} {d : Nat} (hd : 1 ≤ d) {o : Nat} {h : sm_H} {r : sm_H} (hf : F_138 o h = some r) : RUN L xs d 138 [.ref o] h (none, r) := by
  obtain ⟨d, rfl⟩ : ∃ e, d = e + 1 := ⟨d - 1, by omega⟩
  exact ⟨Nat.le_of_ble_eq_true rfl, B_138_0 (by omega) hf rfl⟩
theorem B_139_0 {L : Nat} {xs : Nat → Int32} {d : Nat} (hd : 0 ≤ d) {res : Option Value × sm_H} {o : Nat} {x1 : Int32}  {h : sm_H} {r : (Int32 × sm_H)} (hf : F_139_0 o x1 h = some r) (hs : (fun (r : Int32 × sm_H) => res = (some (.int r.1), r.2)) r) : Ex (P_G L xs) (RUN L xs d) (sm_lk P_t139) 3 0 [some (.ref o), some (.int x1)] [] h res := by
  unfold F_139_0 at hf
  refine Ex.seg 1 (pc' := 1) (lc' := [some (.ref o), some (.int x1)]) (st' := [.ref o]) (h' := h) (sg1 rfl rfl rfl) ?_
  rcases Classical.em (sm_is G0 h o 5 = true) with g1 | g1
  · rw [if_pos g1] at hf
    refine Ex.getI (c := 5) (k := 1) g1 rfl rfl ?_
    refine Ex.seg 1 (pc' := 6) (lc' := [some (.ref o), some (.int x1)]) (st' := [.int 20, .int (h.1 o 1)]) (h' := h) (sg1 rfl rfl rfl) ?_
    refine Ex.icmp rfl rfl (fun (c0 : (h.1 o 1) < 20) => ?_) (fun (c0 : ¬ ((h.1 o 1) < 20)) => ?_)
    · rw [if_pos c0] at hf
      refine Ex.seg 1 (pc' := 12) (lc' := [some (.ref o), some (.int x1)]) (st' := [.ref o]) (h' := h) (sg1 rfl rfl rfl) ?_
      rcases Classical.em (sm_is G0 h o 5 = true) with g2 | g2
      · rw [if_pos g2] at hf
        obtain ⟨b3, e_b3, hf⟩ := bnd hf
        refine Ex.getR (c := 5) (k := 0) g2 e_b3 rfl rfl ?_
        refine Ex.seg 1 (pc' := 16) (lc' := [some (.ref o), some (.int x1)]) (st' := [.ref o, .ref b3]) (h' := h) (sg1 rfl rfl rfl) ?_
        rcases Classical.em (sm_is G0 h o 5 = true) with g4 | g4
        · rw [if_pos g4] at hf
          refine Ex.getI (c := 5) (k := 1) g4 rfl rfl ?_
          refine Ex.seg 1 (pc' := 20) (lc' := [some (.ref o), some (.int x1)]) (st' := [.int x1, .int (h.1 o 1), .ref b3]) (h' := h) (sg1 rfl rfl rfl) ?_
          obtain ⟨h5, e_h5, hf⟩ := bnd hf
          refine Ex.iast e_h5 rfl rfl ?_
          refine Ex.seg 2 (pc' := 23) (lc' := [some (.ref o), some (.int x1)]) (st' := [.ref o, .ref o]) (h' := h5) (sg1 rfl rfl (sg1 rfl rfl rfl)) ?_
          rcases Classical.em (sm_is G0 h5 o 5 = true) with g6 | g6
          · rw [if_pos g6] at hf
            refine Ex.getI (c := 5) (k := 1) g6 rfl rfl ?_
            refine Ex.seg 2 (pc' := 28) (lc' := [some (.ref o), some (.int x1)]) (st' := [.int ((h5.1 o 1) + 1), .ref o]) (h' := h5) (sg1 rfl rfl (sg1 rfl rfl rfl)) ?_
            rcases Classical.em (sm_is G0 h5 o 5 = true) with g7 | g7
            · rw [if_pos g7] at hf
              obtain ⟨h8, e_h8, hf⟩ := bnd hf
              refine Ex.putI (c := 5) (k := 1) g7 rfl rfl ?_
              rw [Option.some.inj e_h8]
              refine Ex.seg 1 (pc' := 32) (lc' := [some (.ref o), some (.int x1)]) (st' := [.int 1]) (h' := h8) (sg1 rfl rfl rfl) ?_
              obtain rfl := Option.some.inj hf
              exact Ex.iret rfl rfl (fun _ => by decide) hs
            · rw [if_neg g7] at hf
              cases hf
          · rw [if_neg g6] at hf
            cases hf
        · rw [if_neg g4] at hf
          cases hf
      · rw [if_neg g2] at hf
        cases hf
    · rw [if_neg c0] at hf
      refine Ex.seg 1 (pc' := 10) (lc' := [some (.ref o), some (.int x1)]) (st' := [.int 0]) (h' := h) (sg1 rfl rfl rfl) ?_
      obtain rfl := Option.some.inj hf
      exact Ex.iret rfl rfl (fun _ => by decide) hs
  · rw [if_neg g1] at hf
    cases hf
theorem E_139 {L : Nat} {xs : Nat → Int32} {d : Nat} (hd : 1 ≤ d) {o : Nat} {x1 : Int32} {h : sm_H} {r : Int32 × sm_H} (hf : F_139 o x1 h = some r) : RUN L xs d 139 [.ref o, .int x1] h (some (.int r.1), r.2) := by
  obtain ⟨d, rfl⟩ : ∃ e, d = e + 1 := ⟨d - 1, by omega⟩
  exact ⟨Nat.le_of_ble_eq_true rfl, B_139_0 (by omega) hf rfl⟩
theorem B_140_0 {L : Nat} {xs : Nat → Int32} {d : Nat} (hd : 1 ≤ d) {res : Option Value × sm_H} {o : Nat} {x1 : Int32}  {h : sm_H} {r : (Nat × sm_H)} (hf : F_140_0 o x1 h = some r) (hs : (fun (r : Nat × sm_H) => res = (some (.ref r.1), r.2)) r) : Ex (P_G L xs) (RUN L xs d) (sm_lk P_t140) 0 0 [some (.ref o), some (.int x1)] [] h res := by
  unfold F_140_0 at hf
  refine Ex.seg 1 (pc' := 1) (lc' := [some (.ref o), some (.int x1)]) (st' := [.ref o]) (h' := h) (sg1 rfl rfl rfl) ?_
  have g2 : sm_is G0 h o 5 = true := Classical.byContradiction (fun z => by rw [if_pos z] at hf; cases hf)
  rw [if_neg (fun z => z g2)] at hf
  obtain ⟨q1, e_q1, hf⟩ := bnd hf
  refine Ex.callV (a := o) (As := []) (r := []) (v := none) (h' := q1) rfl rfl (by decide) rfl (Nat.le_of_ble_eq_true rfl) g2 (E_138 (Nat.le_trans (by decide) hd) e_q1) rfl ?_
  refine Ex.seg 2 (pc' := 6) (lc' := [some (.ref o), some (.int x1)]) (st' := [.int x1, .ref o]) (h' := q1) (sg1 rfl rfl (sg1 rfl rfl rfl)) ?_
  have g4 : sm_is G0 q1 o 5 = true := Classical.byContradiction (fun z => by rw [if_pos z] at hf; cases hf)
  rw [if_neg (fun z => z g4)] at hf
  obtain ⟨q3, e_q3, hf⟩ := bnd hf
  refine Ex.callV (a := o) (As := [.int x1]) (r := []) (v := some (.int q3.1)) (h' := q3.2) rfl rfl (by decide) rfl (Nat.le_of_ble_eq_true rfl) g4 (E_139 (Nat.le_trans (by decide) hd) e_q3) rfl ?_
  refine Ex.seg 2 (pc' := 11) (lc' := [some (.ref o), some (.int x1)]) (st' := [.ref o]) (h' := q3.2) (sg1 rfl rfl (sg1 rfl rfl rfl)) ?_
  obtain rfl := Option.some.inj hf
  exact Ex.aret rfl rfl hs
theorem E_140 {L : Nat} {xs : Nat → Int32} {d : Nat} (hd : 2 ≤ d) {o : Nat} {x1 : Int32} {h : sm_H} {r : Nat × sm_H} (hf : F_140 o x1 h = some r) : RUN L xs d 140 [.ref o, .int x1] h (some (.ref r.1), r.2) := by
  obtain ⟨d, rfl⟩ : ∃ e, d = e + 1 := ⟨d - 1, by omega⟩
  exact ⟨Nat.le_of_ble_eq_true rfl, B_140_0 (by omega) hf rfl⟩
theorem B_141_0 {L : Nat} {xs : Nat → Int32} {d : Nat} (hd : 1 ≤ d) {res : Option Value × sm_H} {o : Nat} {x1 : Int32} {x2 : Int32}  {h : sm_H} {r : (Nat × sm_H)} (hf : F_141_0 o x1 x2 h = some r) (hs : (fun (r : Nat × sm_H) => res = (some (.ref r.1), r.2)) r) : Ex (P_G L xs) (RUN L xs d) (sm_lk P_t141) 0 0 [some (.ref o), some (.int x1), some (.int x2)] [] h res := by
  unfold F_141_0 at hf
  refine Ex.seg 1 (pc' := 1) (lc' := [some (.ref o), some (.int x1), some (.int x2)]) (st' := [.ref o]) (h' := h) (sg1 rfl rfl rfl) ?_
  have g2 : sm_is G0 h o 5 = true := Classical.byContradiction (fun z => by rw [if_pos z] at hf; cases hf)
  rw [if_neg (fun z => z g2)] at hf
  obtain ⟨q1, e_q1, hf⟩ := bnd hf
  refine Ex.callV (a := o) (As := []) (r := []) (v := none) (h' := q1) rfl rfl (by decide) rfl (Nat.le_of_ble_eq_true rfl) g2 (E_138 (Nat.le_trans (by decide) hd) e_q1) rfl ?_
  refine Ex.seg 2 (pc' := 6) (lc' := [some (.ref o), some (.int x1), some (.int x2)]) (st' := [.int x1, .ref o]) (h' := q1) (sg1 rfl rfl (sg1 rfl rfl rfl)) ?_
  have g4 : sm_is G0 q1 o 5 = true := Classical.byContradiction (fun z => by rw [if_pos z] at hf; cases hf)
  rw [if_neg (fun z => z g4)] at hf
  obtain ⟨q3, e_q3, hf⟩ := bnd hf
  refine Ex.callV (a := o) (As := [.int x1]) (r := []) (v := some (.int q3.1)) (h' := q3.2) rfl rfl (by decide) rfl (Nat.le_of_ble_eq_true rfl) g4 (E_139 (Nat.le_trans (by decide) hd) e_q3) rfl ?_
  refine Ex.seg 3 (pc' := 12) (lc' := [some (.ref o), some (.int x1), some (.int x2)]) (st' := [.int x2, .ref o]) (h' := q3.2) (sg1 rfl rfl (sg1 rfl rfl (sg1 rfl rfl rfl))) ?_
  have g6 : sm_is G0 q3.2 o 5 = true := Classical.byContradiction (fun z => by rw [if_pos z] at hf; cases hf)
  rw [if_neg (fun z => z g6)] at hf
  obtain ⟨q5, e_q5, hf⟩ := bnd hf
  refine Ex.callV (a := o) (As := [.int x2]) (r := []) (v := some (.int q5.1)) (h' := q5.2) rfl rfl (by decide) rfl (Nat.le_of_ble_eq_true rfl) g6 (E_139 (Nat.le_trans (by decide) hd) e_q5) rfl ?_
  refine Ex.seg 2 (pc' := 17) (lc' := [some (.ref o), some (.int x1), some (.int x2)]) (st' := [.ref o]) (h' := q5.2) (sg1 rfl rfl (sg1 rfl rfl rfl)) ?_
  obtain rfl := Option.some.inj hf
  exact Ex.aret rfl rfl hs
theorem E_141 {L : Nat} {xs : Nat → Int32} {d : Nat} (hd : 2 ≤ d) {o : Nat} {x1 : Int32} {x2 : Int32} {h : sm_H} {r : Nat × sm_H} (hf : F_141 o x1 x2 h = some r) : RUN L xs d 141 [.ref o, .int x1, .int x2] h (some (.ref r.1), r.2) := by
  obtain ⟨d, rfl⟩ : ∃ e, d = e + 1 := ⟨d - 1, by omega⟩
  exact ⟨Nat.le_of_ble_eq_true rfl, B_141_0 (by omega) hf rfl⟩
theorem B_143_0 {L : Nat} {xs : Nat → Int32} {d : Nat} (hd : 0 ≤ d) {res : Option Value × sm_H}   {h : sm_H} {r : (Int32 × sm_H)} (hf : F_143_0  h = some r) (hs : (fun (r : Int32 × sm_H) => res = (some (.int r.1), r.2)) r) : Ex (P_G L xs) (RUN L xs d) (sm_lk P_t143) 0 0 [some (.ref 21)] [] h res := by
  unfold F_143_0 at hf
  refine Ex.seg 2 (pc' := 4) (lc' := [some (.ref 21)]) (st' := [.int (h.1 21 2)]) (h' := h) (sg1 rfl rfl (sg1 rfl rfl rfl)) ?_
  obtain rfl := Option.some.inj hf
  exact Ex.iret rfl rfl (fun c0 => by cases c0) hs
theorem E_143 {L : Nat} {xs : Nat → Int32} {d : Nat} (hd : 1 ≤ d)  {h : sm_H} {r : Int32 × sm_H} (hf : F_143  h = some r) : RUN L xs d 143 [.ref 21] h (some (.int r.1), r.2) := by
  obtain ⟨d, rfl⟩ : ∃ e, d = e + 1 := ⟨d - 1, by omega⟩
  exact ⟨Nat.le_of_ble_eq_true rfl, B_143_0 (by omega) hf rfl⟩
theorem B_144_0 {L : Nat} {xs : Nat → Int32} {d : Nat} (hd : 0 ≤ d) {res : Option Value × sm_H}   {h : sm_H} {r : (Int32 × sm_H)} (hf : F_144_0  h = some r) (hs : (fun (r : Int32 × sm_H) => res = (some (.int r.1), r.2)) r) : Ex (P_G L xs) (RUN L xs d) (sm_lk P_t144) 0 0 [some (.ref 21)] [] h res := by
  unfold F_144_0 at hf
  refine Ex.seg 2 (pc' := 4) (lc' := [some (.ref 21)]) (st' := [.int (h.1 21 6)]) (h' := h) (sg1 rfl rfl (sg1 rfl rfl rfl)) ?_
  obtain rfl := Option.some.inj hf
  exact Ex.iret rfl rfl (fun c0 => by cases c0) hs
theorem E_144 {L : Nat} {xs : Nat → Int32} {d : Nat} (hd : 1 ≤ d)  {h : sm_H} {r : Int32 × sm_H} (hf : F_144  h = some r) : RUN L xs d 144 [.ref 21] h (some (.int r.1), r.2) := by
  obtain ⟨d, rfl⟩ : ∃ e, d = e + 1 := ⟨d - 1, by omega⟩
  exact ⟨Nat.le_of_ble_eq_true rfl, B_144_0 (by omega) hf rfl⟩
theorem B_145_0 {L : Nat} {xs : Nat → Int32} {d : Nat} (hd : 0 ≤ d) {res : Option Value × sm_H}   {h : sm_H} {r : (Nat × sm_H)} (hf : F_145_0  h = some r) (hs : (fun (r : Nat × sm_H) => res = (some (.ref r.1), r.2)) r) : Ex (P_G L xs) (RUN L xs d) (sm_lk P_t145) 0 0 [some (.ref 21)] [] h res := by
  unfold F_145_0 at hf
  refine Ex.seg 2 (pc' := 4) (lc' := [some (.ref 21)]) (st' := [.ref 23]) (h' := h) (sg1 rfl rfl (sg1 rfl rfl rfl)) ?_
  obtain rfl := Option.some.inj hf
  exact Ex.aret rfl rfl hs
theorem E_145 {L : Nat} {xs : Nat → Int32} {d : Nat} (hd : 1 ≤ d)  {h : sm_H} {r : Nat × sm_H} (hf : F_145  h = some r) : RUN L xs d 145 [.ref 21] h (some (.ref r.1), r.2) := by
  obtain ⟨d, rfl⟩ : ∃ e, d = e + 1 := ⟨d - 1, by omega⟩
  exact ⟨Nat.le_of_ble_eq_true rfl, B_145_0 (by omega) hf rfl⟩
theorem B_147_41 {L : Nat} {xs : Nat → Int32} {d : Nat} (hd : 0 ≤ d) {res : Option Value × sm_H} {z0 : Nat}  {h : sm_H} {r : (Nat × sm_H)} (hf : F_147_41 z0 h = some r) (hs : (fun (r : Nat × sm_H) => res = (some (.ref r.1), r.2)) r) : Ex (P_G L xs) (RUN L xs d) (sm_lk P_t147) 0 41 [none, none, none, none] [.ref z0] h res := by
  unfold F_147_41 at hf
  obtain rfl := Option.some.inj hf
  exact Ex.aret rfl rfl hs
theorem B_147_16 {L : Nat} {xs : Nat → Int32} {d : Nat} (hd : 0 ≤ d) {res : Option Value × sm_H}   {h : sm_H} {r : (Nat × sm_H)} (hf : F_147_16  h = some r) (hs : (fun (r : Nat × sm_H) => res = (some (.ref r.1), r.2)) r) : Ex (P_G L xs) (RUN L xs d) (sm_lk P_t147) 0 16 [some (.ref 21), none, none, none] [] h res := by
  unfold F_147_16 at hf
  refine Ex.seg 2 (pc' := 20) (lc' := [some (.ref 21), none, none, none]) (st' := [.ref 26]) (h' := h) (sg1 rfl rfl (sg1 rfl rfl rfl)) ?_
  obtain rfl := Option.some.inj hf
  exact Ex.aret rfl rfl hs
theorem B_147_0 {L : Nat} {xs : Nat → Int32} {d : Nat} (hd : 0 ≤ d) {res : Option Value × sm_H} {x1 : Int64}  {h : sm_H} {r : (Nat × sm_H)} (hf : F_147_0 x1 h = some r) (hs : (fun (r : Nat × sm_H) => res = (some (.ref r.1), r.2)) r) : Ex (P_G L xs) (RUN L xs d) (sm_lk P_t147) 0 0 [some (.ref 21), some (.long x1), none, none] [] h res := by
  unfold F_147_0 at hf
  refine Ex.seg 3 (pc' := 3) (lc' := [some (.ref 21), some (.long x1), none, none]) (st' := [.int (lg_cmp x1 0)]) (h' := h) (sg1 rfl rfl (sg1 rfl rfl (sg1 rfl rfl rfl))) ?_
  refine Ex.ifc rfl rfl (fun (c0 : (lg_cmp x1 0) < 0) => ?_) (fun (c0 : ¬ ((lg_cmp x1 0) < 0)) => ?_)
  · rw [if_pos c0] at hf
    exact Ex.weak (sm_le_s (sm_le_n (sm_le_s (sm_le_s sm_le_nil)))) (B_147_16 hd  hf hs)
  · rw [if_neg c0] at hf
    refine Ex.seg 5 (pc' := 13) (lc' := [some (.ref 21), some (.long x1), none, none]) (st' := [.int (lg_cmp x1 (Int32.toInt64 (h.1 21 2)))]) (h' := h) (sg1 rfl rfl (sg1 rfl rfl (sg1 rfl rfl (sg1 rfl rfl (sg1 rfl rfl rfl))))) ?_
    refine Ex.ifc rfl rfl (fun (c0 : (lg_cmp x1 (Int32.toInt64 (h.1 21 2))) < 0) => ?_) (fun (c0 : ¬ ((lg_cmp x1 (Int32.toInt64 (h.1 21 2))) < 0)) => ?_)
    · rw [if_pos c0] at hf
      refine Ex.seg 4 (pc' := 27) (lc' := [some (.ref 21), some (.long x1), none, none]) (st' := [.int (Int64.toInt32 x1), .ref 22]) (h' := h) (sg1 rfl rfl (sg1 rfl rfl (sg1 rfl rfl (sg1 rfl rfl rfl)))) ?_
      obtain ⟨b1, e_b1, hf⟩ := bnd hf
      obtain ⟨o_b1, f_b1, g_b1⟩ := bnd e_b1
      have g_b1 : o_b1 = some b1 := g_b1
      rw [g_b1] at f_b1
      refine Ex.aald f_b1 rfl rfl ?_
      refine Ex.seg 2 (pc' := 30) (lc' := [some (.ref 21), some (.long x1), none, some (.ref b1)]) (st' := [.ref b1]) (h' := h) (sg1 rfl rfl (sg1 rfl rfl rfl)) ?_
      refine Ex.ifnn rfl rfl ?_
      refine Ex.seg 1 (pc' := 41) (lc' := [some (.ref 21), some (.long x1), none, some (.ref b1)]) (st' := [.ref b1]) (h' := h) (sg1 rfl rfl rfl) ?_
      exact Ex.weak (sm_le_n (sm_le_n (sm_le_s (sm_le_n sm_le_nil)))) (B_147_41 hd  hf hs)
    · rw [if_neg c0] at hf
      exact Ex.weak (sm_le_s (sm_le_n (sm_le_s (sm_le_s sm_le_nil)))) (B_147_16 hd  hf hs)
theorem E_147 {L : Nat} {xs : Nat → Int32} {d : Nat} (hd : 1 ≤ d) {x1 : Int64} {h : sm_H} {r : Nat × sm_H} (hf : F_147 x1 h = some r) : RUN L xs d 147 [.ref 21, .long x1] h (some (.ref r.1), r.2) := by
  obtain ⟨d, rfl⟩ : ∃ e, d = e + 1 := ⟨d - 1, by omega⟩
  exact ⟨Nat.le_of_ble_eq_true rfl, B_147_0 (by omega) hf rfl⟩
theorem B_155_0 {L : Nat} {xs : Nat → Int32} {d : Nat} (hd : 0 ≤ d) {res : Option Value × sm_H} {x1 : Int32}  {h : sm_H} {r : (Int32 × sm_H)} (hf : F_155_0 x1 h = some r) (hs : (fun (r : Int32 × sm_H) => res = (some (.int r.1), r.2)) r) : Ex (P_G L xs) (RUN L xs d) (sm_lk P_t155) 0 0 [some (.ref 21), some (.int x1)] [] h res := by
  unfold F_155_0 at hf
  refine Ex.seg 3 (pc' := 6) (lc' := [some (.ref 21), some (.int x1)]) (st' := [.int 80, .int (h.1 21 8)]) (h' := h) (sg1 rfl rfl (sg1 rfl rfl (sg1 rfl rfl rfl))) ?_
  refine Ex.icmp rfl rfl (fun (c0 : (h.1 21 8) < 80) => ?_) (fun (c0 : ¬ ((h.1 21 8) < 80)) => ?_)
  · rw [if_pos c0] at hf
    refine Ex.seg 5 (pc' := 20) (lc' := [some (.ref 21), some (.int x1)]) (st' := [.int x1, .int (h.1 21 8), .ref 32]) (h' := h) (sg1 rfl rfl (sg1 rfl rfl (sg1 rfl rfl (sg1 rfl rfl (sg1 rfl rfl rfl))))) ?_
    obtain ⟨h1, e_h1, hf⟩ := bnd hf
    refine Ex.iast e_h1 rfl rfl ?_
    refine Ex.seg 6 (pc' := 31) (lc' := [some (.ref 21), some (.int x1)]) (st' := []) (h' := (sm_wI h1 21 8 ((h1.1 21 8) + 1))) (sg1 rfl rfl (sg1 rfl rfl (sg1 rfl rfl (sg1 rfl rfl (sg1 rfl rfl (sg1 rfl rfl rfl)))))) ?_
    obtain ⟨h2, e_h2, hf⟩ := bnd hf
    rw [Option.some.inj e_h2]
    refine Ex.seg 4 (pc' := 37) (lc' := [some (.ref 21), some (.int x1)]) (st' := [.int ((h2.1 21 8) - 1)]) (h' := h2) (sg1 rfl rfl (sg1 rfl rfl (sg1 rfl rfl (sg1 rfl rfl rfl)))) ?_
    obtain rfl := Option.some.inj hf
    exact Ex.iret rfl rfl (fun c0 => by cases c0) hs
  · rw [if_neg c0] at hf
    refine Ex.seg 1 (pc' := 10) (lc' := [some (.ref 21), some (.int x1)]) (st' := [.int (-1)]) (h' := h) (sg1 rfl rfl rfl) ?_
    obtain rfl := Option.some.inj hf
    exact Ex.iret rfl rfl (fun c0 => by cases c0) hs
theorem E_155 {L : Nat} {xs : Nat → Int32} {d : Nat} (hd : 1 ≤ d) {x1 : Int32} {h : sm_H} {r : Int32 × sm_H} (hf : F_155 x1 h = some r) : RUN L xs d 155 [.ref 21, .int x1] h (some (.int r.1), r.2) := by
  obtain ⟨d, rfl⟩ : ∃ e, d = e + 1 := ⟨d - 1, by omega⟩
  exact ⟨Nat.le_of_ble_eq_true rfl, B_155_0 (by omega) hf rfl⟩
theorem B_156_17 {L : Nat} {xs : Nat → Int32} {d : Nat} (hd : 0 ≤ d) {res : Option Value × sm_H} {z0 : Int32}  {h : sm_H} {r : (Int32 × sm_H)} (hf : F_156_17 z0 h = some r) (hs : (fun (r : Int32 × sm_H) => res = (some (.int r.1), r.2)) r) : Ex (P_G L xs) (RUN L xs d) (sm_lk P_t156) 3 17 [none, none] [.int z0] h res := by
  unfold F_156_17 at hf
  rcases Classical.em (z0 = 0 ∨ z0 = 1) with c0 | c0
  · rw [if_pos c0] at hf
    obtain rfl := Option.some.inj hf
    exact Ex.iret rfl rfl (fun _ => c0) hs
  · rw [if_neg c0] at hf
    cases hf
theorem B_156_16 {L : Nat} {xs : Nat → Int32} {d : Nat} (hd : 0 ≤ d) {res : Option Value × sm_H}   {h : sm_H} {r : (Int32 × sm_H)} (hf : F_156_16  h = some r) (hs : (fun (r : Int32 × sm_H) => res = (some (.int r.1), r.2)) r) : Ex (P_G L xs) (RUN L xs d) (sm_lk P_t156) 3 16 [none, none] [] h res := by
  unfold F_156_16 at hf
  refine Ex.seg 1 (pc' := 17) (lc' := [none, none]) (st' := [.int 0]) (h' := h) (sg1 rfl rfl rfl) ?_
  exact Ex.weak (sm_le_s (sm_le_s sm_le_nil)) (B_156_17 hd  hf hs)
theorem B_156_0 {L : Nat} {xs : Nat → Int32} {d : Nat} (hd : 0 ≤ d) {res : Option Value × sm_H} {x1 : Int32}  {h : sm_H} {r : (Int32 × sm_H)} (hf : F_156_0 x1 h = some r) (hs : (fun (r : Int32 × sm_H) => res = (some (.int r.1), r.2)) r) : Ex (P_G L xs) (RUN L xs d) (sm_lk P_t156) 3 0 [some (.ref 21), some (.int x1)] [] h res := by
  unfold F_156_0 at hf
  refine Ex.seg 1 (pc' := 1) (lc' := [some (.ref 21), some (.int x1)]) (st' := [.int x1]) (h' := h) (sg1 rfl rfl rfl) ?_
  refine Ex.ifc rfl rfl (fun (c0 : x1 < 0) => ?_) (fun (c0 : ¬ (x1 < 0)) => ?_)
  · rw [if_pos c0] at hf
    exact Ex.weak (sm_le_n (sm_le_n sm_le_nil)) (B_156_16 hd  hf hs)
  · rw [if_neg c0] at hf
    refine Ex.seg 3 (pc' := 9) (lc' := [some (.ref 21), some (.int x1)]) (st' := [.int (h.1 21 8), .int x1]) (h' := h) (sg1 rfl rfl (sg1 rfl rfl (sg1 rfl rfl rfl))) ?_
    refine Ex.icmp rfl rfl (fun (c0 : (h.1 21 8) ≤ x1) => ?_) (fun (c0 : ¬ ((h.1 21 8) ≤ x1)) => ?_)
    · rw [if_pos c0] at hf
      exact Ex.weak (sm_le_n (sm_le_n sm_le_nil)) (B_156_16 hd  hf hs)
    · rw [if_neg c0] at hf
      refine Ex.seg 2 (pc' := 17) (lc' := [some (.ref 21), some (.int x1)]) (st' := [.int 1]) (h' := h) (sg1 rfl rfl (sg1 rfl rfl rfl)) ?_
      exact Ex.weak (sm_le_n (sm_le_n sm_le_nil)) (B_156_17 hd  hf hs)
theorem E_156 {L : Nat} {xs : Nat → Int32} {d : Nat} (hd : 1 ≤ d) {x1 : Int32} {h : sm_H} {r : Int32 × sm_H} (hf : F_156 x1 h = some r) : RUN L xs d 156 [.ref 21, .int x1] h (some (.int r.1), r.2) := by
  obtain ⟨d, rfl⟩ : ∃ e, d = e + 1 := ⟨d - 1, by omega⟩
  exact ⟨Nat.le_of_ble_eq_true rfl, B_156_0 (by omega) hf rfl⟩
theorem B_157_18 {L : Nat} {xs : Nat → Int32} {d : Nat} (hd : 1 ≤ d) {res : Option Value × sm_H} {z0 : Int32}  {h : sm_H} {r : (Int32 × sm_H)} (hf : F_157_18 z0 h = some r) (hs : (fun (r : Int32 × sm_H) => res = (some (.int r.1), r.2)) r) : Ex (P_G L xs) (RUN L xs d) (sm_lk P_t157) 0 18 [none, none] [.int z0] h res := by
  unfold F_157_18 at hf
  obtain rfl := Option.some.inj hf
  exact Ex.iret rfl rfl (fun c0 => by cases c0) hs
theorem B_157_0 {L : Nat} {xs : Nat → Int32} {d : Nat} (hd : 1 ≤ d) {res : Option Value × sm_H} {x1 : Int32}  {h : sm_H} {r : (Int32 × sm_H)} (hf : F_157_0 x1 h = some r) (hs : (fun (r : Int32 × sm_H) => res = (some (.int r.1), r.2)) r) : Ex (P_G L xs) (RUN L xs d) (sm_lk P_t157) 0 0 [some (.ref 21), some (.int x1)] [] h res := by
  unfold F_157_0 at hf
  refine Ex.seg 2 (pc' := 2) (lc' := [some (.ref 21), some (.int x1)]) (st' := [.int x1, .ref 21]) (h' := h) (sg1 rfl rfl (sg1 rfl rfl rfl)) ?_
  obtain ⟨q1, e_q1, hf⟩ := bnd hf
  refine Ex.callV (a := 21) (As := [.int x1]) (r := []) (v := some (.int q1.1)) (h' := q1.2) rfl rfl (by decide) rfl (Nat.le_of_ble_eq_true rfl) rfl (E_156 (Nat.le_trans (by decide) hd) e_q1) rfl ?_
  refine Ex.ifc rfl rfl (fun (c0 : q1.1 = 0) => ?_) (fun (c0 : ¬ (q1.1 = 0)) => ?_)
  · rw [if_pos c0] at hf
    refine Ex.seg 1 (pc' := 18) (lc' := [some (.ref 21), some (.int x1)]) (st' := [.int (-1)]) (h' := q1.2) (sg1 rfl rfl rfl) ?_
    exact Ex.weak (sm_le_n (sm_le_n sm_le_nil)) (B_157_18 hd  hf hs)
  · rw [if_neg c0] at hf
    refine Ex.seg 3 (pc' := 13) (lc' := [some (.ref 21), some (.int x1)]) (st' := [.int x1, .ref 32]) (h' := q1.2) (sg1 rfl rfl (sg1 rfl rfl (sg1 rfl rfl rfl))) ?_
    obtain ⟨v2, e_v2, hf⟩ := bnd hf
    refine Ex.iald e_v2 rfl rfl ?_
    refine Ex.seg 1 (pc' := 18) (lc' := [some (.ref 21), some (.int x1)]) (st' := [.int v2]) (h' := q1.2) (sg1 rfl rfl rfl) ?_
    exact Ex.weak (sm_le_n (sm_le_n sm_le_nil)) (B_157_18 hd  hf hs)
theorem E_157 {L : Nat} {xs : Nat → Int32} {d : Nat} (hd : 2 ≤ d) {x1 : Int32} {h : sm_H} {r : Int32 × sm_H} (hf : F_157 x1 h = some r) : RUN L xs d 157 [.ref 21, .int x1] h (some (.int r.1), r.2) := by
  obtain ⟨d, rfl⟩ : ∃ e, d = e + 1 := ⟨d - 1, by omega⟩
  exact ⟨Nat.le_of_ble_eq_true rfl, B_157_0 (by omega) hf rfl⟩
theorem B_158_15 {L : Nat} {xs : Nat → Int32} {d : Nat} (hd : 1 ≤ d) {res : Option Value × sm_H}   {h : sm_H} {r : (sm_H)} (hf : F_158_15  h = some r) (hs : (fun (r : sm_H) => res = (none, r)) r) : Ex (P_G L xs) (RUN L xs d) (sm_lk P_t158) 0 15 [none, none, none] [] h res := by
  unfold F_158_15 at hf
  obtain rfl := Option.some.inj hf
  exact Ex.vret rfl rfl hs
theorem B_158_0 {L : Nat} {xs : Nat → Int32} {d : Nat} (hd : 1 ≤ d) {res : Option Value × sm_H} {x1 : Int32} {x2 : Int32}  {h : sm_H} {r : (sm_H)} (hf : F_158_0 x1 x2 h = some r) (hs : (fun (r : sm_H) => res = (none, r)) r) : Ex (P_G L xs) (RUN L xs d) (sm_lk P_t158) 0 0 [some (.ref 21), some (.int x1), some (.int x2)] [] h res := by
  unfold F_158_0 at hf
  refine Ex.seg 2 (pc' := 2) (lc' := [some (.ref 21), some (.int x1), some (.int x2)]) (st' := [.int x1, .ref 21]) (h' := h) (sg1 rfl rfl (sg1 rfl rfl rfl)) ?_
  obtain ⟨q1, e_q1, hf⟩ := bnd hf
  refine Ex.callV (a := 21) (As := [.int x1]) (r := []) (v := some (.int q1.1)) (h' := q1.2) rfl rfl (by decide) rfl (Nat.le_of_ble_eq_true rfl) rfl (E_156 (Nat.le_trans (by decide) hd) e_q1) rfl ?_
  refine Ex.ifc rfl rfl (fun (c0 : q1.1 = 0) => ?_) (fun (c0 : ¬ (q1.1 = 0)) => ?_)
  · rw [if_pos c0] at hf
    exact Ex.weak (sm_le_n (sm_le_n (sm_le_n sm_le_nil))) (B_158_15 hd  hf hs)
  · rw [if_neg c0] at hf
    refine Ex.seg 4 (pc' := 14) (lc' := [some (.ref 21), some (.int x1), some (.int x2)]) (st' := [.int x2, .int x1, .ref 32]) (h' := q1.2) (sg1 rfl rfl (sg1 rfl rfl (sg1 rfl rfl (sg1 rfl rfl rfl)))) ?_
    obtain ⟨h2, e_h2, hf⟩ := bnd hf
    refine Ex.iast e_h2 rfl rfl ?_
    exact Ex.weak (sm_le_n (sm_le_n (sm_le_n sm_le_nil))) (B_158_15 hd  hf hs)
theorem E_158 {L : Nat} {xs : Nat → Int32} {d : Nat} (hd : 2 ≤ d) {x1 : Int32} {x2 : Int32} {h : sm_H} {r : sm_H} (hf : F_158 x1 x2 h = some r) : RUN L xs d 158 [.ref 21, .int x1, .int x2] h (none, r) := by
  obtain ⟨d, rfl⟩ : ∃ e, d = e + 1 := ⟨d - 1, by omega⟩
  exact ⟨Nat.le_of_ble_eq_true rfl, B_158_0 (by omega) hf rfl⟩
theorem B_159_0 {L : Nat} {xs : Nat → Int32} {d : Nat} (hd : 0 ≤ d) {res : Option Value × sm_H}   {h : sm_H} {r : (Int32 × sm_H)} (hf : F_159_0  h = some r) (hs : (fun (r : Int32 × sm_H) => res = (some (.int r.1), r.2)) r) : Ex (P_G L xs) (RUN L xs d) (sm_lk P_t159) 0 0 [some (.ref 21)] [] h res := by
  unfold F_159_0 at hf
  refine Ex.seg 3 (pc' := 6) (lc' := [some (.ref 21)]) (st' := [.int 20, .int (h.1 21 10)]) (h' := h) (sg1 rfl rfl (sg1 rfl rfl (sg1 rfl rfl rfl))) ?_
  refine Ex.icmp rfl rfl (fun (c0 : (h.1 21 10) < 20) => ?_) (fun (c0 : ¬ ((h.1 21 10) < 20)) => ?_)
  · rw [if_pos c0] at hf
    refine Ex.seg 6 (pc' := 21) (lc' := [some (.ref 21)]) (st' := []) (h' := (sm_wI h 21 10 ((h.1 21 10) + 1))) (sg1 rfl rfl (sg1 rfl rfl (sg1 rfl rfl (sg1 rfl rfl (sg1 rfl rfl (sg1 rfl rfl rfl)))))) ?_
    obtain ⟨h1, e_h1, hf⟩ := bnd hf
    rw [Option.some.inj e_h1]
    refine Ex.seg 4 (pc' := 27) (lc' := [some (.ref 21)]) (st' := [.int ((h1.1 21 10) - 1)]) (h' := h1) (sg1 rfl rfl (sg1 rfl rfl (sg1 rfl rfl (sg1 rfl rfl rfl)))) ?_
    obtain rfl := Option.some.inj hf
    exact Ex.iret rfl rfl (fun c0 => by cases c0) hs
  · rw [if_neg c0] at hf
    refine Ex.seg 1 (pc' := 10) (lc' := [some (.ref 21)]) (st' := [.int (-1)]) (h' := h) (sg1 rfl rfl rfl) ?_
    obtain rfl := Option.some.inj hf
    exact Ex.iret rfl rfl (fun c0 => by cases c0) hs
theorem E_159 {L : Nat} {xs : Nat → Int32} {d : Nat} (hd : 1 ≤ d)  {h : sm_H} {r : Int32 × sm_H} (hf : F_159  h = some r) : RUN L xs d 159 [.ref 21] h (some (.int r.1), r.2) := by
  obtain ⟨d, rfl⟩ : ∃ e, d = e + 1 := ⟨d - 1, by omega⟩
  exact ⟨Nat.le_of_ble_eq_true rfl, B_159_0 (by omega) hf rfl⟩
theorem B_160_17 {L : Nat} {xs : Nat → Int32} {d : Nat} (hd : 0 ≤ d) {res : Option Value × sm_H} {z0 : Int32}  {h : sm_H} {r : (Int32 × sm_H)} (hf : F_160_17 z0 h = some r) (hs : (fun (r : Int32 × sm_H) => res = (some (.int r.1), r.2)) r) : Ex (P_G L xs) (RUN L xs d) (sm_lk P_t160) 3 17 [none, none] [.int z0] h res := by
  unfold F_160_17 at hf
  rcases Classical.em (z0 = 0 ∨ z0 = 1) with c0 | c0
  · rw [if_pos c0] at hf
    obtain rfl := Option.some.inj hf
    exact Ex.iret rfl rfl (fun _ => c0) hs
  · rw [if_neg c0] at hf
    cases hf
theorem B_160_16 {L : Nat} {xs : Nat → Int32} {d : Nat} (hd : 0 ≤ d) {res : Option Value × sm_H}   {h : sm_H} {r : (Int32 × sm_H)} (hf : F_160_16  h = some r) (hs : (fun (r : Int32 × sm_H) => res = (some (.int r.1), r.2)) r) : Ex (P_G L xs) (RUN L xs d) (sm_lk P_t160) 3 16 [none, none] [] h res := by
  unfold F_160_16 at hf
  refine Ex.seg 1 (pc' := 17) (lc' := [none, none]) (st' := [.int 0]) (h' := h) (sg1 rfl rfl rfl) ?_
  exact Ex.weak (sm_le_s (sm_le_s sm_le_nil)) (B_160_17 hd  hf hs)
theorem B_160_0 {L : Nat} {xs : Nat → Int32} {d : Nat} (hd : 0 ≤ d) {res : Option Value × sm_H} {x1 : Int32}  {h : sm_H} {r : (Int32 × sm_H)} (hf : F_160_0 x1 h = some r) (hs : (fun (r : Int32 × sm_H) => res = (some (.int r.1), r.2)) r) : Ex (P_G L xs) (RUN L xs d) (sm_lk P_t160) 3 0 [some (.ref 21), some (.int x1)] [] h res := by
  unfold F_160_0 at hf
  refine Ex.seg 1 (pc' := 1) (lc' := [some (.ref 21), some (.int x1)]) (st' := [.int x1]) (h' := h) (sg1 rfl rfl rfl) ?_
  refine Ex.ifc rfl rfl (fun (c0 : x1 < 0) => ?_) (fun (c0 : ¬ (x1 < 0)) => ?_)
  · rw [if_pos c0] at hf
    exact Ex.weak (sm_le_n (sm_le_n sm_le_nil)) (B_160_16 hd  hf hs)
  · rw [if_neg c0] at hf
    refine Ex.seg 3 (pc' := 9) (lc' := [some (.ref 21), some (.int x1)]) (st' := [.int (h.1 21 10), .int x1]) (h' := h) (sg1 rfl rfl (sg1 rfl rfl (sg1 rfl rfl rfl))) ?_
    refine Ex.icmp rfl rfl (fun (c0 : (h.1 21 10) ≤ x1) => ?_) (fun (c0 : ¬ ((h.1 21 10) ≤ x1)) => ?_)
    · rw [if_pos c0] at hf
      exact Ex.weak (sm_le_n (sm_le_n sm_le_nil)) (B_160_16 hd  hf hs)
    · rw [if_neg c0] at hf
      refine Ex.seg 2 (pc' := 17) (lc' := [some (.ref 21), some (.int x1)]) (st' := [.int 1]) (h' := h) (sg1 rfl rfl (sg1 rfl rfl rfl)) ?_
      exact Ex.weak (sm_le_n (sm_le_n sm_le_nil)) (B_160_17 hd  hf hs)
theorem E_160 {L : Nat} {xs : Nat → Int32} {d : Nat} (hd : 1 ≤ d) {x1 : Int32} {h : sm_H} {r : Int32 × sm_H} (hf : F_160 x1 h = some r) : RUN L xs d 160 [.ref 21, .int x1] h (some (.int r.1), r.2) := by
  obtain ⟨d, rfl⟩ : ∃ e, d = e + 1 := ⟨d - 1, by omega⟩
  exact ⟨Nat.le_of_ble_eq_true rfl, B_160_0 (by omega) hf rfl⟩
theorem B_161_22 {L : Nat} {xs : Nat → Int32} {d : Nat} (hd : 1 ≤ d) {res : Option Value × sm_H} {z0 : Int32}  {h : sm_H} {r : (Int32 × sm_H)} (hf : F_161_22 z0 h = some r) (hs : (fun (r : Int32 × sm_H) => res = (some (.int r.1), r.2)) r) : Ex (P_G L xs) (RUN L xs d) (sm_lk P_t161) 3 22 [none, none] [.int z0] h res := by
  unfold F_161_22 at hf
  rcases Classical.em (z0 = 0 ∨ z0 = 1) with c0 | c0
  · rw [if_pos c0] at hf
    obtain rfl := Option.some.inj hf
    exact Ex.iret rfl rfl (fun _ => c0) hs
  · rw [if_neg c0] at hf
    cases hf
theorem B_161_21 {L : Nat} {xs : Nat → Int32} {d : Nat} (hd : 1 ≤ d) {res : Option Value × sm_H}   {h : sm_H} {r : (Int32 × sm_H)} (hf : F_161_21  h = some r) (hs : (fun (r : Int32 × sm_H) => res = (some (.int r.1), r.2)) r) : Ex (P_G L xs) (RUN L xs d) (sm_lk P_t161) 3 21 [none, none] [] h res := by
  unfold F_161_21 at hf
  refine Ex.seg 1 (pc' := 22) (lc' := [none, none]) (st' := [.int 0]) (h' := h) (sg1 rfl rfl rfl) ?_
  exact Ex.weak (sm_le_s (sm_le_s sm_le_nil)) (B_161_22 hd  hf hs)
theorem B_161_0 {L : Nat} {xs : Nat → Int32} {d : Nat} (hd : 1 ≤ d) {res : Option Value × sm_H} {x1 : Int32}  {h : sm_H} {r : (Int32 × sm_H)} (hf : F_161_0 x1 h = some r) (hs : (fun (r : Int32 × sm_H) => res = (some (.int r.1), r.2)) r) : Ex (P_G L xs) (RUN L xs d) (sm_lk P_t161) 3 0 [some (.ref 21), some (.int x1)] [] h res := by
  unfold F_161_0 at hf
  refine Ex.seg 2 (pc' := 2) (lc' := [some (.ref 21), some (.int x1)]) (st' := [.int x1, .ref 21]) (h' := h) (sg1 rfl rfl (sg1 rfl rfl rfl)) ?_
  obtain ⟨q1, e_q1, hf⟩ := bnd hf
  refine Ex.callV (a := 21) (As := [.int x1]) (r := []) (v := some (.int q1.1)) (h' := q1.2) rfl rfl (by decide) rfl (Nat.le_of_ble_eq_true rfl) rfl (E_160 (Nat.le_trans (by decide) hd) e_q1) rfl ?_
  refine Ex.ifc rfl rfl (fun (c0 : q1.1 = 0) => ?_) (fun (c0 : ¬ (q1.1 = 0)) => ?_)
  · rw [if_pos c0] at hf
    exact Ex.weak (sm_le_n (sm_le_n sm_le_nil)) (B_161_21 hd  hf hs)
  · rw [if_neg c0] at hf
    refine Ex.seg 3 (pc' := 13) (lc' := [some (.ref 21), some (.int x1)]) (st' := [.int x1, .ref 33]) (h' := q1.2) (sg1 rfl rfl (sg1 rfl rfl (sg1 rfl rfl rfl))) ?_
    obtain ⟨v2, e_v2, hf⟩ := bnd hf
    refine Ex.zald e_v2 rfl rfl ?_
    refine Ex.ifc rfl rfl (fun (c0 : v2 = 0) => ?_) (fun (c0 : ¬ (v2 = 0)) => ?_)
    · rw [if_pos c0] at hf
      exact Ex.weak (sm_le_n (sm_le_n sm_le_nil)) (B_161_21 hd  hf hs)
    · rw [if_neg c0] at hf
      refine Ex.seg 2 (pc' := 22) (lc' := [some (.ref 21), some (.int x1)]) (st' := [.int 1]) (h' := q1.2) (sg1 rfl rfl (sg1 rfl rfl rfl)) ?_
      exact Ex.weak (sm_le_n (sm_le_n sm_le_nil)) (B_161_22 hd  hf hs)
theorem E_161 {L : Nat} {xs : Nat → Int32} {d : Nat} (hd : 2 ≤ d) {x1 : Int32} {h : sm_H} {r : Int32 × sm_H} (hf : F_161 x1 h = some r) : RUN L xs d 161 [.ref 21, .int x1] h (some (.int r.1), r.2) := by
  obtain ⟨d, rfl⟩ : ∃ e, d = e + 1 := ⟨d - 1, by omega⟩
  exact ⟨Nat.le_of_ble_eq_true rfl, B_161_0 (by omega) hf rfl⟩
theorem B_162_17 {L : Nat} {xs : Nat → Int32} {d : Nat} (hd : 1 ≤ d) {res : Option Value × sm_H}   {h : sm_H} {r : (Int32 × sm_H)} (hf : F_162_17  h = some r) (hs : (fun (r : Int32 × sm_H) => res = (some (.int r.1), r.2)) r) : Ex (P_G L xs) (RUN L xs d) (sm_lk P_t162) 3 17 [none, none] [] h res := by
  unfold F_162_17 at hf
  refine Ex.seg 1 (pc' := 18) (lc' := [none, none]) (st' := [.int 0]) (h' := h) (sg1 rfl rfl rfl) ?_
  obtain rfl := Option.some.inj hf
  exact Ex.iret rfl rfl (fun _ => by decide) hs
theorem B_162_0 {L : Nat} {xs : Nat → Int32} {d : Nat} (hd : 1 ≤ d) {res : Option Value × sm_H} {x1 : Int32}  {h : sm_H} {r : (Int32 × sm_H)} (hf : F_162_0 x1 h = some r) (hs : (fun (r : Int32 × sm_H) => res = (some (.int r.1), r.2)) r) : Ex (P_G L xs) (RUN L xs d) (sm_lk P_t162) 3 0 [some (.ref 21), some (.int x1)] [] h res := by
  unfold F_162_0 at hf
  refine Ex.seg 2 (pc' := 2) (lc' := [some (.ref 21), some (.int x1)]) (st' := [.int x1, .ref 21]) (h' := h) (sg1 rfl rfl (sg1 rfl rfl rfl)) ?_
  obtain ⟨q1, e_q1, hf⟩ := bnd hf
  refine Ex.callV (a := 21) (As := [.int x1]) (r := []) (v := some (.int q1.1)) (h' := q1.2) rfl rfl (by decide) rfl (Nat.le_of_ble_eq_true rfl) rfl (E_160 (Nat.le_trans (by decide) hd) e_q1) rfl ?_
  refine Ex.ifc rfl rfl (fun (c0 : q1.1 = 0) => ?_) (fun (c0 : ¬ (q1.1 = 0)) => ?_)
  · rw [if_pos c0] at hf
    exact Ex.weak (sm_le_n (sm_le_n sm_le_nil)) (B_162_17 hd  hf hs)
  · rw [if_neg c0] at hf
    refine Ex.seg 3 (pc' := 13) (lc' := [some (.ref 21), some (.int x1)]) (st' := [.int x1, .ref 33]) (h' := q1.2) (sg1 rfl rfl (sg1 rfl rfl (sg1 rfl rfl rfl))) ?_
    obtain ⟨v2, e_v2, hf⟩ := bnd hf
    refine Ex.zald e_v2 rfl rfl ?_
    refine Ex.ifc rfl rfl (fun (c0 : v2 = 0) => ?_) (fun (c0 : ¬ (v2 = 0)) => ?_)
    · rw [if_pos c0] at hf
      refine Ex.seg 4 (pc' := 25) (lc' := [some (.ref 21), some (.int x1)]) (st' := [.int 1, .int x1, .ref 33]) (h' := q1.2) (sg1 rfl rfl (sg1 rfl rfl (sg1 rfl rfl (sg1 rfl rfl rfl)))) ?_
      obtain ⟨h3, e_h3, hf⟩ := bnd hf
      refine Ex.zast e_h3 rfl rfl ?_
      refine Ex.seg 1 (pc' := 27) (lc' := [some (.ref 21), some (.int x1)]) (st' := [.int 1]) (h' := h3) (sg1 rfl rfl rfl) ?_
      obtain rfl := Option.some.inj hf
      exact Ex.iret rfl rfl (fun _ => by decide) hs
    · rw [if_neg c0] at hf
      exact Ex.weak (sm_le_n (sm_le_n sm_le_nil)) (B_162_17 hd  hf hs)
theorem E_162 {L : Nat} {xs : Nat → Int32} {d : Nat} (hd : 2 ≤ d) {x1 : Int32} {h : sm_H} {r : Int32 × sm_H} (hf : F_162 x1 h = some r) : RUN L xs d 162 [.ref 21, .int x1] h (some (.int r.1), r.2) := by
  obtain ⟨d, rfl⟩ : ∃ e, d = e + 1 := ⟨d - 1, by omega⟩
  exact ⟨Nat.le_of_ble_eq_true rfl, B_162_0 (by omega) hf rfl⟩
theorem B_164_0 {L : Nat} {xs : Nat → Int32} {d : Nat} (hd : 0 ≤ d) {res : Option Value × sm_H} {x1 : Int32}  {h : sm_H} {r : (Int32 × sm_H)} (hf : F_164_0 x1 h = some r) (hs : (fun (r : Int32 × sm_H) => res = (some (.int r.1), r.2)) r) : Ex (P_G L xs) (RUN L xs d) (sm_lk P_t164) 0 0 [some (.ref 55), some (.int x1)] [] h res := by
  unfold F_164_0 at hf
  refine Ex.seg 1 (pc' := 1) (lc' := [some (.ref 55), some (.int x1)]) (st' := [.int x1]) (h' := h) (sg1 rfl rfl rfl) ?_
  rcases Classical.em (x1 = 0) with n1 | n1
  · rw [if_pos n1] at hf
    refine Ex.swt (t := 28) rfl rfl (by rw [n1]; exact Or.inr ⟨by decide, by decide, _, rfl, by decide⟩) ?_
    refine Ex.seg 2 (pc' := 32) (lc' := [some (.ref 55), some (.int x1)]) (st' := [.int (h.1 55 17)]) (h' := h) (sg1 rfl rfl (sg1 rfl rfl rfl)) ?_
    obtain rfl := Option.some.inj hf
    exact Ex.iret rfl rfl (fun c0 => by cases c0) hs
  rw [if_neg n1] at hf
  rcases Classical.em (x1 = 1) with n2 | n2
  · rw [if_pos n2] at hf
    refine Ex.swt (t := 33) rfl rfl (by rw [n2]; exact Or.inr ⟨by decide, by decide, _, rfl, by decide⟩) ?_
    refine Ex.seg 2 (pc' := 37) (lc' := [some (.ref 55), some (.int x1)]) (st' := [.int (h.1 55 18)]) (h' := h) (sg1 rfl rfl (sg1 rfl rfl rfl)) ?_
    obtain rfl := Option.some.inj hf
    exact Ex.iret rfl rfl (fun c0 => by cases c0) hs
  rw [if_neg n2] at hf
  rcases Classical.em (x1 = 2) with n3 | n3
  · rw [if_pos n3] at hf
    refine Ex.swt (t := 38) rfl rfl (by rw [n3]; exact Or.inr ⟨by decide, by decide, _, rfl, by decide⟩) ?_
    refine Ex.seg 2 (pc' := 42) (lc' := [some (.ref 55), some (.int x1)]) (st' := [.int (h.1 55 15)]) (h' := h) (sg1 rfl rfl (sg1 rfl rfl rfl)) ?_
    obtain rfl := Option.some.inj hf
    exact Ex.iret rfl rfl (fun c0 => by cases c0) hs
  rw [if_neg n3] at hf
  refine Ex.swt (t := 43) rfl rfl (sw_dflt (by decide) (by decide) (fun k hk he => ?_)) ?_
  · have hk : k < 3 := hk
    rcases (show k = 0 ∨ k = 1 ∨ k = 2 by omega) with rfl | rfl | rfl
    · exact absurd (Int32.toInt_inj.mp (he.symm.trans (by decide : (_ : Int) = Int32.toInt 0))) n1
    · exact absurd (Int32.toInt_inj.mp (he.symm.trans (by decide : (_ : Int) = Int32.toInt 1))) n2
    · exact absurd (Int32.toInt_inj.mp (he.symm.trans (by decide : (_ : Int) = Int32.toInt 2))) n3
  refine Ex.seg 1 (pc' := 44) (lc' := [some (.ref 55), some (.int x1)]) (st' := [.int (-1)]) (h' := h) (sg1 rfl rfl rfl) ?_
  obtain rfl := Option.some.inj hf
  exact Ex.iret rfl rfl (fun c0 => by cases c0) hs
theorem E_164 {L : Nat} {xs : Nat → Int32} {d : Nat} (hd : 1 ≤ d) {x1 : Int32} {h : sm_H} {r : Int32 × sm_H} (hf : F_164 x1 h = some r) : RUN L xs d 164 [.ref 55, .int x1] h (some (.int r.1), r.2) := by
  obtain ⟨d, rfl⟩ : ∃ e, d = e + 1 := ⟨d - 1, by omega⟩
  exact ⟨Nat.le_of_ble_eq_true rfl, B_164_0 (by omega) hf rfl⟩
theorem B_166_2B {L : Nat} {xs : Nat → Int32} {d : Nat} (hd : 0 ≤ d) {res : Option Value × sm_H} {S1 : (Int64 × Int32 × sm_H) → Prop} (hS1 : ∀ s, S1 s → Ex (P_G L xs) (RUN L xs d) (sm_lk P_t166) 0 2 [some (.ref 55), some (.long s.1), none, some (.int s.2.1)] [] s.2.2 res) {s : (Int64 × Int32 × sm_H)}  {r : ((Int64 × Int32 × sm_H) ⊕ (Int32 × sm_H))} (hf : F_166_2B s = some r) (hs : (Sum.elim S1 (fun (r : Int32 × sm_H) => res = (some (.int r.1), r.2))) r) : Ex (P_G L xs) (RUN L xs d) (sm_lk P_t166) 0 2 [some (.ref 55), some (.long s.1), none, some (.int s.2.1)] [] s.2.2 res := by
  unfold F_166_2B at hf
  refine Ex.seg 3 (pc' := 7) (lc' := [some (.ref 55), some (.long s.1), none, some (.int s.2.1)]) (st' := [.int (s.2.2.1 55 15), .int s.2.1]) (h' := s.2.2) (sg1 rfl rfl (sg1 rfl rfl (sg1 rfl rfl rfl))) ?_
  refine Ex.icmp rfl rfl (fun (c0 : (s.2.2.1 55 15) ≤ s.2.1) => ?_) (fun (c0 : ¬ ((s.2.2.1 55 15) ≤ s.2.1)) => ?_)
  · rw [if_pos c0] at hf
    refine Ex.seg 1 (pc' := 30) (lc' := [some (.ref 55), some (.long s.1), none, some (.int s.2.1)]) (st' := [.int (-1)]) (h' := s.2.2) (sg1 rfl rfl rfl) ?_
    obtain rfl := Option.some.inj hf
    exact Ex.iret rfl rfl (fun c0 => by cases c0) hs
  · rw [if_neg c0] at hf
    refine Ex.seg 3 (pc' := 15) (lc' := [some (.ref 55), some (.long s.1), none, some (.int s.2.1)]) (st' := [.int s.2.1, .ref 62]) (h' := s.2.2) (sg1 rfl rfl (sg1 rfl rfl (sg1 rfl rfl rfl))) ?_
    obtain ⟨v1, e_v1, hf⟩ := bnd hf
    refine Ex.lald e_v1 rfl rfl ?_
    refine Ex.seg 2 (pc' := 18) (lc' := [some (.ref 55), some (.long s.1), none, some (.int s.2.1)]) (st' := [.int (lg_cmp v1 s.1)]) (h' := s.2.2) (sg1 rfl rfl (sg1 rfl rfl rfl)) ?_
    refine Ex.ifc rfl rfl (fun (c0 : ¬ ((lg_cmp v1 s.1) = 0)) => ?_) (fun (c0 : ¬ ¬ ((lg_cmp v1 s.1) = 0)) => ?_)
    · rw [if_neg c0] at hf
      refine Ex.seg 1 (pc' := 26) (lc' := [some (.ref 55), some (.long s.1), none, some (.int (s.2.1 + 1))]) (st' := []) (h' := s.2.2) (sg1 rfl rfl rfl) ?_
      obtain ⟨v2, e_v2, hf⟩ := bnd hf
      rw [Option.some.inj e_v2]
      refine Ex.seg 1 (pc' := 2) (lc' := [some (.ref 55), some (.long s.1), none, some (.int v2)]) (st' := []) (h' := s.2.2) (sg1 rfl rfl rfl) ?_
      obtain rfl := Option.some.inj hf
      exact Ex.weak (sm_le_s (sm_le_s (sm_le_s (sm_le_s sm_le_nil)))) (hS1 _ hs)
    · rw [if_pos (Classical.not_not.mp c0)] at hf
      refine Ex.seg 1 (pc' := 22) (lc' := [some (.ref 55), some (.long s.1), none, some (.int s.2.1)]) (st' := [.int s.2.1]) (h' := s.2.2) (sg1 rfl rfl rfl) ?_
      obtain rfl := Option.some.inj hf
      exact Ex.iret rfl rfl (fun c0 => by cases c0) hs
theorem B_166_2 {L : Nat} {xs : Nat → Int32} {d : Nat} (hd : 0 ≤ d) {res : Option Value × sm_H} {y1 : Int64} {y3 : Int32}  {h : sm_H} {r : (Int32 × sm_H)} (hf : F_166_2 y1 y3 h = some r) (hs : (fun (r : Int32 × sm_H) => res = (some (.int r.1), r.2)) r) : Ex (P_G L xs) (RUN L xs d) (sm_lk P_t166) 0 2 [some (.ref 55), some (.long y1), none, some (.int y3)] [] h res := by
  unfold F_166_2 at hf
  exact lp_ok (P := fun (s : (Int64 × Int32 × sm_H)) => Ex (P_G L xs) (RUN L xs d) (sm_lk P_t166) 0 2 [some (.ref 55), some (.long s.1), none, some (.int s.2.1)] [] s.2.2 res) (S := (fun (r : Int32 × sm_H) => res = (some (.int r.1), r.2))) (fun s x hx hsx => by
    intros
    exact B_166_2B hd  (fun _ q => q) hx hsx) 1000000 _ r hf hs
theorem B_166_0 {L : Nat} {xs : Nat → Int32} {d : Nat} (hd : 0 ≤ d) {res : Option Value × sm_H} {x1 : Int64}  {h : sm_H} {r : (Int32 × sm_H)} (hf : F_166_0 x1 h = some r) (hs : (fun (r : Int32 × sm_H) => res = (some (.int r.1), r.2)) r) : Ex (P_G L xs) (RUN L xs d) (sm_lk P_t166) 0 0 [some (.ref 55), some (.long x1), none, none] [] h res := by
  unfold F_166_0 at hf
  refine Ex.seg 2 (pc' := 2) (lc' := [some (.ref 55), some (.long x1), none, some (.int 0)]) (st' := []) (h' := h) (sg1 rfl rfl (sg1 rfl rfl rfl)) ?_
  exact Ex.weak (sm_le_s (sm_le_s (sm_le_s (sm_le_s sm_le_nil)))) (B_166_2 hd  hf hs)
theorem E_166 {L : Nat} {xs : Nat → Int32} {d : Nat} (hd : 1 ≤ d) {x1 : Int64} {h : sm_H} {r : Int32 × sm_H} (hf : F_166 x1 h = some r) : RUN L xs d 166 [.ref 55, .long x1] h (some (.int r.1), r.2) := by
  obtain ⟨d, rfl⟩ : ∃ e, d = e + 1 := ⟨d - 1, by omega⟩
  exact ⟨Nat.le_of_ble_eq_true rfl, B_166_0 (by omega) hf rfl⟩
theorem B_168_14 {L : Nat} {xs : Nat → Int32} {d : Nat} (hd : 2 ≤ d) {res : Option Value × sm_H}   {h : sm_H} {r : (sm_H)} (hf : F_168_14  h = some r) (hs : (fun (r : sm_H) => res = (none, r)) r) : Ex (P_G L xs) (RUN L xs d) (sm_lk P_t168) 0 14 [none, none, none] [] h res := by
  unfold F_168_14 at hf
  obtain rfl := Option.some.inj hf
  exact Ex.vret rfl rfl hs
theorem B_168_0 {L : Nat} {xs : Nat → Int32} {d : Nat} (hd : 2 ≤ d) {res : Option Value × sm_H} {x1 : Int32} {x2 : Int32}  {h : sm_H} {r : (sm_H)} (hf : F_168_0 x1 x2 h = some r) (hs : (fun (r : sm_H) => res = (none, r)) r) : Ex (P_G L xs) (RUN L xs d) (sm_lk P_t168) 0 0 [some (.ref 55), some (.int x1), some (.int x2)] [] h res := by
  unfold F_168_0 at hf
  refine Ex.seg 2 (pc' := 2) (lc' := [some (.ref 55), some (.int x1), some (.int x2)]) (st' := [.int (-1), .int x2]) (h' := h) (sg1 rfl rfl (sg1 rfl rfl rfl)) ?_
  refine Ex.icmp rfl rfl (fun (c0 : x2 = (-1)) => ?_) (fun (c0 : ¬ (x2 = (-1))) => ?_)
  · rw [if_pos c0] at hf
    exact Ex.weak (sm_le_n (sm_le_n (sm_le_n sm_le_nil))) (B_168_14 hd  hf hs)
  · rw [if_neg c0] at hf
    refine Ex.seg 4 (pc' := 11) (lc' := [some (.ref 55), some (.int x1), some (.int x2)]) (st' := [.int x2, .int x1, .ref 21]) (h' := h) (sg1 rfl rfl (sg1 rfl rfl (sg1 rfl rfl (sg1 rfl rfl rfl)))) ?_
    obtain ⟨q1, e_q1, hf⟩ := bnd hf
    refine Ex.callV (a := 21) (As := [.int x1, .int x2]) (r := []) (v := none) (h' := q1) rfl rfl (by decide) rfl (Nat.le_of_ble_eq_true rfl) rfl (E_158 (Nat.le_trans (by decide) hd) e_q1) rfl ?_
    exact Ex.weak (sm_le_n (sm_le_n (sm_le_n sm_le_nil))) (B_168_14 hd  hf hs)
theorem E_168 {L : Nat} {xs : Nat → Int32} {d : Nat} (hd : 3 ≤ d) {x1 : Int32} {x2 : Int32} {h : sm_H} {r : sm_H} (hf : F_168 x1 x2 h = some r) : RUN L xs d 168 [.ref 55, .int x1, .int x2] h (none, r) := by
  obtain ⟨d, rfl⟩ : ∃ e, d = e + 1 := ⟨d - 1, by omega⟩
  exact ⟨Nat.le_of_ble_eq_true rfl, B_168_0 (by omega) hf rfl⟩
theorem B_169_17 {L : Nat} {xs : Nat → Int32} {d : Nat} (hd : 0 ≤ d) {res : Option Value × sm_H}   {h : sm_H} {r : (Int32 × sm_H)} (hf : F_169_17  h = some r) (hs : (fun (r : Int32 × sm_H) => res = (some (.int r.1), r.2)) r) : Ex (P_G L xs) (RUN L xs d) (sm_lk P_t169) 0 17 [none, none, none] [] h res := by
  unfold F_169_17 at hf
  refine Ex.seg 1 (pc' := 18) (lc' := [none, none, none]) (st' := [.int (-1)]) (h' := h) (sg1 rfl rfl rfl) ?_
  obtain rfl := Option.some.inj hf
  exact Ex.iret rfl rfl (fun c0 => by cases c0) hs
theorem B_169_0 {L : Nat} {xs : Nat → Int32} {d : Nat} (hd : 0 ≤ d) {res : Option Value × sm_H} {x1 : Int32} {x2 : Int32}  {h : sm_H} {r : (Int32 × sm_H)} (hf : F_169_0 x1 x2 h = some r) (hs : (fun (r : Int32 × sm_H) => res = (some (.int r.1), r.2)) r) : Ex (P_G L xs) (RUN L xs d) (sm_lk P_t169) 0 0 [some (.ref 55), some (.int x1), some (.int x2)] [] h res := by
  unfold F_169_0 at hf
  refine Ex.seg 2 (pc' := 4) (lc' := [some (.ref 55), some (.int x1), some (.int x2)]) (st' := [.int (h.1 55 17)]) (h' := h) (sg1 rfl rfl (sg1 rfl rfl rfl)) ?_
  refine Ex.ifc rfl rfl (fun (c0 : ¬ ((h.1 55 17) = 0)) => ?_) (fun (c0 : ¬ ¬ ((h.1 55 17) = 0)) => ?_)
  · rw [if_neg c0] at hf
    exact Ex.weak (sm_le_n (sm_le_n (sm_le_n sm_le_nil))) (B_169_17 hd  hf hs)
  · rw [if_pos (Classical.not_not.mp c0)] at hf
    refine Ex.seg 3 (pc' := 12) (lc' := [some (.ref 55), some (.int x1), some (.int x2)]) (st' := []) (h' := (sm_wI h 55 17 x1)) (sg1 rfl rfl (sg1 rfl rfl (sg1 rfl rfl rfl))) ?_
    obtain ⟨h1, e_h1, hf⟩ := bnd hf
    rw [Option.some.inj e_h1]
    refine Ex.seg 3 (pc' := 17) (lc' := [some (.ref 55), some (.int x1), some (.int x2)]) (st' := []) (h' := (sm_wI h1 55 18 x2)) (sg1 rfl rfl (sg1 rfl rfl (sg1 rfl rfl rfl))) ?_
    obtain ⟨h2, e_h2, hf⟩ := bnd hf
    rw [Option.some.inj e_h2]
    exact Ex.weak (sm_le_n (sm_le_n (sm_le_n sm_le_nil))) (B_169_17 hd  hf hs)
theorem E_169 {L : Nat} {xs : Nat → Int32} {d : Nat} (hd : 1 ≤ d) {x1 : Int32} {x2 : Int32} {h : sm_H} {r : Int32 × sm_H} (hf : F_169 x1 x2 h = some r) : RUN L xs d 169 [.ref 55, .int x1, .int x2] h (some (.int r.1), r.2) := by
  obtain ⟨d, rfl⟩ : ∃ e, d = e + 1 := ⟨d - 1, by omega⟩
  exact ⟨Nat.le_of_ble_eq_true rfl, B_169_0 (by omega) hf rfl⟩
theorem B_181_35 {L : Nat} {xs : Nat → Int32} {d : Nat} (hd : 0 ≤ d) {res : Option Value × sm_H}   {h : sm_H} {r : (Int32 × sm_H)} (hf : F_181_35  h = some r) (hs : (fun (r : Int32 × sm_H) => res = (some (.int r.1), r.2)) r) : Ex (P_G L xs) (RUN L xs d) (sm_lk P_t181) 0 35 [none, none, none, none] [] h res := by
  unfold F_181_35 at hf
  refine Ex.seg 1 (pc' := 36) (lc' := [none, none, none, none]) (st' := [.int (-1)]) (h' := h) (sg1 rfl rfl rfl) ?_
  obtain rfl := Option.some.inj hf
  exact Ex.iret rfl rfl (fun c0 => by cases c0) hs
theorem B_181_2B {L : Nat} {xs : Nat → Int32} {d : Nat} (hd : 0 ≤ d) {res : Option Value × sm_H} {S1 : (Int64 × Int32 × sm_H) → Prop} (hS1 : ∀ s, S1 s → Ex (P_G L xs) (RUN L xs d) (sm_lk P_t181) 0 2 [some (.ref 55), some (.long s.1), none, some (.int s.2.1)] [] s.2.2 res) {s : (Int64 × Int32 × sm_H)}  {r : ((Int64 × Int32 × sm_H) ⊕ (Int32 × sm_H))} (hf : F_181_2B s = some r) (hs : (Sum.elim S1 (fun (r : Int32 × sm_H) => res = (some (.int r.1), r.2))) r) : Ex (P_G L xs) (RUN L xs d) (sm_lk P_t181) 0 2 [some (.ref 55), some (.long s.1), none, some (.int s.2.1)] [] s.2.2 res := by
  unfold F_181_2B at hf
  refine Ex.seg 3 (pc' := 7) (lc' := [some (.ref 55), some (.long s.1), none, some (.int s.2.1)]) (st' := [.int (s.2.2.1 55 9), .int s.2.1]) (h' := s.2.2) (sg1 rfl rfl (sg1 rfl rfl (sg1 rfl rfl rfl))) ?_
  refine Ex.icmp rfl rfl (fun (c0 : (s.2.2.1 55 9) ≤ s.2.1) => ?_) (fun (c0 : ¬ ((s.2.2.1 55 9) ≤ s.2.1)) => ?_)
  · rw [if_pos c0] at hf
    obtain ⟨r0, hf0, rfl⟩ := Option.map_eq_some_iff.mp hf
    exact Ex.weak (sm_le_n (sm_le_n (sm_le_s (sm_le_n sm_le_nil)))) (B_181_35 hd  hf0 hs)
  · rw [if_neg c0] at hf
    refine Ex.seg 2 (pc' := 13) (lc' := [some (.ref 55), some (.long s.1), none, some (.int s.2.1)]) (st' := [.int 16, .int s.2.1]) (h' := s.2.2) (sg1 rfl rfl (sg1 rfl rfl rfl)) ?_
    refine Ex.icmp rfl rfl (fun (c0 : 16 ≤ s.2.1) => ?_) (fun (c0 : ¬ (16 ≤ s.2.1)) => ?_)
    · rw [if_pos c0] at hf
      obtain ⟨r0, hf0, rfl⟩ := Option.map_eq_some_iff.mp hf
      exact Ex.weak (sm_le_n (sm_le_n (sm_le_s (sm_le_n sm_le_nil)))) (B_181_35 hd  hf0 hs)
    · rw [if_neg c0] at hf
      refine Ex.seg 3 (pc' := 21) (lc' := [some (.ref 55), some (.long s.1), none, some (.int s.2.1)]) (st' := [.int s.2.1, .ref 58]) (h' := s.2.2) (sg1 rfl rfl (sg1 rfl rfl (sg1 rfl rfl rfl))) ?_
      obtain ⟨v1, e_v1, hf⟩ := bnd hf
      refine Ex.lald e_v1 rfl rfl ?_
      refine Ex.seg 2 (pc' := 24) (lc' := [some (.ref 55), some (.long s.1), none, some (.int s.2.1)]) (st' := [.int (lg_cmp v1 s.1)]) (h' := s.2.2) (sg1 rfl rfl (sg1 rfl rfl rfl)) ?_
      refine Ex.ifc rfl rfl (fun (c0 : ¬ ((lg_cmp v1 s.1) = 0)) => ?_) (fun (c0 : ¬ ¬ ((lg_cmp v1 s.1) = 0)) => ?_)
      · rw [if_neg c0] at hf
        refine Ex.seg 1 (pc' := 32) (lc' := [some (.ref 55), some (.long s.1), none, some (.int (s.2.1 + 1))]) (st' := []) (h' := s.2.2) (sg1 rfl rfl rfl) ?_
        obtain ⟨v2, e_v2, hf⟩ := bnd hf
        rw [Option.some.inj e_v2]
        refine Ex.seg 1 (pc' := 2) (lc' := [some (.ref 55), some (.long s.1), none, some (.int v2)]) (st' := []) (h' := s.2.2) (sg1 rfl rfl rfl) ?_
        obtain rfl := Option.some.inj hf
        exact Ex.weak (sm_le_s (sm_le_s (sm_le_s (sm_le_s sm_le_nil)))) (hS1 _ hs)
      · rw [if_pos (Classical.not_not.mp c0)] at hf
        refine Ex.seg 1 (pc' := 28) (lc' := [some (.ref 55), some (.long s.1), none, some (.int s.2.1)]) (st' := [.int s.2.1]) (h' := s.2.2) (sg1 rfl rfl rfl) ?_
        obtain rfl := Option.some.inj hf
        exact Ex.iret rfl rfl (fun c0 => by cases c0) hs
theorem B_181_2 {L : Nat} {xs : Nat → Int32} {d : Nat} (hd : 0 ≤ d) {res : Option Value × sm_H} {y1 : Int64} {y3 : Int32}  {h : sm_H} {r : (Int32 × sm_H)} (hf : F_181_2 y1 y3 h = some r) (hs : (fun (r : Int32 × sm_H) => res = (some (.int r.1), r.2)) r) : Ex (P_G L xs) (RUN L xs d) (sm_lk P_t181) 0 2 [some (.ref 55), some (.long y1), none, some (.int y3)] [] h res := by
  unfold F_181_2 at hf
  exact lp_ok (P := fun (s : (Int64 × Int32 × sm_H)) => Ex (P_G L xs) (RUN L xs d) (sm_lk P_t181) 0 2 [some (.ref 55), some (.long s.1), none, some (.int s.2.1)] [] s.2.2 res) (S := (fun (r : Int32 × sm_H) => res = (some (.int r.1), r.2))) (fun s x hx hsx => by
    intros
    exact B_181_2B hd  (fun _ q => q) hx hsx) 1000000 _ r hf hs
theorem B_181_0 {L : Nat} {xs : Nat → Int32} {d : Nat} (hd : 0 ≤ d) {res : Option Value × sm_H} {x1 : Int64}  {h : sm_H} {r : (Int32 × sm_H)} (hf : F_181_0 x1 h = some r) (hs : (fun (r : Int32 × sm_H) => res = (some (.int r.1), r.2)) r) : Ex (P_G L xs) (RUN L xs d) (sm_lk P_t181) 0 0 [some (.ref 55), some (.long x1), none, none] [] h res := by
  unfold F_181_0 at hf
  refine Ex.seg 2 (pc' := 2) (lc' := [some (.ref 55), some (.long x1), none, some (.int 0)]) (st' := []) (h' := h) (sg1 rfl rfl (sg1 rfl rfl rfl)) ?_
  exact Ex.weak (sm_le_s (sm_le_s (sm_le_s (sm_le_s sm_le_nil)))) (B_181_2 hd  hf hs)
theorem E_181 {L : Nat} {xs : Nat → Int32} {d : Nat} (hd : 1 ≤ d) {x1 : Int64} {h : sm_H} {r : Int32 × sm_H} (hf : F_181 x1 h = some r) : RUN L xs d 181 [.ref 55, .long x1] h (some (.int r.1), r.2) := by
  obtain ⟨d, rfl⟩ : ∃ e, d = e + 1 := ⟨d - 1, by omega⟩
  exact ⟨Nat.le_of_ble_eq_true rfl, B_181_0 (by omega) hf rfl⟩
theorem B_182_15 {L : Nat} {xs : Nat → Int32} {d : Nat} (hd : 1 ≤ d) {res : Option Value × sm_H} {y2 : Int32}  {h : sm_H} {r : (Int32 × sm_H)} (hf : F_182_15 y2 h = some r) (hs : (fun (r : Int32 × sm_H) => res = (some (.int r.1), r.2)) r) : Ex (P_G L xs) (RUN L xs d) (sm_lk P_t182) 3 15 [some (.ref 55), none, some (.int y2)] [] h res := by
  unfold F_182_15 at hf
  refine Ex.seg 3 (pc' := 19) (lc' := [some (.ref 55), none, some (.int y2)]) (st' := [.int y2, .int 8, .ref 55]) (h' := h) (sg1 rfl rfl (sg1 rfl rfl (sg1 rfl rfl rfl))) ?_
  obtain ⟨q1, e_q1, hf⟩ := bnd hf
  refine Ex.callV (a := 55) (As := [.int 8, .int y2]) (r := []) (v := some (.int q1.1)) (h' := q1.2) rfl rfl (by decide) rfl (Nat.le_of_ble_eq_true rfl) rfl (E_169 (Nat.le_trans (by decide) hd) e_q1) rfl ?_
  refine Ex.seg 2 (pc' := 24) (lc' := [some (.ref 55), none, some (.int y2)]) (st' := [.int 0]) (h' := q1.2) (sg1 rfl rfl (sg1 rfl rfl rfl)) ?_
  obtain rfl := Option.some.inj hf
  exact Ex.iret rfl rfl (fun _ => by decide) hs
theorem B_182_0 {L : Nat} {xs : Nat → Int32} {d : Nat} (hd : 1 ≤ d) {res : Option Value × sm_H} {x1 : Int32} {x2 : Int32}  {h : sm_H} {r : (Int32 × sm_H)} (hf : F_182_0 x1 x2 h = some r) (hs : (fun (r : Int32 × sm_H) => res = (some (.int r.1), r.2)) r) : Ex (P_G L xs) (RUN L xs d) (sm_lk P_t182) 3 0 [some (.ref 55), some (.int x1), some (.int x2)] [] h res := by
  unfold F_182_0 at hf
  refine Ex.seg 1 (pc' := 1) (lc' := [some (.ref 55), some (.int x1), some (.int x2)]) (st' := [.int x1]) (h' := h) (sg1 rfl rfl rfl) ?_
  refine Ex.ifc rfl rfl (fun (c0 : x1 < 0) => ?_) (fun (c0 : ¬ (x1 < 0)) => ?_)
  · rw [if_pos c0] at hf
    exact Ex.weak (sm_le_s (sm_le_n (sm_le_s sm_le_nil))) (B_182_15 hd  hf hs)
  · rw [if_neg c0] at hf
    refine Ex.seg 5 (pc' := 12) (lc' := [some (.ref 55), some (.int x1), some (.int x2)]) (st' := [.int 16, .int ((h.1 55 9) + x1)]) (h' := h) (sg1 rfl rfl (sg1 rfl rfl (sg1 rfl rfl (sg1 rfl rfl (sg1 rfl rfl rfl))))) ?_
    refine Ex.icmp rfl rfl (fun (c0 : ((h.1 55 9) + x1) ≤ 16) => ?_) (fun (c0 : ¬ (((h.1 55 9) + x1) ≤ 16)) => ?_)
    · rw [if_pos c0] at hf
      refine Ex.seg 8 (pc' := 39) (lc' := [some (.ref 55), some (.int x1), some (.int x2)]) (st' := [.int (h.1 55 9), .int x1, .ref 58, .int 0, .ref 58]) (h' := h) (sg1 rfl rfl (sg1 rfl rfl (sg1 rfl rfl (sg1 rfl rfl (sg1 rfl rfl (sg1 rfl rfl (sg1 rfl rfl (sg1 rfl rfl rfl)))))))) ?_
      obtain ⟨h2, e_h2, hf⟩ := bnd hf
      refine Ex.cpJ e_h2 rfl rfl rfl (Nat.le_of_ble_eq_true rfl) ?_
      refine Ex.seg 8 (pc' := 56) (lc' := [some (.ref 55), some (.int x1), some (.int x2)]) (st' := [.int (h2.1 55 9), .int x1, .ref 59, .int 0, .ref 59]) (h' := h2) (sg1 rfl rfl (sg1 rfl rfl (sg1 rfl rfl (sg1 rfl rfl (sg1 rfl rfl (sg1 rfl rfl (sg1 rfl rfl (sg1 rfl rfl rfl)))))))) ?_
      obtain ⟨h3, e_h3, hf⟩ := bnd hf
      refine Ex.cpI e_h3 rfl rfl rfl (Nat.le_of_ble_eq_true rfl) ?_
      refine Ex.seg 6 (pc' := 69) (lc' := [some (.ref 55), some (.int x1), some (.int x2)]) (st' := []) (h' := (sm_wI h3 55 9 ((h3.1 55 9) + x1))) (sg1 rfl rfl (sg1 rfl rfl (sg1 rfl rfl (sg1 rfl rfl (sg1 rfl rfl (sg1 rfl rfl rfl)))))) ?_
      obtain ⟨h4, e_h4, hf⟩ := bnd hf
      rw [Option.some.inj e_h4]
      refine Ex.seg 1 (pc' := 70) (lc' := [some (.ref 55), some (.int x1), some (.int x2)]) (st' := [.int 1]) (h' := h4) (sg1 rfl rfl rfl) ?_
      obtain rfl := Option.some.inj hf
      exact Ex.iret rfl rfl (fun _ => by decide) hs
    · rw [if_neg c0] at hf
      exact Ex.weak (sm_le_s (sm_le_n (sm_le_s sm_le_nil))) (B_182_15 hd  hf hs)
theorem E_182 {L : Nat} {xs : Nat → Int32} {d : Nat} (hd : 2 ≤ d) {x1 : Int32} {x2 : Int32} {h : sm_H} {r : Int32 × sm_H} (hf : F_182 x1 x2 h = some r) : RUN L xs d 182 [.ref 55, .int x1, .int x2] h (some (.int r.1), r.2) := by
  obtain ⟨d, rfl⟩ : ∃ e, d = e + 1 := ⟨d - 1, by omega⟩
  exact ⟨Nat.le_of_ble_eq_true rfl, B_182_0 (by omega) hf rfl⟩
theorem B_183_25 {L : Nat} {xs : Nat → Int32} {d : Nat} (hd : 0 ≤ d) {res : Option Value × sm_H}   {h : sm_H} {r : (sm_H)} (hf : F_183_25  h = some r) (hs : (fun (r : sm_H) => res = (none, r)) r) : Ex (P_G L xs) (RUN L xs d) (sm_lk P_t183) 0 25 [none, none, none, none, none] [] h res := by
  unfold F_183_25 at hf
  obtain rfl := Option.some.inj hf
  exact Ex.vret rfl rfl hs
theorem B_183_0 {L : Nat} {xs : Nat → Int32} {d : Nat} (hd : 0 ≤ d) {res : Option Value × sm_H} {x1 : Int32} {x2 : Int64} {x4 : Int32}  {h : sm_H} {r : (sm_H)} (hf : F_183_0 x1 x2 x4 h = some r) (hs : (fun (r : sm_H) => res = (none, r)) r) : Ex (P_G L xs) (RUN L xs d) (sm_lk P_t183) 0 0 [some (.ref 55), some (.int x1), some (.long x2), none, some (.int x4)] [] h res := by
  unfold F_183_0 at hf
  refine Ex.seg 1 (pc' := 1) (lc' := [some (.ref 55), some (.int x1), some (.long x2), none, some (.int x4)]) (st' := [.int x1]) (h' := h) (sg1 rfl rfl rfl) ?_
  refine Ex.ifc rfl rfl (fun (c0 : x1 < 0) => ?_) (fun (c0 : ¬ (x1 < 0)) => ?_)
  · rw [if_pos c0] at hf
    exact Ex.weak (sm_le_n (sm_le_n (sm_le_n (sm_le_s (sm_le_n sm_le_nil))))) (B_183_25 hd  hf hs)
  · rw [if_neg c0] at hf
    refine Ex.seg 2 (pc' := 7) (lc' := [some (.ref 55), some (.int x1), some (.long x2), none, some (.int x4)]) (st' := [.int 16, .int x1]) (h' := h) (sg1 rfl rfl (sg1 rfl rfl rfl)) ?_
    refine Ex.icmp rfl rfl (fun (c0 : 16 ≤ x1) => ?_) (fun (c0 : ¬ (16 ≤ x1)) => ?_)
    · rw [if_pos c0] at hf
      exact Ex.weak (sm_le_n (sm_le_n (sm_le_n (sm_le_s (sm_le_n sm_le_nil))))) (B_183_25 hd  hf hs)
    · rw [if_neg c0] at hf
      refine Ex.seg 4 (pc' := 16) (lc' := [some (.ref 55), some (.int x1), some (.long x2), none, some (.int x4)]) (st' := [.long x2, .int x1, .ref 58]) (h' := h) (sg1 rfl rfl (sg1 rfl rfl (sg1 rfl rfl (sg1 rfl rfl rfl)))) ?_
      obtain ⟨h1, e_h1, hf⟩ := bnd hf
      refine Ex.last e_h1 rfl rfl ?_
      refine Ex.seg 4 (pc' := 24) (lc' := [some (.ref 55), some (.int x1), some (.long x2), none, some (.int x4)]) (st' := [.int x4, .int x1, .ref 59]) (h' := h1) (sg1 rfl rfl (sg1 rfl rfl (sg1 rfl rfl (sg1 rfl rfl rfl)))) ?_
      obtain ⟨h2, e_h2, hf⟩ := bnd hf
      refine Ex.iast e_h2 rfl rfl ?_
      exact Ex.weak (sm_le_n (sm_le_n (sm_le_n (sm_le_s (sm_le_n sm_le_nil))))) (B_183_25 hd  hf hs)
theorem E_183 {L : Nat} {xs : Nat → Int32} {d : Nat} (hd : 1 ≤ d) {x1 : Int32} {x2 : Int64} {x4 : Int32} {h : sm_H} {r : sm_H} (hf : F_183 x1 x2 x4 h = some r) : RUN L xs d 183 [.ref 55, .int x1, .long x2, .int x4] h (none, r) := by
  obtain ⟨d, rfl⟩ : ∃ e, d = e + 1 := ⟨d - 1, by omega⟩
  exact ⟨Nat.le_of_ble_eq_true rfl, B_183_0 (by omega) hf rfl⟩
theorem B_184_12 {L : Nat} {xs : Nat → Int32} {d : Nat} (hd : 0 ≤ d) {res : Option Value × sm_H}   {h : sm_H} {r : (sm_H)} (hf : F_184_12  h = some r) (hs : (fun (r : sm_H) => res = (none, r)) r) : Ex (P_G L xs) (RUN L xs d) (sm_lk P_t184) 0 12 [none, none] [] h res := by
  unfold F_184_12 at hf
  obtain rfl := Option.some.inj hf
  exact Ex.vret rfl rfl hs
theorem B_184_0 {L : Nat} {xs : Nat → Int32} {d : Nat} (hd : 0 ≤ d) {res : Option Value × sm_H} {x1 : Int32}  {h : sm_H} {r : (sm_H)} (hf : F_184_0 x1 h = some r) (hs : (fun (r : sm_H) => res = (none, r)) r) : Ex (P_G L xs) (RUN L xs d) (sm_lk P_t184) 0 0 [some (.ref 55), some (.int x1)] [] h res := by
  unfold F_184_0 at hf
  refine Ex.seg 1 (pc' := 1) (lc' := [some (.ref 55), some (.int x1)]) (st' := [.int x1]) (h' := h) (sg1 rfl rfl rfl) ?_
  refine Ex.ifc rfl rfl (fun (c0 : x1 < 0) => ?_) (fun (c0 : ¬ (x1 < 0)) => ?_)
  · rw [if_pos c0] at hf
    exact Ex.weak (sm_le_n (sm_le_n sm_le_nil)) (B_184_12 hd  hf hs)
  · rw [if_neg c0] at hf
    refine Ex.seg 3 (pc' := 9) (lc' := [some (.ref 55), some (.int x1)]) (st' := [.int (h.1 55 9), .int x1]) (h' := h) (sg1 rfl rfl (sg1 rfl rfl (sg1 rfl rfl rfl))) ?_
    refine Ex.icmp rfl rfl (fun (c0 : x1 ≤ (h.1 55 9)) => ?_) (fun (c0 : ¬ (x1 ≤ (h.1 55 9))) => ?_)
    · rw [if_pos c0] at hf
      refine Ex.seg 6 (pc' := 23) (lc' := [some (.ref 55), some (.int x1)]) (st' := []) (h' := (sm_wI h 55 9 ((h.1 55 9) - x1))) (sg1 rfl rfl (sg1 rfl rfl (sg1 rfl rfl (sg1 rfl rfl (sg1 rfl rfl (sg1 rfl rfl rfl)))))) ?_
      obtain ⟨h1, e_h1, hf⟩ := bnd hf
      rw [Option.some.inj e_h1]
      refine Ex.seg 8 (pc' := 37) (lc' := [some (.ref 55), some (.int x1)]) (st' := [.int (h1.1 55 9), .int 0, .ref 58, .int x1, .ref 58]) (h' := h1) (sg1 rfl rfl (sg1 rfl rfl (sg1 rfl rfl (sg1 rfl rfl (sg1 rfl rfl (sg1 rfl rfl (sg1 rfl rfl (sg1 rfl rfl rfl)))))))) ?_
      obtain ⟨h2, e_h2, hf⟩ := bnd hf
      refine Ex.cpJ e_h2 rfl rfl rfl (Nat.le_of_ble_eq_true rfl) ?_
      refine Ex.seg 8 (pc' := 54) (lc' := [some (.ref 55), some (.int x1)]) (st' := [.int (h2.1 55 9), .int 0, .ref 59, .int x1, .ref 59]) (h' := h2) (sg1 rfl rfl (sg1 rfl rfl (sg1 rfl rfl (sg1 rfl rfl (sg1 rfl rfl (sg1 rfl rfl (sg1 rfl rfl (sg1 rfl rfl rfl)))))))) ?_
      obtain ⟨h3, e_h3, hf⟩ := bnd hf
      refine Ex.cpI e_h3 rfl rfl rfl (Nat.le_of_ble_eq_true rfl) ?_
      obtain rfl := Option.some.inj hf
      exact Ex.vret rfl rfl hs
    · rw [if_neg c0] at hf
      exact Ex.weak (sm_le_n (sm_le_n sm_le_nil)) (B_184_12 hd  hf hs)
theorem E_184 {L : Nat} {xs : Nat → Int32} {d : Nat} (hd : 1 ≤ d) {x1 : Int32} {h : sm_H} {r : sm_H} (hf : F_184 x1 h = some r) : RUN L xs d 184 [.ref 55, .int x1] h (none, r) := by
  obtain ⟨d, rfl⟩ : ∃ e, d = e + 1 := ⟨d - 1, by omega⟩
  exact ⟨Nat.le_of_ble_eq_true rfl, B_184_0 (by omega) hf rfl⟩
theorem B_187_29 {L : Nat} {xs : Nat → Int32} {d : Nat} (hd : 0 ≤ d) {res : Option Value × sm_H} {z0 : Int32}  {h : sm_H} {r : (Int32 × sm_H)} (hf : F_187_29 z0 h = some r) (hs : (fun (r : Int32 × sm_H) => res = (some (.int r.1), r.2)) r) : Ex (P_G L xs) (RUN L xs d) (sm_lk P_t187) 0 29 [none, none] [.int z0] h res := by
  unfold F_187_29 at hf
  obtain rfl := Option.some.inj hf
  exact Ex.iret rfl rfl (fun c0 => by cases c0) hs
theorem B_187_28 {L : Nat} {xs : Nat → Int32} {d : Nat} (hd : 0 ≤ d) {res : Option Value × sm_H}   {h : sm_H} {r : (Int32 × sm_H)} (hf : F_187_28  h = some r) (hs : (fun (r : Int32 × sm_H) => res = (some (.int r.1), r.2)) r) : Ex (P_G L xs) (RUN L xs d) (sm_lk P_t187) 0 28 [none, none] [] h res := by
  unfold F_187_28 at hf
  refine Ex.seg 1 (pc' := 29) (lc' := [none, none]) (st' := [.int (-1)]) (h' := h) (sg1 rfl rfl rfl) ?_
  exact Ex.weak (sm_le_s (sm_le_s sm_le_nil)) (B_187_29 hd  hf hs)
theorem B_187_0 {L : Nat} {xs : Nat → Int32} {d : Nat} (hd : 0 ≤ d) {res : Option Value × sm_H} {x1 : Int32}  {h : sm_H} {r : (Int32 × sm_H)} (hf : F_187_0 x1 h = some r) (hs : (fun (r : Int32 × sm_H) => res = (some (.int r.1), r.2)) r) : Ex (P_G L xs) (RUN L xs d) (sm_lk P_t187) 0 0 [some (.ref 55), some (.int x1)] [] h res := by
  unfold F_187_0 at hf
  refine Ex.seg 1 (pc' := 1) (lc' := [some (.ref 55), some (.int x1)]) (st' := [.int x1]) (h' := h) (sg1 rfl rfl rfl) ?_
  refine Ex.ifc rfl rfl (fun (c0 : x1 < 0) => ?_) (fun (c0 : ¬ (x1 < 0)) => ?_)
  · rw [if_pos c0] at hf
    exact Ex.weak (sm_le_n (sm_le_n sm_le_nil)) (B_187_28 hd  hf hs)
  · rw [if_neg c0] at hf
    refine Ex.seg 3 (pc' := 9) (lc' := [some (.ref 55), some (.int x1)]) (st' := [.int (h.1 55 12), .int x1]) (h' := h) (sg1 rfl rfl (sg1 rfl rfl (sg1 rfl rfl rfl))) ?_
    refine Ex.icmp rfl rfl (fun (c0 : (h.1 55 12) ≤ x1) => ?_) (fun (c0 : ¬ ((h.1 55 12) ≤ x1)) => ?_)
    · rw [if_pos c0] at hf
      exact Ex.weak (sm_le_n (sm_le_n sm_le_nil)) (B_187_28 hd  hf hs)
    · rw [if_neg c0] at hf
      refine Ex.seg 2 (pc' := 16) (lc' := [some (.ref 55), some (.int x1)]) (st' := [.int 200, .int x1]) (h' := h) (sg1 rfl rfl (sg1 rfl rfl rfl)) ?_
      refine Ex.icmp rfl rfl (fun (c0 : 200 ≤ x1) => ?_) (fun (c0 : ¬ (200 ≤ x1)) => ?_)
      · rw [if_pos c0] at hf
        exact Ex.weak (sm_le_n (sm_le_n sm_le_nil)) (B_187_28 hd  hf hs)
      · rw [if_neg c0] at hf
        refine Ex.seg 3 (pc' := 24) (lc' := [some (.ref 55), some (.int x1)]) (st' := [.int x1, .ref 60]) (h' := h) (sg1 rfl rfl (sg1 rfl rfl (sg1 rfl rfl rfl))) ?_
        obtain ⟨v1, e_v1, hf⟩ := bnd hf
        refine Ex.iald e_v1 rfl rfl ?_
        refine Ex.seg 1 (pc' := 29) (lc' := [some (.ref 55), some (.int x1)]) (st' := [.int v1]) (h' := h) (sg1 rfl rfl rfl) ?_
        exact Ex.weak (sm_le_n (sm_le_n sm_le_nil)) (B_187_29 hd  hf hs)
theorem E_187 {L : Nat} {xs : Nat → Int32} {d : Nat} (hd : 1 ≤ d) {x1 : Int32} {h : sm_H} {r : Int32 × sm_H} (hf : F_187 x1 h = some r) : RUN L xs d 187 [.ref 55, .int x1] h (some (.int r.1), r.2) := by
  obtain ⟨d, rfl⟩ : ∃ e, d = e + 1 := ⟨d - 1, by omega⟩
  exact ⟨Nat.le_of_ble_eq_true rfl, B_187_0 (by omega) hf rfl⟩
theorem B_188_15 {L : Nat} {xs : Nat → Int32} {d : Nat} (hd : 0 ≤ d) {res : Option Value × sm_H}   {h : sm_H} {r : (Int32 × sm_H)} (hf : F_188_15  h = some r) (hs : (fun (r : Int32 × sm_H) => res = (some (.int r.1), r.2)) r) : Ex (P_G L xs) (RUN L xs d) (sm_lk P_t188) 3 15 [none, none, none, none] [] h res := by
  unfold F_188_15 at hf
  refine Ex.seg 1 (pc' := 16) (lc' := [none, none, none, none]) (st' := [.int 0]) (h' := h) (sg1 rfl rfl rfl) ?_
  obtain rfl := Option.some.inj hf
  exact Ex.iret rfl rfl (fun _ => by decide) hs
theorem B_188_0 {L : Nat} {xs : Nat → Int32} {d : Nat} (hd : 0 ≤ d) {res : Option Value × sm_H} {x1 : Int32} {x2 : Int64}  {h : sm_H} {r : (Int32 × sm_H)} (hf : F_188_0 x1 x2 h = some r) (hs : (fun (r : Int32 × sm_H) => res = (some (.int r.1), r.2)) r) : Ex (P_G L xs) (RUN L xs d) (sm_lk P_t188) 3 0 [some (.ref 55), some (.int x1), some (.long x2), none] [] h res := by
  unfold F_188_0 at hf
  refine Ex.seg 2 (pc' := 2) (lc' := [some (.ref 55), some (.int x1), some (.long x2), none]) (st' := [.int (-1), .int x1]) (h' := h) (sg1 rfl rfl (sg1 rfl rfl rfl)) ?_
  refine Ex.icmp rfl rfl (fun (c0 : x1 = (-1)) => ?_) (fun (c0 : ¬ (x1 = (-1))) => ?_)
  · rw [if_pos c0] at hf
    exact Ex.weak (sm_le_n (sm_le_n (sm_le_n (sm_le_s sm_le_nil)))) (B_188_15 hd  hf hs)
  · rw [if_neg c0] at hf
    refine Ex.seg 3 (pc' := 12) (lc' := [some (.ref 55), some (.int x1), some (.long x2), none]) (st' := [.int 200, .int (h.1 55 12)]) (h' := h) (sg1 rfl rfl (sg1 rfl rfl (sg1 rfl rfl rfl))) ?_
    refine Ex.icmp rfl rfl (fun (c0 : (h.1 55 12) < 200) => ?_) (fun (c0 : ¬ ((h.1 55 12) < 200)) => ?_)
    · rw [if_pos c0] at hf
      refine Ex.seg 5 (pc' := 26) (lc' := [some (.ref 55), some (.int x1), some (.long x2), none]) (st' := [.int x1, .int (h.1 55 12), .ref 60]) (h' := h) (sg1 rfl rfl (sg1 rfl rfl (sg1 rfl rfl (sg1 rfl rfl (sg1 rfl rfl rfl))))) ?_
      obtain ⟨h1, e_h1, hf⟩ := bnd hf
      refine Ex.iast e_h1 rfl rfl ?_
      refine Ex.seg 5 (pc' := 36) (lc' := [some (.ref 55), some (.int x1), some (.long x2), none]) (st' := [.long x2, .int (h1.1 55 12), .ref 61]) (h' := h1) (sg1 rfl rfl (sg1 rfl rfl (sg1 rfl rfl (sg1 rfl rfl (sg1 rfl rfl rfl))))) ?_
      obtain ⟨h2, e_h2, hf⟩ := bnd hf
      refine Ex.last e_h2 rfl rfl ?_
      refine Ex.seg 6 (pc' := 47) (lc' := [some (.ref 55), some (.int x1), some (.long x2), none]) (st' := []) (h' := (sm_wI h2 55 12 ((h2.1 55 12) + 1))) (sg1 rfl rfl (sg1 rfl rfl (sg1 rfl rfl (sg1 rfl rfl (sg1 rfl rfl (sg1 rfl rfl rfl)))))) ?_
      obtain ⟨h3, e_h3, hf⟩ := bnd hf
      rw [Option.some.inj e_h3]
      refine Ex.seg 1 (pc' := 48) (lc' := [some (.ref 55), some (.int x1), some (.long x2), none]) (st' := [.int 1]) (h' := h3) (sg1 rfl rfl rfl) ?_
      obtain rfl := Option.some.inj hf
      exact Ex.iret rfl rfl (fun _ => by decide) hs
    · rw [if_neg c0] at hf
      exact Ex.weak (sm_le_n (sm_le_n (sm_le_n (sm_le_s sm_le_nil)))) (B_188_15 hd  hf hs)
theorem E_188 {L : Nat} {xs : Nat → Int32} {d : Nat} (hd : 1 ≤ d) {x1 : Int32} {x2 : Int64} {h : sm_H} {r : Int32 × sm_H} (hf : F_188 x1 x2 h = some r) : RUN L xs d 188 [.ref 55, .int x1, .long x2] h (some (.int r.1), r.2) := by
  obtain ⟨d, rfl⟩ : ∃ e, d = e + 1 := ⟨d - 1, by omega⟩
  exact ⟨Nat.le_of_ble_eq_true rfl, B_188_0 (by omega) hf rfl⟩
theorem B_189_0 {L : Nat} {xs : Nat → Int32} {d : Nat} (hd : 1 ≤ d) {res : Option Value × sm_H} {x1 : Int32}  {h : sm_H} {r : (Int32 × sm_H)} (hf : F_189_0 x1 h = some r) (hs : (fun (r : Int32 × sm_H) => res = (some (.int r.1), r.2)) r) : Ex (P_G L xs) (RUN L xs d) (sm_lk P_t189) 0 0 [some (.ref 55), some (.int x1)] [] h res := by
  unfold F_189_0 at hf
  refine Ex.seg 4 (pc' := 6) (lc' := [some (.ref 55), some (.int x1)]) (st' := [.int x1, .ref 55, .ref 10]) (h' := h) (sg1 rfl rfl (sg1 rfl rfl (sg1 rfl rfl (sg1 rfl rfl rfl)))) ?_
  obtain ⟨q1, e_q1, hf⟩ := bnd hf
  refine Ex.callV (a := 55) (As := [.int x1]) (r := [.ref 10]) (v := some (.int q1.1)) (h' := q1.2) rfl rfl (by decide) rfl (Nat.le_of_ble_eq_true rfl) rfl (E_187 (Nat.le_trans (by decide) hd) e_q1) rfl ?_
  obtain ⟨q2, e_q2, hf⟩ := bnd hf
  refine Ex.callV (a := 10) (As := [.int q1.1]) (r := []) (v := some (.int q2.1)) (h' := q2.2) rfl rfl (by decide) rfl (Nat.le_of_ble_eq_true rfl) rfl (E_44 (Nat.le_trans (by decide) hd) e_q2) rfl ?_
  obtain rfl := Option.some.inj hf
  exact Ex.iret rfl rfl (fun c0 => by cases c0) hs
theorem E_189 {L : Nat} {xs : Nat → Int32} {d : Nat} (hd : 2 ≤ d) {x1 : Int32} {h : sm_H} {r : Int32 × sm_H} (hf : F_189 x1 h = some r) : RUN L xs d 189 [.ref 55, .int x1] h (some (.int r.1), r.2) := by
  obtain ⟨d, rfl⟩ : ∃ e, d = e + 1 := ⟨d - 1, by omega⟩
  exact ⟨Nat.le_of_ble_eq_true rfl, B_189_0 (by omega) hf rfl⟩
theorem B_197_2B {L : Nat} {xs : Nat → Int32} {d : Nat} (hd : 0 ≤ d) {res : Option Value × sm_H} {S1 : (Int64 × Int32 × sm_H) → Prop} (hS1 : ∀ s, S1 s → Ex (P_G L xs) (RUN L xs d) (sm_lk P_t197) 0 2 [none, some (.long s.1), none, some (.int s.2.1)] [] s.2.2 res) {s : (Int64 × Int32 × sm_H)}  {r : ((Int64 × Int32 × sm_H) ⊕ (Int32 × sm_H))} (hf : F_197_2B s = some r) (hs : (Sum.elim S1 (fun (r : Int32 × sm_H) => res = (some (.int r.1), r.2))) r) : Ex (P_G L xs) (RUN L xs d) (sm_lk P_t197) 0 2 [none, some (.long s.1), none, some (.int s.2.1)] [] s.2.2 res := by
  unfold F_197_2B at hf
  refine Ex.seg 2 (pc' := 6) (lc' := [none, some (.long s.1), none, some (.int s.2.1)]) (st' := [.ref 2000000, .int s.2.1]) (h' := s.2.2) (sg1 rfl rfl (sg1 rfl rfl rfl)) ?_
  obtain ⟨v1, e_v1, hf⟩ := bnd hf
  refine Ex.alen e_v1 rfl rfl ?_
  refine Ex.icmp rfl rfl (fun (c0 : v1 ≤ s.2.1) => ?_) (fun (c0 : ¬ (v1 ≤ s.2.1)) => ?_)
  · rw [if_pos c0] at hf
    refine Ex.seg 1 (pc' := 29) (lc' := [none, some (.long s.1), none, some (.int s.2.1)]) (st' := [.int (-1)]) (h' := s.2.2) (sg1 rfl rfl rfl) ?_
    obtain rfl := Option.some.inj hf
    exact Ex.iret rfl rfl (fun c0 => by cases c0) hs
  · rw [if_neg c0] at hf
    refine Ex.seg 2 (pc' := 14) (lc' := [none, some (.long s.1), none, some (.int s.2.1)]) (st' := [.int s.2.1, .ref 2000000]) (h' := s.2.2) (sg1 rfl rfl (sg1 rfl rfl rfl)) ?_
    obtain ⟨v2, e_v2, hf⟩ := bnd hf
    refine Ex.lald e_v2 rfl rfl ?_
    refine Ex.seg 2 (pc' := 17) (lc' := [none, some (.long s.1), none, some (.int s.2.1)]) (st' := [.int (lg_cmp v2 s.1)]) (h' := s.2.2) (sg1 rfl rfl (sg1 rfl rfl rfl)) ?_
    refine Ex.ifc rfl rfl (fun (c0 : ¬ ((lg_cmp v2 s.1) = 0)) => ?_) (fun (c0 : ¬ ¬ ((lg_cmp v2 s.1) = 0)) => ?_)
    · rw [if_neg c0] at hf
      refine Ex.seg 1 (pc' := 25) (lc' := [none, some (.long s.1), none, some (.int (s.2.1 + 1))]) (st' := []) (h' := s.2.2) (sg1 rfl rfl rfl) ?_
      obtain ⟨v3, e_v3, hf⟩ := bnd hf
      rw [Option.some.inj e_v3]
      refine Ex.seg 1 (pc' := 2) (lc' := [none, some (.long s.1), none, some (.int v3)]) (st' := []) (h' := s.2.2) (sg1 rfl rfl rfl) ?_
      obtain rfl := Option.some.inj hf
      exact Ex.weak (sm_le_s (sm_le_s (sm_le_s (sm_le_s sm_le_nil)))) (hS1 _ hs)
    · rw [if_pos (Classical.not_not.mp c0)] at hf
      refine Ex.seg 1 (pc' := 21) (lc' := [none, some (.long s.1), none, some (.int s.2.1)]) (st' := [.int s.2.1]) (h' := s.2.2) (sg1 rfl rfl rfl) ?_
      obtain rfl := Option.some.inj hf
      exact Ex.iret rfl rfl (fun c0 => by cases c0) hs
theorem B_197_2 {L : Nat} {xs : Nat → Int32} {d : Nat} (hd : 0 ≤ d) {res : Option Value × sm_H} {y1 : Int64} {y3 : Int32}  {h : sm_H} {r : (Int32 × sm_H)} (hf : F_197_2 y1 y3 h = some r) (hs : (fun (r : Int32 × sm_H) => res = (some (.int r.1), r.2)) r) : Ex (P_G L xs) (RUN L xs d) (sm_lk P_t197) 0 2 [none, some (.long y1), none, some (.int y3)] [] h res := by
  unfold F_197_2 at hf
  exact lp_ok (P := fun (s : (Int64 × Int32 × sm_H)) => Ex (P_G L xs) (RUN L xs d) (sm_lk P_t197) 0 2 [none, some (.long s.1), none, some (.int s.2.1)] [] s.2.2 res) (S := (fun (r : Int32 × sm_H) => res = (some (.int r.1), r.2))) (fun s x hx hsx => by
    intros
    exact B_197_2B hd  (fun _ q => q) hx hsx) 1000000 _ r hf hs
theorem B_197_0 {L : Nat} {xs : Nat → Int32} {d : Nat} (hd : 0 ≤ d) {res : Option Value × sm_H} {x1 : Int64}  {h : sm_H} {r : (Int32 × sm_H)} (hf : F_197_0 x1 h = some r) (hs : (fun (r : Int32 × sm_H) => res = (some (.int r.1), r.2)) r) : Ex (P_G L xs) (RUN L xs d) (sm_lk P_t197) 0 0 [some (.ref 55), some (.long x1), none, none] [] h res := by
  unfold F_197_0 at hf
  refine Ex.seg 2 (pc' := 2) (lc' := [some (.ref 55), some (.long x1), none, some (.int 0)]) (st' := []) (h' := h) (sg1 rfl rfl (sg1 rfl rfl rfl)) ?_
  exact Ex.weak (sm_le_n (sm_le_s (sm_le_s (sm_le_s sm_le_nil)))) (B_197_2 hd  hf hs)
theorem E_197 {L : Nat} {xs : Nat → Int32} {d : Nat} (hd : 1 ≤ d) {x1 : Int64} {h : sm_H} {r : Int32 × sm_H} (hf : F_197 x1 h = some r) : RUN L xs d 197 [.ref 55, .long x1] h (some (.int r.1), r.2) := by
  obtain ⟨d, rfl⟩ : ∃ e, d = e + 1 := ⟨d - 1, by omega⟩
  exact ⟨Nat.le_of_ble_eq_true rfl, B_197_0 (by omega) hf rfl⟩
theorem B_201_58 {L : Nat} {xs : Nat → Int32} {d : Nat} (hd : 0 ≤ d) {res : Option Value × sm_H}   {h : sm_H} {r : (Int32 × sm_H)} (hf : F_201_58  h = some r) (hs : (fun (r : Int32 × sm_H) => res = (some (.int r.1), r.2)) r) : Ex (P_G L xs) (RUN L xs d) (sm_lk P_t201) 3 58 [none, none] [] h res := by
  unfold F_201_58 at hf
  refine Ex.seg 1 (pc' := 59) (lc' := [none, none]) (st' := [.int 0]) (h' := h) (sg1 rfl rfl rfl) ?_
  obtain rfl := Option.some.inj hf
  exact Ex.iret rfl rfl (fun _ => by decide) hs
theorem B_201_56 {L : Nat} {xs : Nat → Int32} {d : Nat} (hd : 0 ≤ d) {res : Option Value × sm_H}   {h : sm_H} {r : (Int32 × sm_H)} (hf : F_201_56  h = some r) (hs : (fun (r : Int32 × sm_H) => res = (some (.int r.1), r.2)) r) : Ex (P_G L xs) (RUN L xs d) (sm_lk P_t201) 3 56 [none, none] [] h res := by
  unfold F_201_56 at hf
  refine Ex.seg 1 (pc' := 57) (lc' := [none, none]) (st' := [.int 1]) (h' := h) (sg1 rfl rfl rfl) ?_
  obtain rfl := Option.some.inj hf
  exact Ex.iret rfl rfl (fun _ => by decide) hs
theorem B_201_0 {L : Nat} {xs : Nat → Int32} {d : Nat} (hd : 0 ≤ d) {res : Option Value × sm_H} {x1 : Int32}  {h : sm_H} {r : (Int32 × sm_H)} (hf : F_201_0 x1 h = some r) (hs : (fun (r : Int32 × sm_H) => res = (some (.int r.1), r.2)) r) : Ex (P_G L xs) (RUN L xs d) (sm_lk P_t201) 3 0 [some (.ref 55), some (.int x1)] [] h res := by
  unfold F_201_0 at hf
  refine Ex.seg 1 (pc' := 1) (lc' := [some (.ref 55), some (.int x1)]) (st' := [.int x1]) (h' := h) (sg1 rfl rfl rfl) ?_
  rcases Classical.em (x1 = 5) with n1 | n1
  · rw [if_pos n1] at hf
    refine Ex.swt (t := 56) rfl rfl (by rw [n1]; exact Or.inr ⟨by decide, by decide, _, rfl, by decide⟩) ?_
    exact Ex.weak (sm_le_n (sm_le_n sm_le_nil)) (B_201_56 hd  hf hs)
  rw [if_neg n1] at hf
  rcases Classical.em (x1 = 6) with n2 | n2
  · rw [if_pos n2] at hf
    refine Ex.swt (t := 56) rfl rfl (by rw [n2]; exact Or.inr ⟨by decide, by decide, _, rfl, by decide⟩) ?_
    exact Ex.weak (sm_le_n (sm_le_n sm_le_nil)) (B_201_56 hd  hf hs)
  rw [if_neg n2] at hf
  rcases Classical.em (x1 = 7) with n3 | n3
  · rw [if_pos n3] at hf
    refine Ex.swt (t := 56) rfl rfl (by rw [n3]; exact Or.inr ⟨by decide, by decide, _, rfl, by decide⟩) ?_
    exact Ex.weak (sm_le_n (sm_le_n sm_le_nil)) (B_201_56 hd  hf hs)
  rw [if_neg n3] at hf
  rcases Classical.em (x1 = 8) with n4 | n4
  · rw [if_pos n4] at hf
    refine Ex.swt (t := 56) rfl rfl (by rw [n4]; exact Or.inr ⟨by decide, by decide, _, rfl, by decide⟩) ?_
    exact Ex.weak (sm_le_n (sm_le_n sm_le_nil)) (B_201_56 hd  hf hs)
  rw [if_neg n4] at hf
  rcases Classical.em (x1 = 12) with n5 | n5
  · rw [if_pos n5] at hf
    refine Ex.swt (t := 56) rfl rfl (by rw [n5]; exact Or.inr ⟨by decide, by decide, _, rfl, by decide⟩) ?_
    exact Ex.weak (sm_le_n (sm_le_n sm_le_nil)) (B_201_56 hd  hf hs)
  rw [if_neg n5] at hf
  rcases Classical.em (x1 = 14) with n6 | n6
  · rw [if_pos n6] at hf
    refine Ex.swt (t := 56) rfl rfl (by rw [n6]; exact Or.inr ⟨by decide, by decide, _, rfl, by decide⟩) ?_
    exact Ex.weak (sm_le_n (sm_le_n sm_le_nil)) (B_201_56 hd  hf hs)
  rw [if_neg n6] at hf
  refine Ex.swt (t := 58) rfl rfl (sw_dflt (by decide) (by decide) (fun k hk he => ?_)) ?_
  · have hk : k < 10 := hk
    rcases (show k = 0 ∨ k = 1 ∨ k = 2 ∨ k = 3 ∨ k = 4 ∨ k = 5 ∨ k = 6 ∨ k = 7 ∨ k = 8 ∨ k = 9 by omega) with rfl | rfl | rfl | rfl | rfl | rfl | rfl | rfl | rfl | rfl
    · exact absurd (Int32.toInt_inj.mp (he.symm.trans (by decide : (_ : Int) = Int32.toInt 5))) n1
    · exact absurd (Int32.toInt_inj.mp (he.symm.trans (by decide : (_ : Int) = Int32.toInt 6))) n2
    · exact absurd (Int32.toInt_inj.mp (he.symm.trans (by decide : (_ : Int) = Int32.toInt 7))) n3
    · exact absurd (Int32.toInt_inj.mp (he.symm.trans (by decide : (_ : Int) = Int32.toInt 8))) n4
    · rfl
    · rfl
    · rfl
    · exact absurd (Int32.toInt_inj.mp (he.symm.trans (by decide : (_ : Int) = Int32.toInt 12))) n5
    · rfl
    · exact absurd (Int32.toInt_inj.mp (he.symm.trans (by decide : (_ : Int) = Int32.toInt 14))) n6
  exact Ex.weak (sm_le_n (sm_le_n sm_le_nil)) (B_201_58 hd  hf hs)
theorem E_201 {L : Nat} {xs : Nat → Int32} {d : Nat} (hd : 1 ≤ d) {x1 : Int32} {h : sm_H} {r : Int32 × sm_H} (hf : F_201 x1 h = some r) : RUN L xs d 201 [.ref 55, .int x1] h (some (.int r.1), r.2) := by
  obtain ⟨d, rfl⟩ : ∃ e, d = e + 1 := ⟨d - 1, by omega⟩
  exact ⟨Nat.le_of_ble_eq_true rfl, B_201_0 (by omega) hf rfl⟩
theorem B_203_94 {L : Nat} {xs : Nat → Int32} {d : Nat} (hd : 2 ≤ d) {res : Option Value × sm_H}   {h : sm_H} {r : (Int32 × sm_H)} (hf : F_203_94  h = some r) (hs : (fun (r : Int32 × sm_H) => res = (some (.int r.1), r.2)) r) : Ex (P_G L xs) (RUN L xs d) (sm_lk P_t203) 3 94 [none, none, none, none] [] h res := by
  unfold F_203_94 at hf
  refine Ex.seg 1 (pc' := 95) (lc' := [none, none, none, none]) (st' := [.int 1]) (h' := h) (sg1 rfl rfl rfl) ?_
  obtain rfl := Option.some.inj hf
  exact Ex.iret rfl rfl (fun _ => by decide) hs
theorem B_203_66 {L : Nat} {xs : Nat → Int32} {d : Nat} (hd : 2 ≤ d) {res : Option Value × sm_H} {y3 : Int32}  {h : sm_H} {r : (Int32 × sm_H)} (hf : F_203_66 y3 h = some r) (hs : (fun (r : Int32 × sm_H) => res = (some (.int r.1), r.2)) r) : Ex (P_G L xs) (RUN L xs d) (sm_lk P_t203) 3 66 [some (.ref 55), none, none, some (.int y3)] [] h res := by
  unfold F_203_66 at hf
  refine Ex.seg 4 (pc' := 72) (lc' := [some (.ref 55), none, none, some (.int y3)]) (st' := [.int y3, .ref 55, .ref 1]) (h' := h) (sg1 rfl rfl (sg1 rfl rfl (sg1 rfl rfl (sg1 rfl rfl rfl)))) ?_
  obtain ⟨q1, e_q1, hf⟩ := bnd hf
  refine Ex.callV (a := 55) (As := [.int y3]) (r := [.ref 1]) (v := some (.int q1.1)) (h' := q1.2) rfl rfl (by decide) rfl (Nat.le_of_ble_eq_true rfl) rfl (E_189 (Nat.le_trans (by decide) hd) e_q1) rfl ?_
  obtain ⟨q2, e_q2, hf⟩ := bnd hf
  refine Ex.callV (a := 1) (As := [.int q1.1]) (r := []) (v := some (.int q2.1)) (h' := q2.2) rfl rfl (by decide) rfl (Nat.le_of_ble_eq_true rfl) rfl (E_59 (Nat.le_trans (by decide) hd) e_q2) rfl ?_
  rcases Classical.em (q2.1 = 0 ∨ q2.1 = 1) with c0 | c0
  · rw [if_pos c0] at hf
    obtain rfl := Option.some.inj hf
    exact Ex.iret rfl rfl (fun _ => c0) hs
  · rw [if_neg c0] at hf
    cases hf
theorem B_203_48 {L : Nat} {xs : Nat → Int32} {d : Nat} (hd : 2 ≤ d) {res : Option Value × sm_H} {y2 : Int32}  {h : sm_H} {r : (Int32 × sm_H)} (hf : F_203_48 y2 h = some r) (hs : (fun (r : Int32 × sm_H) => res = (some (.int r.1), r.2)) r) : Ex (P_G L xs) (RUN L xs d) (sm_lk P_t203) 3 48 [some (.ref 55), none, some (.int y2), none] [] h res := by
  unfold F_203_48 at hf
  refine Ex.seg 3 (pc' := 53) (lc' := [some (.ref 55), none, some (.int y2), none]) (st' := [.int y2, .ref 1]) (h' := h) (sg1 rfl rfl (sg1 rfl rfl (sg1 rfl rfl rfl))) ?_
  obtain ⟨q3, e_q3, hf⟩ := bnd hf
  refine Ex.callV (a := 1) (As := [.int y2]) (r := []) (v := some (.int q3.1)) (h' := q3.2) rfl rfl (by decide) rfl (Nat.le_of_ble_eq_true rfl) rfl (E_57 (Nat.le_trans (by decide) hd) e_q3) rfl ?_
  rcases Classical.em (q3.1 = 0 ∨ q3.1 = 1) with c0 | c0
  · rw [if_pos c0] at hf
    obtain rfl := Option.some.inj hf
    exact Ex.iret rfl rfl (fun _ => c0) hs
  · rw [if_neg c0] at hf
    cases hf
theorem B_203_0 {L : Nat} {xs : Nat → Int32} {d : Nat} (hd : 2 ≤ d) {res : Option Value × sm_H} {x1 : Int32} {x2 : Int32} {x3 : Int32}  {h : sm_H} {r : (Int32 × sm_H)} (hf : F_203_0 x1 x2 x3 h = some r) (hs : (fun (r : Int32 × sm_H) => res = (some (.int r.1), r.2)) r) : Ex (P_G L xs) (RUN L xs d) (sm_lk P_t203) 3 0 [some (.ref 55), some (.int x1), some (.int x2), some (.int x3)] [] h res := by
  unfold F_203_0 at hf
  refine Ex.seg 1 (pc' := 1) (lc' := [some (.ref 55), some (.int x1), some (.int x2), some (.int x3)]) (st' := [.int x1]) (h' := h) (sg1 rfl rfl rfl) ?_
  rcases Classical.em (x1 = 7) with n1 | n1
  · rw [if_pos n1] at hf
    refine Ex.swt (t := 48) rfl rfl (by rw [n1]; exact Or.inr ⟨by decide, by decide, _, rfl, by decide⟩) ?_
    exact Ex.weak (sm_le_s (sm_le_n (sm_le_s (sm_le_n sm_le_nil)))) (B_203_48 hd  hf hs)
  rw [if_neg n1] at hf
  rcases Classical.em (x1 = 8) with n2 | n2
  · rw [if_pos n2] at hf
    refine Ex.swt (t := 57) rfl rfl (by rw [n2]; exact Or.inr ⟨by decide, by decide, _, rfl, by decide⟩) ?_
    refine Ex.seg 3 (pc' := 62) (lc' := [some (.ref 55), some (.int x1), some (.int x2), some (.int x3)]) (st' := [.int x2, .ref 1]) (h' := h) (sg1 rfl rfl (sg1 rfl rfl (sg1 rfl rfl rfl))) ?_
    obtain ⟨q4, e_q4, hf⟩ := bnd hf
    refine Ex.callV (a := 1) (As := [.int x2]) (r := []) (v := some (.int q4.1)) (h' := q4.2) rfl rfl (by decide) rfl (Nat.le_of_ble_eq_true rfl) rfl (E_59 (Nat.le_trans (by decide) hd) e_q4) rfl ?_
    rcases Classical.em (q4.1 = 0 ∨ q4.1 = 1) with c0 | c0
    · rw [if_pos c0] at hf
      obtain rfl := Option.some.inj hf
      exact Ex.iret rfl rfl (fun _ => c0) hs
    · rw [if_neg c0] at hf
      cases hf
  rw [if_neg n2] at hf
  rcases Classical.em (x1 = 9) with n3 | n3
  · rw [if_pos n3] at hf
    refine Ex.swt (t := 66) rfl rfl (by rw [n3]; exact Or.inr ⟨by decide, by decide, _, rfl, by decide⟩) ?_
    exact Ex.weak (sm_le_s (sm_le_n (sm_le_n (sm_le_s sm_le_nil)))) (B_203_66 hd  hf hs)
  rw [if_neg n3] at hf
  rcases Classical.em (x1 = 10) with n4 | n4
  · rw [if_pos n4] at hf
    refine Ex.swt (t := 66) rfl rfl (by rw [n4]; exact Or.inr ⟨by decide, by decide, _, rfl, by decide⟩) ?_
    exact Ex.weak (sm_le_s (sm_le_n (sm_le_n (sm_le_s sm_le_nil)))) (B_203_66 hd  hf hs)
  rw [if_neg n4] at hf
  rcases Classical.em (x1 = 11) with n5 | n5
  · rw [if_pos n5] at hf
    refine Ex.swt (t := 66) rfl rfl (by rw [n5]; exact Or.inr ⟨by decide, by decide, _, rfl, by decide⟩) ?_
    exact Ex.weak (sm_le_s (sm_le_n (sm_le_n (sm_le_s sm_le_nil)))) (B_203_66 hd  hf hs)
  rw [if_neg n5] at hf
  rcases Classical.em (x1 = 12) with n6 | n6
  · rw [if_pos n6] at hf
    refine Ex.swt (t := 48) rfl rfl (by rw [n6]; exact Or.inr ⟨by decide, by decide, _, rfl, by decide⟩) ?_
    exact Ex.weak (sm_le_s (sm_le_n (sm_le_s (sm_le_n sm_le_nil)))) (B_203_48 hd  hf hs)
  rw [if_neg n6] at hf
  rcases Classical.em (x1 = 14) with n7 | n7
  · rw [if_pos n7] at hf
    refine Ex.swt (t := 79) rfl rfl (by rw [n7]; exact Or.inr ⟨by decide, by decide, _, rfl, by decide⟩) ?_
    refine Ex.seg 4 (pc' := 85) (lc' := [some (.ref 55), some (.int x1), some (.int x2), some (.int x3)]) (st' := [.int x3, .ref 55, .ref 1]) (h' := h) (sg1 rfl rfl (sg1 rfl rfl (sg1 rfl rfl (sg1 rfl rfl rfl)))) ?_
    obtain ⟨q5, e_q5, hf⟩ := bnd hf
    refine Ex.callV (a := 55) (As := [.int x3]) (r := [.ref 1]) (v := some (.int q5.1)) (h' := q5.2) rfl rfl (by decide) rfl (Nat.le_of_ble_eq_true rfl) rfl (E_189 (Nat.le_trans (by decide) hd) e_q5) rfl ?_
    refine Ex.seg 1 (pc' := 90) (lc' := [some (.ref 55), some (.int x1), some (.int x2), some (.int x3)]) (st' := [.int 19, .int q5.1, .ref 1]) (h' := q5.2) (sg1 rfl rfl rfl) ?_
    obtain ⟨q6, e_q6, hf⟩ := bnd hf
    refine Ex.callV (a := 1) (As := [.int q5.1, .int 19]) (r := []) (v := some (.int q6.1)) (h' := q6.2) rfl rfl (by decide) rfl (Nat.le_of_ble_eq_true rfl) rfl (E_60 (Nat.le_trans (by decide) hd) e_q6) rfl ?_
    rcases Classical.em (q6.1 = 0 ∨ q6.1 = 1) with c0 | c0
    · rw [if_pos c0] at hf
      obtain rfl := Option.some.inj hf
      exact Ex.iret rfl rfl (fun _ => c0) hs
    · rw [if_neg c0] at hf
      cases hf
  rw [if_neg n7] at hf
  refine Ex.swt (t := 94) rfl rfl (sw_dflt (by decide) (by decide) (fun k hk he => ?_)) ?_
  · have hk : k < 8 := hk
    rcases (show k = 0 ∨ k = 1 ∨ k = 2 ∨ k = 3 ∨ k = 4 ∨ k = 5 ∨ k = 6 ∨ k = 7 by omega) with rfl | rfl | rfl | rfl | rfl | rfl | rfl | rfl
    · exact absurd (Int32.toInt_inj.mp (he.symm.trans (by decide : (_ : Int) = Int32.toInt 7))) n1
    · exact absurd (Int32.toInt_inj.mp (he.symm.trans (by decide : (_ : Int) = Int32.toInt 8))) n2
    · exact absurd (Int32.toInt_inj.mp (he.symm.trans (by decide : (_ : Int) = Int32.toInt 9))) n3
    · exact absurd (Int32.toInt_inj.mp (he.symm.trans (by decide : (_ : Int) = Int32.toInt 10))) n4
    · exact absurd (Int32.toInt_inj.mp (he.symm.trans (by decide : (_ : Int) = Int32.toInt 11))) n5
    · exact absurd (Int32.toInt_inj.mp (he.symm.trans (by decide : (_ : Int) = Int32.toInt 12))) n6
    · rfl
    · exact absurd (Int32.toInt_inj.mp (he.symm.trans (by decide : (_ : Int) = Int32.toInt 14))) n7
  exact Ex.weak (sm_le_n (sm_le_n (sm_le_n (sm_le_n sm_le_nil)))) (B_203_94 hd  hf hs)
theorem E_203 {L : Nat} {xs : Nat → Int32} {d : Nat} (hd : 3 ≤ d) {x1 : Int32} {x2 : Int32} {x3 : Int32} {h : sm_H} {r : Int32 × sm_H} (hf : F_203 x1 x2 x3 h = some r) : RUN L xs d 203 [.ref 55, .int x1, .int x2, .int x3] h (some (.int r.1), r.2) := by
  obtain ⟨d, rfl⟩ : ∃ e, d = e + 1 := ⟨d - 1, by omega⟩
  exact ⟨Nat.le_of_ble_eq_true rfl, B_203_0 (by omega) hf rfl⟩
theorem B_204_17 {L : Nat} {xs : Nat → Int32} {d : Nat} (hd : 0 ≤ d) {res : Option Value × sm_H} {z0 : Int32}  {h : sm_H} {r : (Int32 × sm_H)} (hf : F_204_17 z0 h = some r) (hs : (fun (r : Int32 × sm_H) => res = (some (.int r.1), r.2)) r) : Ex (P_G L xs) (RUN L xs d) (sm_lk P_t204) 3 17 [none, none] [.int z0] h res := by
  unfold F_204_17 at hf
  rcases Classical.em (z0 = 0 ∨ z0 = 1) with c0 | c0
  · rw [if_pos c0] at hf
    obtain rfl := Option.some.inj hf
    exact Ex.iret rfl rfl (fun _ => c0) hs
  · rw [if_neg c0] at hf
    cases hf
theorem B_204_12 {L : Nat} {xs : Nat → Int32} {d : Nat} (hd : 0 ≤ d) {res : Option Value × sm_H}   {h : sm_H} {r : (Int32 × sm_H)} (hf : F_204_12  h = some r) (hs : (fun (r : Int32 × sm_H) => res = (some (.int r.1), r.2)) r) : Ex (P_G L xs) (RUN L xs d) (sm_lk P_t204) 3 12 [none, none] [] h res := by
  unfold F_204_12 at hf
  refine Ex.seg 2 (pc' := 17) (lc' := [none, none]) (st' := [.int 1]) (h' := h) (sg1 rfl rfl (sg1 rfl rfl rfl)) ?_
  exact Ex.weak (sm_le_s (sm_le_s sm_le_nil)) (B_204_17 hd  hf hs)
theorem B_204_0 {L : Nat} {xs : Nat → Int32} {d : Nat} (hd : 0 ≤ d) {res : Option Value × sm_H} {x1 : Int32}  {h : sm_H} {r : (Int32 × sm_H)} (hf : F_204_0 x1 h = some r) (hs : (fun (r : Int32 × sm_H) => res = (some (.int r.1), r.2)) r) : Ex (P_G L xs) (RUN L xs d) (sm_lk P_t204) 3 0 [some (.ref 55), some (.int x1)] [] h res := by
  unfold F_204_0 at hf
  refine Ex.seg 2 (pc' := 3) (lc' := [some (.ref 55), some (.int x1)]) (st' := [.int 6, .int x1]) (h' := h) (sg1 rfl rfl (sg1 rfl rfl rfl)) ?_
  refine Ex.icmp rfl rfl (fun (c0 : x1 = 6) => ?_) (fun (c0 : ¬ (x1 = 6)) => ?_)
  · rw [if_pos c0] at hf
    exact Ex.weak (sm_le_n (sm_le_n sm_le_nil)) (B_204_12 hd  hf hs)
  · rw [if_neg c0] at hf
    refine Ex.seg 2 (pc' := 9) (lc' := [some (.ref 55), some (.int x1)]) (st' := [.int 14, .int x1]) (h' := h) (sg1 rfl rfl (sg1 rfl rfl rfl)) ?_
    refine Ex.icmp rfl rfl (fun (c0 : ¬ (x1 = 14)) => ?_) (fun (c0 : ¬ ¬ (x1 = 14)) => ?_)
    · rw [if_neg c0] at hf
      refine Ex.seg 1 (pc' := 17) (lc' := [some (.ref 55), some (.int x1)]) (st' := [.int 0]) (h' := h) (sg1 rfl rfl rfl) ?_
      exact Ex.weak (sm_le_n (sm_le_n sm_le_nil)) (B_204_17 hd  hf hs)
    · rw [if_pos (Classical.not_not.mp c0)] at hf
      exact Ex.weak (sm_le_n (sm_le_n sm_le_nil)) (B_204_12 hd  hf hs)
theorem E_204 {L : Nat} {xs : Nat → Int32} {d : Nat} (hd : 1 ≤ d) {x1 : Int32} {h : sm_H} {r : Int32 × sm_H} (hf : F_204 x1 h = some r) : RUN L xs d 204 [.ref 55, .int x1] h (some (.int r.1), r.2) := by
  obtain ⟨d, rfl⟩ : ∃ e, d = e + 1 := ⟨d - 1, by omega⟩
  exact ⟨Nat.le_of_ble_eq_true rfl, B_204_0 (by omega) hf rfl⟩
