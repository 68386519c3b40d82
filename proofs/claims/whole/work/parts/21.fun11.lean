theorem B_379_35 {L : Nat} {xs : Nat → Int32} {d : Nat} (hd : 7 ≤ d) {res : Option Value × sm_H}   {h : sm_H} {r : (sm_H)} (hf : F_379_35  h = some r) (hs : (fun (r : sm_H) => res = (none, r)) r) : Ex (P_G L xs) (RUN L xs d) (sm_lk P_t379) 0 35 [none] [] h res := by
  unfold F_379_35 at hf
  obtain rfl := Option.some.inj hf
  exact Ex.vret rfl rfl hs
theorem B_379_0B {L : Nat} {xs : Nat → Int32} {d : Nat} (hd : 7 ≤ d) {res : Option Value × sm_H} {S1 : (sm_H) → Prop} (hS1 : ∀ s, S1 s → Ex (P_G L xs) (RUN L xs d) (sm_lk P_t379) 0 0 [some (.ref 67)] [] s res) {s : (sm_H)}  {r : ((sm_H) ⊕ (sm_H))} (hf : F_379_0B s = some r) (hs : (Sum.elim S1 (fun (r : sm_H) => res = (none, r))) r) : Ex (P_G L xs) (RUN L xs d) (sm_lk P_t379) 0 0 [some (.ref 67)] [] s res := by
  unfold F_379_0B at hf
  refine Ex.seg 2 (pc' := 4) (lc' := [some (.ref 67)]) (st' := [.int (s.1 67 64)]) (h' := s) (sg1 rfl rfl (sg1 rfl rfl rfl)) ?_
  refine Ex.ifc rfl rfl (fun (c0 : ¬ ((s.1 67 64) = 0)) => ?_) (fun (c0 : ¬ ¬ ((s.1 67 64) = 0)) => ?_)
  · rw [if_neg c0] at hf
    obtain ⟨r0, hf0, rfl⟩ := Option.map_eq_some_iff.mp hf
    exact Ex.weak (sm_le_n sm_le_nil) (B_379_35 hd  hf0 hs)
  · rw [if_pos (Classical.not_not.mp c0)] at hf
    refine Ex.seg 2 (pc' := 11) (lc' := [some (.ref 67)]) (st' := [.int (s.1 67 56)]) (h' := s) (sg1 rfl rfl (sg1 rfl rfl rfl)) ?_
    refine Ex.ifc rfl rfl (fun (c0 : (s.1 67 56) ≤ 0) => ?_) (fun (c0 : ¬ ((s.1 67 56) ≤ 0)) => ?_)
    · rw [if_pos c0] at hf
      obtain ⟨r0, hf0, rfl⟩ := Option.map_eq_some_iff.mp hf
      exact Ex.weak (sm_le_n sm_le_nil) (B_379_35 hd  hf0 hs)
    · rw [if_neg c0] at hf
      refine Ex.seg 2 (pc' := 18) (lc' := [some (.ref 67)]) (st' := [.int (s.1 67 63)]) (h' := s) (sg1 rfl rfl (sg1 rfl rfl rfl)) ?_
      refine Ex.ifc rfl rfl (fun (c0 : (s.1 67 63) = 0) => ?_) (fun (c0 : ¬ ((s.1 67 63) = 0)) => ?_)
      · rw [if_pos c0] at hf
        refine Ex.seg 1 (pc' := 29) (lc' := [some (.ref 67)]) (st' := [.ref 67]) (h' := s) (sg1 rfl rfl rfl) ?_
        obtain ⟨q1, e_q1, hf⟩ := bnd hf
        refine Ex.callV (a := 67) (As := []) (r := []) (v := none) (h' := q1) rfl rfl (by decide) rfl (Nat.le_of_ble_eq_true rfl) rfl (E_370 (Nat.le_trans (by decide) hd) e_q1) rfl ?_
        refine Ex.seg 1 (pc' := 0) (lc' := [some (.ref 67)]) (st' := []) (h' := q1) (sg1 rfl rfl rfl) ?_
        obtain rfl := Option.some.inj hf
        exact Ex.weak (sm_le_s sm_le_nil) (hS1 _ hs)
      · rw [if_neg c0] at hf
        refine Ex.seg 1 (pc' := 22) (lc' := [some (.ref 67)]) (st' := [.ref 67]) (h' := s) (sg1 rfl rfl rfl) ?_
        obtain ⟨q2, e_q2, hf⟩ := bnd hf
        refine Ex.callV (a := 67) (As := []) (r := []) (v := none) (h' := q2) rfl rfl (by decide) rfl (Nat.le_of_ble_eq_true rfl) rfl (E_377 (Nat.le_trans (by decide) hd) e_q2) rfl ?_
        refine Ex.seg 1 (pc' := 0) (lc' := [some (.ref 67)]) (st' := []) (h' := q2) (sg1 rfl rfl rfl) ?_
        obtain rfl := Option.some.inj hf
        exact Ex.weak (sm_le_s sm_le_nil) (hS1 _ hs)
theorem B_379_0 {L : Nat} {xs : Nat → Int32} {d : Nat} (hd : 7 ≤ d) {res : Option Value × sm_H}   {h : sm_H} {r : (sm_H)} (hf : F_379_0  h = some r) (hs : (fun (r : sm_H) => res = (none, r)) r) : Ex (P_G L xs) (RUN L xs d) (sm_lk P_t379) 0 0 [some (.ref 67)] [] h res := by
  unfold F_379_0 at hf
  exact lp_ok (P := fun (s : (sm_H)) => Ex (P_G L xs) (RUN L xs d) (sm_lk P_t379) 0 0 [some (.ref 67)] [] s res) (S := (fun (r : sm_H) => res = (none, r))) (fun s x hx hsx => by
    intros
    exact B_379_0B hd  (fun _ q => q) hx hsx) 1000000 _ r hf hs
theorem E_379 {L : Nat} {xs : Nat → Int32} {d : Nat} (hd : 8 ≤ d)  {h : sm_H} {r : sm_H} (hf : F_379  h = some r) : RUN L xs d 379 [.ref 67] h (none, r) := by
  obtain ⟨d, rfl⟩ : ∃ e, d = e + 1 := ⟨d - 1, by omega⟩
  exact ⟨Nat.le_of_ble_eq_true rfl, Ex.weak (sm_le_s sm_le_nil) (B_379_0 (by omega) hf rfl)⟩
theorem B_404_326 {L : Nat} {xs : Nat → Int32} {d : Nat} (hd : 8 ≤ d) {res : Option Value × sm_H} {z1 : Int64}  {h : sm_H} {r : (Int32 × sm_H)} (hf : F_404_326 z1 h = some r) (hs : (fun (r : Int32 × sm_H) => res = (some (.int r.1), r.2)) r) : Ex (P_G L xs) (RUN L xs d) (sm_lk P_t404) 0 326 [some (.ref 67), none, none, none, none, none] [.long z1, .ref 67] h res := by
  unfold F_404_326 at hf
  refine Ex.seg 1 (pc' := 329) (lc' := [some (.ref 67), none, none, none, none, none]) (st' := []) (h' := (sm_wJ h 67 72 z1)) (sg1 rfl rfl rfl) ?_
  obtain ⟨h1, e_h1, hf⟩ := bnd hf
  rw [Option.some.inj e_h1]
  refine Ex.seg 2 (pc' := 333) (lc' := [some (.ref 67), none, none, none, none, none]) (st' := [.int (h1.1 67 69)]) (h' := h1) (sg1 rfl rfl (sg1 rfl rfl rfl)) ?_
  obtain rfl := Option.some.inj hf
  exact Ex.iret rfl rfl (fun c0 => by cases c0) hs
theorem B_404_325 {L : Nat} {xs : Nat → Int32} {d : Nat} (hd : 8 ≤ d) {res : Option Value × sm_H}   {h : sm_H} {r : (Int32 × sm_H)} (hf : F_404_325  h = some r) (hs : (fun (r : Int32 × sm_H) => res = (some (.int r.1), r.2)) r) : Ex (P_G L xs) (RUN L xs d) (sm_lk P_t404) 0 325 [some (.ref 67), none, none, none, none, none] [.ref 67] h res := by
  unfold F_404_325 at hf
  refine Ex.seg 1 (pc' := 326) (lc' := [some (.ref 67), none, none, none, none, none]) (st' := [.long 0, .ref 67]) (h' := h) (sg1 rfl rfl rfl) ?_
  exact Ex.weak (sm_le_s (sm_le_s (sm_le_s (sm_le_s (sm_le_s (sm_le_s sm_le_nil)))))) (B_404_326 hd  hf hs)
theorem B_404_318 {L : Nat} {xs : Nat → Int32} {d : Nat} (hd : 8 ≤ d) {res : Option Value × sm_H}   {h : sm_H} {r : (Int32 × sm_H)} (hf : F_404_318  h = some r) (hs : (fun (r : Int32 × sm_H) => res = (some (.int r.1), r.2)) r) : Ex (P_G L xs) (RUN L xs d) (sm_lk P_t404) 0 318 [some (.ref 67), none, none, none, none, none] [.ref 67] h res := by
  unfold F_404_318 at hf
  refine Ex.seg 3 (pc' := 326) (lc' := [some (.ref 67), none, none, none, none, none]) (st' := [.long (h.2.1 67 61), .ref 67]) (h' := h) (sg1 rfl rfl (sg1 rfl rfl (sg1 rfl rfl rfl))) ?_
  exact Ex.weak (sm_le_s (sm_le_s (sm_le_s (sm_le_s (sm_le_s (sm_le_s sm_le_nil)))))) (B_404_326 hd  hf hs)
theorem B_404_287 {L : Nat} {xs : Nat → Int32} {d : Nat} (hd : 8 ≤ d) {res : Option Value × sm_H} {y5 : Int32} {z1 : Int32}  {h : sm_H} {r : (Int32 × sm_H)} (hf : F_404_287 y5 z1 h = some r) (hs : (fun (r : Int32 × sm_H) => res = (some (.int r.1), r.2)) r) : Ex (P_G L xs) (RUN L xs d) (sm_lk P_t404) 0 287 [some (.ref 67), none, none, none, none, some (.int y5)] [.int z1, .ref 67] h res := by
  unfold F_404_287 at hf
  refine Ex.seg 1 (pc' := 290) (lc' := [some (.ref 67), none, none, none, none, some (.int y5)]) (st' := []) (h' := (sm_wI h 67 71 z1)) (sg1 rfl rfl rfl) ?_
  obtain ⟨h2, e_h2, hf⟩ := bnd hf
  rw [Option.some.inj e_h2]
  refine Ex.seg 4 (pc' := 296) (lc' := [some (.ref 67), none, none, none, none, some (.int y5)]) (st' := [.int 2, .int (h2.1 67 69), .ref 67]) (h' := h2) (sg1 rfl rfl (sg1 rfl rfl (sg1 rfl rfl (sg1 rfl rfl rfl)))) ?_
  refine Ex.icmp rfl rfl (fun (c0 : 2 ≤ (h2.1 67 69)) => ?_) (fun (c0 : ¬ (2 ≤ (h2.1 67 69))) => ?_)
  · rw [if_pos c0] at hf
    exact Ex.weak (sm_le_s (sm_le_s (sm_le_s (sm_le_s (sm_le_s (sm_le_n sm_le_nil)))))) (B_404_325 hd  hf hs)
  · rw [if_neg c0] at hf
    refine Ex.seg 2 (pc' := 303) (lc' := [some (.ref 67), none, none, none, none, some (.int y5)]) (st' := [.int (h2.1 67 70), .ref 67]) (h' := h2) (sg1 rfl rfl (sg1 rfl rfl rfl)) ?_
    refine Ex.ifc rfl rfl (fun (c0 : (h2.1 67 70) = 0) => ?_) (fun (c0 : ¬ ((h2.1 67 70) = 0)) => ?_)
    · rw [if_pos c0] at hf
      exact Ex.weak (sm_le_s (sm_le_s (sm_le_s (sm_le_s (sm_le_s (sm_le_n sm_le_nil)))))) (B_404_325 hd  hf hs)
    · rw [if_neg c0] at hf
      refine Ex.seg 1 (pc' := 308) (lc' := [some (.ref 67), none, none, none, none, some (.int y5)]) (st' := [.int y5, .ref 67]) (h' := h2) (sg1 rfl rfl rfl) ?_
      refine Ex.ifc rfl rfl (fun (c0 : y5 = 0) => ?_) (fun (c0 : ¬ (y5 = 0)) => ?_)
      · rw [if_pos c0] at hf
        exact Ex.weak (sm_le_s (sm_le_s (sm_le_s (sm_le_s (sm_le_s (sm_le_n sm_le_nil)))))) (B_404_318 hd  hf hs)
      · rw [if_neg c0] at hf
        refine Ex.seg 2 (pc' := 315) (lc' := [some (.ref 67), none, none, none, none, some (.int y5)]) (st' := [.int (h2.1 67 60), .ref 67]) (h' := h2) (sg1 rfl rfl (sg1 rfl rfl rfl)) ?_
        refine Ex.ifc rfl rfl (fun (c0 : (h2.1 67 60) = 0) => ?_) (fun (c0 : ¬ ((h2.1 67 60) = 0)) => ?_)
        · rw [if_pos c0] at hf
          exact Ex.weak (sm_le_s (sm_le_s (sm_le_s (sm_le_s (sm_le_s (sm_le_n sm_le_nil)))))) (B_404_325 hd  hf hs)
        · rw [if_neg c0] at hf
          exact Ex.weak (sm_le_s (sm_le_s (sm_le_s (sm_le_s (sm_le_s (sm_le_n sm_le_nil)))))) (B_404_318 hd  hf hs)
theorem B_404_271 {L : Nat} {xs : Nat → Int32} {d : Nat} (hd : 8 ≤ d) {res : Option Value × sm_H} {z0 : Int32}  {h : sm_H} {r : (Int32 × sm_H)} (hf : F_404_271 z0 h = some r) (hs : (fun (r : Int32 × sm_H) => res = (some (.int r.1), r.2)) r) : Ex (P_G L xs) (RUN L xs d) (sm_lk P_t404) 0 271 [some (.ref 67), none, none, none, none, none] [.int z0] h res := by
  unfold F_404_271 at hf
  refine Ex.seg 3 (pc' := 276) (lc' := [some (.ref 67), none, none, none, none, some (.int z0)]) (st' := [.int z0, .ref 67]) (h' := h) (sg1 rfl rfl (sg1 rfl rfl (sg1 rfl rfl rfl))) ?_
  refine Ex.ifc rfl rfl (fun (c0 : z0 = 0) => ?_) (fun (c0 : ¬ (z0 = 0)) => ?_)
  · rw [if_pos c0] at hf
    refine Ex.seg 1 (pc' := 287) (lc' := [some (.ref 67), none, none, none, none, some (.int z0)]) (st' := [.int 0, .ref 67]) (h' := h) (sg1 rfl rfl rfl) ?_
    exact Ex.weak (sm_le_s (sm_le_s (sm_le_s (sm_le_s (sm_le_s (sm_le_s sm_le_nil)))))) (B_404_287 hd  hf hs)
  · rw [if_neg c0] at hf
    refine Ex.seg 3 (pc' := 287) (lc' := [some (.ref 67), none, none, none, none, some (.int z0)]) (st' := [.int (h.1 67 60), .ref 67]) (h' := h) (sg1 rfl rfl (sg1 rfl rfl (sg1 rfl rfl rfl))) ?_
    exact Ex.weak (sm_le_s (sm_le_s (sm_le_s (sm_le_s (sm_le_s (sm_le_s sm_le_nil)))))) (B_404_287 hd  hf hs)
theorem B_404_270 {L : Nat} {xs : Nat → Int32} {d : Nat} (hd : 8 ≤ d) {res : Option Value × sm_H}   {h : sm_H} {r : (Int32 × sm_H)} (hf : F_404_270  h = some r) (hs : (fun (r : Int32 × sm_H) => res = (some (.int r.1), r.2)) r) : Ex (P_G L xs) (RUN L xs d) (sm_lk P_t404) 0 270 [some (.ref 67), none, none, none, none, none] [] h res := by
  unfold F_404_270 at hf
  refine Ex.seg 1 (pc' := 271) (lc' := [some (.ref 67), none, none, none, none, none]) (st' := [.int 0]) (h' := h) (sg1 rfl rfl rfl) ?_
  exact Ex.weak (sm_le_s (sm_le_s (sm_le_s (sm_le_s (sm_le_s (sm_le_s sm_le_nil)))))) (B_404_271 hd  hf hs)
theorem B_404_245 {L : Nat} {xs : Nat → Int32} {d : Nat} (hd : 8 ≤ d) {res : Option Value × sm_H} {z1 : Int32}  {h : sm_H} {r : (Int32 × sm_H)} (hf : F_404_245 z1 h = some r) (hs : (fun (r : Int32 × sm_H) => res = (some (.int r.1), r.2)) r) : Ex (P_G L xs) (RUN L xs d) (sm_lk P_t404) 0 245 [some (.ref 67), none, none, none, none, none] [.int z1, .ref 67] h res := by
  unfold F_404_245 at hf
  refine Ex.seg 1 (pc' := 248) (lc' := [some (.ref 67), none, none, none, none, none]) (st' := []) (h' := (sm_wI h 67 70 z1)) (sg1 rfl rfl rfl) ?_
  obtain ⟨h3, e_h3, hf⟩ := bnd hf
  rw [Option.some.inj e_h3]
  refine Ex.seg 3 (pc' := 253) (lc' := [some (.ref 67), none, none, none, none, none]) (st' := [.int 2, .int (h3.1 67 69)]) (h' := h3) (sg1 rfl rfl (sg1 rfl rfl (sg1 rfl rfl rfl))) ?_
  refine Ex.icmp rfl rfl (fun (c0 : 2 ≤ (h3.1 67 69)) => ?_) (fun (c0 : ¬ (2 ≤ (h3.1 67 69))) => ?_)
  · rw [if_pos c0] at hf
    exact Ex.weak (sm_le_s (sm_le_s (sm_le_s (sm_le_s (sm_le_s (sm_le_s sm_le_nil)))))) (B_404_270 hd  hf hs)
  · rw [if_neg c0] at hf
    refine Ex.seg 2 (pc' := 260) (lc' := [some (.ref 67), none, none, none, none, none]) (st' := [.int (h3.1 67 70)]) (h' := h3) (sg1 rfl rfl (sg1 rfl rfl rfl)) ?_
    obtain ⟨q4, e_q4, hf⟩ := bnd hf
    refine Ex.callS (As := [.int (h3.1 67 70)]) (r := []) (v := some (.int q4.1)) (h' := q4.2) rfl rfl rfl rfl (Nat.le_of_ble_eq_true rfl) (E_291 (Nat.le_trans (by decide) hd) e_q4) rfl ?_
    refine Ex.ifc rfl rfl (fun (c0 : q4.1 = 0) => ?_) (fun (c0 : ¬ (q4.1 = 0)) => ?_)
    · rw [if_pos c0] at hf
      exact Ex.weak (sm_le_s (sm_le_s (sm_le_s (sm_le_s (sm_le_s (sm_le_s sm_le_nil)))))) (B_404_270 hd  hf hs)
    · rw [if_neg c0] at hf
      refine Ex.seg 2 (pc' := 271) (lc' := [some (.ref 67), none, none, none, none, none]) (st' := [.int 1]) (h' := q4.2) (sg1 rfl rfl (sg1 rfl rfl rfl)) ?_
      exact Ex.weak (sm_le_s (sm_le_s (sm_le_s (sm_le_s (sm_le_s (sm_le_s sm_le_nil)))))) (B_404_271 hd  hf hs)
theorem B_404_212 {L : Nat} {xs : Nat → Int32} {d : Nat} (hd : 8 ≤ d) {res : Option Value × sm_H} {y1 : Int32} {z1 : Int32}  {h : sm_H} {r : (Int32 × sm_H)} (hf : F_404_212 y1 z1 h = some r) (hs : (fun (r : Int32 × sm_H) => res = (some (.int r.1), r.2)) r) : Ex (P_G L xs) (RUN L xs d) (sm_lk P_t404) 0 212 [some (.ref 67), some (.int y1), none, none, none, none] [.int z1, .ref 67] h res := by
  unfold F_404_212 at hf
  refine Ex.seg 1 (pc' := 215) (lc' := [some (.ref 67), some (.int y1), none, none, none, none]) (st' := []) (h' := (sm_wI h 67 69 z1)) (sg1 rfl rfl rfl) ?_
  obtain ⟨h5, e_h5, hf⟩ := bnd hf
  rw [Option.some.inj e_h5]
  refine Ex.seg 3 (pc' := 220) (lc' := [some (.ref 67), some (.int y1), none, none, none, none]) (st' := [.int (h5.1 67 69), .ref 67]) (h' := h5) (sg1 rfl rfl (sg1 rfl rfl (sg1 rfl rfl rfl))) ?_
  refine Ex.ifc rfl rfl (fun (c0 : ¬ ((h5.1 67 69) = 0)) => ?_) (fun (c0 : ¬ ¬ ((h5.1 67 69) = 0)) => ?_)
  · rw [if_neg c0] at hf
    refine Ex.seg 3 (pc' := 236) (lc' := [some (.ref 67), some (.int y1), none, none, none, none]) (st' := [.int 1, .int (h5.1 67 69), .ref 67]) (h' := h5) (sg1 rfl rfl (sg1 rfl rfl (sg1 rfl rfl rfl))) ?_
    refine Ex.icmp rfl rfl (fun (c0 : ¬ ((h5.1 67 69) = 1)) => ?_) (fun (c0 : ¬ ¬ ((h5.1 67 69) = 1)) => ?_)
    · rw [if_neg c0] at hf
      refine Ex.seg 1 (pc' := 245) (lc' := [some (.ref 67), some (.int y1), none, none, none, none]) (st' := [.int 0, .ref 67]) (h' := h5) (sg1 rfl rfl rfl) ?_
      exact Ex.weak (sm_le_s (sm_le_n (sm_le_s (sm_le_s (sm_le_s (sm_le_s sm_le_nil)))))) (B_404_245 hd  hf hs)
    · rw [if_pos (Classical.not_not.mp c0)] at hf
      refine Ex.seg 2 (pc' := 245) (lc' := [some (.ref 67), some (.int y1), none, none, none, none]) (st' := [.int 19, .ref 67]) (h' := h5) (sg1 rfl rfl (sg1 rfl rfl rfl)) ?_
      exact Ex.weak (sm_le_s (sm_le_n (sm_le_s (sm_le_s (sm_le_s (sm_le_s sm_le_nil)))))) (B_404_245 hd  hf hs)
  · rw [if_pos (Classical.not_not.mp c0)] at hf
    refine Ex.seg 2 (pc' := 225) (lc' := [some (.ref 67), some (.int y1), none, none, none, none]) (st' := [.int y1, .ref 67, .ref 67]) (h' := h5) (sg1 rfl rfl (sg1 rfl rfl rfl)) ?_
    obtain ⟨q6, e_q6, hf⟩ := bnd hf
    refine Ex.callV (a := 67) (As := [.int y1]) (r := [.ref 67]) (v := some (.int q6.1)) (h' := q6.2) rfl rfl (by decide) rfl (Nat.le_of_ble_eq_true rfl) rfl (E_307 (Nat.le_trans (by decide) hd) e_q6) rfl ?_
    refine Ex.seg 1 (pc' := 245) (lc' := [some (.ref 67), some (.int y1), none, none, none, none]) (st' := [.int q6.1, .ref 67]) (h' := q6.2) (sg1 rfl rfl rfl) ?_
    exact Ex.weak (sm_le_s (sm_le_n (sm_le_s (sm_le_s (sm_le_s (sm_le_s sm_le_nil)))))) (B_404_245 hd  hf hs)
theorem B_404_126B {L : Nat} {xs : Nat → Int32} {d : Nat} (hd : 8 ≤ d) {res : Option Value × sm_H} {S1 : (Int32 × Int32 × Int32 × sm_H) → Prop} (hS1 : ∀ s, S1 s → Ex (P_G L xs) (RUN L xs d) (sm_lk P_t404) 0 126 [some (.ref 67), some (.int s.1), none, some (.int s.2.1), none, some (.int s.2.2.1)] [] s.2.2.2 res) {s : (Int32 × Int32 × Int32 × sm_H)}  {r : ((Int32 × Int32 × Int32 × sm_H) ⊕ (Int32 × sm_H))} (hf : F_404_126B s = some r) (hs : (Sum.elim S1 (fun (r : Int32 × sm_H) => res = (some (.int r.1), r.2))) r) : Ex (P_G L xs) (RUN L xs d) (sm_lk P_t404) 0 126 [some (.ref 67), some (.int s.1), none, some (.int s.2.1), none, some (.int s.2.2.1)] [] s.2.2.2 res := by
  unfold F_404_126B at hf
  refine Ex.seg 2 (pc' := 129) (lc' := [some (.ref 67), some (.int s.1), none, some (.int s.2.1), none, some (.int s.2.2.1)]) (st' := [.int s.2.1, .int s.2.2.1]) (h' := s.2.2.2) (sg1 rfl rfl (sg1 rfl rfl rfl)) ?_
  refine Ex.icmp rfl rfl (fun (c0 : s.2.1 ≤ s.2.2.1) => ?_) (fun (c0 : ¬ (s.2.1 ≤ s.2.2.1)) => ?_)
  · rw [if_pos c0] at hf
    refine Ex.seg 2 (pc' := 170) (lc' := [some (.ref 67), some (.int s.1), none, some (.int s.2.1), none, some (.int s.2.2.1)]) (st' := [.int s.1, .ref 67]) (h' := s.2.2.2) (sg1 rfl rfl (sg1 rfl rfl rfl)) ?_
    obtain ⟨q7, e_q7, hf⟩ := bnd hf
    refine Ex.callV (a := 67) (As := [.int s.1]) (r := []) (v := none) (h' := q7) rfl rfl (by decide) rfl (Nat.le_of_ble_eq_true rfl) rfl (E_344 (Nat.le_trans (by decide) hd) e_q7) rfl ?_
    refine Ex.seg 1 (pc' := 174) (lc' := [some (.ref 67), some (.int s.1), none, some (.int s.2.1), none, some (.int s.2.2.1)]) (st' := [.ref 67]) (h' := q7) (sg1 rfl rfl rfl) ?_
    obtain ⟨q8, e_q8, hf⟩ := bnd hf
    refine Ex.callV (a := 67) (As := []) (r := []) (v := none) (h' := q8) rfl rfl (by decide) rfl (Nat.le_of_ble_eq_true rfl) rfl (E_379 (Nat.le_trans (by decide) hd) e_q8) rfl ?_
    refine Ex.seg 4 (pc' := 185) (lc' := [some (.ref 67), some (.int s.1), none, some (.int s.2.1), none, some (.int s.2.2.1)]) (st' := []) (h' := (sm_wI q8 67 73 (q8.1 67 66))) (sg1 rfl rfl (sg1 rfl rfl (sg1 rfl rfl (sg1 rfl rfl rfl)))) ?_
    obtain ⟨h9, e_h9, hf⟩ := bnd hf
    rw [Option.some.inj e_h9]
    refine Ex.seg 3 (pc' := 190) (lc' := [some (.ref 67), some (.int s.1), none, some (.int s.2.1), none, some (.int s.2.2.1)]) (st' := [.int (h9.1 67 64), .ref 67]) (h' := h9) (sg1 rfl rfl (sg1 rfl rfl (sg1 rfl rfl rfl))) ?_
    refine Ex.ifc rfl rfl (fun (c0 : (h9.1 67 64) = 0) => ?_) (fun (c0 : ¬ ((h9.1 67 64) = 0)) => ?_)
    · rw [if_pos c0] at hf
      refine Ex.seg 2 (pc' := 204) (lc' := [some (.ref 67), some (.int s.1), none, some (.int s.2.1), none, some (.int s.2.2.1)]) (st' := [.int (h9.1 67 62), .ref 67]) (h' := h9) (sg1 rfl rfl (sg1 rfl rfl rfl)) ?_
      refine Ex.ifc rfl rfl (fun (c0 : (h9.1 67 62) = 0) => ?_) (fun (c0 : ¬ ((h9.1 67 62) = 0)) => ?_)
      · rw [if_pos c0] at hf
        refine Ex.seg 1 (pc' := 212) (lc' := [some (.ref 67), some (.int s.1), none, some (.int s.2.1), none, some (.int s.2.2.1)]) (st' := [.int 0, .ref 67]) (h' := h9) (sg1 rfl rfl rfl) ?_
        obtain ⟨r0, hf0, rfl⟩ := Option.map_eq_some_iff.mp hf
        exact Ex.weak (sm_le_s (sm_le_s (sm_le_s (sm_le_n (sm_le_s (sm_le_n sm_le_nil)))))) (B_404_212 hd  hf0 hs)
      · rw [if_neg c0] at hf
        refine Ex.seg 2 (pc' := 212) (lc' := [some (.ref 67), some (.int s.1), none, some (.int s.2.1), none, some (.int s.2.2.1)]) (st' := [.int 1, .ref 67]) (h' := h9) (sg1 rfl rfl (sg1 rfl rfl rfl)) ?_
        obtain ⟨r0, hf0, rfl⟩ := Option.map_eq_some_iff.mp hf
        exact Ex.weak (sm_le_s (sm_le_s (sm_le_s (sm_le_n (sm_le_s (sm_le_n sm_le_nil)))))) (B_404_212 hd  hf0 hs)
    · rw [if_neg c0] at hf
      refine Ex.seg 3 (pc' := 212) (lc' := [some (.ref 67), some (.int s.1), none, some (.int s.2.1), none, some (.int s.2.2.1)]) (st' := [.int (h9.1 67 64), .ref 67]) (h' := h9) (sg1 rfl rfl (sg1 rfl rfl (sg1 rfl rfl rfl))) ?_
      obtain ⟨r0, hf0, rfl⟩ := Option.map_eq_some_iff.mp hf
      exact Ex.weak (sm_le_s (sm_le_s (sm_le_s (sm_le_n (sm_le_s (sm_le_n sm_le_nil)))))) (B_404_212 hd  hf0 hs)
  · rw [if_neg c0] at hf
    refine Ex.seg 4 (pc' := 137) (lc' := [some (.ref 67), some (.int s.1), none, some (.int s.2.1), none, some (.int s.2.2.1)]) (st' := [.int s.2.2.1, .int s.1, .ref 67, .ref 67]) (h' := s.2.2.2) (sg1 rfl rfl (sg1 rfl rfl (sg1 rfl rfl (sg1 rfl rfl rfl)))) ?_
    obtain ⟨q10, e_q10, hf⟩ := bnd hf
    refine Ex.callV (a := 67) (As := [.int s.1, .int s.2.2.1]) (r := [.ref 67]) (v := some (.int q10.1)) (h' := q10.2) rfl rfl (by decide) rfl (Nat.le_of_ble_eq_true rfl) rfl (E_306 (Nat.le_trans (by decide) hd) e_q10) rfl ?_
    refine Ex.seg 3 (pc' := 146) (lc' := [some (.ref 67), some (.int s.1), none, some (.int s.2.1), none, some (.int s.2.2.1)]) (st' := [.int s.2.2.1, .ref 110, .int q10.1, .ref 67]) (h' := q10.2) (sg1 rfl rfl (sg1 rfl rfl (sg1 rfl rfl rfl))) ?_
    obtain ⟨v11, e_v11, hf⟩ := bnd hf
    refine Ex.lald e_v11 rfl rfl ?_
    obtain ⟨q12, e_q12, hf⟩ := bnd hf
    refine Ex.callV (a := 67) (As := [.int q10.1, .long v11]) (r := []) (v := none) (h' := q12) rfl rfl (by decide) rfl (Nat.le_of_ble_eq_true rfl) rfl (E_353 (Nat.le_trans (by decide) hd) e_q12) rfl ?_
    refine Ex.seg 5 (pc' := 159) (lc' := [some (.ref 67), some (.int s.1), none, some (.int s.2.1), none, some (.int s.2.2.1)]) (st' := [.long (q12.2.1 67 49), .int (q12.1 67 48), .ref 67]) (h' := q12) (sg1 rfl rfl (sg1 rfl rfl (sg1 rfl rfl (sg1 rfl rfl (sg1 rfl rfl rfl))))) ?_
    obtain ⟨q13, e_q13, hf⟩ := bnd hf
    refine Ex.callV (a := 67) (As := [.int (q12.1 67 48), .long (q12.2.1 67 49)]) (r := []) (v := none) (h' := q13) rfl rfl (by decide) rfl (Nat.le_of_ble_eq_true rfl) rfl (E_342 (Nat.le_trans (by decide) hd) e_q13) rfl ?_
    refine Ex.seg 1 (pc' := 165) (lc' := [some (.ref 67), some (.int s.1), none, some (.int s.2.1), none, some (.int (s.2.2.1 + 1))]) (st' := []) (h' := q13) (sg1 rfl rfl rfl) ?_
    obtain ⟨v14, e_v14, hf⟩ := bnd hf
    rw [Option.some.inj e_v14]
    refine Ex.seg 1 (pc' := 126) (lc' := [some (.ref 67), some (.int s.1), none, some (.int s.2.1), none, some (.int v14)]) (st' := []) (h' := q13) (sg1 rfl rfl rfl) ?_
    obtain rfl := Option.some.inj hf
    exact Ex.weak (sm_le_s (sm_le_s (sm_le_s (sm_le_s (sm_le_s (sm_le_s sm_le_nil)))))) (hS1 _ hs)
theorem B_404_126 {L : Nat} {xs : Nat → Int32} {d : Nat} (hd : 8 ≤ d) {res : Option Value × sm_H} {y1 : Int32} {y3 : Int32} {y5 : Int32}  {h : sm_H} {r : (Int32 × sm_H)} (hf : F_404_126 y1 y3 y5 h = some r) (hs : (fun (r : Int32 × sm_H) => res = (some (.int r.1), r.2)) r) : Ex (P_G L xs) (RUN L xs d) (sm_lk P_t404) 0 126 [some (.ref 67), some (.int y1), none, some (.int y3), none, some (.int y5)] [] h res := by
  unfold F_404_126 at hf
  exact lp_ok (P := fun (s : (Int32 × Int32 × Int32 × sm_H)) => Ex (P_G L xs) (RUN L xs d) (sm_lk P_t404) 0 126 [some (.ref 67), some (.int s.1), none, some (.int s.2.1), none, some (.int s.2.2.1)] [] s.2.2.2 res) (S := (fun (r : Int32 × sm_H) => res = (some (.int r.1), r.2))) (fun s x hx hsx => by
    intros
    exact B_404_126B hd  (fun _ q => q) hx hsx) 1000000 _ r hf hs
theorem B_404_86 {L : Nat} {xs : Nat → Int32} {d : Nat} (hd : 8 ≤ d) {res : Option Value × sm_H} {y1 : Int32} {y2 : Int32} {y3 : Int32} {y4 : Int32}  {h : sm_H} {r : (Int32 × sm_H)} (hf : F_404_86 y1 y2 y3 y4 h = some r) (hs : (fun (r : Int32 × sm_H) => res = (some (.int r.1), r.2)) r) : Ex (P_G L xs) (RUN L xs d) (sm_lk P_t404) 0 86 [some (.ref 67), some (.int y1), some (.int y2), some (.int y3), some (.int y4), none] [] h res := by
  unfold F_404_86 at hf
  refine Ex.seg 1 (pc' := 88) (lc' := [some (.ref 67), some (.int y1), some (.int y2), some (.int y3), some (.int y4), none]) (st' := [.int y4]) (h' := h) (sg1 rfl rfl rfl) ?_
  refine Ex.ifc rfl rfl (fun (c0 : ¬ (y4 = 0)) => ?_) (fun (c0 : ¬ ¬ (y4 = 0)) => ?_)
  · rw [if_neg c0] at hf
    refine Ex.seg 3 (pc' := 98) (lc' := [some (.ref 67), some (.int y1), some (.int y2), some (.int y3), some (.int y4), none]) (st' := []) (h' := (sm_wI h 67 56 0)) (sg1 rfl rfl (sg1 rfl rfl (sg1 rfl rfl rfl))) ?_
    obtain ⟨h15, e_h15, hf⟩ := bnd hf
    rw [Option.some.inj e_h15]
    refine Ex.seg 3 (pc' := 103) (lc' := [some (.ref 67), some (.int y1), some (.int y2), some (.int y3), some (.int y4), none]) (st' := []) (h' := (sm_wI h15 67 59 0)) (sg1 rfl rfl (sg1 rfl rfl (sg1 rfl rfl rfl))) ?_
    obtain ⟨h16, e_h16, hf⟩ := bnd hf
    rw [Option.some.inj e_h16]
    refine Ex.seg 3 (pc' := 108) (lc' := [some (.ref 67), some (.int y1), some (.int y2), some (.int y3), some (.int y4), none]) (st' := []) (h' := (sm_wI h16 67 64 0)) (sg1 rfl rfl (sg1 rfl rfl (sg1 rfl rfl rfl))) ?_
    obtain ⟨h17, e_h17, hf⟩ := bnd hf
    rw [Option.some.inj e_h17]
    refine Ex.seg 3 (pc' := 113) (lc' := [some (.ref 67), some (.int y1), some (.int y2), some (.int y3), some (.int y4), none]) (st' := []) (h' := (sm_wI h17 67 63 0)) (sg1 rfl rfl (sg1 rfl rfl (sg1 rfl rfl rfl))) ?_
    obtain ⟨h18, e_h18, hf⟩ := bnd hf
    rw [Option.some.inj e_h18]
    refine Ex.seg 3 (pc' := 118) (lc' := [some (.ref 67), some (.int y1), some (.int y2), some (.int y3), some (.int y4), none]) (st' := []) (h' := (sm_wI h18 67 65 y2)) (sg1 rfl rfl (sg1 rfl rfl (sg1 rfl rfl rfl))) ?_
    obtain ⟨h19, e_h19, hf⟩ := bnd hf
    rw [Option.some.inj e_h19]
    refine Ex.seg 3 (pc' := 123) (lc' := [some (.ref 67), some (.int y1), some (.int y2), some (.int y3), some (.int y4), none]) (st' := []) (h' := (sm_wI h19 67 66 0)) (sg1 rfl rfl (sg1 rfl rfl (sg1 rfl rfl rfl))) ?_
    obtain ⟨h20, e_h20, hf⟩ := bnd hf
    rw [Option.some.inj e_h20]
    refine Ex.seg 2 (pc' := 126) (lc' := [some (.ref 67), some (.int y1), some (.int y2), some (.int y3), some (.int y4), some (.int 0)]) (st' := []) (h' := h20) (sg1 rfl rfl (sg1 rfl rfl rfl)) ?_
    exact Ex.weak (sm_le_s (sm_le_s (sm_le_n (sm_le_s (sm_le_n (sm_le_s sm_le_nil)))))) (B_404_126 hd  hf hs)
  · rw [if_pos (Classical.not_not.mp c0)] at hf
    refine Ex.seg 1 (pc' := 92) (lc' := [some (.ref 67), some (.int y1), some (.int y2), some (.int y3), some (.int y4), none]) (st' := [.int (-1)]) (h' := h) (sg1 rfl rfl rfl) ?_
    obtain rfl := Option.some.inj hf
    exact Ex.iret rfl rfl (fun c0 => by cases c0) hs
theorem B_404_49B {L : Nat} {xs : Nat → Int32} {d : Nat} (hd : 8 ≤ d) {res : Option Value × sm_H} {S1 : (Int32 × Int32 × Int32 × Int32 × Int32 × sm_H) → Prop} (hS1 : ∀ s, S1 s → Ex (P_G L xs) (RUN L xs d) (sm_lk P_t404) 0 49 [some (.ref 67), some (.int s.1), some (.int s.2.1), some (.int s.2.2.1), some (.int s.2.2.2.1), some (.int s.2.2.2.2.1)] [] s.2.2.2.2.2 res) {s : (Int32 × Int32 × Int32 × Int32 × Int32 × sm_H)}  {r : ((Int32 × Int32 × Int32 × Int32 × Int32 × sm_H) ⊕ (Int32 × sm_H))} (hf : F_404_49B s = some r) (hs : (Sum.elim S1 (fun (r : Int32 × sm_H) => res = (some (.int r.1), r.2))) r) : Ex (P_G L xs) (RUN L xs d) (sm_lk P_t404) 0 49 [some (.ref 67), some (.int s.1), some (.int s.2.1), some (.int s.2.2.1), some (.int s.2.2.2.1), some (.int s.2.2.2.2.1)] [] s.2.2.2.2.2 res := by
  unfold F_404_49B at hf
  refine Ex.seg 2 (pc' := 52) (lc' := [some (.ref 67), some (.int s.1), some (.int s.2.1), some (.int s.2.2.1), some (.int s.2.2.2.1), some (.int s.2.2.2.2.1)]) (st' := [.int s.2.2.1, .int s.2.2.2.2.1]) (h' := s.2.2.2.2.2) (sg1 rfl rfl (sg1 rfl rfl rfl)) ?_
  refine Ex.icmp rfl rfl (fun (c0 : s.2.2.1 ≤ s.2.2.2.2.1) => ?_) (fun (c0 : ¬ (s.2.2.1 ≤ s.2.2.2.2.1)) => ?_)
  · rw [if_pos c0] at hf
    obtain ⟨r0, hf0, rfl⟩ := Option.map_eq_some_iff.mp hf
    exact Ex.weak (sm_le_s (sm_le_s (sm_le_s (sm_le_s (sm_le_s (sm_le_n sm_le_nil)))))) (B_404_86 hd  hf0 hs)
  · rw [if_neg c0] at hf
    refine Ex.seg 1 (pc' := 57) (lc' := [some (.ref 67), some (.int s.1), some (.int s.2.1), some (.int s.2.2.1), some (.int s.2.2.2.1), some (.int s.2.2.2.2.1)]) (st' := [.int s.2.2.2.1]) (h' := s.2.2.2.2.2) (sg1 rfl rfl rfl) ?_
    refine Ex.ifc rfl rfl (fun (c0 : s.2.2.2.1 = 0) => ?_) (fun (c0 : ¬ (s.2.2.2.1 = 0)) => ?_)
    · rw [if_pos c0] at hf
      obtain ⟨r0, hf0, rfl⟩ := Option.map_eq_some_iff.mp hf
      exact Ex.weak (sm_le_s (sm_le_s (sm_le_s (sm_le_s (sm_le_s (sm_le_n sm_le_nil)))))) (B_404_86 hd  hf0 hs)
    · rw [if_neg c0] at hf
      refine Ex.seg 4 (pc' := 65) (lc' := [some (.ref 67), some (.int s.1), some (.int s.2.1), some (.int s.2.2.1), some (.int s.2.2.2.1), some (.int s.2.2.2.2.1)]) (st' := [.int s.2.2.2.2.1, .int s.1, .ref 67, .ref 67]) (h' := s.2.2.2.2.2) (sg1 rfl rfl (sg1 rfl rfl (sg1 rfl rfl (sg1 rfl rfl rfl)))) ?_
      obtain ⟨q21, e_q21, hf⟩ := bnd hf
      refine Ex.callV (a := 67) (As := [.int s.1, .int s.2.2.2.2.1]) (r := [.ref 67]) (v := some (.int q21.1)) (h' := q21.2) rfl rfl (by decide) rfl (Nat.le_of_ble_eq_true rfl) rfl (E_306 (Nat.le_trans (by decide) hd) e_q21) rfl ?_
      refine Ex.seg 3 (pc' := 74) (lc' := [some (.ref 67), some (.int s.1), some (.int s.2.1), some (.int s.2.2.1), some (.int s.2.2.2.1), some (.int s.2.2.2.2.1)]) (st' := [.int s.2.2.2.2.1, .ref 110, .int q21.1, .ref 67]) (h' := q21.2) (sg1 rfl rfl (sg1 rfl rfl (sg1 rfl rfl rfl))) ?_
      obtain ⟨v22, e_v22, hf⟩ := bnd hf
      refine Ex.lald e_v22 rfl rfl ?_
      obtain ⟨q23, e_q23, hf⟩ := bnd hf
      refine Ex.callV (a := 67) (As := [.int q21.1, .long v22]) (r := []) (v := some (.int q23.1)) (h' := q23.2) rfl rfl (by decide) rfl (Nat.le_of_ble_eq_true rfl) rfl (E_403 (Nat.le_trans (by decide) hd) e_q23) rfl ?_
      refine Ex.seg 2 (pc' := 83) (lc' := [some (.ref 67), some (.int s.1), some (.int s.2.1), some (.int s.2.2.1), some (.int q23.1), some (.int (s.2.2.2.2.1 + 1))]) (st' := []) (h' := q23.2) (sg1 rfl rfl (sg1 rfl rfl rfl)) ?_
      obtain ⟨v24, e_v24, hf⟩ := bnd hf
      rw [Option.some.inj e_v24]
      refine Ex.seg 1 (pc' := 49) (lc' := [some (.ref 67), some (.int s.1), some (.int s.2.1), some (.int s.2.2.1), some (.int q23.1), some (.int v24)]) (st' := []) (h' := q23.2) (sg1 rfl rfl rfl) ?_
      obtain rfl := Option.some.inj hf
      exact Ex.weak (sm_le_s (sm_le_s (sm_le_s (sm_le_s (sm_le_s (sm_le_s sm_le_nil)))))) (hS1 _ hs)
theorem B_404_49 {L : Nat} {xs : Nat → Int32} {d : Nat} (hd : 8 ≤ d) {res : Option Value × sm_H} {y1 : Int32} {y2 : Int32} {y3 : Int32} {y4 : Int32} {y5 : Int32}  {h : sm_H} {r : (Int32 × sm_H)} (hf : F_404_49 y1 y2 y3 y4 y5 h = some r) (hs : (fun (r : Int32 × sm_H) => res = (some (.int r.1), r.2)) r) : Ex (P_G L xs) (RUN L xs d) (sm_lk P_t404) 0 49 [some (.ref 67), some (.int y1), some (.int y2), some (.int y3), some (.int y4), some (.int y5)] [] h res := by
  unfold F_404_49 at hf
  exact lp_ok (P := fun (s : (Int32 × Int32 × Int32 × Int32 × Int32 × sm_H)) => Ex (P_G L xs) (RUN L xs d) (sm_lk P_t404) 0 49 [some (.ref 67), some (.int s.1), some (.int s.2.1), some (.int s.2.2.1), some (.int s.2.2.2.1), some (.int s.2.2.2.2.1)] [] s.2.2.2.2.2 res) (S := (fun (r : Int32 × sm_H) => res = (some (.int r.1), r.2))) (fun s x hx hsx => by
    intros
    exact B_404_49B hd  (fun _ q => q) hx hsx) 1000000 _ r hf hs
theorem B_404_44 {L : Nat} {xs : Nat → Int32} {d : Nat} (hd : 8 ≤ d) {res : Option Value × sm_H} {y1 : Int32} {y2 : Int32} {y3 : Int32} {z0 : Int32}  {h : sm_H} {r : (Int32 × sm_H)} (hf : F_404_44 y1 y2 y3 z0 h = some r) (hs : (fun (r : Int32 × sm_H) => res = (some (.int r.1), r.2)) r) : Ex (P_G L xs) (RUN L xs d) (sm_lk P_t404) 0 44 [some (.ref 67), some (.int y1), some (.int y2), some (.int y3), none, none] [.int z0] h res := by
  unfold F_404_44 at hf
  refine Ex.seg 3 (pc' := 49) (lc' := [some (.ref 67), some (.int y1), some (.int y2), some (.int y3), some (.int z0), some (.int 0)]) (st' := []) (h' := h) (sg1 rfl rfl (sg1 rfl rfl (sg1 rfl rfl rfl))) ?_
  exact Ex.weak (sm_le_s (sm_le_s (sm_le_s (sm_le_s (sm_le_s (sm_le_s sm_le_nil)))))) (B_404_49 hd  hf hs)
theorem B_404_43 {L : Nat} {xs : Nat → Int32} {d : Nat} (hd : 8 ≤ d) {res : Option Value × sm_H} {y1 : Int32} {y2 : Int32} {y3 : Int32}  {h : sm_H} {r : (Int32 × sm_H)} (hf : F_404_43 y1 y2 y3 h = some r) (hs : (fun (r : Int32 × sm_H) => res = (some (.int r.1), r.2)) r) : Ex (P_G L xs) (RUN L xs d) (sm_lk P_t404) 0 43 [some (.ref 67), some (.int y1), some (.int y2), some (.int y3), none, none] [] h res := by
  unfold F_404_43 at hf
  refine Ex.seg 1 (pc' := 44) (lc' := [some (.ref 67), some (.int y1), some (.int y2), some (.int y3), none, none]) (st' := [.int 0]) (h' := h) (sg1 rfl rfl rfl) ?_
  exact Ex.weak (sm_le_s (sm_le_s (sm_le_s (sm_le_s (sm_le_s (sm_le_s sm_le_nil)))))) (B_404_44 hd  hf hs)
theorem B_404_0 {L : Nat} {xs : Nat → Int32} {d : Nat} (hd : 8 ≤ d) {res : Option Value × sm_H} {x1 : Int32} {x2 : Int32}  {h : sm_H} {r : (Int32 × sm_H)} (hf : F_404_0 x1 x2 h = some r) (hs : (fun (r : Int32 × sm_H) => res = (some (.int r.1), r.2)) r) : Ex (P_G L xs) (RUN L xs d) (sm_lk P_t404) 0 0 [some (.ref 67), some (.int x1), some (.int x2), none, none, none] [] h res := by
  unfold F_404_0 at hf
  refine Ex.seg 3 (pc' := 5) (lc' := [some (.ref 67), some (.int x1), some (.int x2), some (.int (h.1 67 68)), none, none]) (st' := []) (h' := h) (sg1 rfl rfl (sg1 rfl rfl (sg1 rfl rfl rfl))) ?_
  obtain ⟨v25, e_v25, hf⟩ := bnd hf
  rw [Option.some.inj e_v25]
  refine Ex.seg 3 (pc' := 10) (lc' := [some (.ref 67), some (.int x1), some (.int x2), some (.int v25), none, none]) (st' := []) (h' := (sm_wI h 67 68 0)) (sg1 rfl rfl (sg1 rfl rfl (sg1 rfl rfl rfl))) ?_
  obtain ⟨h26, e_h26, hf⟩ := bnd hf
  rw [Option.some.inj e_h26]
  refine Ex.seg 2 (pc' := 12) (lc' := [some (.ref 67), some (.int x1), some (.int x2), some (.int v25), none, none]) (st' := [.int x1, .ref 67]) (h' := h26) (sg1 rfl rfl (sg1 rfl rfl rfl)) ?_
  obtain ⟨q27, e_q27, hf⟩ := bnd hf
  refine Ex.callV (a := 67) (As := [.int x1]) (r := []) (v := some (.int q27.1)) (h' := q27.2) rfl rfl (by decide) rfl (Nat.le_of_ble_eq_true rfl) rfl (E_304 (Nat.le_trans (by decide) hd) e_q27) rfl ?_
  refine Ex.ifc rfl rfl (fun (c0 : q27.1 = 0) => ?_) (fun (c0 : ¬ (q27.1 = 0)) => ?_)
  · rw [if_pos c0] at hf
    exact Ex.weak (sm_le_s (sm_le_s (sm_le_s (sm_le_s (sm_le_s (sm_le_s sm_le_nil)))))) (B_404_43 hd  hf hs)
  · rw [if_neg c0] at hf
    refine Ex.seg 4 (pc' := 24) (lc' := [some (.ref 67), some (.int x1), some (.int x2), some (.int v25), none, none]) (st' := [.long 10000, .long 1, .long (Int32.toInt64 x2)]) (h' := q27.2) (sg1 rfl rfl (sg1 rfl rfl (sg1 rfl rfl (sg1 rfl rfl rfl)))) ?_
    obtain ⟨q28, e_q28, hf⟩ := bnd hf
    refine Ex.callS (As := [.long (Int32.toInt64 x2), .long 1, .long 10000]) (r := []) (v := some (.int q28.1)) (h' := q28.2) rfl rfl rfl rfl (Nat.le_of_ble_eq_true rfl) (E_315 (Nat.le_trans (by decide) hd) e_q28) rfl ?_
    refine Ex.ifc rfl rfl (fun (c0 : ¬ (q28.1 = 0)) => ?_) (fun (c0 : ¬ ¬ (q28.1 = 0)) => ?_)
    · rw [if_neg c0] at hf
      exact Ex.weak (sm_le_s (sm_le_s (sm_le_s (sm_le_s (sm_le_s (sm_le_s sm_le_nil)))))) (B_404_43 hd  hf hs)
    · rw [if_pos (Classical.not_not.mp c0)] at hf
      refine Ex.seg 2 (pc' := 32) (lc' := [some (.ref 67), some (.int x1), some (.int x2), some (.int v25), none, none]) (st' := [.int x1, .ref 67]) (h' := q28.2) (sg1 rfl rfl (sg1 rfl rfl rfl)) ?_
      obtain ⟨q29, e_q29, hf⟩ := bnd hf
      refine Ex.callV (a := 67) (As := [.int x1]) (r := []) (v := some (.int q29.1)) (h' := q29.2) rfl rfl (by decide) rfl (Nat.le_of_ble_eq_true rfl) rfl (E_305 (Nat.le_trans (by decide) hd) e_q29) rfl ?_
      refine Ex.seg 1 (pc' := 36) (lc' := [some (.ref 67), some (.int x1), some (.int x2), some (.int v25), none, none]) (st' := [.int v25, .int q29.1]) (h' := q29.2) (sg1 rfl rfl rfl) ?_
      refine Ex.icmp rfl rfl (fun (c0 : ¬ (q29.1 = v25)) => ?_) (fun (c0 : ¬ ¬ (q29.1 = v25)) => ?_)
      · rw [if_neg c0] at hf
        exact Ex.weak (sm_le_s (sm_le_s (sm_le_s (sm_le_s (sm_le_s (sm_le_s sm_le_nil)))))) (B_404_43 hd  hf hs)
      · rw [if_pos (Classical.not_not.mp c0)] at hf
        refine Ex.seg 2 (pc' := 44) (lc' := [some (.ref 67), some (.int x1), some (.int x2), some (.int v25), none, none]) (st' := [.int 1]) (h' := q29.2) (sg1 rfl rfl (sg1 rfl rfl rfl)) ?_
        exact Ex.weak (sm_le_s (sm_le_s (sm_le_s (sm_le_s (sm_le_s (sm_le_s sm_le_nil)))))) (B_404_44 hd  hf hs)
theorem E_404 {L : Nat} {xs : Nat → Int32} {d : Nat} (hd : 9 ≤ d) {x1 : Int32} {x2 : Int32} {h : sm_H} {r : Int32 × sm_H} (hf : F_404 x1 x2 h = some r) : RUN L xs d 404 [.ref 67, .int x1, .int x2] h (some (.int r.1), r.2) := by
  obtain ⟨d, rfl⟩ : ∃ e, d = e + 1 := ⟨d - 1, by omega⟩
  exact ⟨Nat.le_of_ble_eq_true rfl, B_404_0 (by omega) hf rfl⟩
theorem B_453_79 {L : Nat} {xs : Nat → Int32} {d : Nat} (hd : 13 ≤ d) {res : Option Value × sm_H}   {h : sm_H} {r : (Int32 × sm_H)} (hf : F_453_79  h = some r) (hs : (fun (r : Int32 × sm_H) => res = (some (.int r.1), r.2)) r) : Ex (P_G L xs) (RUN L xs d) (sm_lk P_t453) 3 79 [none, none] [] h res := by
  unfold F_453_79 at hf
  refine Ex.seg 1 (pc' := 80) (lc' := [none, none]) (st' := [.int 0]) (h' := h) (sg1 rfl rfl rfl) ?_
  obtain rfl := Option.some.inj hf
  exact Ex.iret rfl rfl (fun _ => by decide) hs
theorem B_453_23 {L : Nat} {xs : Nat → Int32} {d : Nat} (hd : 13 ≤ d) {res : Option Value × sm_H}   {h : sm_H} {r : (Int32 × sm_H)} (hf : F_453_23  h = some r) (hs : (fun (r : Int32 × sm_H) => res = (some (.int r.1), r.2)) r) : Ex (P_G L xs) (RUN L xs d) (sm_lk P_t453) 3 23 [none, none] [] h res := by
  unfold F_453_23 at hf
  refine Ex.seg 1 (pc' := 24) (lc' := [none, none]) (st' := [.int 0]) (h' := h) (sg1 rfl rfl rfl) ?_
  obtain rfl := Option.some.inj hf
  exact Ex.iret rfl rfl (fun _ => by decide) hs
theorem B_453_0 {L : Nat} {xs : Nat → Int32} {d : Nat} (hd : 13 ≤ d) {res : Option Value × sm_H} {x1 : Int32}  {h : sm_H} {r : (Int32 × sm_H)} (hf : F_453_0 x1 h = some r) (hs : (fun (r : Int32 × sm_H) => res = (some (.int r.1), r.2)) r) : Ex (P_G L xs) (RUN L xs d) (sm_lk P_t453) 3 0 [some (.ref 67), some (.int x1)] [] h res := by
  unfold F_453_0 at hf
  refine Ex.seg 3 (pc' := 5) (lc' := [some (.ref 67), some (.int x1)]) (st' := [.int x1, .ref 121]) (h' := h) (sg1 rfl rfl (sg1 rfl rfl (sg1 rfl rfl rfl))) ?_
  obtain ⟨v1, e_v1, hf⟩ := bnd hf
  refine Ex.iald e_v1 rfl rfl ?_
  refine Ex.ifc rfl rfl (fun (c0 : ¬ (v1 = 0)) => ?_) (fun (c0 : ¬ ¬ (v1 = 0)) => ?_)
  · rw [if_neg c0] at hf
    refine Ex.seg 3 (pc' := 54) (lc' := [some (.ref 67), some (.int x1)]) (st' := [.int x1, .ref 121]) (h' := h) (sg1 rfl rfl (sg1 rfl rfl (sg1 rfl rfl rfl))) ?_
    obtain ⟨v2, e_v2, hf⟩ := bnd hf
    refine Ex.iald e_v2 rfl rfl ?_
    refine Ex.seg 1 (pc' := 56) (lc' := [some (.ref 67), some (.int x1)]) (st' := [.int 1, .int v2]) (h' := h) (sg1 rfl rfl rfl) ?_
    refine Ex.icmp rfl rfl (fun (c0 : ¬ (v2 = 1)) => ?_) (fun (c0 : ¬ ¬ (v2 = 1)) => ?_)
    · rw [if_neg c0] at hf
      refine Ex.seg 1 (pc' := 115) (lc' := [some (.ref 67), some (.int x1)]) (st' := [.ref 67]) (h' := h) (sg1 rfl rfl rfl) ?_
      obtain ⟨q3, e_q3, hf⟩ := bnd hf
      refine Ex.callV (a := 67) (As := []) (r := []) (v := some (.int q3.1)) (h' := q3.2) rfl rfl (by decide) rfl (Nat.le_of_ble_eq_true rfl) rfl (E_457 (Nat.le_trans (by decide) hd) e_q3) rfl ?_
      rcases Classical.em (q3.1 = 0 ∨ q3.1 = 1) with c0 | c0
      · rw [if_pos c0] at hf
        obtain rfl := Option.some.inj hf
        exact Ex.iret rfl rfl (fun _ => c0) hs
      · rw [if_neg c0] at hf
        cases hf
    · rw [if_pos (Classical.not_not.mp c0)] at hf
      refine Ex.seg 4 (pc' := 63) (lc' := [some (.ref 67), some (.int x1)]) (st' := [.int 0, .ref 67, .int x1, .ref 67]) (h' := h) (sg1 rfl rfl (sg1 rfl rfl (sg1 rfl rfl (sg1 rfl rfl rfl)))) ?_
      obtain ⟨q4, e_q4, hf⟩ := bnd hf
      refine Ex.callV (a := 67) (As := [.int 0]) (r := [.int x1, .ref 67]) (v := some (.int q4.1)) (h' := q4.2) rfl rfl (by decide) rfl (Nat.le_of_ble_eq_true rfl) rfl (E_449 (Nat.le_trans (by decide) hd) e_q4) rfl ?_
      obtain ⟨q5, e_q5, hf⟩ := bnd hf
      refine Ex.callV (a := 67) (As := [.int x1, .int q4.1]) (r := []) (v := some (.int q5.1)) (h' := q5.2) rfl rfl (by decide) rfl (Nat.le_of_ble_eq_true rfl) rfl (E_452 (Nat.le_trans (by decide) hd) e_q5) rfl ?_
      refine Ex.ifc rfl rfl (fun (c0 : ¬ (q5.1 = 0)) => ?_) (fun (c0 : ¬ ¬ (q5.1 = 0)) => ?_)
      · rw [if_neg c0] at hf
        exact Ex.weak (sm_le_n (sm_le_n sm_le_nil)) (B_453_79 hd  hf hs)
      · rw [if_pos (Classical.not_not.mp c0)] at hf
        refine Ex.seg 1 (pc' := 73) (lc' := [some (.ref 67), some (.int x1)]) (st' := [.ref 67]) (h' := q5.2) (sg1 rfl rfl rfl) ?_
        obtain ⟨q6, e_q6, hf⟩ := bnd hf
        refine Ex.callV (a := 67) (As := []) (r := []) (v := some (.int q6.1)) (h' := q6.2) rfl rfl (by decide) rfl (Nat.le_of_ble_eq_true rfl) rfl (E_427 (Nat.le_trans (by decide) hd) e_q6) rfl ?_
        refine Ex.ifc rfl rfl (fun (c0 : ¬ (q6.1 = 0)) => ?_) (fun (c0 : ¬ ¬ (q6.1 = 0)) => ?_)
        · rw [if_neg c0] at hf
          refine Ex.seg 6 (pc' := 89) (lc' := [some (.ref 67), some (.int x1)]) (st' := [.int (3 * x1), .ref 126, .ref 67]) (h' := q6.2) (sg1 rfl rfl (sg1 rfl rfl (sg1 rfl rfl (sg1 rfl rfl (sg1 rfl rfl (sg1 rfl rfl rfl)))))) ?_
          obtain ⟨v7, e_v7, hf⟩ := bnd hf
          refine Ex.lald e_v7 rfl rfl ?_
          refine Ex.seg 3 (pc' := 93) (lc' := [some (.ref 67), some (.int x1)]) (st' := [.int 0, .ref 67, .ref 67, .long v7, .ref 67]) (h' := q6.2) (sg1 rfl rfl (sg1 rfl rfl (sg1 rfl rfl rfl))) ?_
          obtain ⟨q8, e_q8, hf⟩ := bnd hf
          refine Ex.callV (a := 67) (As := [.int 0]) (r := [.ref 67, .long v7, .ref 67]) (v := some (.int q8.1)) (h' := q8.2) rfl rfl (by decide) rfl (Nat.le_of_ble_eq_true rfl) rfl (E_449 (Nat.le_trans (by decide) hd) e_q8) rfl ?_
          obtain ⟨q9, e_q9, hf⟩ := bnd hf
          refine Ex.callV (a := 67) (As := [.int q8.1]) (r := [.long v7, .ref 67]) (v := some (.int q9.1)) (h' := q9.2) rfl rfl (by decide) rfl (Nat.le_of_ble_eq_true rfl) rfl (E_307 (Nat.le_trans (by decide) hd) e_q9) rfl ?_
          obtain ⟨q10, e_q10, hf⟩ := bnd hf
          refine Ex.callV (a := 67) (As := [.long v7, .int q9.1]) (r := []) (v := none) (h' := q10) rfl rfl (by decide) rfl (Nat.le_of_ble_eq_true rfl) rfl (E_444 (Nat.le_trans (by decide) hd) e_q10) rfl ?_
          refine Ex.seg 4 (pc' := 108) (lc' := [some (.ref 67), some (.int x1)]) (st' := [.int 2, .int x1, .ref 121]) (h' := q10) (sg1 rfl rfl (sg1 rfl rfl (sg1 rfl rfl (sg1 rfl rfl rfl)))) ?_
          obtain ⟨h11, e_h11, hf⟩ := bnd hf
          refine Ex.iast e_h11 rfl rfl ?_
          refine Ex.seg 1 (pc' := 110) (lc' := [some (.ref 67), some (.int x1)]) (st' := [.ref 67]) (h' := h11) (sg1 rfl rfl rfl) ?_
          obtain ⟨q12, e_q12, hf⟩ := bnd hf
          refine Ex.callV (a := 67) (As := []) (r := []) (v := some (.int q12.1)) (h' := q12.2) rfl rfl (by decide) rfl (Nat.le_of_ble_eq_true rfl) rfl (E_448 (Nat.le_trans (by decide) hd) e_q12) rfl ?_
          rcases Classical.em (q12.1 = 0 ∨ q12.1 = 1) with c0 | c0
          · rw [if_pos c0] at hf
            obtain rfl := Option.some.inj hf
            exact Ex.iret rfl rfl (fun _ => c0) hs
          · rw [if_neg c0] at hf
            cases hf
        · rw [if_pos (Classical.not_not.mp c0)] at hf
          exact Ex.weak (sm_le_n (sm_le_n sm_le_nil)) (B_453_79 hd  hf hs)
  · rw [if_pos (Classical.not_not.mp c0)] at hf
    refine Ex.seg 1 (pc' := 10) (lc' := [some (.ref 67), some (.int x1)]) (st' := [.ref 67]) (h' := h) (sg1 rfl rfl rfl) ?_
    obtain ⟨q13, e_q13, hf⟩ := bnd hf
    refine Ex.callV (a := 67) (As := []) (r := []) (v := some (.int q13.1)) (h' := q13.2) rfl rfl (by decide) rfl (Nat.le_of_ble_eq_true rfl) rfl (E_426 (Nat.le_trans (by decide) hd) e_q13) rfl ?_
    refine Ex.ifc rfl rfl (fun (c0 : q13.1 = 0) => ?_) (fun (c0 : ¬ (q13.1 = 0)) => ?_)
    · rw [if_pos c0] at hf
      exact Ex.weak (sm_le_n (sm_le_n sm_le_nil)) (B_453_23 hd  hf hs)
    · rw [if_neg c0] at hf
      refine Ex.seg 1 (pc' := 17) (lc' := [some (.ref 67), some (.int x1)]) (st' := [.ref 67]) (h' := q13.2) (sg1 rfl rfl rfl) ?_
      obtain ⟨q14, e_q14, hf⟩ := bnd hf
      refine Ex.callV (a := 67) (As := []) (r := []) (v := some (.int q14.1)) (h' := q14.2) rfl rfl (by decide) rfl (Nat.le_of_ble_eq_true rfl) rfl (E_450 (Nat.le_trans (by decide) hd) e_q14) rfl ?_
      refine Ex.ifc rfl rfl (fun (c0 : ¬ (q14.1 = 0)) => ?_) (fun (c0 : ¬ ¬ (q14.1 = 0)) => ?_)
      · rw [if_neg c0] at hf
        refine Ex.seg 7 (pc' := 36) (lc' := [some (.ref 67), some (.int x1)]) (st' := [.long (q14.2.2.1 67 108), .int (3 * x1), .ref 126]) (h' := q14.2) (sg1 rfl rfl (sg1 rfl rfl (sg1 rfl rfl (sg1 rfl rfl (sg1 rfl rfl (sg1 rfl rfl (sg1 rfl rfl rfl))))))) ?_
        obtain ⟨h15, e_h15, hf⟩ := bnd hf
        refine Ex.last e_h15 rfl rfl ?_
        refine Ex.seg 4 (pc' := 43) (lc' := [some (.ref 67), some (.int x1)]) (st' := [.int 1, .int x1, .ref 121]) (h' := h15) (sg1 rfl rfl (sg1 rfl rfl (sg1 rfl rfl (sg1 rfl rfl rfl)))) ?_
        obtain ⟨h16, e_h16, hf⟩ := bnd hf
        refine Ex.iast e_h16 rfl rfl ?_
        refine Ex.seg 1 (pc' := 45) (lc' := [some (.ref 67), some (.int x1)]) (st' := [.ref 67]) (h' := h16) (sg1 rfl rfl rfl) ?_
        obtain ⟨q17, e_q17, hf⟩ := bnd hf
        refine Ex.callV (a := 67) (As := []) (r := []) (v := some (.int q17.1)) (h' := q17.2) rfl rfl (by decide) rfl (Nat.le_of_ble_eq_true rfl) rfl (E_448 (Nat.le_trans (by decide) hd) e_q17) rfl ?_
        rcases Classical.em (q17.1 = 0 ∨ q17.1 = 1) with c0 | c0
        · rw [if_pos c0] at hf
          obtain rfl := Option.some.inj hf
          exact Ex.iret rfl rfl (fun _ => c0) hs
        · rw [if_neg c0] at hf
          cases hf
      · rw [if_pos (Classical.not_not.mp c0)] at hf
        exact Ex.weak (sm_le_n (sm_le_n sm_le_nil)) (B_453_23 hd  hf hs)
theorem E_453 {L : Nat} {xs : Nat → Int32} {d : Nat} (hd : 14 ≤ d) {x1 : Int32} {h : sm_H} {r : Int32 × sm_H} (hf : F_453 x1 h = some r) : RUN L xs d 453 [.ref 67, .int x1] h (some (.int r.1), r.2) := by
  obtain ⟨d, rfl⟩ : ∃ e, d = e + 1 := ⟨d - 1, by omega⟩
  exact ⟨Nat.le_of_ble_eq_true rfl, B_453_0 (by omega) hf rfl⟩
theorem B_454_50 {L : Nat} {xs : Nat → Int32} {d : Nat} (hd : 13 ≤ d) {res : Option Value × sm_H}   {h : sm_H} {r : (Int32 × sm_H)} (hf : F_454_50  h = some r) (hs : (fun (r : Int32 × sm_H) => res = (some (.int r.1), r.2)) r) : Ex (P_G L xs) (RUN L xs d) (sm_lk P_t454) 3 50 [none, none] [] h res := by
  unfold F_454_50 at hf
  refine Ex.seg 1 (pc' := 51) (lc' := [none, none]) (st' := [.int 0]) (h' := h) (sg1 rfl rfl rfl) ?_
  obtain rfl := Option.some.inj hf
  exact Ex.iret rfl rfl (fun _ => by decide) hs
theorem B_454_0 {L : Nat} {xs : Nat → Int32} {d : Nat} (hd : 13 ≤ d) {res : Option Value × sm_H} {x1 : Int32}  {h : sm_H} {r : (Int32 × sm_H)} (hf : F_454_0 x1 h = some r) (hs : (fun (r : Int32 × sm_H) => res = (some (.int r.1), r.2)) r) : Ex (P_G L xs) (RUN L xs d) (sm_lk P_t454) 3 0 [some (.ref 67), some (.int x1)] [] h res := by
  unfold F_454_0 at hf
  refine Ex.seg 3 (pc' := 5) (lc' := [some (.ref 67), some (.int x1)]) (st' := [.int x1, .ref 124]) (h' := h) (sg1 rfl rfl (sg1 rfl rfl (sg1 rfl rfl rfl))) ?_
  obtain ⟨v1, e_v1, hf⟩ := bnd hf
  refine Ex.iald e_v1 rfl rfl ?_
  refine Ex.ifc rfl rfl (fun (c0 : ¬ (v1 = 0)) => ?_) (fun (c0 : ¬ ¬ (v1 = 0)) => ?_)
  · rw [if_neg c0] at hf
    refine Ex.seg 3 (pc' := 19) (lc' := [some (.ref 67), some (.int x1)]) (st' := [.int x1, .ref 124]) (h' := h) (sg1 rfl rfl (sg1 rfl rfl (sg1 rfl rfl rfl))) ?_
    obtain ⟨v2, e_v2, hf⟩ := bnd hf
    refine Ex.iald e_v2 rfl rfl ?_
    refine Ex.seg 1 (pc' := 21) (lc' := [some (.ref 67), some (.int x1)]) (st' := [.int 2, .int v2]) (h' := h) (sg1 rfl rfl rfl) ?_
    refine Ex.icmp rfl rfl (fun (c0 : ¬ (v2 = 2)) => ?_) (fun (c0 : ¬ ¬ (v2 = 2)) => ?_)
    · rw [if_neg c0] at hf
      refine Ex.seg 1 (pc' := 30) (lc' := [some (.ref 67), some (.int x1)]) (st' := [.ref 67]) (h' := h) (sg1 rfl rfl rfl) ?_
      obtain ⟨q3, e_q3, hf⟩ := bnd hf
      refine Ex.callV (a := 67) (As := []) (r := []) (v := some (.int q3.1)) (h' := q3.2) rfl rfl (by decide) rfl (Nat.le_of_ble_eq_true rfl) rfl (E_426 (Nat.le_trans (by decide) hd) e_q3) rfl ?_
      refine Ex.ifc rfl rfl (fun (c0 : q3.1 = 0) => ?_) (fun (c0 : ¬ (q3.1 = 0)) => ?_)
      · rw [if_pos c0] at hf
        exact Ex.weak (sm_le_n (sm_le_n sm_le_nil)) (B_454_50 hd  hf hs)
      · rw [if_neg c0] at hf
        refine Ex.seg 1 (pc' := 37) (lc' := [some (.ref 67), some (.int x1)]) (st' := [.ref 67]) (h' := q3.2) (sg1 rfl rfl rfl) ?_
        obtain ⟨q4, e_q4, hf⟩ := bnd hf
        refine Ex.callV (a := 67) (As := []) (r := []) (v := some (.int q4.1)) (h' := q4.2) rfl rfl (by decide) rfl (Nat.le_of_ble_eq_true rfl) rfl (E_450 (Nat.le_trans (by decide) hd) e_q4) rfl ?_
        refine Ex.ifc rfl rfl (fun (c0 : q4.1 = 0) => ?_) (fun (c0 : ¬ (q4.1 = 0)) => ?_)
        · rw [if_pos c0] at hf
          exact Ex.weak (sm_le_n (sm_le_n sm_le_nil)) (B_454_50 hd  hf hs)
        · rw [if_neg c0] at hf
          refine Ex.seg 1 (pc' := 44) (lc' := [some (.ref 67), some (.int x1)]) (st' := [.ref 67]) (h' := q4.2) (sg1 rfl rfl rfl) ?_
          obtain ⟨q5, e_q5, hf⟩ := bnd hf
          refine Ex.callV (a := 67) (As := []) (r := []) (v := some (.int q5.1)) (h' := q5.2) rfl rfl (by decide) rfl (Nat.le_of_ble_eq_true rfl) rfl (E_427 (Nat.le_trans (by decide) hd) e_q5) rfl ?_
          refine Ex.ifc rfl rfl (fun (c0 : ¬ (q5.1 = 0)) => ?_) (fun (c0 : ¬ ¬ (q5.1 = 0)) => ?_)
          · rw [if_neg c0] at hf
            refine Ex.seg 4 (pc' := 59) (lc' := [some (.ref 67), some (.int x1)]) (st' := [.int 19, .long (q5.2.2.1 67 108), .ref 67]) (h' := q5.2) (sg1 rfl rfl (sg1 rfl rfl (sg1 rfl rfl (sg1 rfl rfl rfl)))) ?_
            obtain ⟨q6, e_q6, hf⟩ := bnd hf
            refine Ex.callV (a := 67) (As := [.long (q5.2.2.1 67 108), .int 19]) (r := []) (v := none) (h' := q6) rfl rfl (by decide) rfl (Nat.le_of_ble_eq_true rfl) rfl (E_444 (Nat.le_trans (by decide) hd) e_q6) rfl ?_
            refine Ex.seg 1 (pc' := 63) (lc' := [some (.ref 67), some (.int x1)]) (st' := [.ref 67]) (h' := q6) (sg1 rfl rfl rfl) ?_
            obtain ⟨q7, e_q7, hf⟩ := bnd hf
            refine Ex.callV (a := 67) (As := []) (r := []) (v := some (.int q7.1)) (h' := q7.2) rfl rfl (by decide) rfl (Nat.le_of_ble_eq_true rfl) rfl (E_448 (Nat.le_trans (by decide) hd) e_q7) rfl ?_
            rcases Classical.em (q7.1 = 0 ∨ q7.1 = 1) with c0 | c0
            · rw [if_pos c0] at hf
              obtain rfl := Option.some.inj hf
              exact Ex.iret rfl rfl (fun _ => c0) hs
            · rw [if_neg c0] at hf
              cases hf
          · rw [if_pos (Classical.not_not.mp c0)] at hf
            exact Ex.weak (sm_le_n (sm_le_n sm_le_nil)) (B_454_50 hd  hf hs)
    · rw [if_pos (Classical.not_not.mp c0)] at hf
      refine Ex.seg 1 (pc' := 25) (lc' := [some (.ref 67), some (.int x1)]) (st' := [.ref 67]) (h' := h) (sg1 rfl rfl rfl) ?_
      obtain ⟨q8, e_q8, hf⟩ := bnd hf
      refine Ex.callV (a := 67) (As := []) (r := []) (v := some (.int q8.1)) (h' := q8.2) rfl rfl (by decide) rfl (Nat.le_of_ble_eq_true rfl) rfl (E_457 (Nat.le_trans (by decide) hd) e_q8) rfl ?_
      rcases Classical.em (q8.1 = 0 ∨ q8.1 = 1) with c0 | c0
      · rw [if_pos c0] at hf
        obtain rfl := Option.some.inj hf
        exact Ex.iret rfl rfl (fun _ => c0) hs
      · rw [if_neg c0] at hf
        cases hf
  · rw [if_pos (Classical.not_not.mp c0)] at hf
    refine Ex.seg 1 (pc' := 10) (lc' := [some (.ref 67), some (.int x1)]) (st' := [.ref 67]) (h' := h) (sg1 rfl rfl rfl) ?_
    obtain ⟨q9, e_q9, hf⟩ := bnd hf
    refine Ex.callV (a := 67) (As := []) (r := []) (v := some (.int q9.1)) (h' := q9.2) rfl rfl (by decide) rfl (Nat.le_of_ble_eq_true rfl) rfl (E_448 (Nat.le_trans (by decide) hd) e_q9) rfl ?_
    rcases Classical.em (q9.1 = 0 ∨ q9.1 = 1) with c0 | c0
    · rw [if_pos c0] at hf
      obtain rfl := Option.some.inj hf
      exact Ex.iret rfl rfl (fun _ => c0) hs
    · rw [if_neg c0] at hf
      cases hf
theorem E_454 {L : Nat} {xs : Nat → Int32} {d : Nat} (hd : 14 ≤ d) {x1 : Int32} {h : sm_H} {r : Int32 × sm_H} (hf : F_454 x1 h = some r) : RUN L xs d 454 [.ref 67, .int x1] h (some (.int r.1), r.2) := by
  obtain ⟨d, rfl⟩ : ∃ e, d = e + 1 := ⟨d - 1, by omega⟩
  exact ⟨Nat.le_of_ble_eq_true rfl, B_454_0 (by omega) hf rfl⟩
theorem B_455_247 {L : Nat} {xs : Nat → Int32} {d : Nat} (hd : 13 ≤ d) {res : Option Value × sm_H} {z0 : Int32}  {h : sm_H} {r : (Int32 × sm_H)} (hf : F_455_247 z0 h = some r) (hs : (fun (r : Int32 × sm_H) => res = (some (.int r.1), r.2)) r) : Ex (P_G L xs) (RUN L xs d) (sm_lk P_t455) 3 247 [none, none, none] [.int z0] h res := by
  unfold F_455_247 at hf
  rcases Classical.em (z0 = 0 ∨ z0 = 1) with c0 | c0
  · rw [if_pos c0] at hf
    obtain rfl := Option.some.inj hf
    exact Ex.iret rfl rfl (fun _ => c0) hs
  · rw [if_neg c0] at hf
    cases hf
theorem B_455_222 {L : Nat} {xs : Nat → Int32} {d : Nat} (hd : 13 ≤ d) {res : Option Value × sm_H} {y1 : Int32} {y2 : Int32}  {h : sm_H} {r : (Int32 × sm_H)} (hf : F_455_222 y1 y2 h = some r) (hs : (fun (r : Int32 × sm_H) => res = (some (.int r.1), r.2)) r) : Ex (P_G L xs) (RUN L xs d) (sm_lk P_t455) 3 222 [some (.ref 67), some (.int y1), some (.int y2)] [] h res := by
  unfold F_455_222 at hf
  refine Ex.seg 3 (pc' := 227) (lc' := [some (.ref 67), some (.int y1), some (.int y2)]) (st' := [.int y1, .ref 124]) (h' := h) (sg1 rfl rfl (sg1 rfl rfl (sg1 rfl rfl rfl))) ?_
  obtain ⟨v1, e_v1, hf⟩ := bnd hf
  refine Ex.iald e_v1 rfl rfl ?_
  refine Ex.seg 5 (pc' := 233) (lc' := [some (.ref 67), some (.int y1), some (.int y2)]) (st' := [.int ((2 * y2) + 2), .int v1]) (h' := h) (sg1 rfl rfl (sg1 rfl rfl (sg1 rfl rfl (sg1 rfl rfl (sg1 rfl rfl rfl))))) ?_
  refine Ex.icmp rfl rfl (fun (c0 : ((2 * y2) + 2) ≤ v1) => ?_) (fun (c0 : ¬ (((2 * y2) + 2) ≤ v1)) => ?_)
  · rw [if_pos c0] at hf
    refine Ex.seg 1 (pc' := 244) (lc' := [some (.ref 67), some (.int y1), some (.int y2)]) (st' := [.ref 67]) (h' := h) (sg1 rfl rfl rfl) ?_
    obtain ⟨q2, e_q2, hf⟩ := bnd hf
    refine Ex.callV (a := 67) (As := []) (r := []) (v := some (.int q2.1)) (h' := q2.2) rfl rfl (by decide) rfl (Nat.le_of_ble_eq_true rfl) rfl (E_457 (Nat.le_trans (by decide) hd) e_q2) rfl ?_
    exact Ex.weak (sm_le_n (sm_le_n (sm_le_n sm_le_nil))) (B_455_247 hd  hf hs)
  · rw [if_neg c0] at hf
    refine Ex.seg 1 (pc' := 237) (lc' := [some (.ref 67), some (.int y1), some (.int y2)]) (st' := [.ref 67]) (h' := h) (sg1 rfl rfl rfl) ?_
    obtain ⟨q3, e_q3, hf⟩ := bnd hf
    refine Ex.callV (a := 67) (As := []) (r := []) (v := some (.int q3.1)) (h' := q3.2) rfl rfl (by decide) rfl (Nat.le_of_ble_eq_true rfl) rfl (E_448 (Nat.le_trans (by decide) hd) e_q3) rfl ?_
    refine Ex.seg 1 (pc' := 247) (lc' := [some (.ref 67), some (.int y1), some (.int y2)]) (st' := [.int q3.1]) (h' := q3.2) (sg1 rfl rfl rfl) ?_
    exact Ex.weak (sm_le_n (sm_le_n (sm_le_n sm_le_nil))) (B_455_247 hd  hf hs)
theorem B_455_123B {L : Nat} {xs : Nat → Int32} {d : Nat} (hd : 13 ≤ d) {res : Option Value × sm_H} {S1 : (Int32 × Int32 × sm_H) → Prop} (hS1 : ∀ s, S1 s → Ex (P_G L xs) (RUN L xs d) (sm_lk P_t455) 3 123 [some (.ref 67), some (.int s.1), some (.int s.2.1)] [] s.2.2 res) {s : (Int32 × Int32 × sm_H)}  {r : ((Int32 × Int32 × sm_H) ⊕ (Int32 × sm_H))} (hf : F_455_123B s = some r) (hs : (Sum.elim S1 (fun (r : Int32 × sm_H) => res = (some (.int r.1), r.2))) r) : Ex (P_G L xs) (RUN L xs d) (sm_lk P_t455) 3 123 [some (.ref 67), some (.int s.1), some (.int s.2.1)] [] s.2.2 res := by
  unfold F_455_123B at hf
  refine Ex.seg 1 (pc' := 124) (lc' := [some (.ref 67), some (.int s.1), some (.int s.2.1)]) (st' := [.int s.2.1]) (h' := s.2.2) (sg1 rfl rfl rfl) ?_
  refine Ex.ifc rfl rfl (fun (c0 : s.2.1 < 0) => ?_) (fun (c0 : ¬ (s.2.1 < 0)) => ?_)
  · rw [if_pos c0] at hf
    refine Ex.seg 4 (pc' := 162) (lc' := [some (.ref 67), some (.int s.1), some (.int s.2.1)]) (st' := [.int 2, .int s.1, .ref 121]) (h' := s.2.2) (sg1 rfl rfl (sg1 rfl rfl (sg1 rfl rfl (sg1 rfl rfl rfl)))) ?_
    obtain ⟨h4, e_h4, hf⟩ := bnd hf
    refine Ex.iast e_h4 rfl rfl ?_
    refine Ex.seg 1 (pc' := 164) (lc' := [some (.ref 67), some (.int s.1), some (.int s.2.1)]) (st' := [.ref 67]) (h' := h4) (sg1 rfl rfl rfl) ?_
    obtain ⟨q5, e_q5, hf⟩ := bnd hf
    refine Ex.callV (a := 67) (As := []) (r := []) (v := some (.int q5.1)) (h' := q5.2) rfl rfl (by decide) rfl (Nat.le_of_ble_eq_true rfl) rfl (E_426 (Nat.le_trans (by decide) hd) e_q5) rfl ?_
    refine Ex.ifc rfl rfl (fun (c0 : ¬ (q5.1 = 0)) => ?_) (fun (c0 : ¬ ¬ (q5.1 = 0)) => ?_)
    · rw [if_neg c0] at hf
      refine Ex.seg 1 (pc' := 173) (lc' := [some (.ref 67), some (.int s.1), some (.int s.2.1)]) (st' := [.ref 67]) (h' := q5.2) (sg1 rfl rfl rfl) ?_
      obtain ⟨q6, e_q6, hf⟩ := bnd hf
      refine Ex.callV (a := 67) (As := []) (r := []) (v := some (.int q6.1)) (h' := q6.2) rfl rfl (by decide) rfl (Nat.le_of_ble_eq_true rfl) rfl (E_448 (Nat.le_trans (by decide) hd) e_q6) rfl ?_
      rcases Classical.em (q6.1 = 0 ∨ q6.1 = 1) with c0 | c0
      · rw [if_pos c0] at hf
        obtain rfl := Option.some.inj hf
        exact Ex.iret rfl rfl (fun _ => c0) hs
      · rw [if_neg c0] at hf
        cases hf
    · rw [if_pos (Classical.not_not.mp c0)] at hf
      refine Ex.seg 1 (pc' := 171) (lc' := [some (.ref 67), some (.int s.1), some (.int s.2.1)]) (st' := [.int 0]) (h' := q5.2) (sg1 rfl rfl rfl) ?_
      obtain rfl := Option.some.inj hf
      exact Ex.iret rfl rfl (fun _ => by decide) hs
  · rw [if_neg c0] at hf
    refine Ex.seg 8 (pc' := 137) (lc' := [some (.ref 67), some (.int s.1), some (.int s.2.1)]) (st' := [.int ((3 * s.1) + s.2.1), .ref 126, .ref 67]) (h' := s.2.2) (sg1 rfl rfl (sg1 rfl rfl (sg1 rfl rfl (sg1 rfl rfl (sg1 rfl rfl (sg1 rfl rfl (sg1 rfl rfl (sg1 rfl rfl rfl)))))))) ?_
    obtain ⟨v7, e_v7, hf⟩ := bnd hf
    refine Ex.lald e_v7 rfl rfl ?_
    refine Ex.seg 3 (pc' := 141) (lc' := [some (.ref 67), some (.int s.1), some (.int s.2.1)]) (st' := [.int s.2.1, .ref 67, .ref 67, .long v7, .ref 67]) (h' := s.2.2) (sg1 rfl rfl (sg1 rfl rfl (sg1 rfl rfl rfl))) ?_
    obtain ⟨q8, e_q8, hf⟩ := bnd hf
    refine Ex.callV (a := 67) (As := [.int s.2.1]) (r := [.ref 67, .long v7, .ref 67]) (v := some (.int q8.1)) (h' := q8.2) rfl rfl (by decide) rfl (Nat.le_of_ble_eq_true rfl) rfl (E_449 (Nat.le_trans (by decide) hd) e_q8) rfl ?_
    obtain ⟨q9, e_q9, hf⟩ := bnd hf
    refine Ex.callV (a := 67) (As := [.int q8.1]) (r := [.long v7, .ref 67]) (v := some (.int q9.1)) (h' := q9.2) rfl rfl (by decide) rfl (Nat.le_of_ble_eq_true rfl) rfl (E_307 (Nat.le_trans (by decide) hd) e_q9) rfl ?_
    obtain ⟨q10, e_q10, hf⟩ := bnd hf
    refine Ex.callV (a := 67) (As := [.long v7, .int q9.1]) (r := []) (v := none) (h' := q10) rfl rfl (by decide) rfl (Nat.le_of_ble_eq_true rfl) rfl (E_444 (Nat.le_trans (by decide) hd) e_q10) rfl ?_
    refine Ex.seg 1 (pc' := 153) (lc' := [some (.ref 67), some (.int s.1), some (.int (s.2.1 + (-1)))]) (st' := []) (h' := q10) (sg1 rfl rfl rfl) ?_
    obtain ⟨v11, e_v11, hf⟩ := bnd hf
    rw [Option.some.inj e_v11]
    refine Ex.seg 1 (pc' := 123) (lc' := [some (.ref 67), some (.int s.1), some (.int v11)]) (st' := []) (h' := q10) (sg1 rfl rfl rfl) ?_
    obtain rfl := Option.some.inj hf
    exact Ex.weak (sm_le_s (sm_le_s (sm_le_s sm_le_nil))) (hS1 _ hs)
theorem B_455_123 {L : Nat} {xs : Nat → Int32} {d : Nat} (hd : 13 ≤ d) {res : Option Value × sm_H} {y1 : Int32} {y2 : Int32}  {h : sm_H} {r : (Int32 × sm_H)} (hf : F_455_123 y1 y2 h = some r) (hs : (fun (r : Int32 × sm_H) => res = (some (.int r.1), r.2)) r) : Ex (P_G L xs) (RUN L xs d) (sm_lk P_t455) 3 123 [some (.ref 67), some (.int y1), some (.int y2)] [] h res := by
  unfold F_455_123 at hf
  exact lp_ok (P := fun (s : (Int32 × Int32 × sm_H)) => Ex (P_G L xs) (RUN L xs d) (sm_lk P_t455) 3 123 [some (.ref 67), some (.int s.1), some (.int s.2.1)] [] s.2.2 res) (S := (fun (r : Int32 × sm_H) => res = (some (.int r.1), r.2))) (fun s x hx hsx => by
    intros
    exact B_455_123B hd  (fun _ q => q) hx hsx) 1000000 _ r hf hs
theorem B_455_75 {L : Nat} {xs : Nat → Int32} {d : Nat} (hd : 13 ≤ d) {res : Option Value × sm_H}   {h : sm_H} {r : (Int32 × sm_H)} (hf : F_455_75  h = some r) (hs : (fun (r : Int32 × sm_H) => res = (some (.int r.1), r.2)) r) : Ex (P_G L xs) (RUN L xs d) (sm_lk P_t455) 3 75 [none, none, none] [] h res := by
  unfold F_455_75 at hf
  refine Ex.seg 1 (pc' := 76) (lc' := [none, none, none]) (st' := [.int 0]) (h' := h) (sg1 rfl rfl rfl) ?_
  obtain rfl := Option.some.inj hf
  exact Ex.iret rfl rfl (fun _ => by decide) hs
theorem B_455_0 {L : Nat} {xs : Nat → Int32} {d : Nat} (hd : 13 ≤ d) {res : Option Value × sm_H} {x1 : Int32}  {h : sm_H} {r : (Int32 × sm_H)} (hf : F_455_0 x1 h = some r) (hs : (fun (r : Int32 × sm_H) => res = (some (.int r.1), r.2)) r) : Ex (P_G L xs) (RUN L xs d) (sm_lk P_t455) 3 0 [some (.ref 67), some (.int x1), none] [] h res := by
  unfold F_455_0 at hf
  refine Ex.seg 3 (pc' := 5) (lc' := [some (.ref 67), some (.int x1), none]) (st' := [.int x1, .ref 121]) (h' := h) (sg1 rfl rfl (sg1 rfl rfl (sg1 rfl rfl rfl))) ?_
  obtain ⟨v12, e_v12, hf⟩ := bnd hf
  refine Ex.iald e_v12 rfl rfl ?_
  refine Ex.ifc rfl rfl (fun (c0 : ¬ (v12 = 0)) => ?_) (fun (c0 : ¬ ¬ (v12 = 0)) => ?_)
  · rw [if_neg c0] at hf
    refine Ex.seg 3 (pc' := 43) (lc' := [some (.ref 67), some (.int x1), none]) (st' := [.int x1, .ref 121]) (h' := h) (sg1 rfl rfl (sg1 rfl rfl (sg1 rfl rfl rfl))) ?_
    obtain ⟨v13, e_v13, hf⟩ := bnd hf
    refine Ex.iald e_v13 rfl rfl ?_
    refine Ex.seg 1 (pc' := 45) (lc' := [some (.ref 67), some (.int x1), none]) (st' := [.int 1, .int v13]) (h' := h) (sg1 rfl rfl rfl) ?_
    refine Ex.icmp rfl rfl (fun (c0 : ¬ (v13 = 1)) => ?_) (fun (c0 : ¬ ¬ (v13 = 1)) => ?_)
    · rw [if_neg c0] at hf
      refine Ex.seg 3 (pc' := 182) (lc' := [some (.ref 67), some (.int x1), none]) (st' := [.int x1, .ref 122]) (h' := h) (sg1 rfl rfl (sg1 rfl rfl (sg1 rfl rfl rfl))) ?_
      obtain ⟨v14, e_v14, hf⟩ := bnd hf
      refine Ex.iald e_v14 rfl rfl ?_
      refine Ex.seg 4 (pc' := 189) (lc' := [some (.ref 67), some (.int x1), some (.int v14)]) (st' := [.int x1, .ref 124]) (h' := h) (sg1 rfl rfl (sg1 rfl rfl (sg1 rfl rfl (sg1 rfl rfl rfl)))) ?_
      obtain ⟨v15, e_v15, hf⟩ := bnd hf
      refine Ex.iald e_v15 rfl rfl ?_
      refine Ex.seg 3 (pc' := 193) (lc' := [some (.ref 67), some (.int x1), some (.int v14)]) (st' := [.int (2 * v14), .int v15]) (h' := h) (sg1 rfl rfl (sg1 rfl rfl (sg1 rfl rfl rfl))) ?_
      refine Ex.icmp rfl rfl (fun (c0 : ¬ (v15 = (2 * v14))) => ?_) (fun (c0 : ¬ ¬ (v15 = (2 * v14))) => ?_)
      · rw [if_neg c0] at hf
        exact Ex.weak (sm_le_s (sm_le_s (sm_le_s sm_le_nil))) (B_455_222 hd  hf hs)
      · rw [if_pos (Classical.not_not.mp c0)] at hf
        refine Ex.seg 3 (pc' := 201) (lc' := [some (.ref 67), some (.int x1), some (.int v14)]) (st' := [.int x1, .ref 121]) (h' := h) (sg1 rfl rfl (sg1 rfl rfl (sg1 rfl rfl rfl))) ?_
        obtain ⟨v16, e_v16, hf⟩ := bnd hf
        refine Ex.iald e_v16 rfl rfl ?_
        refine Ex.seg 1 (pc' := 203) (lc' := [some (.ref 67), some (.int x1), some (.int v14)]) (st' := [.int 2, .int v16]) (h' := h) (sg1 rfl rfl rfl) ?_
        refine Ex.icmp rfl rfl (fun (c0 : ¬ (v16 = 2)) => ?_) (fun (c0 : ¬ ¬ (v16 = 2)) => ?_)
        · rw [if_neg c0] at hf
          exact Ex.weak (sm_le_s (sm_le_s (sm_le_s sm_le_nil))) (B_455_222 hd  hf hs)
        · rw [if_pos (Classical.not_not.mp c0)] at hf
          refine Ex.seg 1 (pc' := 207) (lc' := [some (.ref 67), some (.int x1), some (.int v14)]) (st' := [.ref 67]) (h' := h) (sg1 rfl rfl rfl) ?_
          obtain ⟨q17, e_q17, hf⟩ := bnd hf
          refine Ex.callV (a := 67) (As := []) (r := []) (v := some (.int q17.1)) (h' := q17.2) rfl rfl (by decide) rfl (Nat.le_of_ble_eq_true rfl) rfl (E_427 (Nat.le_trans (by decide) hd) e_q17) rfl ?_
          refine Ex.ifc rfl rfl (fun (c0 : ¬ (q17.1 = 0)) => ?_) (fun (c0 : ¬ ¬ (q17.1 = 0)) => ?_)
          · rw [if_neg c0] at hf
            refine Ex.seg 4 (pc' := 221) (lc' := [some (.ref 67), some (.int x1), some (.int v14)]) (st' := [.int 3, .int x1, .ref 121]) (h' := q17.2) (sg1 rfl rfl (sg1 rfl rfl (sg1 rfl rfl (sg1 rfl rfl rfl)))) ?_
            obtain ⟨h18, e_h18, hf⟩ := bnd hf
            refine Ex.iast e_h18 rfl rfl ?_
            exact Ex.weak (sm_le_s (sm_le_s (sm_le_s sm_le_nil))) (B_455_222 hd  hf hs)
          · rw [if_pos (Classical.not_not.mp c0)] at hf
            refine Ex.seg 1 (pc' := 214) (lc' := [some (.ref 67), some (.int x1), some (.int v14)]) (st' := [.int 0]) (h' := q17.2) (sg1 rfl rfl rfl) ?_
            obtain rfl := Option.some.inj hf
            exact Ex.iret rfl rfl (fun _ => by decide) hs
    · rw [if_pos (Classical.not_not.mp c0)] at hf
      refine Ex.seg 6 (pc' := 56) (lc' := [some (.ref 67), some (.int x1), none]) (st' := [.int x1, .ref 124, .ref 67, .int x1, .ref 67]) (h' := h) (sg1 rfl rfl (sg1 rfl rfl (sg1 rfl rfl (sg1 rfl rfl (sg1 rfl rfl (sg1 rfl rfl rfl)))))) ?_
      obtain ⟨v19, e_v19, hf⟩ := bnd hf
      refine Ex.iald e_v19 rfl rfl ?_
      refine Ex.seg 2 (pc' := 59) (lc' := [some (.ref 67), some (.int x1), none]) (st' := [.int (v19 - 1), .ref 67, .int x1, .ref 67]) (h' := h) (sg1 rfl rfl (sg1 rfl rfl rfl)) ?_
      obtain ⟨q20, e_q20, hf⟩ := bnd hf
      refine Ex.callV (a := 67) (As := [.int (v19 - 1)]) (r := [.int x1, .ref 67]) (v := some (.int q20.1)) (h' := q20.2) rfl rfl (by decide) rfl (Nat.le_of_ble_eq_true rfl) rfl (E_449 (Nat.le_trans (by decide) hd) e_q20) rfl ?_
      obtain ⟨q21, e_q21, hf⟩ := bnd hf
      refine Ex.callV (a := 67) (As := [.int x1, .int q20.1]) (r := []) (v := some (.int q21.1)) (h' := q21.2) rfl rfl (by decide) rfl (Nat.le_of_ble_eq_true rfl) rfl (E_452 (Nat.le_trans (by decide) hd) e_q21) rfl ?_
      refine Ex.ifc rfl rfl (fun (c0 : ¬ (q21.1 = 0)) => ?_) (fun (c0 : ¬ ¬ (q21.1 = 0)) => ?_)
      · rw [if_neg c0] at hf
        exact Ex.weak (sm_le_n (sm_le_n (sm_le_s sm_le_nil))) (B_455_75 hd  hf hs)
      · rw [if_pos (Classical.not_not.mp c0)] at hf
        refine Ex.seg 1 (pc' := 69) (lc' := [some (.ref 67), some (.int x1), none]) (st' := [.ref 67]) (h' := q21.2) (sg1 rfl rfl rfl) ?_
        obtain ⟨q22, e_q22, hf⟩ := bnd hf
        refine Ex.callV (a := 67) (As := []) (r := []) (v := some (.int q22.1)) (h' := q22.2) rfl rfl (by decide) rfl (Nat.le_of_ble_eq_true rfl) rfl (E_427 (Nat.le_trans (by decide) hd) e_q22) rfl ?_
        refine Ex.ifc rfl rfl (fun (c0 : ¬ (q22.1 = 0)) => ?_) (fun (c0 : ¬ ¬ (q22.1 = 0)) => ?_)
        · rw [if_neg c0] at hf
          refine Ex.seg 1 (pc' := 78) (lc' := [some (.ref 67), some (.int x1), none]) (st' := [.ref 67]) (h' := q22.2) (sg1 rfl rfl rfl) ?_
          obtain ⟨q23, e_q23, hf⟩ := bnd hf
          refine Ex.callV (a := 67) (As := []) (r := []) (v := some (.int q23.1)) (h' := q23.2) rfl rfl (by decide) rfl (Nat.le_of_ble_eq_true rfl) rfl (E_418 (Nat.le_trans (by decide) hd) e_q23) rfl ?_
          refine Ex.ifc rfl rfl (fun (c0 : ¬ (q23.1 = 0)) => ?_) (fun (c0 : ¬ ¬ (q23.1 = 0)) => ?_)
          · rw [if_neg c0] at hf
            refine Ex.seg 3 (pc' := 91) (lc' := [some (.ref 67), some (.int x1), none]) (st' := [.int 4, .int (q23.2.1 67 80)]) (h' := q23.2) (sg1 rfl rfl (sg1 rfl rfl (sg1 rfl rfl rfl))) ?_
            refine Ex.icmp rfl rfl (fun (c0 : (q23.2.1 67 80) = 4) => ?_) (fun (c0 : ¬ ((q23.2.1 67 80) = 4)) => ?_)
            · rw [if_pos c0] at hf
              refine Ex.seg 1 (pc' := 101) (lc' := [some (.ref 67), some (.int x1), none]) (st' := [.ref 67]) (h' := q23.2) (sg1 rfl rfl rfl) ?_
              obtain ⟨q24, e_q24, hf⟩ := bnd hf
              refine Ex.callV (a := 67) (As := []) (r := []) (v := none) (h' := q24) rfl rfl (by decide) rfl (Nat.le_of_ble_eq_true rfl) rfl (E_420 (Nat.le_trans (by decide) hd) e_q24) rfl ?_
              refine Ex.seg 6 (pc' := 114) (lc' := [some (.ref 67), some (.int x1), none]) (st' := []) (h' := (sm_wI q24 67 86 ((q24.1 67 86) - 1))) (sg1 rfl rfl (sg1 rfl rfl (sg1 rfl rfl (sg1 rfl rfl (sg1 rfl rfl (sg1 rfl rfl rfl)))))) ?_
              obtain ⟨h25, e_h25, hf⟩ := bnd hf
              rw [Option.some.inj e_h25]
              refine Ex.seg 3 (pc' := 119) (lc' := [some (.ref 67), some (.int x1), none]) (st' := [.int x1, .ref 122]) (h' := h25) (sg1 rfl rfl (sg1 rfl rfl (sg1 rfl rfl rfl))) ?_
              obtain ⟨v26, e_v26, hf⟩ := bnd hf
              refine Ex.iald e_v26 rfl rfl ?_
              refine Ex.seg 3 (pc' := 123) (lc' := [some (.ref 67), some (.int x1), some (.int (v26 - 1))]) (st' := []) (h' := h25) (sg1 rfl rfl (sg1 rfl rfl (sg1 rfl rfl rfl))) ?_
              obtain ⟨v27, e_v27, hf⟩ := bnd hf
              rw [Option.some.inj e_v27]
              exact Ex.weak (sm_le_s (sm_le_s (sm_le_s sm_le_nil))) (B_455_123 hd  hf hs)
            · rw [if_neg c0] at hf
              refine Ex.seg 2 (pc' := 96) (lc' := [some (.ref 67), some (.int x1), none]) (st' := [.int x1, .ref 67]) (h' := q23.2) (sg1 rfl rfl (sg1 rfl rfl rfl)) ?_
              obtain ⟨q28, e_q28, hf⟩ := bnd hf
              refine Ex.callV (a := 67) (As := [.int x1]) (r := []) (v := some (.int q28.1)) (h' := q28.2) rfl rfl (by decide) rfl (Nat.le_of_ble_eq_true rfl) rfl (E_456 (Nat.le_trans (by decide) hd) e_q28) rfl ?_
              rcases Classical.em (q28.1 = 0 ∨ q28.1 = 1) with c0 | c0
              · rw [if_pos c0] at hf
                obtain rfl := Option.some.inj hf
                exact Ex.iret rfl rfl (fun _ => c0) hs
              · rw [if_neg c0] at hf
                cases hf
          · rw [if_pos (Classical.not_not.mp c0)] at hf
            refine Ex.seg 1 (pc' := 85) (lc' := [some (.ref 67), some (.int x1), none]) (st' := [.int 0]) (h' := q23.2) (sg1 rfl rfl rfl) ?_
            obtain rfl := Option.some.inj hf
            exact Ex.iret rfl rfl (fun _ => by decide) hs
        · rw [if_pos (Classical.not_not.mp c0)] at hf
          exact Ex.weak (sm_le_n (sm_le_n (sm_le_s sm_le_nil))) (B_455_75 hd  hf hs)
  · rw [if_pos (Classical.not_not.mp c0)] at hf
    refine Ex.seg 1 (pc' := 10) (lc' := [some (.ref 67), some (.int x1), none]) (st' := [.ref 67]) (h' := h) (sg1 rfl rfl rfl) ?_
    obtain ⟨q29, e_q29, hf⟩ := bnd hf
    refine Ex.callV (a := 67) (As := []) (r := []) (v := some (.int q29.1)) (h' := q29.2) rfl rfl (by decide) rfl (Nat.le_of_ble_eq_true rfl) rfl (E_426 (Nat.le_trans (by decide) hd) e_q29) rfl ?_
    refine Ex.ifc rfl rfl (fun (c0 : ¬ (q29.1 = 0)) => ?_) (fun (c0 : ¬ ¬ (q29.1 = 0)) => ?_)
    · rw [if_neg c0] at hf
      refine Ex.seg 4 (pc' := 24) (lc' := [some (.ref 67), some (.int x1), none]) (st' := [.int 0, .int x1, .ref 122]) (h' := q29.2) (sg1 rfl rfl (sg1 rfl rfl (sg1 rfl rfl (sg1 rfl rfl rfl)))) ?_
      obtain ⟨h30, e_h30, hf⟩ := bnd hf
      refine Ex.iast e_h30 rfl rfl ?_
      refine Ex.seg 4 (pc' := 31) (lc' := [some (.ref 67), some (.int x1), none]) (st' := [.int 1, .int x1, .ref 121]) (h' := h30) (sg1 rfl rfl (sg1 rfl rfl (sg1 rfl rfl (sg1 rfl rfl rfl)))) ?_
      obtain ⟨h31, e_h31, hf⟩ := bnd hf
      refine Ex.iast e_h31 rfl rfl ?_
      refine Ex.seg 2 (pc' := 34) (lc' := [some (.ref 67), some (.int x1), none]) (st' := [.int x1, .ref 67]) (h' := h31) (sg1 rfl rfl (sg1 rfl rfl rfl)) ?_
      obtain ⟨q32, e_q32, hf⟩ := bnd hf
      refine Ex.callV (a := 67) (As := [.int x1]) (r := []) (v := some (.int q32.1)) (h' := q32.2) rfl rfl (by decide) rfl (Nat.le_of_ble_eq_true rfl) rfl (E_456 (Nat.le_trans (by decide) hd) e_q32) rfl ?_
      rcases Classical.em (q32.1 = 0 ∨ q32.1 = 1) with c0 | c0
      · rw [if_pos c0] at hf
        obtain rfl := Option.some.inj hf
        exact Ex.iret rfl rfl (fun _ => c0) hs
      · rw [if_neg c0] at hf
        cases hf
    · rw [if_pos (Classical.not_not.mp c0)] at hf
      refine Ex.seg 1 (pc' := 17) (lc' := [some (.ref 67), some (.int x1), none]) (st' := [.int 0]) (h' := q29.2) (sg1 rfl rfl rfl) ?_
      obtain rfl := Option.some.inj hf
      exact Ex.iret rfl rfl (fun _ => by decide) hs
theorem E_455 {L : Nat} {xs : Nat → Int32} {d : Nat} (hd : 14 ≤ d) {x1 : Int32} {h : sm_H} {r : Int32 × sm_H} (hf : F_455 x1 h = some r) : RUN L xs d 455 [.ref 67, .int x1] h (some (.int r.1), r.2) := by
  obtain ⟨d, rfl⟩ : ∃ e, d = e + 1 := ⟨d - 1, by omega⟩
  exact ⟨Nat.le_of_ble_eq_true rfl, B_455_0 (by omega) hf rfl⟩
theorem B_451_124 {L : Nat} {xs : Nat → Int32} {d : Nat} (hd : 14 ≤ d) {res : Option Value × sm_H} {z0 : Int32}  {h : sm_H} {r : (Int32 × sm_H)} (hf : F_451_124 z0 h = some r) (hs : (fun (r : Int32 × sm_H) => res = (some (.int r.1), r.2)) r) : Ex (P_G L xs) (RUN L xs d) (sm_lk P_t451) 3 124 [none, none, none] [.int z0] h res := by
  unfold F_451_124 at hf
  rcases Classical.em (z0 = 0 ∨ z0 = 1) with c0 | c0
  · rw [if_pos c0] at hf
    obtain rfl := Option.some.inj hf
    exact Ex.iret rfl rfl (fun _ => c0) hs
  · rw [if_neg c0] at hf
    cases hf
theorem B_451_83 {L : Nat} {xs : Nat → Int32} {d : Nat} (hd : 14 ≤ d) {res : Option Value × sm_H} {z0 : Int32}  {h : sm_H} {r : (Int32 × sm_H)} (hf : F_451_83 z0 h = some r) (hs : (fun (r : Int32 × sm_H) => res = (some (.int r.1), r.2)) r) : Ex (P_G L xs) (RUN L xs d) (sm_lk P_t451) 3 83 [none, none, none] [.int z0] h res := by
  unfold F_451_83 at hf
  rcases Classical.em (z0 = 0 ∨ z0 = 1) with c0 | c0
  · rw [if_pos c0] at hf
    obtain rfl := Option.some.inj hf
    exact Ex.iret rfl rfl (fun _ => c0) hs
  · rw [if_neg c0] at hf
    cases hf
theorem B_451_43 {L : Nat} {xs : Nat → Int32} {d : Nat} (hd : 14 ≤ d) {res : Option Value × sm_H} {z0 : Int32}  {h : sm_H} {r : (Int32 × sm_H)} (hf : F_451_43 z0 h = some r) (hs : (fun (r : Int32 × sm_H) => res = (some (.int r.1), r.2)) r) : Ex (P_G L xs) (RUN L xs d) (sm_lk P_t451) 3 43 [none, none, none] [.int z0] h res := by
  unfold F_451_43 at hf
  rcases Classical.em (z0 = 0 ∨ z0 = 1) with c0 | c0
  · rw [if_pos c0] at hf
    obtain rfl := Option.some.inj hf
    exact Ex.iret rfl rfl (fun _ => c0) hs
  · rw [if_neg c0] at hf
    cases hf
theorem B_451_0 {L : Nat} {xs : Nat → Int32} {d : Nat} (hd : 14 ≤ d) {res : Option Value × sm_H}   {h : sm_H} {r : (Int32 × sm_H)} (hf : F_451_0  h = some r) (hs : (fun (r : Int32 × sm_H) => res = (some (.int r.1), r.2)) r) : Ex (P_G L xs) (RUN L xs d) (sm_lk P_t451) 3 0 [some (.ref 67), none, none] [] h res := by
  unfold F_451_0 at hf
  refine Ex.seg 5 (pc' := 7) (lc' := [some (.ref 67), some (.int ((h.1 67 102) - 1)), none]) (st' := []) (h' := h) (sg1 rfl rfl (sg1 rfl rfl (sg1 rfl rfl (sg1 rfl rfl (sg1 rfl rfl rfl))))) ?_
  obtain ⟨v1, e_v1, hf⟩ := bnd hf
  rw [Option.some.inj e_v1]
  refine Ex.seg 3 (pc' := 12) (lc' := [some (.ref 67), some (.int v1), none]) (st' := [.int v1, .ref 119]) (h' := h) (sg1 rfl rfl (sg1 rfl rfl (sg1 rfl rfl rfl))) ?_
  obtain ⟨v2, e_v2, hf⟩ := bnd hf
  refine Ex.iald e_v2 rfl rfl ?_
  obtain ⟨q3, e_q3, hf⟩ := bnd hf
  refine Ex.callS (As := [.int v2]) (r := []) (v := some (.int q3.1)) (h' := q3.2) rfl rfl rfl rfl (Nat.le_of_ble_eq_true rfl) (E_442 (Nat.le_trans (by decide) hd) e_q3) rfl ?_
  refine Ex.seg 3 (pc' := 19) (lc' := [some (.ref 67), some (.int v1), some (.int q3.1)]) (st' := [.int (-1), .int q3.1]) (h' := q3.2) (sg1 rfl rfl (sg1 rfl rfl (sg1 rfl rfl rfl))) ?_
  refine Ex.icmp rfl rfl (fun (c0 : q3.1 = (-1)) => ?_) (fun (c0 : ¬ (q3.1 = (-1))) => ?_)
  · rw [if_pos c0] at hf
    refine Ex.seg 3 (pc' := 49) (lc' := [some (.ref 67), some (.int v1), some (.int q3.1)]) (st' := [.int v1, .ref 119]) (h' := q3.2) (sg1 rfl rfl (sg1 rfl rfl (sg1 rfl rfl rfl))) ?_
    obtain ⟨v4, e_v4, hf⟩ := bnd hf
    refine Ex.iald e_v4 rfl rfl ?_
    refine Ex.seg 1 (pc' := 52) (lc' := [some (.ref 67), some (.int v1), some (.int q3.1)]) (st' := [.int 18, .int v4]) (h' := q3.2) (sg1 rfl rfl rfl) ?_
    refine Ex.icmp rfl rfl (fun (c0 : ¬ (v4 = 18)) => ?_) (fun (c0 : ¬ ¬ (v4 = 18)) => ?_)
    · rw [if_neg c0] at hf
      refine Ex.seg 3 (pc' := 89) (lc' := [some (.ref 67), some (.int v1), some (.int q3.1)]) (st' := [.int v1, .ref 119]) (h' := q3.2) (sg1 rfl rfl (sg1 rfl rfl (sg1 rfl rfl rfl))) ?_
      obtain ⟨v5, e_v5, hf⟩ := bnd hf
      refine Ex.iald e_v5 rfl rfl ?_
      refine Ex.seg 1 (pc' := 91) (lc' := [some (.ref 67), some (.int v1), some (.int q3.1)]) (st' := [.int 3, .int v5]) (h' := q3.2) (sg1 rfl rfl rfl) ?_
      refine Ex.icmp rfl rfl (fun (c0 : ¬ (v5 = 3)) => ?_) (fun (c0 : ¬ ¬ (v5 = 3)) => ?_)
      · rw [if_neg c0] at hf
        refine Ex.seg 3 (pc' := 105) (lc' := [some (.ref 67), some (.int v1), some (.int q3.1)]) (st' := [.int v1, .ref 119]) (h' := q3.2) (sg1 rfl rfl (sg1 rfl rfl (sg1 rfl rfl rfl))) ?_
        obtain ⟨v6, e_v6, hf⟩ := bnd hf
        refine Ex.iald e_v6 rfl rfl ?_
        refine Ex.seg 1 (pc' := 108) (lc' := [some (.ref 67), some (.int v1), some (.int q3.1)]) (st' := [.int 6, .int v6]) (h' := q3.2) (sg1 rfl rfl rfl) ?_
        refine Ex.icmp rfl rfl (fun (c0 : ¬ (v6 = 6)) => ?_) (fun (c0 : ¬ ¬ (v6 = 6)) => ?_)
        · rw [if_neg c0] at hf
          refine Ex.seg 2 (pc' := 121) (lc' := [some (.ref 67), some (.int v1), some (.int q3.1)]) (st' := [.int v1, .ref 67]) (h' := q3.2) (sg1 rfl rfl (sg1 rfl rfl rfl)) ?_
          obtain ⟨q7, e_q7, hf⟩ := bnd hf
          refine Ex.callV (a := 67) (As := [.int v1]) (r := []) (v := some (.int q7.1)) (h' := q7.2) rfl rfl (by decide) rfl (Nat.le_of_ble_eq_true rfl) rfl (E_455 (Nat.le_trans (by decide) hd) e_q7) rfl ?_
          exact Ex.weak (sm_le_n (sm_le_n (sm_le_n sm_le_nil))) (B_451_124 hd  hf hs)
        · rw [if_pos (Classical.not_not.mp c0)] at hf
          refine Ex.seg 2 (pc' := 113) (lc' := [some (.ref 67), some (.int v1), some (.int q3.1)]) (st' := [.int v1, .ref 67]) (h' := q3.2) (sg1 rfl rfl (sg1 rfl rfl rfl)) ?_
          obtain ⟨q8, e_q8, hf⟩ := bnd hf
          refine Ex.callV (a := 67) (As := [.int v1]) (r := []) (v := some (.int q8.1)) (h' := q8.2) rfl rfl (by decide) rfl (Nat.le_of_ble_eq_true rfl) rfl (E_454 (Nat.le_trans (by decide) hd) e_q8) rfl ?_
          refine Ex.seg 1 (pc' := 124) (lc' := [some (.ref 67), some (.int v1), some (.int q3.1)]) (st' := [.int q8.1]) (h' := q8.2) (sg1 rfl rfl rfl) ?_
          exact Ex.weak (sm_le_n (sm_le_n (sm_le_n sm_le_nil))) (B_451_124 hd  hf hs)
      · rw [if_pos (Classical.not_not.mp c0)] at hf
        refine Ex.seg 2 (pc' := 96) (lc' := [some (.ref 67), some (.int v1), some (.int q3.1)]) (st' := [.int v1, .ref 67]) (h' := q3.2) (sg1 rfl rfl (sg1 rfl rfl rfl)) ?_
        obtain ⟨q9, e_q9, hf⟩ := bnd hf
        refine Ex.callV (a := 67) (As := [.int v1]) (r := []) (v := some (.int q9.1)) (h' := q9.2) rfl rfl (by decide) rfl (Nat.le_of_ble_eq_true rfl) rfl (E_453 (Nat.le_trans (by decide) hd) e_q9) rfl ?_
        rcases Classical.em (q9.1 = 0 ∨ q9.1 = 1) with c0 | c0
        · rw [if_pos c0] at hf
          obtain rfl := Option.some.inj hf
          exact Ex.iret rfl rfl (fun _ => c0) hs
        · rw [if_neg c0] at hf
          cases hf
    · rw [if_pos (Classical.not_not.mp c0)] at hf
      refine Ex.seg 1 (pc' := 56) (lc' := [some (.ref 67), some (.int v1), some (.int q3.1)]) (st' := [.ref 67]) (h' := q3.2) (sg1 rfl rfl rfl) ?_
      obtain ⟨q10, e_q10, hf⟩ := bnd hf
      refine Ex.callV (a := 67) (As := []) (r := []) (v := some (.int q10.1)) (h' := q10.2) rfl rfl (by decide) rfl (Nat.le_of_ble_eq_true rfl) rfl (E_418 (Nat.le_trans (by decide) hd) e_q10) rfl ?_
      refine Ex.ifc rfl rfl (fun (c0 : ¬ (q10.1 = 0)) => ?_) (fun (c0 : ¬ ¬ (q10.1 = 0)) => ?_)
      · rw [if_neg c0] at hf
        refine Ex.seg 3 (pc' := 69) (lc' := [some (.ref 67), some (.int v1), some (.int q3.1)]) (st' := [.int 4, .int (q10.2.1 67 80)]) (h' := q10.2) (sg1 rfl rfl (sg1 rfl rfl (sg1 rfl rfl rfl))) ?_
        refine Ex.icmp rfl rfl (fun (c0 : ¬ ((q10.2.1 67 80) = 4)) => ?_) (fun (c0 : ¬ ¬ ((q10.2.1 67 80) = 4)) => ?_)
        · rw [if_neg c0] at hf
          refine Ex.seg 1 (pc' := 80) (lc' := [some (.ref 67), some (.int v1), some (.int q3.1)]) (st' := [.ref 67]) (h' := q10.2) (sg1 rfl rfl rfl) ?_
          obtain ⟨q11, e_q11, hf⟩ := bnd hf
          refine Ex.callV (a := 67) (As := []) (r := []) (v := some (.int q11.1)) (h' := q11.2) rfl rfl (by decide) rfl (Nat.le_of_ble_eq_true rfl) rfl (E_448 (Nat.le_trans (by decide) hd) e_q11) rfl ?_
          exact Ex.weak (sm_le_n (sm_le_n (sm_le_n sm_le_nil))) (B_451_83 hd  hf hs)
        · rw [if_pos (Classical.not_not.mp c0)] at hf
          refine Ex.seg 1 (pc' := 73) (lc' := [some (.ref 67), some (.int v1), some (.int q3.1)]) (st' := [.ref 67]) (h' := q10.2) (sg1 rfl rfl rfl) ?_
          obtain ⟨q12, e_q12, hf⟩ := bnd hf
          refine Ex.callV (a := 67) (As := []) (r := []) (v := some (.int q12.1)) (h' := q12.2) rfl rfl (by decide) rfl (Nat.le_of_ble_eq_true rfl) rfl (E_457 (Nat.le_trans (by decide) hd) e_q12) rfl ?_
          refine Ex.seg 1 (pc' := 83) (lc' := [some (.ref 67), some (.int v1), some (.int q3.1)]) (st' := [.int q12.1]) (h' := q12.2) (sg1 rfl rfl rfl) ?_
          exact Ex.weak (sm_le_n (sm_le_n (sm_le_n sm_le_nil))) (B_451_83 hd  hf hs)
      · rw [if_pos (Classical.not_not.mp c0)] at hf
        refine Ex.seg 1 (pc' := 63) (lc' := [some (.ref 67), some (.int v1), some (.int q3.1)]) (st' := [.int 0]) (h' := q10.2) (sg1 rfl rfl rfl) ?_
        obtain rfl := Option.some.inj hf
        exact Ex.iret rfl rfl (fun _ => by decide) hs
  · rw [if_neg c0] at hf
    refine Ex.seg 3 (pc' := 27) (lc' := [some (.ref 67), some (.int v1), some (.int q3.1)]) (st' := [.int v1, .ref 124]) (h' := q3.2) (sg1 rfl rfl (sg1 rfl rfl (sg1 rfl rfl rfl))) ?_
    obtain ⟨v13, e_v13, hf⟩ := bnd hf
    refine Ex.iald e_v13 rfl rfl ?_
    refine Ex.seg 1 (pc' := 29) (lc' := [some (.ref 67), some (.int v1), some (.int q3.1)]) (st' := [.int q3.1, .int v13]) (h' := q3.2) (sg1 rfl rfl rfl) ?_
    refine Ex.icmp rfl rfl (fun (c0 : q3.1 ≤ v13) => ?_) (fun (c0 : ¬ (q3.1 ≤ v13)) => ?_)
    · rw [if_pos c0] at hf
      refine Ex.seg 1 (pc' := 40) (lc' := [some (.ref 67), some (.int v1), some (.int q3.1)]) (st' := [.ref 67]) (h' := q3.2) (sg1 rfl rfl rfl) ?_
      obtain ⟨q14, e_q14, hf⟩ := bnd hf
      refine Ex.callV (a := 67) (As := []) (r := []) (v := some (.int q14.1)) (h' := q14.2) rfl rfl (by decide) rfl (Nat.le_of_ble_eq_true rfl) rfl (E_457 (Nat.le_trans (by decide) hd) e_q14) rfl ?_
      exact Ex.weak (sm_le_n (sm_le_n (sm_le_n sm_le_nil))) (B_451_43 hd  hf hs)
    · rw [if_neg c0] at hf
      refine Ex.seg 1 (pc' := 33) (lc' := [some (.ref 67), some (.int v1), some (.int q3.1)]) (st' := [.ref 67]) (h' := q3.2) (sg1 rfl rfl rfl) ?_
      obtain ⟨q15, e_q15, hf⟩ := bnd hf
      refine Ex.callV (a := 67) (As := []) (r := []) (v := some (.int q15.1)) (h' := q15.2) rfl rfl (by decide) rfl (Nat.le_of_ble_eq_true rfl) rfl (E_448 (Nat.le_trans (by decide) hd) e_q15) rfl ?_
      refine Ex.seg 1 (pc' := 43) (lc' := [some (.ref 67), some (.int v1), some (.int q3.1)]) (st' := [.int q15.1]) (h' := q15.2) (sg1 rfl rfl rfl) ?_
      exact Ex.weak (sm_le_n (sm_le_n (sm_le_n sm_le_nil))) (B_451_43 hd  hf hs)
theorem E_451 {L : Nat} {xs : Nat → Int32} {d : Nat} (hd : 15 ≤ d)  {h : sm_H} {r : Int32 × sm_H} (hf : F_451  h = some r) : RUN L xs d 451 [.ref 67] h (some (.int r.1), r.2) := by
  obtain ⟨d, rfl⟩ : ∃ e, d = e + 1 := ⟨d - 1, by omega⟩
  exact ⟨Nat.le_of_ble_eq_true rfl, B_451_0 (by omega) hf rfl⟩
theorem B_465_403 {L : Nat} {xs : Nat → Int32} {d : Nat} (hd : 15 ≤ d) {res : Option Value × sm_H} {S1 : (Int32 × Int32 × Int32 × sm_H) → Prop} (hS1 : ∀ s, S1 s → Ex (P_G L xs) (RUN L xs d) (sm_lk P_t465) 3 386 [some (.ref 67), some (.int s.1), none, none, some (.int s.2.1), none, none, none, some (.int s.2.2.1)] [] s.2.2.2 res) {y1 : Int32} {y4 : Int32} {y8 : Int32}  {h : sm_H} {r : ((Int32 × Int32 × Int32 × sm_H) ⊕ (Int32 × sm_H))} (hf : F_465_403 y1 y4 y8 h = some r) (hs : (Sum.elim S1 (fun (r : Int32 × sm_H) => res = (some (.int r.1), r.2))) r) : Ex (P_G L xs) (RUN L xs d) (sm_lk P_t465) 3 403 [some (.ref 67), some (.int y1), none, none, some (.int y4), none, none, none, some (.int y8)] [] h res := by
  unfold F_465_403 at hf
  refine Ex.seg 1 (pc' := 404) (lc' := [some (.ref 67), some (.int y1), none, none, some (.int y4), none, none, none, some (.int y8)]) (st' := [.ref 67]) (h' := h) (sg1 rfl rfl rfl) ?_
  obtain ⟨q1, e_q1, hf⟩ := bnd hf
  refine Ex.callV (a := 67) (As := []) (r := []) (v := some (.int q1.1)) (h' := q1.2) rfl rfl (by decide) rfl (Nat.le_of_ble_eq_true rfl) rfl (E_451 (Nat.le_trans (by decide) hd) e_q1) rfl ?_
  refine Ex.ifc rfl rfl (fun (c0 : ¬ (q1.1 = 0)) => ?_) (fun (c0 : ¬ ¬ (q1.1 = 0)) => ?_)
  · rw [if_neg c0] at hf
    obtain rfl := Option.some.inj hf
    exact Ex.weak (sm_le_s (sm_le_s (sm_le_s (sm_le_s (sm_le_s (sm_le_s (sm_le_s (sm_le_s (sm_le_s sm_le_nil))))))))) (hS1 _ hs)
  · rw [if_pos (Classical.not_not.mp c0)] at hf
    refine Ex.seg 1 (pc' := 411) (lc' := [some (.ref 67), some (.int y1), none, none, some (.int y4), none, none, none, some (.int y8)]) (st' := [.int 0]) (h' := q1.2) (sg1 rfl rfl rfl) ?_
    obtain rfl := Option.some.inj hf
    exact Ex.iret rfl rfl (fun _ => by decide) hs
theorem B_465_386B {L : Nat} {xs : Nat → Int32} {d : Nat} (hd : 15 ≤ d) {res : Option Value × sm_H} {S1 : (Int32 × Int32 × Int32 × sm_H) → Prop} (hS1 : ∀ s, S1 s → Ex (P_G L xs) (RUN L xs d) (sm_lk P_t465) 3 386 [some (.ref 67), some (.int s.1), none, none, some (.int s.2.1), none, none, none, some (.int s.2.2.1)] [] s.2.2.2 res) {s : (Int32 × Int32 × Int32 × sm_H)}  {r : ((Int32 × Int32 × Int32 × sm_H) ⊕ (Int32 × sm_H))} (hf : F_465_386B s = some r) (hs : (Sum.elim S1 (fun (r : Int32 × sm_H) => res = (some (.int r.1), r.2))) r) : Ex (P_G L xs) (RUN L xs d) (sm_lk P_t465) 3 386 [some (.ref 67), some (.int s.1), none, none, some (.int s.2.1), none, none, none, some (.int s.2.2.1)] [] s.2.2.2 res := by
  unfold F_465_386B at hf
  refine Ex.seg 3 (pc' := 391) (lc' := [some (.ref 67), some (.int s.1), none, none, some (.int s.2.1), none, none, none, some (.int s.2.2.1)]) (st' := [.int 1, .int (s.2.2.2.1 67 102)]) (h' := s.2.2.2) (sg1 rfl rfl (sg1 rfl rfl (sg1 rfl rfl rfl))) ?_
  refine Ex.icmp rfl rfl (fun (c0 : 1 < (s.2.2.2.1 67 102)) => ?_) (fun (c0 : ¬ (1 < (s.2.2.2.1 67 102))) => ?_)
  · rw [if_pos c0] at hf
    exact Ex.weak (sm_le_s (sm_le_s (sm_le_s (sm_le_s (sm_le_s (sm_le_s (sm_le_s (sm_le_s (sm_le_s sm_le_nil))))))))) (B_465_403 hd hS1 hf hs)
  · rw [if_neg c0] at hf
    refine Ex.seg 3 (pc' := 399) (lc' := [some (.ref 67), some (.int s.1), none, none, some (.int s.2.1), none, none, none, some (.int s.2.2.1)]) (st' := [.int 0, .ref 124]) (h' := s.2.2.2) (sg1 rfl rfl (sg1 rfl rfl (sg1 rfl rfl rfl))) ?_
    obtain ⟨v2, e_v2, hf⟩ := bnd hf
    refine Ex.iald e_v2 rfl rfl ?_
    refine Ex.ifc rfl rfl (fun (c0 : ¬ (v2 = 0)) => ?_) (fun (c0 : ¬ ¬ (v2 = 0)) => ?_)
    · rw [if_neg c0] at hf
      refine Ex.seg 1 (pc' := 413) (lc' := [some (.ref 67), some (.int s.1), none, none, some (.int s.2.1), none, none, none, some (.int s.2.2.1)]) (st' := [.ref 67]) (h' := s.2.2.2) (sg1 rfl rfl rfl) ?_
      obtain ⟨q3, e_q3, hf⟩ := bnd hf
      refine Ex.callV (a := 67) (As := []) (r := []) (v := some (.int q3.1)) (h' := q3.2) rfl rfl (by decide) rfl (Nat.le_of_ble_eq_true rfl) rfl (E_427 (Nat.le_trans (by decide) hd) e_q3) rfl ?_
      refine Ex.ifc rfl rfl (fun (c0 : ¬ (q3.1 = 0)) => ?_) (fun (c0 : ¬ ¬ (q3.1 = 0)) => ?_)
      · rw [if_neg c0] at hf
        refine Ex.seg 3 (pc' := 426) (lc' := [some (.ref 67), some (.int s.1), none, none, some (.int s.2.1), none, none, none, some (.int s.2.2.1)]) (st' := []) (h' := (sm_wI q3.2 67 106 s.1)) (sg1 rfl rfl (sg1 rfl rfl (sg1 rfl rfl rfl))) ?_
        obtain ⟨h4, e_h4, hf⟩ := bnd hf
        rw [Option.some.inj e_h4]
        refine Ex.seg 4 (pc' := 432) (lc' := [some (.ref 67), some (.int s.1), none, none, some (.int s.2.1), none, none, none, some (.int s.2.2.1)]) (st' := [.int 0, .ref 125, .ref 67]) (h' := h4) (sg1 rfl rfl (sg1 rfl rfl (sg1 rfl rfl (sg1 rfl rfl rfl)))) ?_
        obtain ⟨v5, e_v5, hf⟩ := bnd hf
        refine Ex.iald e_v5 rfl rfl ?_
        refine Ex.seg 1 (pc' := 435) (lc' := [some (.ref 67), some (.int s.1), none, none, some (.int s.2.1), none, none, none, some (.int s.2.2.1)]) (st' := [.int s.2.1, .int v5, .ref 67]) (h' := h4) (sg1 rfl rfl rfl) ?_
        obtain ⟨q6, e_q6, hf⟩ := bnd hf
        refine Ex.callV (a := 67) (As := [.int v5, .int s.2.1]) (r := []) (v := some (.int q6.1)) (h' := q6.2) rfl rfl (by decide) rfl (Nat.le_of_ble_eq_true rfl) rfl (E_433 (Nat.le_trans (by decide) hd) e_q6) rfl ?_
        refine Ex.seg 3 (pc' := 443) (lc' := [some (.ref 67), some (.int s.1), none, none, some (.int s.2.1), none, none, some (.int q6.1), some (.int s.2.2.1)]) (st' := [.int (-1), .int q6.1]) (h' := q6.2) (sg1 rfl rfl (sg1 rfl rfl (sg1 rfl rfl rfl))) ?_
        refine Ex.icmp rfl rfl (fun (c0 : ¬ (q6.1 = (-1))) => ?_) (fun (c0 : ¬ ¬ (q6.1 = (-1))) => ?_)
        · rw [if_neg c0] at hf
          refine Ex.seg 4 (pc' := 456) (lc' := [some (.ref 67), some (.int s.1), none, none, some (.int s.2.1), none, none, some (.int q6.1), some (.int s.2.2.1)]) (st' := [.int q6.1, .int s.2.2.1, .ref 92]) (h' := q6.2) (sg1 rfl rfl (sg1 rfl rfl (sg1 rfl rfl (sg1 rfl rfl rfl)))) ?_
          obtain ⟨h7, e_h7, hf⟩ := bnd hf
          refine Ex.iast e_h7 rfl rfl ?_
          refine Ex.seg 1 (pc' := 458) (lc' := [some (.ref 67), some (.int s.1), none, none, some (.int s.2.1), none, none, some (.int q6.1), some (.int s.2.2.1)]) (st' := [.int 1]) (h' := h7) (sg1 rfl rfl rfl) ?_
          obtain rfl := Option.some.inj hf
          exact Ex.iret rfl rfl (fun _ => by decide) hs
        · rw [if_pos (Classical.not_not.mp c0)] at hf
          refine Ex.seg 1 (pc' := 447) (lc' := [some (.ref 67), some (.int s.1), none, none, some (.int s.2.1), none, none, some (.int q6.1), some (.int s.2.2.1)]) (st' := [.int 0]) (h' := q6.2) (sg1 rfl rfl rfl) ?_
          obtain rfl := Option.some.inj hf
          exact Ex.iret rfl rfl (fun _ => by decide) hs
      · rw [if_pos (Classical.not_not.mp c0)] at hf
        refine Ex.seg 1 (pc' := 420) (lc' := [some (.ref 67), some (.int s.1), none, none, some (.int s.2.1), none, none, none, some (.int s.2.2.1)]) (st' := [.int 0]) (h' := q3.2) (sg1 rfl rfl rfl) ?_
        obtain rfl := Option.some.inj hf
        exact Ex.iret rfl rfl (fun _ => by decide) hs
    · rw [if_pos (Classical.not_not.mp c0)] at hf
      exact Ex.weak (sm_le_s (sm_le_s (sm_le_s (sm_le_s (sm_le_s (sm_le_s (sm_le_s (sm_le_s (sm_le_s sm_le_nil))))))))) (B_465_403 hd hS1 hf hs)
theorem B_465_386 {L : Nat} {xs : Nat → Int32} {d : Nat} (hd : 15 ≤ d) {res : Option Value × sm_H} {y1 : Int32} {y4 : Int32} {y8 : Int32}  {h : sm_H} {r : (Int32 × sm_H)} (hf : F_465_386 y1 y4 y8 h = some r) (hs : (fun (r : Int32 × sm_H) => res = (some (.int r.1), r.2)) r) : Ex (P_G L xs) (RUN L xs d) (sm_lk P_t465) 3 386 [some (.ref 67), some (.int y1), none, none, some (.int y4), none, none, none, some (.int y8)] [] h res := by
  unfold F_465_386 at hf
  exact lp_ok (P := fun (s : (Int32 × Int32 × Int32 × sm_H)) => Ex (P_G L xs) (RUN L xs d) (sm_lk P_t465) 3 386 [some (.ref 67), some (.int s.1), none, none, some (.int s.2.1), none, none, none, some (.int s.2.2.1)] [] s.2.2.2 res) (S := (fun (r : Int32 × sm_H) => res = (some (.int r.1), r.2))) (fun s x hx hsx => by
    intros
    exact B_465_386B hd  (fun _ q => q) hx hsx) 1000000 _ r hf hs
theorem B_465_296 {L : Nat} {xs : Nat → Int32} {d : Nat} (hd : 15 ≤ d) {res : Option Value × sm_H} {y1 : Int32} {y2 : Int64} {y4 : Int32} {y5 : Int32} {z0 : Int32}  {h : sm_H} {r : (Int32 × sm_H)} (hf : F_465_296 y1 y2 y4 y5 z0 h = some r) (hs : (fun (r : Int32 × sm_H) => res = (some (.int r.1), r.2)) r) : Ex (P_G L xs) (RUN L xs d) (sm_lk P_t465) 3 296 [some (.ref 67), some (.int y1), some (.long y2), none, some (.int y4), some (.int y5), none, none, none] [.int z0] h res := by
  unfold F_465_296 at hf
  refine Ex.seg 3 (pc' := 301) (lc' := [some (.ref 67), some (.int y1), some (.long y2), none, some (.int y4), some (.int y5), none, some (.int z0), none]) (st' := [.int (-1), .int z0]) (h' := h) (sg1 rfl rfl (sg1 rfl rfl (sg1 rfl rfl rfl))) ?_
  refine Ex.icmp rfl rfl (fun (c0 : ¬ (z0 = (-1))) => ?_) (fun (c0 : ¬ ¬ (z0 = (-1))) => ?_)
  · rw [if_neg c0] at hf
    refine Ex.seg 2 (pc' := 309) (lc' := [some (.ref 67), some (.int y1), some (.long y2), none, some (.int y4), some (.int y5), none, some (.int z0), none]) (st' := [.int z0, .ref 67]) (h' := h) (sg1 rfl rfl (sg1 rfl rfl rfl)) ?_
    obtain ⟨q8, e_q8, hf⟩ := bnd hf
    refine Ex.callV (a := 67) (As := [.int z0]) (r := []) (v := some (.int q8.1)) (h' := q8.2) rfl rfl (by decide) rfl (Nat.le_of_ble_eq_true rfl) rfl (E_398 (Nat.le_trans (by decide) hd) e_q8) rfl ?_
    refine Ex.seg 3 (pc' := 317) (lc' := [some (.ref 67), some (.int y1), some (.long y2), none, some (.int y4), some (.int y5), none, some (.int z0), some (.int q8.1)]) (st' := [.int (-1), .int q8.1]) (h' := q8.2) (sg1 rfl rfl (sg1 rfl rfl (sg1 rfl rfl rfl))) ?_
    refine Ex.icmp rfl rfl (fun (c0 : ¬ (q8.1 = (-1))) => ?_) (fun (c0 : ¬ ¬ (q8.1 = (-1))) => ?_)
    · rw [if_neg c0] at hf
      refine Ex.seg 5 (pc' := 335) (lc' := [some (.ref 67), some (.int y1), some (.long y2), none, some (.int y4), some (.int y5), none, some (.int z0), some (.int q8.1)]) (st' := [.long 0, .int 0, .int q8.1, .int 29, .ref 67]) (h' := q8.2) (sg1 rfl rfl (sg1 rfl rfl (sg1 rfl rfl (sg1 rfl rfl (sg1 rfl rfl rfl))))) ?_
      obtain ⟨q9, e_q9, hf⟩ := bnd hf
      refine Ex.callV (a := 67) (As := [.int 29, .int q8.1, .int 0, .long 0]) (r := []) (v := some (.int q9.1)) (h' := q9.2) rfl rfl (by decide) rfl (Nat.le_of_ble_eq_true rfl) rfl (E_430 (Nat.le_trans (by decide) hd) e_q9) rfl ?_
      refine Ex.seg 3 (pc' := 343) (lc' := [some (.ref 67), some (.int y1), some (.long y2), none, some (.int y4), some (.int y5), none, some (.int q9.1), some (.int q8.1)]) (st' := [.int (-1), .int q9.1]) (h' := q9.2) (sg1 rfl rfl (sg1 rfl rfl (sg1 rfl rfl rfl))) ?_
      refine Ex.icmp rfl rfl (fun (c0 : ¬ (q9.1 = (-1))) => ?_) (fun (c0 : ¬ ¬ (q9.1 = (-1))) => ?_)
      · rw [if_neg c0] at hf
        refine Ex.seg 4 (pc' := 355) (lc' := [some (.ref 67), some (.int y1), some (.long y2), none, some (.int y4), some (.int y5), none, some (.int q9.1), some (.int q8.1)]) (st' := [.long y2, .int y5, .ref 113]) (h' := q9.2) (sg1 rfl rfl (sg1 rfl rfl (sg1 rfl rfl (sg1 rfl rfl rfl)))) ?_
        obtain ⟨h10, e_h10, hf⟩ := bnd hf
        refine Ex.last e_h10 rfl rfl ?_
        refine Ex.seg 4 (pc' := 364) (lc' := [some (.ref 67), some (.int y1), some (.long y2), none, some (.int y4), some (.int y5), none, some (.int q9.1), some (.int q8.1)]) (st' := [.int q9.1, .int y5, .ref 114]) (h' := h10) (sg1 rfl rfl (sg1 rfl rfl (sg1 rfl rfl (sg1 rfl rfl rfl)))) ?_
        obtain ⟨h11, e_h11, hf⟩ := bnd hf
        refine Ex.iast e_h11 rfl rfl ?_
        refine Ex.seg 6 (pc' := 375) (lc' := [some (.ref 67), some (.int y1), some (.long y2), none, some (.int y4), some (.int y5), none, some (.int q9.1), some (.int q8.1)]) (st' := []) (h' := (sm_wI h11 67 91 ((h11.1 67 91) + 1))) (sg1 rfl rfl (sg1 rfl rfl (sg1 rfl rfl (sg1 rfl rfl (sg1 rfl rfl (sg1 rfl rfl rfl)))))) ?_
        obtain ⟨h12, e_h12, hf⟩ := bnd hf
        rw [Option.some.inj e_h12]
        refine Ex.seg 3 (pc' := 380) (lc' := [some (.ref 67), some (.int y1), some (.long y2), none, some (.int y4), some (.int y5), none, some (.int q9.1), some (.int q8.1)]) (st' := []) (h' := (sm_wI h12 67 102 0)) (sg1 rfl rfl (sg1 rfl rfl (sg1 rfl rfl rfl))) ?_
        obtain ⟨h13, e_h13, hf⟩ := bnd hf
        rw [Option.some.inj e_h13]
        refine Ex.seg 3 (pc' := 383) (lc' := [some (.ref 67), some (.int y1), some (.long y2), none, some (.int y4), some (.int y5), none, some (.int q9.1), some (.int q8.1)]) (st' := [.int y1, .int 0, .ref 67]) (h' := h13) (sg1 rfl rfl (sg1 rfl rfl (sg1 rfl rfl rfl))) ?_
        obtain ⟨q14, e_q14, hf⟩ := bnd hf
        refine Ex.callV (a := 67) (As := [.int 0, .int y1]) (r := []) (v := none) (h' := q14) rfl rfl (by decide) rfl (Nat.le_of_ble_eq_true rfl) rfl (E_445 (Nat.le_trans (by decide) hd) e_q14) rfl ?_
        exact Ex.weak (sm_le_s (sm_le_s (sm_le_n (sm_le_s (sm_le_s (sm_le_n (sm_le_s (sm_le_n (sm_le_s sm_le_nil))))))))) (B_465_386 hd  hf hs)
      · rw [if_pos (Classical.not_not.mp c0)] at hf
        refine Ex.seg 1 (pc' := 347) (lc' := [some (.ref 67), some (.int y1), some (.long y2), none, some (.int y4), some (.int y5), none, some (.int q9.1), some (.int q8.1)]) (st' := [.int 0]) (h' := q9.2) (sg1 rfl rfl rfl) ?_
        obtain rfl := Option.some.inj hf
        exact Ex.iret rfl rfl (fun _ => by decide) hs
    · rw [if_pos (Classical.not_not.mp c0)] at hf
      refine Ex.seg 3 (pc' := 324) (lc' := [some (.ref 67), some (.int y1), some (.long y2), none, some (.int y4), some (.int y5), none, some (.int z0), some (.int q8.1)]) (st' := [.int y1, .int 8, .ref 67]) (h' := q8.2) (sg1 rfl rfl (sg1 rfl rfl (sg1 rfl rfl rfl))) ?_
      obtain ⟨q15, e_q15, hf⟩ := bnd hf
      refine Ex.callV (a := 67) (As := [.int 8, .int y1]) (r := []) (v := some (.int q15.1)) (h' := q15.2) rfl rfl (by decide) rfl (Nat.le_of_ble_eq_true rfl) rfl (E_413 (Nat.le_trans (by decide) hd) e_q15) rfl ?_
      rcases Classical.em (q15.1 = 0 ∨ q15.1 = 1) with c0 | c0
      · rw [if_pos c0] at hf
        obtain rfl := Option.some.inj hf
        exact Ex.iret rfl rfl (fun _ => c0) hs
      · rw [if_neg c0] at hf
        cases hf
  · rw [if_pos (Classical.not_not.mp c0)] at hf
    refine Ex.seg 1 (pc' := 305) (lc' := [some (.ref 67), some (.int y1), some (.long y2), none, some (.int y4), some (.int y5), none, some (.int z0), none]) (st' := [.int 0]) (h' := h) (sg1 rfl rfl rfl) ?_
    obtain rfl := Option.some.inj hf
    exact Ex.iret rfl rfl (fun _ => by decide) hs
theorem B_465_228B {L : Nat} {xs : Nat → Int32} {d : Nat} (hd : 15 ≤ d) {res : Option Value × sm_H} {S1 : (Int32 × Int64 × Int32 × Int32 × Int32 × sm_H) → Prop} (hS1 : ∀ s, S1 s → Ex (P_G L xs) (RUN L xs d) (sm_lk P_t465) 3 228 [some (.ref 67), some (.int s.1), some (.long s.2.1), none, some (.int s.2.2.1), some (.int s.2.2.2.1), some (.int s.2.2.2.2.1), none, none] [] s.2.2.2.2.2 res) {s : (Int32 × Int64 × Int32 × Int32 × Int32 × sm_H)}  {r : ((Int32 × Int64 × Int32 × Int32 × Int32 × sm_H) ⊕ (Int32 × sm_H))} (hf : F_465_228B s = some r) (hs : (Sum.elim S1 (fun (r : Int32 × sm_H) => res = (some (.int r.1), r.2))) r) : Ex (P_G L xs) (RUN L xs d) (sm_lk P_t465) 3 228 [some (.ref 67), some (.int s.1), some (.long s.2.1), none, some (.int s.2.2.1), some (.int s.2.2.2.1), some (.int s.2.2.2.2.1), none, none] [] s.2.2.2.2.2 res := by
  unfold F_465_228B at hf
  refine Ex.seg 1 (pc' := 230) (lc' := [some (.ref 67), some (.int s.1), some (.long s.2.1), none, some (.int s.2.2.1), some (.int s.2.2.2.1), some (.int s.2.2.2.2.1), none, none]) (st' := [.int s.2.2.2.2.1]) (h' := s.2.2.2.2.2) (sg1 rfl rfl rfl) ?_
  refine Ex.ifc rfl rfl (fun (c0 : s.2.2.2.2.1 < 0) => ?_) (fun (c0 : ¬ (s.2.2.2.2.1 < 0)) => ?_)
  · rw [if_pos c0] at hf
    refine Ex.seg 3 (pc' := 268) (lc' := [some (.ref 67), some (.int s.1), some (.long s.2.1), none, some (.int s.2.2.1), some (.int s.2.2.2.1), some (.int s.2.2.2.2.1), none, none]) (st' := []) (h' := (sm_wI s.2.2.2.2.2 67 106 s.1)) (sg1 rfl rfl (sg1 rfl rfl (sg1 rfl rfl rfl))) ?_
    obtain ⟨h16, e_h16, hf⟩ := bnd hf
    rw [Option.some.inj e_h16]
    refine Ex.seg 2 (pc' := 271) (lc' := [some (.ref 67), some (.int s.1), some (.long s.2.1), none, some (.int s.2.2.1), some (.int s.2.2.2.1), some (.int s.2.2.2.2.1), none, none]) (st' := [.int s.2.2.1, .ref 67]) (h' := h16) (sg1 rfl rfl (sg1 rfl rfl rfl)) ?_
    obtain ⟨q17, e_q17, hf⟩ := bnd hf
    refine Ex.callV (a := 67) (As := [.int s.2.2.1]) (r := []) (v := some (.int q17.1)) (h' := q17.2) rfl rfl (by decide) rfl (Nat.le_of_ble_eq_true rfl) rfl (E_428 (Nat.le_trans (by decide) hd) e_q17) rfl ?_
    refine Ex.seg 3 (pc' := 279) (lc' := [some (.ref 67), some (.int s.1), some (.long s.2.1), none, some (.int s.2.2.1), some (.int s.2.2.2.1), some (.int q17.1), none, none]) (st' := [.int (-1), .int q17.1]) (h' := q17.2) (sg1 rfl rfl (sg1 rfl rfl (sg1 rfl rfl rfl))) ?_
    refine Ex.icmp rfl rfl (fun (c0 : ¬ (q17.1 = (-1))) => ?_) (fun (c0 : ¬ ¬ (q17.1 = (-1))) => ?_)
    · rw [if_neg c0] at hf
      refine Ex.seg 5 (pc' := 293) (lc' := [some (.ref 67), some (.int s.1), some (.long s.2.1), none, some (.int s.2.2.1), some (.int s.2.2.2.1), some (.int q17.1), none, none]) (st' := [.long 0, .int q17.1, .int 0, .int 34, .ref 67]) (h' := q17.2) (sg1 rfl rfl (sg1 rfl rfl (sg1 rfl rfl (sg1 rfl rfl (sg1 rfl rfl rfl))))) ?_
      obtain ⟨q18, e_q18, hf⟩ := bnd hf
      refine Ex.callV (a := 67) (As := [.int 34, .int 0, .int q17.1, .long 0]) (r := []) (v := some (.int q18.1)) (h' := q18.2) rfl rfl (by decide) rfl (Nat.le_of_ble_eq_true rfl) rfl (E_430 (Nat.le_trans (by decide) hd) e_q18) rfl ?_
      obtain ⟨r0, hf0, rfl⟩ := Option.map_eq_some_iff.mp hf
      exact Ex.weak (sm_le_s (sm_le_s (sm_le_s (sm_le_s (sm_le_s (sm_le_s (sm_le_n (sm_le_s (sm_le_s sm_le_nil))))))))) (B_465_296 hd  hf0 hs)
    · rw [if_pos (Classical.not_not.mp c0)] at hf
      refine Ex.seg 2 (pc' := 296) (lc' := [some (.ref 67), some (.int s.1), some (.long s.2.1), none, some (.int s.2.2.1), some (.int s.2.2.2.1), some (.int q17.1), none, none]) (st' := [.int (-1)]) (h' := q17.2) (sg1 rfl rfl (sg1 rfl rfl rfl)) ?_
      obtain ⟨r0, hf0, rfl⟩ := Option.map_eq_some_iff.mp hf
      exact Ex.weak (sm_le_s (sm_le_s (sm_le_s (sm_le_s (sm_le_s (sm_le_s (sm_le_n (sm_le_s (sm_le_s sm_le_nil))))))))) (B_465_296 hd  hf0 hs)
  · rw [if_neg c0] at hf
    refine Ex.seg 4 (pc' := 240) (lc' := [some (.ref 67), some (.int s.1), some (.long s.2.1), none, some (.int s.2.2.1), some (.int s.2.2.2.1), some (.int s.2.2.2.2.1), none, none]) (st' := [.int s.2.2.2.2.1, .ref 130, .ref 67]) (h' := s.2.2.2.2.2) (sg1 rfl rfl (sg1 rfl rfl (sg1 rfl rfl (sg1 rfl rfl rfl)))) ?_
    obtain ⟨v19, e_v19, hf⟩ := bnd hf
    refine Ex.lald e_v19 rfl rfl ?_
    refine Ex.seg 7 (pc' := 253) (lc' := [some (.ref 67), some (.int s.1), some (.long s.2.1), none, some (.int s.2.2.1), some (.int s.2.2.2.1), some (.int s.2.2.2.2.1), none, none]) (st' := [.int ((6 * s.2.2.2.1) + s.2.2.2.2.1), .ref 116, .long v19, .ref 67]) (h' := s.2.2.2.2.2) (sg1 rfl rfl (sg1 rfl rfl (sg1 rfl rfl (sg1 rfl rfl (sg1 rfl rfl (sg1 rfl rfl (sg1 rfl rfl rfl))))))) ?_
    obtain ⟨v20, e_v20, hf⟩ := bnd hf
    refine Ex.iald e_v20 rfl rfl ?_
    obtain ⟨q21, e_q21, hf⟩ := bnd hf
    refine Ex.callV (a := 67) (As := [.long v19, .int v20]) (r := []) (v := none) (h' := q21) rfl rfl (by decide) rfl (Nat.le_of_ble_eq_true rfl) rfl (E_444 (Nat.le_trans (by decide) hd) e_q21) rfl ?_
    refine Ex.seg 1 (pc' := 260) (lc' := [some (.ref 67), some (.int s.1), some (.long s.2.1), none, some (.int s.2.2.1), some (.int s.2.2.2.1), some (.int (s.2.2.2.2.1 + (-1))), none, none]) (st' := []) (h' := q21) (sg1 rfl rfl rfl) ?_
    obtain ⟨v22, e_v22, hf⟩ := bnd hf
    rw [Option.some.inj e_v22]
    refine Ex.seg 1 (pc' := 228) (lc' := [some (.ref 67), some (.int s.1), some (.long s.2.1), none, some (.int s.2.2.1), some (.int s.2.2.2.1), some (.int v22), none, none]) (st' := []) (h' := q21) (sg1 rfl rfl rfl) ?_
    obtain rfl := Option.some.inj hf
    exact Ex.weak (sm_le_s (sm_le_s (sm_le_s (sm_le_s (sm_le_s (sm_le_s (sm_le_s (sm_le_s (sm_le_s sm_le_nil))))))))) (hS1 _ hs)
theorem B_465_228 {L : Nat} {xs : Nat → Int32} {d : Nat} (hd : 15 ≤ d) {res : Option Value × sm_H} {y1 : Int32} {y2 : Int64} {y4 : Int32} {y5 : Int32} {y6 : Int32}  {h : sm_H} {r : (Int32 × sm_H)} (hf : F_465_228 y1 y2 y4 y5 y6 h = some r) (hs : (fun (r : Int32 × sm_H) => res = (some (.int r.1), r.2)) r) : Ex (P_G L xs) (RUN L xs d) (sm_lk P_t465) 3 228 [some (.ref 67), some (.int y1), some (.long y2), none, some (.int y4), some (.int y5), some (.int y6), none, none] [] h res := by
  unfold F_465_228 at hf
  exact lp_ok (P := fun (s : (Int32 × Int64 × Int32 × Int32 × Int32 × sm_H)) => Ex (P_G L xs) (RUN L xs d) (sm_lk P_t465) 3 228 [some (.ref 67), some (.int s.1), some (.long s.2.1), none, some (.int s.2.2.1), some (.int s.2.2.2.1), some (.int s.2.2.2.2.1), none, none] [] s.2.2.2.2.2 res) (S := (fun (r : Int32 × sm_H) => res = (some (.int r.1), r.2))) (fun s x hx hsx => by
    intros
    exact B_465_228B hd  (fun _ q => q) hx hsx) 1000000 _ r hf hs
theorem B_465_174B {L : Nat} {xs : Nat → Int32} {d : Nat} (hd : 15 ≤ d) {res : Option Value × sm_H} {S1 : (Int32 × Int64 × Int32 × Int32 × Int32 × sm_H) → Prop} (hS1 : ∀ s, S1 s → Ex (P_G L xs) (RUN L xs d) (sm_lk P_t465) 3 174 [some (.ref 67), some (.int s.1), some (.long s.2.1), none, some (.int s.2.2.1), some (.int s.2.2.2.1), some (.int s.2.2.2.2.1), none, none] [] s.2.2.2.2.2 res) {s : (Int32 × Int64 × Int32 × Int32 × Int32 × sm_H)}  {r : ((Int32 × Int64 × Int32 × Int32 × Int32 × sm_H) ⊕ (Int32 × sm_H))} (hf : F_465_174B s = some r) (hs : (Sum.elim S1 (fun (r : Int32 × sm_H) => res = (some (.int r.1), r.2))) r) : Ex (P_G L xs) (RUN L xs d) (sm_lk P_t465) 3 174 [some (.ref 67), some (.int s.1), some (.long s.2.1), none, some (.int s.2.2.1), some (.int s.2.2.2.1), some (.int s.2.2.2.2.1), none, none] [] s.2.2.2.2.2 res := by
  unfold F_465_174B at hf
  refine Ex.seg 4 (pc' := 182) (lc' := [some (.ref 67), some (.int s.1), some (.long s.2.1), none, some (.int s.2.2.1), some (.int s.2.2.2.1), some (.int s.2.2.2.2.1), none, none]) (st' := [.int s.2.2.2.1, .ref 115, .int s.2.2.2.2.1]) (h' := s.2.2.2.2.2) (sg1 rfl rfl (sg1 rfl rfl (sg1 rfl rfl (sg1 rfl rfl rfl)))) ?_
  obtain ⟨v23, e_v23, hf⟩ := bnd hf
  refine Ex.iald e_v23 rfl rfl ?_
  refine Ex.icmp rfl rfl (fun (c0 : v23 ≤ s.2.2.2.2.1) => ?_) (fun (c0 : ¬ (v23 ≤ s.2.2.2.2.1)) => ?_)
  · rw [if_pos c0] at hf
    refine Ex.seg 3 (pc' := 217) (lc' := [some (.ref 67), some (.int s.1), some (.long s.2.1), none, some (.int s.2.2.1), some (.int s.2.2.2.1), some (.int s.2.2.2.2.1), none, none]) (st' := []) (h' := (sm_wI s.2.2.2.2.2 67 94 400)) (sg1 rfl rfl (sg1 rfl rfl (sg1 rfl rfl rfl))) ?_
    obtain ⟨h24, e_h24, hf⟩ := bnd hf
    rw [Option.some.inj e_h24]
    refine Ex.seg 3 (pc' := 223) (lc' := [some (.ref 67), some (.int s.1), some (.long s.2.1), none, some (.int s.2.2.1), some (.int s.2.2.2.1), some (.int s.2.2.2.2.1), none, none]) (st' := [.int s.2.2.2.1, .ref 115]) (h' := h24) (sg1 rfl rfl (sg1 rfl rfl (sg1 rfl rfl rfl))) ?_
    obtain ⟨v25, e_v25, hf⟩ := bnd hf
    refine Ex.iald e_v25 rfl rfl ?_
    refine Ex.seg 3 (pc' := 228) (lc' := [some (.ref 67), some (.int s.1), some (.long s.2.1), none, some (.int s.2.2.1), some (.int s.2.2.2.1), some (.int (v25 - 1)), none, none]) (st' := []) (h' := h24) (sg1 rfl rfl (sg1 rfl rfl (sg1 rfl rfl rfl))) ?_
    obtain ⟨v26, e_v26, hf⟩ := bnd hf
    rw [Option.some.inj e_v26]
    obtain ⟨r0, hf0, rfl⟩ := Option.map_eq_some_iff.mp hf
    exact Ex.weak (sm_le_s (sm_le_s (sm_le_s (sm_le_s (sm_le_s (sm_le_s (sm_le_s (sm_le_s (sm_le_s sm_le_nil))))))))) (B_465_228 hd  hf0 hs)
  · rw [if_neg c0] at hf
    refine Ex.seg 8 (pc' := 202) (lc' := [some (.ref 67), some (.int s.1), some (.long s.2.1), none, some (.int s.2.2.1), some (.int s.2.2.2.1), some (.int s.2.2.2.2.1), none, none]) (st' := [.int (390 + s.2.2.2.2.1), .ref 117, .int s.2.2.2.2.1, .ref 130]) (h' := s.2.2.2.2.2) (sg1 rfl rfl (sg1 rfl rfl (sg1 rfl rfl (sg1 rfl rfl (sg1 rfl rfl (sg1 rfl rfl (sg1 rfl rfl (sg1 rfl rfl rfl)))))))) ?_
    obtain ⟨v27, e_v27, hf⟩ := bnd hf
    refine Ex.lald e_v27 rfl rfl ?_
    obtain ⟨h28, e_h28, hf⟩ := bnd hf
    refine Ex.last e_h28 rfl rfl ?_
    refine Ex.seg 1 (pc' := 207) (lc' := [some (.ref 67), some (.int s.1), some (.long s.2.1), none, some (.int s.2.2.1), some (.int s.2.2.2.1), some (.int (s.2.2.2.2.1 + 1)), none, none]) (st' := []) (h' := h28) (sg1 rfl rfl rfl) ?_
    obtain ⟨v29, e_v29, hf⟩ := bnd hf
    rw [Option.some.inj e_v29]
    refine Ex.seg 1 (pc' := 174) (lc' := [some (.ref 67), some (.int s.1), some (.long s.2.1), none, some (.int s.2.2.1), some (.int s.2.2.2.1), some (.int v29), none, none]) (st' := []) (h' := h28) (sg1 rfl rfl rfl) ?_
    obtain rfl := Option.some.inj hf
    exact Ex.weak (sm_le_s (sm_le_s (sm_le_s (sm_le_s (sm_le_s (sm_le_s (sm_le_s (sm_le_s (sm_le_s sm_le_nil))))))))) (hS1 _ hs)
theorem B_465_174 {L : Nat} {xs : Nat → Int32} {d : Nat} (hd : 15 ≤ d) {res : Option Value × sm_H} {y1 : Int32} {y2 : Int64} {y4 : Int32} {y5 : Int32} {y6 : Int32}  {h : sm_H} {r : (Int32 × sm_H)} (hf : F_465_174 y1 y2 y4 y5 y6 h = some r) (hs : (fun (r : Int32 × sm_H) => res = (some (.int r.1), r.2)) r) : Ex (P_G L xs) (RUN L xs d) (sm_lk P_t465) 3 174 [some (.ref 67), some (.int y1), some (.long y2), none, some (.int y4), some (.int y5), some (.int y6), none, none] [] h res := by
  unfold F_465_174 at hf
  exact lp_ok (P := fun (s : (Int32 × Int64 × Int32 × Int32 × Int32 × sm_H)) => Ex (P_G L xs) (RUN L xs d) (sm_lk P_t465) 3 174 [some (.ref 67), some (.int s.1), some (.long s.2.1), none, some (.int s.2.2.1), some (.int s.2.2.2.1), some (.int s.2.2.2.2.1), none, none] [] s.2.2.2.2.2 res) (S := (fun (r : Int32 × sm_H) => res = (some (.int r.1), r.2))) (fun s x hx hsx => by
    intros
    exact B_465_174B hd  (fun _ q => q) hx hsx) 1000000 _ r hf hs
theorem B_465_118 {L : Nat} {xs : Nat → Int32} {d : Nat} (hd : 15 ≤ d) {res : Option Value × sm_H}   {h : sm_H} {r : (Int32 × sm_H)} (hf : F_465_118  h = some r) (hs : (fun (r : Int32 × sm_H) => res = (some (.int r.1), r.2)) r) : Ex (P_G L xs) (RUN L xs d) (sm_lk P_t465) 3 118 [some (.ref 67), none, none, none, none, none, none, none, none] [] h res := by
  unfold F_465_118 at hf
  refine Ex.seg 4 (pc' := 125) (lc' := [some (.ref 67), none, none, none, none, none, none, none, none]) (st' := [.int (h.1 67 81), .int 6, .ref 67]) (h' := h) (sg1 rfl rfl (sg1 rfl rfl (sg1 rfl rfl (sg1 rfl rfl rfl)))) ?_
  obtain ⟨q30, e_q30, hf⟩ := bnd hf
  refine Ex.callV (a := 67) (As := [.int 6, .int (h.1 67 81)]) (r := []) (v := some (.int q30.1)) (h' := q30.2) rfl rfl (by decide) rfl (Nat.le_of_ble_eq_true rfl) rfl (E_413 (Nat.le_trans (by decide) hd) e_q30) rfl ?_
  rcases Classical.em (q30.1 = 0 ∨ q30.1 = 1) with c0 | c0
  · rw [if_pos c0] at hf
    obtain rfl := Option.some.inj hf
    exact Ex.iret rfl rfl (fun _ => c0) hs
  · rw [if_neg c0] at hf
    cases hf
theorem B_465_66 {L : Nat} {xs : Nat → Int32} {d : Nat} (hd : 15 ≤ d) {res : Option Value × sm_H}   {h : sm_H} {r : (Int32 × sm_H)} (hf : F_465_66  h = some r) (hs : (fun (r : Int32 × sm_H) => res = (some (.int r.1), r.2)) r) : Ex (P_G L xs) (RUN L xs d) (sm_lk P_t465) 3 66 [some (.ref 67), none, none, none, none, none, none, none, none] [] h res := by
  unfold F_465_66 at hf
  refine Ex.seg 1 (pc' := 67) (lc' := [some (.ref 67), none, none, none, none, none, none, none, none]) (st' := [.ref 67]) (h' := h) (sg1 rfl rfl rfl) ?_
  obtain ⟨q31, e_q31, hf⟩ := bnd hf
  refine Ex.callV (a := 67) (As := []) (r := []) (v := some (.int q31.1)) (h' := q31.2) rfl rfl (by decide) rfl (Nat.le_of_ble_eq_true rfl) rfl (E_421 (Nat.le_trans (by decide) hd) e_q31) rfl ?_
  rcases Classical.em (q31.1 = 0 ∨ q31.1 = 1) with c0 | c0
  · rw [if_pos c0] at hf
    obtain rfl := Option.some.inj hf
    exact Ex.iret rfl rfl (fun _ => c0) hs
  · rw [if_neg c0] at hf
    cases hf
theorem B_465_37 {L : Nat} {xs : Nat → Int32} {d : Nat} (hd : 15 ≤ d) {res : Option Value × sm_H}   {h : sm_H} {r : (Int32 × sm_H)} (hf : F_465_37  h = some r) (hs : (fun (r : Int32 × sm_H) => res = (some (.int r.1), r.2)) r) : Ex (P_G L xs) (RUN L xs d) (sm_lk P_t465) 3 37 [none, none, none, none, none, none, none, none, none] [] h res := by
  unfold F_465_37 at hf
  refine Ex.seg 1 (pc' := 38) (lc' := [none, none, none, none, none, none, none, none, none]) (st' := [.int 0]) (h' := h) (sg1 rfl rfl rfl) ?_
  obtain rfl := Option.some.inj hf
  exact Ex.iret rfl rfl (fun _ => by decide) hs
theorem B_465_0 {L : Nat} {xs : Nat → Int32} {d : Nat} (hd : 15 ≤ d) {res : Option Value × sm_H}   {h : sm_H} {r : (Int32 × sm_H)} (hf : F_465_0  h = some r) (hs : (fun (r : Int32 × sm_H) => res = (some (.int r.1), r.2)) r) : Ex (P_G L xs) (RUN L xs d) (sm_lk P_t465) 3 0 [some (.ref 67), none, none, none, none, none, none, none, none] [] h res := by
  unfold F_465_0 at hf
  refine Ex.seg 3 (pc' := 5) (lc' := [some (.ref 67), none, none, none, none, none, none, none, none]) (st' := []) (h' := (sm_wI h 67 86 0)) (sg1 rfl rfl (sg1 rfl rfl (sg1 rfl rfl rfl))) ?_
  obtain ⟨h32, e_h32, hf⟩ := bnd hf
  rw [Option.some.inj e_h32]
  refine Ex.seg 3 (pc' := 10) (lc' := [some (.ref 67), some (.int (h32.1 67 81)), none, none, none, none, none, none, none]) (st' := []) (h' := h32) (sg1 rfl rfl (sg1 rfl rfl (sg1 rfl rfl rfl))) ?_
  obtain ⟨v33, e_v33, hf⟩ := bnd hf
  rw [Option.some.inj e_v33]
  refine Ex.seg 3 (pc' := 15) (lc' := [some (.ref 67), some (.int v33), none, none, none, none, none, none, none]) (st' := [.int 3, .int (h32.1 67 80)]) (h' := h32) (sg1 rfl rfl (sg1 rfl rfl (sg1 rfl rfl rfl))) ?_
  refine Ex.icmp rfl rfl (fun (c0 : (h32.1 67 80) = 3) => ?_) (fun (c0 : ¬ ((h32.1 67 80) = 3)) => ?_)
  · rw [if_pos c0] at hf
    refine Ex.seg 1 (pc' := 24) (lc' := [some (.ref 67), some (.int v33), none, none, none, none, none, none, none]) (st' := [.ref 67]) (h' := h32) (sg1 rfl rfl rfl) ?_
    obtain ⟨q34, e_q34, hf⟩ := bnd hf
    refine Ex.callV (a := 67) (As := []) (r := []) (v := some (.int q34.1)) (h' := q34.2) rfl rfl (by decide) rfl (Nat.le_of_ble_eq_true rfl) rfl (E_425 (Nat.le_trans (by decide) hd) e_q34) rfl ?_
    refine Ex.ifc rfl rfl (fun (c0 : q34.1 = 0) => ?_) (fun (c0 : ¬ (q34.1 = 0)) => ?_)
    · rw [if_pos c0] at hf
      exact Ex.weak (sm_le_n (sm_le_n (sm_le_s (sm_le_s (sm_le_s (sm_le_s (sm_le_s (sm_le_s (sm_le_s sm_le_nil))))))))) (B_465_37 hd  hf hs)
    · rw [if_neg c0] at hf
      refine Ex.seg 1 (pc' := 31) (lc' := [some (.ref 67), some (.int v33), none, none, none, none, none, none, none]) (st' := [.ref 67]) (h' := q34.2) (sg1 rfl rfl rfl) ?_
      obtain ⟨q35, e_q35, hf⟩ := bnd hf
      refine Ex.callV (a := 67) (As := []) (r := []) (v := some (.int q35.1)) (h' := q35.2) rfl rfl (by decide) rfl (Nat.le_of_ble_eq_true rfl) rfl (E_418 (Nat.le_trans (by decide) hd) e_q35) rfl ?_
      refine Ex.ifc rfl rfl (fun (c0 : ¬ (q35.1 = 0)) => ?_) (fun (c0 : ¬ ¬ (q35.1 = 0)) => ?_)
      · rw [if_neg c0] at hf
        refine Ex.seg 3 (pc' := 44) (lc' := [some (.ref 67), some (.int v33), none, none, none, none, none, none, none]) (st' := [.int 1, .int (q35.2.1 67 80)]) (h' := q35.2) (sg1 rfl rfl (sg1 rfl rfl (sg1 rfl rfl rfl))) ?_
        refine Ex.icmp rfl rfl (fun (c0 : ¬ ((q35.2.1 67 80) = 1)) => ?_) (fun (c0 : ¬ ¬ ((q35.2.1 67 80) = 1)) => ?_)
        · rw [if_neg c0] at hf
          exact Ex.weak (sm_le_s (sm_le_n (sm_le_s (sm_le_s (sm_le_s (sm_le_s (sm_le_s (sm_le_s (sm_le_s sm_le_nil))))))))) (B_465_66 hd  hf hs)
        · rw [if_pos (Classical.not_not.mp c0)] at hf
          refine Ex.seg 7 (pc' := 59) (lc' := [some (.ref 67), some (.int v33), none, none, none, none, none, none, none]) (st' := [.int 0, .int 0, .int 102, .int 101, .int 100, .long (q35.2.2.1 67 83)]) (h' := q35.2) (sg1 rfl rfl (sg1 rfl rfl (sg1 rfl rfl (sg1 rfl rfl (sg1 rfl rfl (sg1 rfl rfl (sg1 rfl rfl rfl))))))) ?_
          obtain ⟨q36, e_q36, hf⟩ := bnd hf
          refine Ex.callS (As := [.int 100, .int 101, .int 102, .int 0, .int 0]) (r := [.long (q35.2.2.1 67 83)]) (v := some (.long q36.1)) (h' := q36.2) rfl rfl rfl rfl (Nat.le_of_ble_eq_true rfl) (E_439 (Nat.le_trans (by decide) hd) e_q36) rfl ?_
          refine Ex.seg 1 (pc' := 63) (lc' := [some (.ref 67), some (.int v33), none, none, none, none, none, none, none]) (st' := [.int (lg_cmp (q35.2.2.1 67 83) q36.1)]) (h' := q36.2) (sg1 rfl rfl rfl) ?_
          refine Ex.ifc rfl rfl (fun (c0 : (lg_cmp (q35.2.2.1 67 83) q36.1) = 0) => ?_) (fun (c0 : ¬ ((lg_cmp (q35.2.2.1 67 83) q36.1) = 0)) => ?_)
          · rw [if_pos c0] at hf
            refine Ex.seg 1 (pc' := 72) (lc' := [some (.ref 67), some (.int v33), none, none, none, none, none, none, none]) (st' := [.ref 67]) (h' := q36.2) (sg1 rfl rfl rfl) ?_
            obtain ⟨q37, e_q37, hf⟩ := bnd hf
            refine Ex.callV (a := 67) (As := []) (r := []) (v := none) (h' := q37) rfl rfl (by decide) rfl (Nat.le_of_ble_eq_true rfl) rfl (E_420 (Nat.le_trans (by decide) hd) e_q37) rfl ?_
            refine Ex.seg 1 (pc' := 76) (lc' := [some (.ref 67), some (.int v33), none, none, none, none, none, none, none]) (st' := [.ref 67]) (h' := q37) (sg1 rfl rfl rfl) ?_
            obtain ⟨q38, e_q38, hf⟩ := bnd hf
            refine Ex.callV (a := 67) (As := []) (r := []) (v := some (.int q38.1)) (h' := q38.2) rfl rfl (by decide) rfl (Nat.le_of_ble_eq_true rfl) rfl (E_418 (Nat.le_trans (by decide) hd) e_q38) rfl ?_
            refine Ex.ifc rfl rfl (fun (c0 : ¬ (q38.1 = 0)) => ?_) (fun (c0 : ¬ ¬ (q38.1 = 0)) => ?_)
            · rw [if_neg c0] at hf
              refine Ex.seg 3 (pc' := 89) (lc' := [some (.ref 67), some (.int v33), none, none, none, none, none, none, none]) (st' := [.int 1, .int (q38.2.1 67 80)]) (h' := q38.2) (sg1 rfl rfl (sg1 rfl rfl (sg1 rfl rfl rfl))) ?_
              refine Ex.icmp rfl rfl (fun (c0 : (q38.2.1 67 80) = 1) => ?_) (fun (c0 : ¬ ((q38.2.1 67 80) = 1)) => ?_)
              · rw [if_pos c0] at hf
                refine Ex.seg 3 (pc' := 102) (lc' := [some (.ref 67), some (.int v33), none, none, none, none, none, none, none]) (st' := [.long (q38.2.2.1 67 83), .ref 67]) (h' := q38.2) (sg1 rfl rfl (sg1 rfl rfl (sg1 rfl rfl rfl))) ?_
                obtain ⟨q39, e_q39, hf⟩ := bnd hf
                refine Ex.callV (a := 67) (As := [.long (q38.2.2.1 67 83)]) (r := []) (v := some (.int q39.1)) (h' := q39.2) rfl rfl (by decide) rfl (Nat.le_of_ble_eq_true rfl) rfl (E_443 (Nat.le_trans (by decide) hd) e_q39) rfl ?_
                refine Ex.seg 1 (pc' := 106) (lc' := [some (.ref 67), some (.int v33), none, none, none, none, none, none, none]) (st' := [.int (-1), .int q39.1]) (h' := q39.2) (sg1 rfl rfl rfl) ?_
                refine Ex.icmp rfl rfl (fun (c0 : ¬ (q39.1 = (-1))) => ?_) (fun (c0 : ¬ ¬ (q39.1 = (-1))) => ?_)
                · rw [if_neg c0] at hf
                  exact Ex.weak (sm_le_s (sm_le_n (sm_le_s (sm_le_s (sm_le_s (sm_le_s (sm_le_s (sm_le_s (sm_le_s sm_le_nil))))))))) (B_465_118 hd  hf hs)
                · rw [if_pos (Classical.not_not.mp c0)] at hf
                  refine Ex.seg 3 (pc' := 115) (lc' := [some (.ref 67), some (.int v33), none, none, none, none, none, none, none]) (st' := [.int 60, .int (q39.2.1 67 91)]) (h' := q39.2) (sg1 rfl rfl (sg1 rfl rfl (sg1 rfl rfl rfl))) ?_
                  refine Ex.icmp rfl rfl (fun (c0 : ¬ ((q39.2.1 67 91) = 60)) => ?_) (fun (c0 : ¬ ¬ ((q39.2.1 67 91) = 60)) => ?_)
                  · rw [if_neg c0] at hf
                    refine Ex.seg 3 (pc' := 134) (lc' := [some (.ref 67), some (.int v33), some (.long (q39.2.2.1 67 83)), none, none, none, none, none, none]) (st' := []) (h' := q39.2) (sg1 rfl rfl (sg1 rfl rfl (sg1 rfl rfl rfl))) ?_
                    obtain ⟨v40, e_v40, hf⟩ := bnd hf
                    rw [Option.some.inj e_v40]
                    refine Ex.seg 1 (pc' := 135) (lc' := [some (.ref 67), some (.int v33), some (.long v40), none, none, none, none, none, none]) (st' := [.ref 67]) (h' := q39.2) (sg1 rfl rfl rfl) ?_
                    obtain ⟨q41, e_q41, hf⟩ := bnd hf
                    refine Ex.callV (a := 67) (As := []) (r := []) (v := none) (h' := q41) rfl rfl (by decide) rfl (Nat.le_of_ble_eq_true rfl) rfl (E_420 (Nat.le_trans (by decide) hd) e_q41) rfl ?_
                    refine Ex.seg 2 (pc' := 140) (lc' := [some (.ref 67), some (.int v33), some (.long v40), none, none, none, none, none, none]) (st' := [.int 1, .ref 67]) (h' := q41) (sg1 rfl rfl (sg1 rfl rfl rfl)) ?_
                    obtain ⟨q42, e_q42, hf⟩ := bnd hf
                    refine Ex.callV (a := 67) (As := [.int 1]) (r := []) (v := some (.int q42.1)) (h' := q42.2) rfl rfl (by decide) rfl (Nat.le_of_ble_eq_true rfl) rfl (E_424 (Nat.le_trans (by decide) hd) e_q42) rfl ?_
                    refine Ex.ifc rfl rfl (fun (c0 : ¬ (q42.1 = 0)) => ?_) (fun (c0 : ¬ ¬ (q42.1 = 0)) => ?_)
                    · rw [if_neg c0] at hf
                      refine Ex.seg 3 (pc' := 154) (lc' := [some (.ref 67), some (.int v33), some (.long v40), none, some (.int (q42.2.1 67 105)), none, none, none, none]) (st' := []) (h' := q42.2) (sg1 rfl rfl (sg1 rfl rfl (sg1 rfl rfl rfl))) ?_
                      obtain ⟨v43, e_v43, hf⟩ := bnd hf
                      rw [Option.some.inj e_v43]
                      refine Ex.seg 3 (pc' := 160) (lc' := [some (.ref 67), some (.int v33), some (.long v40), none, some (.int v43), some (.int (q42.2.1 67 91)), none, none, none]) (st' := []) (h' := q42.2) (sg1 rfl rfl (sg1 rfl rfl (sg1 rfl rfl rfl))) ?_
                      obtain ⟨v44, e_v44, hf⟩ := bnd hf
                      rw [Option.some.inj e_v44]
                      refine Ex.seg 2 (pc' := 163) (lc' := [some (.ref 67), some (.int v33), some (.long v40), none, some (.int v43), some (.int v44), none, none, none]) (st' := [.int v44, .ref 67]) (h' := q42.2) (sg1 rfl rfl (sg1 rfl rfl rfl)) ?_
                      obtain ⟨q45, e_q45, hf⟩ := bnd hf
                      refine Ex.callV (a := 67) (As := [.int v44]) (r := []) (v := some (.int q45.1)) (h' := q45.2) rfl rfl (by decide) rfl (Nat.le_of_ble_eq_true rfl) rfl (E_464 (Nat.le_trans (by decide) hd) e_q45) rfl ?_
                      refine Ex.ifc rfl rfl (fun (c0 : ¬ (q45.1 = 0)) => ?_) (fun (c0 : ¬ ¬ (q45.1 = 0)) => ?_)
                      · rw [if_neg c0] at hf
                        refine Ex.seg 2 (pc' := 174) (lc' := [some (.ref 67), some (.int v33), some (.long v40), none, some (.int v43), some (.int v44), some (.int 0), none, none]) (st' := []) (h' := q45.2) (sg1 rfl rfl (sg1 rfl rfl rfl)) ?_
                        exact Ex.weak (sm_le_s (sm_le_s (sm_le_s (sm_le_s (sm_le_s (sm_le_s (sm_le_s (sm_le_s (sm_le_s sm_le_nil))))))))) (B_465_174 hd  hf hs)
                      · rw [if_pos (Classical.not_not.mp c0)] at hf
                        refine Ex.seg 1 (pc' := 170) (lc' := [some (.ref 67), some (.int v33), some (.long v40), none, some (.int v43), some (.int v44), none, none, none]) (st' := [.int 0]) (h' := q45.2) (sg1 rfl rfl rfl) ?_
                        obtain rfl := Option.some.inj hf
                        exact Ex.iret rfl rfl (fun _ => by decide) hs
                    · rw [if_pos (Classical.not_not.mp c0)] at hf
                      refine Ex.seg 1 (pc' := 147) (lc' := [some (.ref 67), some (.int v33), some (.long v40), none, none, none, none, none, none]) (st' := [.int 0]) (h' := q42.2) (sg1 rfl rfl rfl) ?_
                      obtain rfl := Option.some.inj hf
                      exact Ex.iret rfl rfl (fun _ => by decide) hs
                  · rw [if_pos (Classical.not_not.mp c0)] at hf
                    exact Ex.weak (sm_le_s (sm_le_n (sm_le_s (sm_le_s (sm_le_s (sm_le_s (sm_le_s (sm_le_s (sm_le_s sm_le_nil))))))))) (B_465_118 hd  hf hs)
              · rw [if_neg c0] at hf
                refine Ex.seg 1 (pc' := 93) (lc' := [some (.ref 67), some (.int v33), none, none, none, none, none, none, none]) (st' := [.ref 67]) (h' := q38.2) (sg1 rfl rfl rfl) ?_
                obtain ⟨q46, e_q46, hf⟩ := bnd hf
                refine Ex.callV (a := 67) (As := []) (r := []) (v := some (.int q46.1)) (h' := q46.2) rfl rfl (by decide) rfl (Nat.le_of_ble_eq_true rfl) rfl (E_421 (Nat.le_trans (by decide) hd) e_q46) rfl ?_
                rcases Classical.em (q46.1 = 0 ∨ q46.1 = 1) with c0 | c0
                · rw [if_pos c0] at hf
                  obtain rfl := Option.some.inj hf
                  exact Ex.iret rfl rfl (fun _ => c0) hs
                · rw [if_neg c0] at hf
                  cases hf
            · rw [if_pos (Classical.not_not.mp c0)] at hf
              refine Ex.seg 1 (pc' := 83) (lc' := [some (.ref 67), some (.int v33), none, none, none, none, none, none, none]) (st' := [.int 0]) (h' := q38.2) (sg1 rfl rfl rfl) ?_
              obtain rfl := Option.some.inj hf
              exact Ex.iret rfl rfl (fun _ => by decide) hs
          · rw [if_neg c0] at hf
            exact Ex.weak (sm_le_s (sm_le_n (sm_le_s (sm_le_s (sm_le_s (sm_le_s (sm_le_s (sm_le_s (sm_le_s sm_le_nil))))))))) (B_465_66 hd  hf hs)
      · rw [if_pos (Classical.not_not.mp c0)] at hf
        exact Ex.weak (sm_le_n (sm_le_n (sm_le_s (sm_le_s (sm_le_s (sm_le_s (sm_le_s (sm_le_s (sm_le_s sm_le_nil))))))))) (B_465_37 hd  hf hs)
  · rw [if_neg c0] at hf
    refine Ex.seg 1 (pc' := 19) (lc' := [some (.ref 67), some (.int v33), none, none, none, none, none, none, none]) (st' := [.ref 67]) (h' := h32) (sg1 rfl rfl rfl) ?_
    obtain ⟨q47, e_q47, hf⟩ := bnd hf
    refine Ex.callV (a := 67) (As := []) (r := []) (v := some (.int q47.1)) (h' := q47.2) rfl rfl (by decide) rfl (Nat.le_of_ble_eq_true rfl) rfl (E_421 (Nat.le_trans (by decide) hd) e_q47) rfl ?_
    rcases Classical.em (q47.1 = 0 ∨ q47.1 = 1) with c0 | c0
    · rw [if_pos c0] at hf
      obtain rfl := Option.some.inj hf
      exact Ex.iret rfl rfl (fun _ => c0) hs
    · rw [if_neg c0] at hf
      cases hf
theorem E_465 {L : Nat} {xs : Nat → Int32} {d : Nat} (hd : 16 ≤ d)  {h : sm_H} {r : Int32 × sm_H} (hf : F_465  h = some r) : RUN L xs d 465 [.ref 67] h (some (.int r.1), r.2) := by
  obtain ⟨d, rfl⟩ : ∃ e, d = e + 1 := ⟨d - 1, by omega⟩
  exact ⟨Nat.le_of_ble_eq_true rfl, B_465_0 (by omega) hf rfl⟩
theorem B_466_59 {L : Nat} {xs : Nat → Int32} {d : Nat} (hd : 16 ≤ d) {res : Option Value × sm_H} {y1 : Int32}  {h : sm_H} {r : (Int32 × sm_H)} (hf : F_466_59 y1 h = some r) (hs : (fun (r : Int32 × sm_H) => res = (some (.int r.1), r.2)) r) : Ex (P_G L xs) (RUN L xs d) (sm_lk P_t466) 0 59 [some (.ref 67), some (.int y1), none] [] h res := by
  unfold F_466_59 at hf
  refine Ex.seg 3 (pc' := 64) (lc' := [some (.ref 67), some (.int y1), none]) (st' := []) (h' := (sm_wI h 67 19 y1)) (sg1 rfl rfl (sg1 rfl rfl (sg1 rfl rfl rfl))) ?_
  obtain ⟨h1, e_h1, hf⟩ := bnd hf
  rw [Option.some.inj e_h1]
  refine Ex.seg 3 (pc' := 69) (lc' := [some (.ref 67), some (.int y1), none]) (st' := []) (h' := (sm_wI h1 67 76 0)) (sg1 rfl rfl (sg1 rfl rfl (sg1 rfl rfl rfl))) ?_
  obtain ⟨h2, e_h2, hf⟩ := bnd hf
  rw [Option.some.inj e_h2]
  refine Ex.seg 2 (pc' := 73) (lc' := [some (.ref 67), some (.int y1), none]) (st' := [.int (h2.1 67 77)]) (h' := h2) (sg1 rfl rfl (sg1 rfl rfl rfl)) ?_
  obtain rfl := Option.some.inj hf
  exact Ex.iret rfl rfl (fun c0 => by cases c0) hs
theorem B_466_55 {L : Nat} {xs : Nat → Int32} {d : Nat} (hd : 16 ≤ d) {res : Option Value × sm_H} {S1 : (Int32 × Int32 × sm_H) → Prop} (hS1 : ∀ s, S1 s → Ex (P_G L xs) (RUN L xs d) (sm_lk P_t466) 0 25 [some (.ref 67), some (.int s.1), some (.int s.2.1)] [] s.2.2 res) {y1 : Int32} {z0 : Int32}  {h : sm_H} {r : ((Int32 × Int32 × sm_H) ⊕ (Int32 × sm_H))} (hf : F_466_55 y1 z0 h = some r) (hs : (Sum.elim S1 (fun (r : Int32 × sm_H) => res = (some (.int r.1), r.2))) r) : Ex (P_G L xs) (RUN L xs d) (sm_lk P_t466) 0 55 [some (.ref 67), some (.int y1), none] [.int z0] h res := by
  unfold F_466_55 at hf
  refine Ex.seg 2 (pc' := 25) (lc' := [some (.ref 67), some (.int y1), some (.int z0)]) (st' := []) (h' := h) (sg1 rfl rfl (sg1 rfl rfl rfl)) ?_
  obtain rfl := Option.some.inj hf
  exact Ex.weak (sm_le_s (sm_le_s (sm_le_s sm_le_nil))) (hS1 _ hs)
theorem B_466_54 {L : Nat} {xs : Nat → Int32} {d : Nat} (hd : 16 ≤ d) {res : Option Value × sm_H} {S1 : (Int32 × Int32 × sm_H) → Prop} (hS1 : ∀ s, S1 s → Ex (P_G L xs) (RUN L xs d) (sm_lk P_t466) 0 25 [some (.ref 67), some (.int s.1), some (.int s.2.1)] [] s.2.2 res) {y1 : Int32}  {h : sm_H} {r : ((Int32 × Int32 × sm_H) ⊕ (Int32 × sm_H))} (hf : F_466_54 y1 h = some r) (hs : (Sum.elim S1 (fun (r : Int32 × sm_H) => res = (some (.int r.1), r.2))) r) : Ex (P_G L xs) (RUN L xs d) (sm_lk P_t466) 0 54 [some (.ref 67), some (.int y1), none] [] h res := by
  unfold F_466_54 at hf
  refine Ex.seg 1 (pc' := 55) (lc' := [some (.ref 67), some (.int y1), none]) (st' := [.int 0]) (h' := h) (sg1 rfl rfl rfl) ?_
  exact Ex.weak (sm_le_s (sm_le_s (sm_le_s sm_le_nil))) (B_466_55 hd hS1 hf hs)
theorem B_466_25B {L : Nat} {xs : Nat → Int32} {d : Nat} (hd : 16 ≤ d) {res : Option Value × sm_H} {S1 : (Int32 × Int32 × sm_H) → Prop} (hS1 : ∀ s, S1 s → Ex (P_G L xs) (RUN L xs d) (sm_lk P_t466) 0 25 [some (.ref 67), some (.int s.1), some (.int s.2.1)] [] s.2.2 res) {s : (Int32 × Int32 × sm_H)}  {r : ((Int32 × Int32 × sm_H) ⊕ (Int32 × sm_H))} (hf : F_466_25B s = some r) (hs : (Sum.elim S1 (fun (r : Int32 × sm_H) => res = (some (.int r.1), r.2))) r) : Ex (P_G L xs) (RUN L xs d) (sm_lk P_t466) 0 25 [some (.ref 67), some (.int s.1), some (.int s.2.1)] [] s.2.2 res := by
  unfold F_466_25B at hf
  refine Ex.seg 1 (pc' := 26) (lc' := [some (.ref 67), some (.int s.1), some (.int s.2.1)]) (st' := [.int s.2.1]) (h' := s.2.2) (sg1 rfl rfl rfl) ?_
  refine Ex.ifc rfl rfl (fun (c0 : s.2.1 = 0) => ?_) (fun (c0 : ¬ (s.2.1 = 0)) => ?_)
  · rw [if_pos c0] at hf
    obtain ⟨r0, hf0, rfl⟩ := Option.map_eq_some_iff.mp hf
    exact Ex.weak (sm_le_s (sm_le_s (sm_le_n sm_le_nil))) (B_466_59 hd  hf0 hs)
  · rw [if_neg c0] at hf
    refine Ex.seg 2 (pc' := 33) (lc' := [some (.ref 67), some (.int s.1), some (.int s.2.1)]) (st' := [.int (s.2.2.1 67 80)]) (h' := s.2.2) (sg1 rfl rfl (sg1 rfl rfl rfl)) ?_
    refine Ex.ifc rfl rfl (fun (c0 : (s.2.2.1 67 80) = 0) => ?_) (fun (c0 : ¬ ((s.2.2.1 67 80) = 0)) => ?_)
    · rw [if_pos c0] at hf
      obtain ⟨r0, hf0, rfl⟩ := Option.map_eq_some_iff.mp hf
      exact Ex.weak (sm_le_s (sm_le_s (sm_le_n sm_le_nil))) (B_466_59 hd  hf0 hs)
    · rw [if_neg c0] at hf
      refine Ex.seg 1 (pc' := 37) (lc' := [some (.ref 67), some (.int s.1), some (.int s.2.1)]) (st' := [.ref 67]) (h' := s.2.2) (sg1 rfl rfl rfl) ?_
      obtain ⟨q3, e_q3, hf⟩ := bnd hf
      refine Ex.callV (a := 67) (As := []) (r := []) (v := some (.int q3.1)) (h' := q3.2) rfl rfl (by decide) rfl (Nat.le_of_ble_eq_true rfl) rfl (E_465 (Nat.le_trans (by decide) hd) e_q3) rfl ?_
      refine Ex.ifc rfl rfl (fun (c0 : q3.1 = 0) => ?_) (fun (c0 : ¬ (q3.1 = 0)) => ?_)
      · rw [if_pos c0] at hf
        exact Ex.weak (sm_le_s (sm_le_s (sm_le_n sm_le_nil))) (B_466_54 hd hS1 hf hs)
      · rw [if_neg c0] at hf
        refine Ex.seg 1 (pc' := 44) (lc' := [some (.ref 67), some (.int s.1), some (.int s.2.1)]) (st' := [.ref 67]) (h' := q3.2) (sg1 rfl rfl rfl) ?_
        obtain ⟨q4, e_q4, hf⟩ := bnd hf
        refine Ex.callV (a := 67) (As := []) (r := []) (v := some (.int q4.1)) (h' := q4.2) rfl rfl (by decide) rfl (Nat.le_of_ble_eq_true rfl) rfl (E_418 (Nat.le_trans (by decide) hd) e_q4) rfl ?_
        refine Ex.ifc rfl rfl (fun (c0 : q4.1 = 0) => ?_) (fun (c0 : ¬ (q4.1 = 0)) => ?_)
        · rw [if_pos c0] at hf
          exact Ex.weak (sm_le_s (sm_le_s (sm_le_n sm_le_nil))) (B_466_54 hd hS1 hf hs)
        · rw [if_neg c0] at hf
          refine Ex.seg 2 (pc' := 55) (lc' := [some (.ref 67), some (.int s.1), some (.int s.2.1)]) (st' := [.int 1]) (h' := q4.2) (sg1 rfl rfl (sg1 rfl rfl rfl)) ?_
          exact Ex.weak (sm_le_s (sm_le_s (sm_le_n sm_le_nil))) (B_466_55 hd hS1 hf hs)
theorem B_466_25 {L : Nat} {xs : Nat → Int32} {d : Nat} (hd : 16 ≤ d) {res : Option Value × sm_H} {y1 : Int32} {y2 : Int32}  {h : sm_H} {r : (Int32 × sm_H)} (hf : F_466_25 y1 y2 h = some r) (hs : (fun (r : Int32 × sm_H) => res = (some (.int r.1), r.2)) r) : Ex (P_G L xs) (RUN L xs d) (sm_lk P_t466) 0 25 [some (.ref 67), some (.int y1), some (.int y2)] [] h res := by
  unfold F_466_25 at hf
  exact lp_ok (P := fun (s : (Int32 × Int32 × sm_H)) => Ex (P_G L xs) (RUN L xs d) (sm_lk P_t466) 0 25 [some (.ref 67), some (.int s.1), some (.int s.2.1)] [] s.2.2 res) (S := (fun (r : Int32 × sm_H) => res = (some (.int r.1), r.2))) (fun s x hx hsx => by
    intros
    exact B_466_25B hd  (fun _ q => q) hx hsx) 1000000 _ r hf hs
theorem B_466_0 {L : Nat} {xs : Nat → Int32} {d : Nat} (hd : 16 ≤ d) {res : Option Value × sm_H}   {h : sm_H} {r : (Int32 × sm_H)} (hf : F_466_0  h = some r) (hs : (fun (r : Int32 × sm_H) => res = (some (.int r.1), r.2)) r) : Ex (P_G L xs) (RUN L xs d) (sm_lk P_t466) 0 0 [some (.ref 67), none, none] [] h res := by
  unfold F_466_0 at hf
  refine Ex.seg 3 (pc' := 5) (lc' := [some (.ref 67), none, none]) (st' := []) (h' := (sm_wI h 67 77 0)) (sg1 rfl rfl (sg1 rfl rfl (sg1 rfl rfl rfl))) ?_
  obtain ⟨h5, e_h5, hf⟩ := bnd hf
  rw [Option.some.inj e_h5]
  refine Ex.seg 3 (pc' := 10) (lc' := [some (.ref 67), none, none]) (st' := []) (h' := (sm_wI h5 67 78 (-1))) (sg1 rfl rfl (sg1 rfl rfl (sg1 rfl rfl rfl))) ?_
  obtain ⟨h6, e_h6, hf⟩ := bnd hf
  rw [Option.some.inj e_h6]
  refine Ex.seg 3 (pc' := 15) (lc' := [some (.ref 67), none, none]) (st' := []) (h' := (sm_wI h6 67 79 0)) (sg1 rfl rfl (sg1 rfl rfl (sg1 rfl rfl rfl))) ?_
  obtain ⟨h7, e_h7, hf⟩ := bnd hf
  rw [Option.some.inj e_h7]
  refine Ex.seg 3 (pc' := 20) (lc' := [some (.ref 67), some (.int (h7.1 67 19)), none]) (st' := []) (h' := h7) (sg1 rfl rfl (sg1 rfl rfl (sg1 rfl rfl rfl))) ?_
  obtain ⟨v8, e_v8, hf⟩ := bnd hf
  rw [Option.some.inj e_v8]
  refine Ex.seg 1 (pc' := 21) (lc' := [some (.ref 67), some (.int v8), none]) (st' := [.ref 67]) (h' := h7) (sg1 rfl rfl rfl) ?_
  obtain ⟨q9, e_q9, hf⟩ := bnd hf
  refine Ex.callV (a := 67) (As := []) (r := []) (v := some (.int q9.1)) (h' := q9.2) rfl rfl (by decide) rfl (Nat.le_of_ble_eq_true rfl) rfl (E_418 (Nat.le_trans (by decide) hd) e_q9) rfl ?_
  refine Ex.seg 1 (pc' := 25) (lc' := [some (.ref 67), some (.int v8), some (.int q9.1)]) (st' := []) (h' := q9.2) (sg1 rfl rfl rfl) ?_
  exact Ex.weak (sm_le_s (sm_le_s (sm_le_s sm_le_nil))) (B_466_25 hd  hf hs)
theorem E_466 {L : Nat} {xs : Nat → Int32} {d : Nat} (hd : 17 ≤ d)  {h : sm_H} {r : Int32 × sm_H} (hf : F_466  h = some r) : RUN L xs d 466 [.ref 67] h (some (.int r.1), r.2) := by
  obtain ⟨d, rfl⟩ : ∃ e, d = e + 1 := ⟨d - 1, by omega⟩
  exact ⟨Nat.le_of_ble_eq_true rfl, B_466_0 (by omega) hf rfl⟩
