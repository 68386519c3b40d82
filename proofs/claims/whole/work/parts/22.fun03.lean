/-! FUNCTIONS of the methods (by program, wip/gen/fgen.py) -/
def F_65_39 (z0 : Int32) (h : sm_H) : Option (Int32 × sm_H) :=
  if z0 = 0 ∨ z0 = 1 then some (z0, h) else none
theorem B_65_39 {L : Nat} {xs : Nat → Int32} {d : Nat} (hd : 2 ≤ d) {res : Option Value × sm_H} {z0 : Int32}  {h : sm_H} {r : (Int32 × sm_H)} (hf : F_65_39 z0 h = some r) (hs : (fun (r : Int32 × sm_H) => res = (some (.int r.1), r.2)) r) : Ex (P_G L xs) (RUN L xs d) (sm_lk P_t65) 3 39 [none, none, none, none] [.int z0] h res := by
  unfold F_65_39 at hf
  rcases Classical.em (z0 = 0 ∨ z0 = 1) with c0 | c0
  · rw [if_pos c0] at hf
    obtain rfl := Option.some.inj hf
    exact Ex.iret rfl rfl (fun _ => c0) hs
  · rw [if_neg c0] at hf
    cases hf
def F_65_34  (h : sm_H) : Option (Int32 × sm_H) :=
  F_65_39 1 h
theorem B_65_34 {L : Nat} {xs : Nat → Int32} {d : Nat} (hd : 2 ≤ d) {res : Option Value × sm_H}   {h : sm_H} {r : (Int32 × sm_H)} (hf : F_65_34  h = some r) (hs : (fun (r : Int32 × sm_H) => res = (some (.int r.1), r.2)) r) : Ex (P_G L xs) (RUN L xs d) (sm_lk P_t65) 3 34 [none, none, none, none] [] h res := by
  unfold F_65_34 at hf
  refine Ex.seg 2 (pc' := 39) (lc' := [none, none, none, none]) (st' := [.int 1]) (h' := h) (sg1 rfl rfl (sg1 rfl rfl rfl)) ?_
  exact Ex.weak (sm_le_s (sm_le_s (sm_le_s (sm_le_s sm_le_nil)))) (B_65_39 hd  hf hs)
def F_65_24 (y1 : Int32) (y2 : Int32) (y3 : Int32) (h : sm_H) : Option (Int32 × sm_H) :=
  (F_64 y1 y2 y3 h).bind fun q1 =>
  if q1.1 = 0 then (F_65_39 0 q1.2)
  else (F_65_34 q1.2)
theorem B_65_24 {L : Nat} {xs : Nat → Int32} {d : Nat} (hd : 2 ≤ d) {res : Option Value × sm_H} {y1 : Int32} {y2 : Int32} {y3 : Int32}  {h : sm_H} {r : (Int32 × sm_H)} (hf : F_65_24 y1 y2 y3 h = some r) (hs : (fun (r : Int32 × sm_H) => res = (some (.int r.1), r.2)) r) : Ex (P_G L xs) (RUN L xs d) (sm_lk P_t65) 3 24 [some (.ref 1), some (.int y1), some (.int y2), some (.int y3)] [] h res := by
  unfold F_65_24 at hf
  refine Ex.seg 4 (pc' := 28) (lc' := [some (.ref 1), some (.int y1), some (.int y2), some (.int y3)]) (st' := [.int y3, .int y2, .int y1, .ref 1]) (h' := h) (sg1 rfl rfl (sg1 rfl rfl (sg1 rfl rfl (sg1 rfl rfl rfl)))) ?_
  obtain ⟨q1, e_q1, hf⟩ := bnd hf
  refine Ex.callV (a := 1) (As := [.int y1, .int y2, .int y3]) (r := []) (v := some (.int q1.1)) (h' := q1.2) rfl rfl (by decide) rfl (Nat.le_of_ble_eq_true rfl) rfl (E_64 (Nat.le_trans (by decide) hd) e_q1) rfl ?_
  refine Ex.ifc rfl rfl (fun (c0 : q1.1 = 0) => ?_) (fun (c0 : ¬ (q1.1 = 0)) => ?_)
  · rw [if_pos c0] at hf
    refine Ex.seg 1 (pc' := 39) (lc' := [some (.ref 1), some (.int y1), some (.int y2), some (.int y3)]) (st' := [.int 0]) (h' := q1.2) (sg1 rfl rfl rfl) ?_
    exact Ex.weak (sm_le_n (sm_le_n (sm_le_n (sm_le_n sm_le_nil)))) (B_65_39 hd  hf hs)
  · rw [if_neg c0] at hf
    exact Ex.weak (sm_le_n (sm_le_n (sm_le_n (sm_le_n sm_le_nil)))) (B_65_34 hd  hf hs)
def F_65_12 (y1 : Int32) (y2 : Int32) (y3 : Int32) (h : sm_H) : Option (Int32 × sm_H) :=
  if y2 = 0 then ((F_53 y1 h).bind fun q2 =>
  if q2.1 = 0 then (F_65_24 y1 y2 y3 q2.2)
  else (F_65_34 q2.2))
  else (F_65_24 y1 y2 y3 h)
theorem B_65_12 {L : Nat} {xs : Nat → Int32} {d : Nat} (hd : 2 ≤ d) {res : Option Value × sm_H} {y1 : Int32} {y2 : Int32} {y3 : Int32}  {h : sm_H} {r : (Int32 × sm_H)} (hf : F_65_12 y1 y2 y3 h = some r) (hs : (fun (r : Int32 × sm_H) => res = (some (.int r.1), r.2)) r) : Ex (P_G L xs) (RUN L xs d) (sm_lk P_t65) 3 12 [some (.ref 1), some (.int y1), some (.int y2), some (.int y3)] [] h res := by
  unfold F_65_12 at hf
  refine Ex.seg 1 (pc' := 13) (lc' := [some (.ref 1), some (.int y1), some (.int y2), some (.int y3)]) (st' := [.int y2]) (h' := h) (sg1 rfl rfl rfl) ?_
  refine Ex.ifc rfl rfl (fun (c0 : ¬ (y2 = 0)) => ?_) (fun (c0 : ¬ ¬ (y2 = 0)) => ?_)
  · rw [if_neg c0] at hf
    exact Ex.weak (sm_le_s (sm_le_s (sm_le_s (sm_le_s sm_le_nil)))) (B_65_24 hd  hf hs)
  · rw [if_pos (Classical.not_not.mp c0)] at hf
    refine Ex.seg 2 (pc' := 18) (lc' := [some (.ref 1), some (.int y1), some (.int y2), some (.int y3)]) (st' := [.int y1, .ref 1]) (h' := h) (sg1 rfl rfl (sg1 rfl rfl rfl)) ?_
    obtain ⟨q2, e_q2, hf⟩ := bnd hf
    refine Ex.callV (a := 1) (As := [.int y1]) (r := []) (v := some (.int q2.1)) (h' := q2.2) rfl rfl (by decide) rfl (Nat.le_of_ble_eq_true rfl) rfl (E_53 (Nat.le_trans (by decide) hd) e_q2) rfl ?_
    refine Ex.ifc rfl rfl (fun (c0 : ¬ (q2.1 = 0)) => ?_) (fun (c0 : ¬ ¬ (q2.1 = 0)) => ?_)
    · rw [if_neg c0] at hf
      exact Ex.weak (sm_le_n (sm_le_n (sm_le_n (sm_le_n sm_le_nil)))) (B_65_34 hd  hf hs)
    · rw [if_pos (Classical.not_not.mp c0)] at hf
      exact Ex.weak (sm_le_s (sm_le_s (sm_le_s (sm_le_s sm_le_nil)))) (B_65_24 hd  hf hs)
def F_65_0 (x1 : Int32) (x2 : Int32) (x3 : Int32) (h : sm_H) : Option (Int32 × sm_H) :=
  if x1 = 0 then ((F_53 x2 h).bind fun q3 =>
  if q3.1 = 0 then (F_65_12 x1 x2 x3 q3.2)
  else (F_65_34 q3.2))
  else (F_65_12 x1 x2 x3 h)
theorem B_65_0 {L : Nat} {xs : Nat → Int32} {d : Nat} (hd : 2 ≤ d) {res : Option Value × sm_H} {x1 : Int32} {x2 : Int32} {x3 : Int32}  {h : sm_H} {r : (Int32 × sm_H)} (hf : F_65_0 x1 x2 x3 h = some r) (hs : (fun (r : Int32 × sm_H) => res = (some (.int r.1), r.2)) r) : Ex (P_G L xs) (RUN L xs d) (sm_lk P_t65) 3 0 [some (.ref 1), some (.int x1), some (.int x2), some (.int x3)] [] h res := by
  unfold F_65_0 at hf
  refine Ex.seg 1 (pc' := 1) (lc' := [some (.ref 1), some (.int x1), some (.int x2), some (.int x3)]) (st' := [.int x1]) (h' := h) (sg1 rfl rfl rfl) ?_
  refine Ex.ifc rfl rfl (fun (c0 : ¬ (x1 = 0)) => ?_) (fun (c0 : ¬ ¬ (x1 = 0)) => ?_)
  · rw [if_neg c0] at hf
    exact Ex.weak (sm_le_s (sm_le_s (sm_le_s (sm_le_s sm_le_nil)))) (B_65_12 hd  hf hs)
  · rw [if_pos (Classical.not_not.mp c0)] at hf
    refine Ex.seg 2 (pc' := 6) (lc' := [some (.ref 1), some (.int x1), some (.int x2), some (.int x3)]) (st' := [.int x2, .ref 1]) (h' := h) (sg1 rfl rfl (sg1 rfl rfl rfl)) ?_
    obtain ⟨q3, e_q3, hf⟩ := bnd hf
    refine Ex.callV (a := 1) (As := [.int x2]) (r := []) (v := some (.int q3.1)) (h' := q3.2) rfl rfl (by decide) rfl (Nat.le_of_ble_eq_true rfl) rfl (E_53 (Nat.le_trans (by decide) hd) e_q3) rfl ?_
    refine Ex.ifc rfl rfl (fun (c0 : ¬ (q3.1 = 0)) => ?_) (fun (c0 : ¬ ¬ (q3.1 = 0)) => ?_)
    · rw [if_neg c0] at hf
      exact Ex.weak (sm_le_n (sm_le_n (sm_le_n (sm_le_n sm_le_nil)))) (B_65_34 hd  hf hs)
    · rw [if_pos (Classical.not_not.mp c0)] at hf
      exact Ex.weak (sm_le_s (sm_le_s (sm_le_s (sm_le_s sm_le_nil)))) (B_65_12 hd  hf hs)
/-- HandleHouse$Kinds.allowsResult(IIZ)Z -/
abbrev F_65 (x1 : Int32) (x2 : Int32) (x3 : Int32) (h : sm_H) : Option (Int32 × sm_H) := F_65_0 x1 x2 x3 h
theorem E_65 {L : Nat} {xs : Nat → Int32} {d : Nat} (hd : 3 ≤ d) {x1 : Int32} {x2 : Int32} {x3 : Int32} {h : sm_H} {r : Int32 × sm_H} (hf : F_65 x1 x2 x3 h = some r) : RUN L xs d 65 [.ref 1, .int x1, .int x2, .int x3] h (some (.int r.1), r.2) := by
  obtain ⟨d, rfl⟩ : ∃ e, d = e + 1 := ⟨d - 1, by omega⟩
  exact ⟨Nat.le_of_ble_eq_true rfl, B_65_0 (by omega) hf rfl⟩
def F_66_33 (z0 : Int32) (h : sm_H) : Option (Int32 × sm_H) :=
  if z0 = 0 ∨ z0 = 1 then some (z0, h) else none
theorem B_66_33 {L : Nat} {xs : Nat → Int32} {d : Nat} (hd : 1 ≤ d) {res : Option Value × sm_H} {z0 : Int32}  {h : sm_H} {r : (Int32 × sm_H)} (hf : F_66_33 z0 h = some r) (hs : (fun (r : Int32 × sm_H) => res = (some (.int r.1), r.2)) r) : Ex (P_G L xs) (RUN L xs d) (sm_lk P_t66) 3 33 [none, none, none] [.int z0] h res := by
  unfold F_66_33 at hf
  rcases Classical.em (z0 = 0 ∨ z0 = 1) with c0 | c0
  · rw [if_pos c0] at hf
    obtain rfl := Option.some.inj hf
    exact Ex.iret rfl rfl (fun _ => c0) hs
  · rw [if_neg c0] at hf
    cases hf
def F_66_32  (h : sm_H) : Option (Int32 × sm_H) :=
  F_66_33 0 h
theorem B_66_32 {L : Nat} {xs : Nat → Int32} {d : Nat} (hd : 1 ≤ d) {res : Option Value × sm_H}   {h : sm_H} {r : (Int32 × sm_H)} (hf : F_66_32  h = some r) (hs : (fun (r : Int32 × sm_H) => res = (some (.int r.1), r.2)) r) : Ex (P_G L xs) (RUN L xs d) (sm_lk P_t66) 3 32 [none, none, none] [] h res := by
  unfold F_66_32 at hf
  refine Ex.seg 1 (pc' := 33) (lc' := [none, none, none]) (st' := [.int 0]) (h' := h) (sg1 rfl rfl rfl) ?_
  exact Ex.weak (sm_le_s (sm_le_s (sm_le_s sm_le_nil))) (B_66_33 hd  hf hs)
def F_66_28  (h : sm_H) : Option (Int32 × sm_H) :=
  F_66_33 1 h
theorem B_66_28 {L : Nat} {xs : Nat → Int32} {d : Nat} (hd : 1 ≤ d) {res : Option Value × sm_H}   {h : sm_H} {r : (Int32 × sm_H)} (hf : F_66_28  h = some r) (hs : (fun (r : Int32 × sm_H) => res = (some (.int r.1), r.2)) r) : Ex (P_G L xs) (RUN L xs d) (sm_lk P_t66) 3 28 [none, none, none] [] h res := by
  unfold F_66_28 at hf
  refine Ex.seg 2 (pc' := 33) (lc' := [none, none, none]) (st' := [.int 1]) (h' := h) (sg1 rfl rfl (sg1 rfl rfl rfl)) ?_
  exact Ex.weak (sm_le_s (sm_le_s (sm_le_s sm_le_nil))) (B_66_33 hd  hf hs)
def F_66_0 (x1 : Int32) (x2 : Int32) (h : sm_H) : Option (Int32 × sm_H) :=
  (F_58 x1 h).bind fun q1 =>
  if q1.1 = 0 then (F_66_32 q1.2)
  else (if (x1 - 8) = x2 then (F_66_28 q1.2)
  else ((F_67 (x1 - 8) x2 q1.2).bind fun q2 =>
  if q2.1 = 0 then (F_66_32 q2.2)
  else (F_66_28 q2.2)))
theorem B_66_0 {L : Nat} {xs : Nat → Int32} {d : Nat} (hd : 1 ≤ d) {res : Option Value × sm_H} {x1 : Int32} {x2 : Int32}  {h : sm_H} {r : (Int32 × sm_H)} (hf : F_66_0 x1 x2 h = some r) (hs : (fun (r : Int32 × sm_H) => res = (some (.int r.1), r.2)) r) : Ex (P_G L xs) (RUN L xs d) (sm_lk P_t66) 3 0 [some (.ref 1), some (.int x1), some (.int x2)] [] h res := by
  unfold F_66_0 at hf
  refine Ex.seg 2 (pc' := 2) (lc' := [some (.ref 1), some (.int x1), some (.int x2)]) (st' := [.int x1, .ref 1]) (h' := h) (sg1 rfl rfl (sg1 rfl rfl rfl)) ?_
  obtain ⟨q1, e_q1, hf⟩ := bnd hf
  refine Ex.callV (a := 1) (As := [.int x1]) (r := []) (v := some (.int q1.1)) (h' := q1.2) rfl rfl (by decide) rfl (Nat.le_of_ble_eq_true rfl) rfl (E_58 (Nat.le_trans (by decide) hd) e_q1) rfl ?_
  refine Ex.ifc rfl rfl (fun (c0 : q1.1 = 0) => ?_) (fun (c0 : ¬ (q1.1 = 0)) => ?_)
  · rw [if_pos c0] at hf
    exact Ex.weak (sm_le_n (sm_le_n (sm_le_n sm_le_nil))) (B_66_32 hd  hf hs)
  · rw [if_neg c0] at hf
    refine Ex.seg 4 (pc' := 13) (lc' := [some (.ref 1), some (.int x1), some (.int x2)]) (st' := [.int x2, .int (x1 - 8)]) (h' := q1.2) (sg1 rfl rfl (sg1 rfl rfl (sg1 rfl rfl (sg1 rfl rfl rfl)))) ?_
    refine Ex.icmp rfl rfl (fun (c0 : (x1 - 8) = x2) => ?_) (fun (c0 : ¬ ((x1 - 8) = x2)) => ?_)
    · rw [if_pos c0] at hf
      exact Ex.weak (sm_le_n (sm_le_n (sm_le_n sm_le_nil))) (B_66_28 hd  hf hs)
    · rw [if_neg c0] at hf
      refine Ex.seg 5 (pc' := 22) (lc' := [some (.ref 1), some (.int x1), some (.int x2)]) (st' := [.int x2, .int (x1 - 8), .ref 1]) (h' := q1.2) (sg1 rfl rfl (sg1 rfl rfl (sg1 rfl rfl (sg1 rfl rfl (sg1 rfl rfl rfl))))) ?_
      obtain ⟨q2, e_q2, hf⟩ := bnd hf
      refine Ex.callV (a := 1) (As := [.int (x1 - 8), .int x2]) (r := []) (v := some (.int q2.1)) (h' := q2.2) rfl rfl (by decide) rfl (Nat.le_of_ble_eq_true rfl) rfl (E_67 (Nat.le_trans (by decide) hd) e_q2) rfl ?_
      refine Ex.ifc rfl rfl (fun (c0 : q2.1 = 0) => ?_) (fun (c0 : ¬ (q2.1 = 0)) => ?_)
      · rw [if_pos c0] at hf
        exact Ex.weak (sm_le_n (sm_le_n (sm_le_n sm_le_nil))) (B_66_32 hd  hf hs)
      · rw [if_neg c0] at hf
        exact Ex.weak (sm_le_n (sm_le_n (sm_le_n sm_le_nil))) (B_66_28 hd  hf hs)
/-- HandleHouse$Kinds.opens(II)Z -/
abbrev F_66 (x1 : Int32) (x2 : Int32) (h : sm_H) : Option (Int32 × sm_H) := F_66_0 x1 x2 h
theorem E_66 {L : Nat} {xs : Nat → Int32} {d : Nat} (hd : 2 ≤ d) {x1 : Int32} {x2 : Int32} {h : sm_H} {r : Int32 × sm_H} (hf : F_66 x1 x2 h = some r) : RUN L xs d 66 [.ref 1, .int x1, .int x2] h (some (.int r.1), r.2) := by
  obtain ⟨d, rfl⟩ : ∃ e, d = e + 1 := ⟨d - 1, by omega⟩
  exact ⟨Nat.le_of_ble_eq_true rfl, B_66_0 (by omega) hf rfl⟩
def F_91_52 (y1 : Int32) (h : sm_H) : Option (Int32 × sm_H) :=
  (F_68 (h.2.1 49 9) y1 h).bind fun q1 =>
  (F_75 q1.1 0 q1.2).bind fun q2 =>
  some (0, q2.2)
theorem B_91_52 {L : Nat} {xs : Nat → Int32} {d : Nat} (hd : 2 ≤ d) {res : Option Value × sm_H} {y1 : Int32}  {h : sm_H} {r : (Int32 × sm_H)} (hf : F_91_52 y1 h = some r) (hs : (fun (r : Int32 × sm_H) => res = (some (.int r.1), r.2)) r) : Ex (P_G L xs) (RUN L xs d) (sm_lk P_t91) 0 52 [some (.ref 49), some (.int y1), none] [] h res := by
  unfold F_91_52 at hf
  refine Ex.seg 6 (pc' := 62) (lc' := [some (.ref 49), some (.int y1), none]) (st' := [.int y1, .long (h.2.1 49 9), .ref 1, .ref 49]) (h' := h) (sg1 rfl rfl (sg1 rfl rfl (sg1 rfl rfl (sg1 rfl rfl (sg1 rfl rfl (sg1 rfl rfl rfl)))))) ?_
  obtain ⟨q1, e_q1, hf⟩ := bnd hf
  refine Ex.callV (a := 1) (As := [.long (h.2.1 49 9), .int y1]) (r := [.ref 49]) (v := some (.long q1.1)) (h' := q1.2) rfl rfl (by decide) rfl (Nat.le_of_ble_eq_true rfl) rfl (E_68 (Nat.le_trans (by decide) hd) e_q1) rfl ?_
  refine Ex.seg 1 (pc' := 66) (lc' := [some (.ref 49), some (.int y1), none]) (st' := [.int 0, .long q1.1, .ref 49]) (h' := q1.2) (sg1 rfl rfl rfl) ?_
  obtain ⟨q2, e_q2, hf⟩ := bnd hf
  refine Ex.callV (a := 49) (As := [.long q1.1, .int 0]) (r := []) (v := some (.int q2.1)) (h' := q2.2) rfl rfl (by decide) rfl (Nat.le_of_ble_eq_true rfl) rfl (E_75 (Nat.le_trans (by decide) hd) e_q2) rfl ?_
  refine Ex.seg 2 (pc' := 71) (lc' := [some (.ref 49), some (.int y1), none]) (st' := [.int 0]) (h' := q2.2) (sg1 rfl rfl (sg1 rfl rfl rfl)) ?_
  obtain rfl := Option.some.inj hf
  exact Ex.iret rfl rfl (fun c0 => by cases c0) hs
def F_91_50  (h : sm_H) : Option (Int32 × sm_H) :=
  some (2, h)
theorem B_91_50 {L : Nat} {xs : Nat → Int32} {d : Nat} (hd : 2 ≤ d) {res : Option Value × sm_H}   {h : sm_H} {r : (Int32 × sm_H)} (hf : F_91_50  h = some r) (hs : (fun (r : Int32 × sm_H) => res = (some (.int r.1), r.2)) r) : Ex (P_G L xs) (RUN L xs d) (sm_lk P_t91) 0 50 [none, none, none] [] h res := by
  unfold F_91_50 at hf
  refine Ex.seg 1 (pc' := 51) (lc' := [none, none, none]) (st' := [.int 2]) (h' := h) (sg1 rfl rfl rfl) ?_
  obtain rfl := Option.some.inj hf
  exact Ex.iret rfl rfl (fun c0 => by cases c0) hs
def F_91_16 (z0 : Int32) (h : sm_H) : Option (Int32 × sm_H) :=
  some (z0, h)
theorem B_91_16 {L : Nat} {xs : Nat → Int32} {d : Nat} (hd : 2 ≤ d) {res : Option Value × sm_H} {z0 : Int32}  {h : sm_H} {r : (Int32 × sm_H)} (hf : F_91_16 z0 h = some r) (hs : (fun (r : Int32 × sm_H) => res = (some (.int r.1), r.2)) r) : Ex (P_G L xs) (RUN L xs d) (sm_lk P_t91) 0 16 [none, none, none] [.int z0] h res := by
  unfold F_91_16 at hf
  obtain rfl := Option.some.inj hf
  exact Ex.iret rfl rfl (fun c0 => by cases c0) hs
def F_91_0 (x1 : Int32) (x2 : Int32) (h : sm_H) : Option (Int32 × sm_H) :=
  if (h.1 49 10) = 0 then (if x2 = 0 then (F_91_16 1 h)
  else (F_91_16 0 h))
  else ((F_58 (h.1 49 10) h).bind fun q3 =>
  if q3.1 = 0 then (F_91_50 q3.2)
  else (if x2 = 0 then ((F_66 (q3.2.1 49 10) x1 q3.2).bind fun q4 =>
  if q4.1 = 0 then (F_91_50 q4.2)
  else (F_91_52 x1 q4.2))
  else (F_91_52 x1 q3.2)))
theorem B_91_0 {L : Nat} {xs : Nat → Int32} {d : Nat} (hd : 2 ≤ d) {res : Option Value × sm_H} {x1 : Int32} {x2 : Int32}  {h : sm_H} {r : (Int32 × sm_H)} (hf : F_91_0 x1 x2 h = some r) (hs : (fun (r : Int32 × sm_H) => res = (some (.int r.1), r.2)) r) : Ex (P_G L xs) (RUN L xs d) (sm_lk P_t91) 0 0 [some (.ref 49), some (.int x1), some (.int x2)] [] h res := by
  unfold F_91_0 at hf
  refine Ex.seg 2 (pc' := 4) (lc' := [some (.ref 49), some (.int x1), some (.int x2)]) (st' := [.int (h.1 49 10)]) (h' := h) (sg1 rfl rfl (sg1 rfl rfl rfl)) ?_
  refine Ex.ifc rfl rfl (fun (c0 : ¬ ((h.1 49 10) = 0)) => ?_) (fun (c0 : ¬ ¬ ((h.1 49 10) = 0)) => ?_)
  · rw [if_neg c0] at hf
    refine Ex.seg 4 (pc' := 25) (lc' := [some (.ref 49), some (.int x1), some (.int x2)]) (st' := [.int (h.1 49 10), .ref 1]) (h' := h) (sg1 rfl rfl (sg1 rfl rfl (sg1 rfl rfl (sg1 rfl rfl rfl)))) ?_
    obtain ⟨q3, e_q3, hf⟩ := bnd hf
    refine Ex.callV (a := 1) (As := [.int (h.1 49 10)]) (r := []) (v := some (.int q3.1)) (h' := q3.2) rfl rfl (by decide) rfl (Nat.le_of_ble_eq_true rfl) rfl (E_58 (Nat.le_trans (by decide) hd) e_q3) rfl ?_
    refine Ex.ifc rfl rfl (fun (c0 : q3.1 = 0) => ?_) (fun (c0 : ¬ (q3.1 = 0)) => ?_)
    · rw [if_pos c0] at hf
      exact Ex.weak (sm_le_n (sm_le_n (sm_le_n sm_le_nil))) (B_91_50 hd  hf hs)
    · rw [if_neg c0] at hf
      refine Ex.seg 1 (pc' := 32) (lc' := [some (.ref 49), some (.int x1), some (.int x2)]) (st' := [.int x2]) (h' := q3.2) (sg1 rfl rfl rfl) ?_
      refine Ex.ifc rfl rfl (fun (c0 : ¬ (x2 = 0)) => ?_) (fun (c0 : ¬ ¬ (x2 = 0)) => ?_)
      · rw [if_neg c0] at hf
        exact Ex.weak (sm_le_s (sm_le_s (sm_le_n sm_le_nil))) (B_91_52 hd  hf hs)
      · rw [if_pos (Classical.not_not.mp c0)] at hf
        refine Ex.seg 5 (pc' := 44) (lc' := [some (.ref 49), some (.int x1), some (.int x2)]) (st' := [.int x1, .int (q3.2.1 49 10), .ref 1]) (h' := q3.2) (sg1 rfl rfl (sg1 rfl rfl (sg1 rfl rfl (sg1 rfl rfl (sg1 rfl rfl rfl))))) ?_
        obtain ⟨q4, e_q4, hf⟩ := bnd hf
        refine Ex.callV (a := 1) (As := [.int (q3.2.1 49 10), .int x1]) (r := []) (v := some (.int q4.1)) (h' := q4.2) rfl rfl (by decide) rfl (Nat.le_of_ble_eq_true rfl) rfl (E_66 (Nat.le_trans (by decide) hd) e_q4) rfl ?_
        refine Ex.ifc rfl rfl (fun (c0 : ¬ (q4.1 = 0)) => ?_) (fun (c0 : ¬ ¬ (q4.1 = 0)) => ?_)
        · rw [if_neg c0] at hf
          exact Ex.weak (sm_le_s (sm_le_s (sm_le_n sm_le_nil))) (B_91_52 hd  hf hs)
        · rw [if_pos (Classical.not_not.mp c0)] at hf
          exact Ex.weak (sm_le_n (sm_le_n (sm_le_n sm_le_nil))) (B_91_50 hd  hf hs)
  · rw [if_pos (Classical.not_not.mp c0)] at hf
    refine Ex.seg 1 (pc' := 8) (lc' := [some (.ref 49), some (.int x1), some (.int x2)]) (st' := [.int x2]) (h' := h) (sg1 rfl rfl rfl) ?_
    refine Ex.ifc rfl rfl (fun (c0 : x2 = 0) => ?_) (fun (c0 : ¬ (x2 = 0)) => ?_)
    · rw [if_pos c0] at hf
      refine Ex.seg 1 (pc' := 16) (lc' := [some (.ref 49), some (.int x1), some (.int x2)]) (st' := [.int 1]) (h' := h) (sg1 rfl rfl rfl) ?_
      exact Ex.weak (sm_le_n (sm_le_n (sm_le_n sm_le_nil))) (B_91_16 hd  hf hs)
    · rw [if_neg c0] at hf
      refine Ex.seg 2 (pc' := 16) (lc' := [some (.ref 49), some (.int x1), some (.int x2)]) (st' := [.int 0]) (h' := h) (sg1 rfl rfl (sg1 rfl rfl rfl)) ?_
      exact Ex.weak (sm_le_n (sm_le_n (sm_le_n sm_le_nil))) (B_91_16 hd  hf hs)
/-- HandleHouse$Machine.unbox(IZ)I -/
abbrev F_91 (x1 : Int32) (x2 : Int32) (h : sm_H) : Option (Int32 × sm_H) := F_91_0 x1 x2 h
theorem E_91 {L : Nat} {xs : Nat → Int32} {d : Nat} (hd : 3 ≤ d) {x1 : Int32} {x2 : Int32} {h : sm_H} {r : Int32 × sm_H} (hf : F_91 x1 x2 h = some r) : RUN L xs d 91 [.ref 49, .int x1, .int x2] h (some (.int r.1), r.2) := by
  obtain ⟨d, rfl⟩ : ∃ e, d = e + 1 := ⟨d - 1, by omega⟩
  exact ⟨Nat.le_of_ble_eq_true rfl, B_91_0 (by omega) hf rfl⟩
def F_104_114 (z1 : Int64) (h : sm_H) : Option (Int32 × sm_H) :=
  (F_75 z1 0 h).bind fun q1 =>
  some (q1.1, q1.2)
theorem B_104_114 {L : Nat} {xs : Nat → Int32} {d : Nat} (hd : 1 ≤ d) {res : Option Value × sm_H} {z1 : Int64}  {h : sm_H} {r : (Int32 × sm_H)} (hf : F_104_114 z1 h = some r) (hs : (fun (r : Int32 × sm_H) => res = (some (.int r.1), r.2)) r) : Ex (P_G L xs) (RUN L xs d) (sm_lk P_t104) 0 114 [none, none, none, none, none, none, none, none, none] [.long z1, .ref 49] h res := by
  unfold F_104_114 at hf
  refine Ex.seg 1 (pc' := 115) (lc' := [none, none, none, none, none, none, none, none, none]) (st' := [.int 0, .long z1, .ref 49]) (h' := h) (sg1 rfl rfl rfl) ?_
  obtain ⟨q1, e_q1, hf⟩ := bnd hf
  refine Ex.callV (a := 49) (As := [.long z1, .int 0]) (r := []) (v := some (.int q1.1)) (h' := q1.2) rfl rfl (by decide) rfl (Nat.le_of_ble_eq_true rfl) rfl (E_75 (Nat.le_trans (by decide) hd) e_q1) rfl ?_
  obtain rfl := Option.some.inj hf
  exact Ex.iret rfl rfl (fun c0 => by cases c0) hs
def F_104_98 (y2 : Int32) (z0 : Int64) (h : sm_H) : Option (Int32 × sm_H) :=
  if y2 = 0 then (F_104_114 (Int32.toInt64 (Int64.toInt32 z0)) h)
  else (F_104_114 z0 h)
theorem B_104_98 {L : Nat} {xs : Nat → Int32} {d : Nat} (hd : 1 ≤ d) {res : Option Value × sm_H} {y2 : Int32} {z0 : Int64}  {h : sm_H} {r : (Int32 × sm_H)} (hf : F_104_98 y2 z0 h = some r) (hs : (fun (r : Int32 × sm_H) => res = (some (.int r.1), r.2)) r) : Ex (P_G L xs) (RUN L xs d) (sm_lk P_t104) 0 98 [some (.ref 49), none, some (.int y2), none, none, none, none, none, none] [.long z0] h res := by
  unfold F_104_98 at hf
  refine Ex.seg 3 (pc' := 102) (lc' := [some (.ref 49), none, some (.int y2), none, none, none, none, some (.long z0), none]) (st' := [.int y2, .ref 49]) (h' := h) (sg1 rfl rfl (sg1 rfl rfl (sg1 rfl rfl rfl))) ?_
  refine Ex.ifc rfl rfl (fun (c0 : y2 = 0) => ?_) (fun (c0 : ¬ (y2 = 0)) => ?_)
  · rw [if_pos c0] at hf
    refine Ex.seg 3 (pc' := 114) (lc' := [some (.ref 49), none, some (.int y2), none, none, none, none, some (.long z0), none]) (st' := [.long (Int32.toInt64 (Int64.toInt32 z0)), .ref 49]) (h' := h) (sg1 rfl rfl (sg1 rfl rfl (sg1 rfl rfl rfl))) ?_
    exact Ex.weak (sm_le_n (sm_le_s (sm_le_n (sm_le_s (sm_le_s (sm_le_s (sm_le_s (sm_le_n (sm_le_s sm_le_nil))))))))) (B_104_114 hd  hf hs)
  · rw [if_neg c0] at hf
    refine Ex.seg 2 (pc' := 114) (lc' := [some (.ref 49), none, some (.int y2), none, none, none, none, some (.long z0), none]) (st' := [.long z0, .ref 49]) (h' := h) (sg1 rfl rfl (sg1 rfl rfl rfl)) ?_
    exact Ex.weak (sm_le_n (sm_le_s (sm_le_n (sm_le_s (sm_le_s (sm_le_s (sm_le_s (sm_le_n (sm_le_s sm_le_nil))))))))) (B_104_114 hd  hf hs)
def F_104_71 (y1 : Int32) (y2 : Int32) (y3 : Int64) (y5 : Int64) (h : sm_H) : Option (Int32 × sm_H) :=
  if y1 < 8 then ((F_105 y1 y3 y5 h).bind fun q2 =>
  F_104_98 y2 q2.1 q2.2)
  else ((F_106 y1 y2 y3 (Int64.toInt32 y5) h).bind fun q3 =>
  F_104_98 y2 q3.1 q3.2)
theorem B_104_71 {L : Nat} {xs : Nat → Int32} {d : Nat} (hd : 1 ≤ d) {res : Option Value × sm_H} {y1 : Int32} {y2 : Int32} {y3 : Int64} {y5 : Int64}  {h : sm_H} {r : (Int32 × sm_H)} (hf : F_104_71 y1 y2 y3 y5 h = some r) (hs : (fun (r : Int32 × sm_H) => res = (some (.int r.1), r.2)) r) : Ex (P_G L xs) (RUN L xs d) (sm_lk P_t104) 0 71 [some (.ref 49), some (.int y1), some (.int y2), some (.long y3), none, some (.long y5), none, none, none] [] h res := by
  unfold F_104_71 at hf
  refine Ex.seg 2 (pc' := 74) (lc' := [some (.ref 49), some (.int y1), some (.int y2), some (.long y3), none, some (.long y5), none, none, none]) (st' := [.int 8, .int y1]) (h' := h) (sg1 rfl rfl (sg1 rfl rfl rfl)) ?_
  refine Ex.icmp rfl rfl (fun (c0 : y1 < 8) => ?_) (fun (c0 : ¬ (y1 < 8)) => ?_)
  · rw [if_pos c0] at hf
    refine Ex.seg 4 (pc' := 95) (lc' := [some (.ref 49), some (.int y1), some (.int y2), some (.long y3), none, some (.long y5), none, none, none]) (st' := [.long y5, .long y3, .int y1, .ref 49]) (h' := h) (sg1 rfl rfl (sg1 rfl rfl (sg1 rfl rfl (sg1 rfl rfl rfl)))) ?_
    obtain ⟨q2, e_q2, hf⟩ := bnd hf
    refine Ex.callV (a := 49) (As := [.int y1, .long y3, .long y5]) (r := []) (v := some (.long q2.1)) (h' := q2.2) rfl rfl (by decide) rfl (Nat.le_of_ble_eq_true rfl) rfl (E_105 (Nat.le_trans (by decide) hd) e_q2) rfl ?_
    exact Ex.weak (sm_le_s (sm_le_n (sm_le_s (sm_le_n (sm_le_s (sm_le_n (sm_le_s (sm_le_s (sm_le_s sm_le_nil))))))))) (B_104_98 hd  hf hs)
  · rw [if_neg c0] at hf
    refine Ex.seg 6 (pc' := 84) (lc' := [some (.ref 49), some (.int y1), some (.int y2), some (.long y3), none, some (.long y5), none, none, none]) (st' := [.int (Int64.toInt32 y5), .long y3, .int y2, .int y1, .ref 49]) (h' := h) (sg1 rfl rfl (sg1 rfl rfl (sg1 rfl rfl (sg1 rfl rfl (sg1 rfl rfl (sg1 rfl rfl rfl)))))) ?_
    obtain ⟨q3, e_q3, hf⟩ := bnd hf
    refine Ex.callV (a := 49) (As := [.int y1, .int y2, .long y3, .int (Int64.toInt32 y5)]) (r := []) (v := some (.long q3.1)) (h' := q3.2) rfl rfl (by decide) rfl (Nat.le_of_ble_eq_true rfl) rfl (E_106 (Nat.le_trans (by decide) hd) e_q3) rfl ?_
    refine Ex.seg 1 (pc' := 98) (lc' := [some (.ref 49), some (.int y1), some (.int y2), some (.long y3), none, some (.long y5), none, none, none]) (st' := [.long q3.1]) (h' := q3.2) (sg1 rfl rfl rfl) ?_
    exact Ex.weak (sm_le_s (sm_le_n (sm_le_s (sm_le_n (sm_le_s (sm_le_n (sm_le_s (sm_le_s (sm_le_s sm_le_nil))))))))) (B_104_98 hd  hf hs)
def F_104_58 (y1 : Int32) (y2 : Int32) (y3 : Int64) (y5 : Int64) (h : sm_H) : Option (Int32 × sm_H) :=
  if (lg_cmp y5 0) = 0 then ((F_76 3 h).bind fun q4 =>
  some (q4.1, q4.2))
  else (F_104_71 y1 y2 y3 y5 h)
theorem B_104_58 {L : Nat} {xs : Nat → Int32} {d : Nat} (hd : 1 ≤ d) {res : Option Value × sm_H} {y1 : Int32} {y2 : Int32} {y3 : Int64} {y5 : Int64}  {h : sm_H} {r : (Int32 × sm_H)} (hf : F_104_58 y1 y2 y3 y5 h = some r) (hs : (fun (r : Int32 × sm_H) => res = (some (.int r.1), r.2)) r) : Ex (P_G L xs) (RUN L xs d) (sm_lk P_t104) 0 58 [some (.ref 49), some (.int y1), some (.int y2), some (.long y3), none, some (.long y5), none, none, none] [] h res := by
  unfold F_104_58 at hf
  refine Ex.seg 3 (pc' := 62) (lc' := [some (.ref 49), some (.int y1), some (.int y2), some (.long y3), none, some (.long y5), none, none, none]) (st' := [.int (lg_cmp y5 0)]) (h' := h) (sg1 rfl rfl (sg1 rfl rfl (sg1 rfl rfl rfl))) ?_
  refine Ex.ifc rfl rfl (fun (c0 : ¬ ((lg_cmp y5 0) = 0)) => ?_) (fun (c0 : ¬ ¬ ((lg_cmp y5 0) = 0)) => ?_)
  · rw [if_neg c0] at hf
    exact Ex.weak (sm_le_s (sm_le_s (sm_le_s (sm_le_s (sm_le_s (sm_le_s (sm_le_s (sm_le_s (sm_le_s sm_le_nil))))))))) (B_104_71 hd  hf hs)
  · rw [if_pos (Classical.not_not.mp c0)] at hf
    refine Ex.seg 2 (pc' := 67) (lc' := [some (.ref 49), some (.int y1), some (.int y2), some (.long y3), none, some (.long y5), none, none, none]) (st' := [.int 3, .ref 49]) (h' := h) (sg1 rfl rfl (sg1 rfl rfl rfl)) ?_
    obtain ⟨q4, e_q4, hf⟩ := bnd hf
    refine Ex.callV (a := 49) (As := [.int 3]) (r := []) (v := some (.int q4.1)) (h' := q4.2) rfl rfl (by decide) rfl (Nat.le_of_ble_eq_true rfl) rfl (E_76 (Nat.le_trans (by decide) hd) e_q4) rfl ?_
    obtain rfl := Option.some.inj hf
    exact Ex.iret rfl rfl (fun c0 => by cases c0) hs
def F_104_43 (z1 : Int64) (h : sm_H) : Option (Int32 × sm_H) :=
  (F_75 z1 0 h).bind fun q5 =>
  some (q5.1, q5.2)
theorem B_104_43 {L : Nat} {xs : Nat → Int32} {d : Nat} (hd : 1 ≤ d) {res : Option Value × sm_H} {z1 : Int64}  {h : sm_H} {r : (Int32 × sm_H)} (hf : F_104_43 z1 h = some r) (hs : (fun (r : Int32 × sm_H) => res = (some (.int r.1), r.2)) r) : Ex (P_G L xs) (RUN L xs d) (sm_lk P_t104) 0 43 [none, none, none, none, none, none, none, none, none] [.long z1, .ref 49] h res := by
  unfold F_104_43 at hf
  refine Ex.seg 1 (pc' := 44) (lc' := [none, none, none, none, none, none, none, none, none]) (st' := [.int 0, .long z1, .ref 49]) (h' := h) (sg1 rfl rfl rfl) ?_
  obtain ⟨q5, e_q5, hf⟩ := bnd hf
  refine Ex.callV (a := 49) (As := [.long z1, .int 0]) (r := []) (v := some (.int q5.1)) (h' := q5.2) rfl rfl (by decide) rfl (Nat.le_of_ble_eq_true rfl) rfl (E_75 (Nat.le_trans (by decide) hd) e_q5) rfl ?_
  obtain rfl := Option.some.inj hf
  exact Ex.iret rfl rfl (fun c0 => by cases c0) hs
def F_104_19 (z1 : Int64) (h : sm_H) : Option (Int32 × sm_H) :=
  (F_75 z1 0 h).bind fun q6 =>
  some (q6.1, q6.2)
theorem B_104_19 {L : Nat} {xs : Nat → Int32} {d : Nat} (hd : 1 ≤ d) {res : Option Value × sm_H} {z1 : Int64}  {h : sm_H} {r : (Int32 × sm_H)} (hf : F_104_19 z1 h = some r) (hs : (fun (r : Int32 × sm_H) => res = (some (.int r.1), r.2)) r) : Ex (P_G L xs) (RUN L xs d) (sm_lk P_t104) 0 19 [none, none, none, none, none, none, none, none, none] [.long z1, .ref 49] h res := by
  unfold F_104_19 at hf
  refine Ex.seg 1 (pc' := 20) (lc' := [none, none, none, none, none, none, none, none, none]) (st' := [.int 0, .long z1, .ref 49]) (h' := h) (sg1 rfl rfl rfl) ?_
  obtain ⟨q6, e_q6, hf⟩ := bnd hf
  refine Ex.callV (a := 49) (As := [.long z1, .int 0]) (r := []) (v := some (.int q6.1)) (h' := q6.2) rfl rfl (by decide) rfl (Nat.le_of_ble_eq_true rfl) rfl (E_75 (Nat.le_trans (by decide) hd) e_q6) rfl ?_
  obtain rfl := Option.some.inj hf
  exact Ex.iret rfl rfl (fun c0 => by cases c0) hs
def F_104_0 (x1 : Int32) (x2 : Int32) (x3 : Int64) (x5 : Int64) (h : sm_H) : Option (Int32 × sm_H) :=
  if x1 = 11 then (if 0 ≤ (lg_cmp x3 x5) then (F_104_19 0 h)
  else (F_104_19 1 h))
  else (if x1 = 12 then (if (lg_cmp x3 x5) = 0 then (F_104_43 1 h)
  else (F_104_43 0 h))
  else (if x1 = 3 then (F_104_58 x1 x2 x3 x5 h)
  else (if x1 = 4 then (F_104_58 x1 x2 x3 x5 h)
  else (F_104_71 x1 x2 x3 x5 h))))
theorem B_104_0 {L : Nat} {xs : Nat → Int32} {d : Nat} (hd : 1 ≤ d) {res : Option Value × sm_H} {x1 : Int32} {x2 : Int32} {x3 : Int64} {x5 : Int64}  {h : sm_H} {r : (Int32 × sm_H)} (hf : F_104_0 x1 x2 x3 x5 h = some r) (hs : (fun (r : Int32 × sm_H) => res = (some (.int r.1), r.2)) r) : Ex (P_G L xs) (RUN L xs d) (sm_lk P_t104) 0 0 [some (.ref 49), some (.int x1), some (.int x2), some (.long x3), none, some (.long x5), none, none, none] [] h res := by
  unfold F_104_0 at hf
  refine Ex.seg 2 (pc' := 3) (lc' := [some (.ref 49), some (.int x1), some (.int x2), some (.long x3), none, some (.long x5), none, none, none]) (st' := [.int 11, .int x1]) (h' := h) (sg1 rfl rfl (sg1 rfl rfl rfl)) ?_
  refine Ex.icmp rfl rfl (fun (c0 : ¬ (x1 = 11)) => ?_) (fun (c0 : ¬ ¬ (x1 = 11)) => ?_)
  · rw [if_neg c0] at hf
    refine Ex.seg 2 (pc' := 27) (lc' := [some (.ref 49), some (.int x1), some (.int x2), some (.long x3), none, some (.long x5), none, none, none]) (st' := [.int 12, .int x1]) (h' := h) (sg1 rfl rfl (sg1 rfl rfl rfl)) ?_
    refine Ex.icmp rfl rfl (fun (c0 : ¬ (x1 = 12)) => ?_) (fun (c0 : ¬ ¬ (x1 = 12)) => ?_)
    · rw [if_neg c0] at hf
      refine Ex.seg 2 (pc' := 50) (lc' := [some (.ref 49), some (.int x1), some (.int x2), some (.long x3), none, some (.long x5), none, none, none]) (st' := [.int 3, .int x1]) (h' := h) (sg1 rfl rfl (sg1 rfl rfl rfl)) ?_
      refine Ex.icmp rfl rfl (fun (c0 : x1 = 3) => ?_) (fun (c0 : ¬ (x1 = 3)) => ?_)
      · rw [if_pos c0] at hf
        exact Ex.weak (sm_le_s (sm_le_s (sm_le_s (sm_le_s (sm_le_s (sm_le_s (sm_le_s (sm_le_s (sm_le_s sm_le_nil))))))))) (B_104_58 hd  hf hs)
      · rw [if_neg c0] at hf
        refine Ex.seg 2 (pc' := 55) (lc' := [some (.ref 49), some (.int x1), some (.int x2), some (.long x3), none, some (.long x5), none, none, none]) (st' := [.int 4, .int x1]) (h' := h) (sg1 rfl rfl (sg1 rfl rfl rfl)) ?_
        refine Ex.icmp rfl rfl (fun (c0 : ¬ (x1 = 4)) => ?_) (fun (c0 : ¬ ¬ (x1 = 4)) => ?_)
        · rw [if_neg c0] at hf
          exact Ex.weak (sm_le_s (sm_le_s (sm_le_s (sm_le_s (sm_le_s (sm_le_s (sm_le_s (sm_le_s (sm_le_s sm_le_nil))))))))) (B_104_71 hd  hf hs)
        · rw [if_pos (Classical.not_not.mp c0)] at hf
          exact Ex.weak (sm_le_s (sm_le_s (sm_le_s (sm_le_s (sm_le_s (sm_le_s (sm_le_s (sm_le_s (sm_le_s sm_le_nil))))))))) (B_104_58 hd  hf hs)
    · rw [if_pos (Classical.not_not.mp c0)] at hf
      refine Ex.seg 4 (pc' := 35) (lc' := [some (.ref 49), some (.int x1), some (.int x2), some (.long x3), none, some (.long x5), none, none, none]) (st' := [.int (lg_cmp x3 x5), .ref 49]) (h' := h) (sg1 rfl rfl (sg1 rfl rfl (sg1 rfl rfl (sg1 rfl rfl rfl)))) ?_
      refine Ex.ifc rfl rfl (fun (c0 : ¬ ((lg_cmp x3 x5) = 0)) => ?_) (fun (c0 : ¬ ¬ ((lg_cmp x3 x5) = 0)) => ?_)
      · rw [if_neg c0] at hf
        refine Ex.seg 1 (pc' := 43) (lc' := [some (.ref 49), some (.int x1), some (.int x2), some (.long x3), none, some (.long x5), none, none, none]) (st' := [.long 0, .ref 49]) (h' := h) (sg1 rfl rfl rfl) ?_
        exact Ex.weak (sm_le_n (sm_le_n (sm_le_n (sm_le_n (sm_le_s (sm_le_n (sm_le_s (sm_le_s (sm_le_s sm_le_nil))))))))) (B_104_43 hd  hf hs)
      · rw [if_pos (Classical.not_not.mp c0)] at hf
        refine Ex.seg 2 (pc' := 43) (lc' := [some (.ref 49), some (.int x1), some (.int x2), some (.long x3), none, some (.long x5), none, none, none]) (st' := [.long 1, .ref 49]) (h' := h) (sg1 rfl rfl (sg1 rfl rfl rfl)) ?_
        exact Ex.weak (sm_le_n (sm_le_n (sm_le_n (sm_le_n (sm_le_s (sm_le_n (sm_le_s (sm_le_s (sm_le_s sm_le_nil))))))))) (B_104_43 hd  hf hs)
  · rw [if_pos (Classical.not_not.mp c0)] at hf
    refine Ex.seg 4 (pc' := 11) (lc' := [some (.ref 49), some (.int x1), some (.int x2), some (.long x3), none, some (.long x5), none, none, none]) (st' := [.int (lg_cmp x3 x5), .ref 49]) (h' := h) (sg1 rfl rfl (sg1 rfl rfl (sg1 rfl rfl (sg1 rfl rfl rfl)))) ?_
    refine Ex.ifc rfl rfl (fun (c0 : 0 ≤ (lg_cmp x3 x5)) => ?_) (fun (c0 : ¬ (0 ≤ (lg_cmp x3 x5))) => ?_)
    · rw [if_pos c0] at hf
      refine Ex.seg 1 (pc' := 19) (lc' := [some (.ref 49), some (.int x1), some (.int x2), some (.long x3), none, some (.long x5), none, none, none]) (st' := [.long 0, .ref 49]) (h' := h) (sg1 rfl rfl rfl) ?_
      exact Ex.weak (sm_le_n (sm_le_n (sm_le_n (sm_le_n (sm_le_s (sm_le_n (sm_le_s (sm_le_s (sm_le_s sm_le_nil))))))))) (B_104_19 hd  hf hs)
    · rw [if_neg c0] at hf
      refine Ex.seg 2 (pc' := 19) (lc' := [some (.ref 49), some (.int x1), some (.int x2), some (.long x3), none, some (.long x5), none, none, none]) (st' := [.long 1, .ref 49]) (h' := h) (sg1 rfl rfl (sg1 rfl rfl rfl)) ?_
      exact Ex.weak (sm_le_n (sm_le_n (sm_le_n (sm_le_n (sm_le_s (sm_le_n (sm_le_s (sm_le_s (sm_le_s sm_le_nil))))))))) (B_104_19 hd  hf hs)
/-- HandleHouse$Machine.operate(IZJJ)I -/
abbrev F_104 (x1 : Int32) (x2 : Int32) (x3 : Int64) (x5 : Int64) (h : sm_H) : Option (Int32 × sm_H) := F_104_0 x1 x2 x3 x5 h
theorem E_104 {L : Nat} {xs : Nat → Int32} {d : Nat} (hd : 2 ≤ d) {x1 : Int32} {x2 : Int32} {x3 : Int64} {x5 : Int64} {h : sm_H} {r : Int32 × sm_H} (hf : F_104 x1 x2 x3 x5 h = some r) : RUN L xs d 104 [.ref 49, .int x1, .int x2, .long x3, .long x5] h (some (.int r.1), r.2) := by
  obtain ⟨d, rfl⟩ : ∃ e, d = e + 1 := ⟨d - 1, by omega⟩
  exact ⟨Nat.le_of_ble_eq_true rfl, B_104_0 (by omega) hf rfl⟩
def F_114_133 (y1 : Int32) (y2 : Int32) (y4 : Int32) (y5 : Int32) (z1 : Int32) (z2 : Int32) (h : sm_H) : Option (Int32 × sm_H) :=
  (some (sm_wI h 38 14 (z1 + z2))).bind fun h1 =>
  (F_117 y1 y2 y4 y5 h1).bind fun q2 =>
  some (q2.1, q2.2)
theorem B_114_133 {L : Nat} {xs : Nat → Int32} {d : Nat} (hd : 2 ≤ d) {res : Option Value × sm_H} {y1 : Int32} {y2 : Int32} {y4 : Int32} {y5 : Int32} {z1 : Int32} {z2 : Int32}  {h : sm_H} {r : (Int32 × sm_H)} (hf : F_114_133 y1 y2 y4 y5 z1 z2 h = some r) (hs : (fun (r : Int32 × sm_H) => res = (some (.int r.1), r.2)) r) : Ex (P_G L xs) (RUN L xs d) (sm_lk P_t114) 0 133 [some (.ref 38), some (.int y1), some (.int y2), none, some (.int y4), some (.int y5)] [.int z2, .int z1, .ref 38] h res := by
  unfold F_114_133 at hf
  refine Ex.seg 2 (pc' := 137) (lc' := [some (.ref 38), some (.int y1), some (.int y2), none, some (.int y4), some (.int y5)]) (st' := []) (h' := (sm_wI h 38 14 (z1 + z2))) (sg1 rfl rfl (sg1 rfl rfl rfl)) ?_
  obtain ⟨h1, e_h1, hf⟩ := bnd hf
  rw [Option.some.inj e_h1]
  refine Ex.seg 5 (pc' := 144) (lc' := [some (.ref 38), some (.int y1), some (.int y2), none, some (.int y4), some (.int y5)]) (st' := [.int y5, .int y4, .int y2, .int y1, .ref 38]) (h' := h1) (sg1 rfl rfl (sg1 rfl rfl (sg1 rfl rfl (sg1 rfl rfl (sg1 rfl rfl rfl))))) ?_
  obtain ⟨q2, e_q2, hf⟩ := bnd hf
  refine Ex.callV (a := 38) (As := [.int y1, .int y2, .int y4, .int y5]) (r := []) (v := some (.int q2.1)) (h' := q2.2) rfl rfl (by decide) rfl (Nat.le_of_ble_eq_true rfl) rfl (E_117 (Nat.le_trans (by decide) hd) e_q2) rfl ?_
  obtain rfl := Option.some.inj hf
  exact Ex.iret rfl rfl (fun c0 => by cases c0) hs
def F_114_117 (y1 : Int32) (y2 : Int32) (y4 : Int32) (y5 : Int32) (z1 : Int32) (z2 : Int32) (h : sm_H) : Option (Int32 × sm_H) :=
  (stI h 46 100 z1 z2).bind fun h3 =>
  if y4 = 0 then (F_114_133 y1 y2 y4 y5 (h3.1 38 14) 1 h3)
  else (F_114_133 y1 y2 y4 y5 (h3.1 38 14) 0 h3)
theorem B_114_117 {L : Nat} {xs : Nat → Int32} {d : Nat} (hd : 2 ≤ d) {res : Option Value × sm_H} {y1 : Int32} {y2 : Int32} {y4 : Int32} {y5 : Int32} {z1 : Int32} {z2 : Int32}  {h : sm_H} {r : (Int32 × sm_H)} (hf : F_114_117 y1 y2 y4 y5 z1 z2 h = some r) (hs : (fun (r : Int32 × sm_H) => res = (some (.int r.1), r.2)) r) : Ex (P_G L xs) (RUN L xs d) (sm_lk P_t114) 0 117 [some (.ref 38), some (.int y1), some (.int y2), none, some (.int y4), some (.int y5)] [.int z2, .int z1, .ref 46] h res := by
  unfold F_114_117 at hf
  obtain ⟨h3, e_h3, hf⟩ := bnd hf
  refine Ex.iast e_h3 rfl rfl ?_
  refine Ex.seg 4 (pc' := 125) (lc' := [some (.ref 38), some (.int y1), some (.int y2), none, some (.int y4), some (.int y5)]) (st' := [.int y4, .int (h3.1 38 14), .ref 38]) (h' := h3) (sg1 rfl rfl (sg1 rfl rfl (sg1 rfl rfl (sg1 rfl rfl rfl)))) ?_
  refine Ex.ifc rfl rfl (fun (c0 : y4 = 0) => ?_) (fun (c0 : ¬ (y4 = 0)) => ?_)
  · rw [if_pos c0] at hf
    refine Ex.seg 1 (pc' := 133) (lc' := [some (.ref 38), some (.int y1), some (.int y2), none, some (.int y4), some (.int y5)]) (st' := [.int 1, .int (h3.1 38 14), .ref 38]) (h' := h3) (sg1 rfl rfl rfl) ?_
    exact Ex.weak (sm_le_s (sm_le_s (sm_le_s (sm_le_s (sm_le_s (sm_le_s sm_le_nil)))))) (B_114_133 hd  hf hs)
  · rw [if_neg c0] at hf
    refine Ex.seg 2 (pc' := 133) (lc' := [some (.ref 38), some (.int y1), some (.int y2), none, some (.int y4), some (.int y5)]) (st' := [.int 0, .int (h3.1 38 14), .ref 38]) (h' := h3) (sg1 rfl rfl (sg1 rfl rfl rfl)) ?_
    exact Ex.weak (sm_le_s (sm_le_s (sm_le_s (sm_le_s (sm_le_s (sm_le_s sm_le_nil)))))) (B_114_133 hd  hf hs)
def F_114_63 (y1 : Int32) (y2 : Int32) (y3 : Int32) (y4 : Int32) (y5 : Int32) (h : sm_H) : Option (Int32 × sm_H) :=
  (stI h 43 100 (h.1 38 13) y3).bind fun h4 =>
  (stI h4 44 100 (h4.1 38 13) (-1)).bind fun h5 =>
  (stI h5 45 100 (h5.1 38 13) (-1)).bind fun h6 =>
  if y4 = 0 then (F_114_117 y1 y2 y4 y5 (h6.1 38 13) (h6.1 38 14) h6)
  else (F_114_117 y1 y2 y4 y5 (h6.1 38 13) (h6.1 38 13) h6)
theorem B_114_63 {L : Nat} {xs : Nat → Int32} {d : Nat} (hd : 2 ≤ d) {res : Option Value × sm_H} {y1 : Int32} {y2 : Int32} {y3 : Int32} {y4 : Int32} {y5 : Int32}  {h : sm_H} {r : (Int32 × sm_H)} (hf : F_114_63 y1 y2 y3 y4 y5 h = some r) (hs : (fun (r : Int32 × sm_H) => res = (some (.int r.1), r.2)) r) : Ex (P_G L xs) (RUN L xs d) (sm_lk P_t114) 0 63 [some (.ref 38), some (.int y1), some (.int y2), some (.int y3), some (.int y4), some (.int y5)] [] h res := by
  unfold F_114_63 at hf
  refine Ex.seg 5 (pc' := 72) (lc' := [some (.ref 38), some (.int y1), some (.int y2), some (.int y3), some (.int y4), some (.int y5)]) (st' := [.int y3, .int (h.1 38 13), .ref 43]) (h' := h) (sg1 rfl rfl (sg1 rfl rfl (sg1 rfl rfl (sg1 rfl rfl (sg1 rfl rfl rfl))))) ?_
  obtain ⟨h4, e_h4, hf⟩ := bnd hf
  refine Ex.iast e_h4 rfl rfl ?_
  refine Ex.seg 5 (pc' := 82) (lc' := [some (.ref 38), some (.int y1), some (.int y2), some (.int y3), some (.int y4), some (.int y5)]) (st' := [.int (-1), .int (h4.1 38 13), .ref 44]) (h' := h4) (sg1 rfl rfl (sg1 rfl rfl (sg1 rfl rfl (sg1 rfl rfl (sg1 rfl rfl rfl))))) ?_
  obtain ⟨h5, e_h5, hf⟩ := bnd hf
  refine Ex.iast e_h5 rfl rfl ?_
  refine Ex.seg 5 (pc' := 92) (lc' := [some (.ref 38), some (.int y1), some (.int y2), some (.int y3), some (.int y4), some (.int y5)]) (st' := [.int (-1), .int (h5.1 38 13), .ref 45]) (h' := h5) (sg1 rfl rfl (sg1 rfl rfl (sg1 rfl rfl (sg1 rfl rfl (sg1 rfl rfl rfl))))) ?_
  obtain ⟨h6, e_h6, hf⟩ := bnd hf
  refine Ex.iast e_h6 rfl rfl ?_
  refine Ex.seg 5 (pc' := 103) (lc' := [some (.ref 38), some (.int y1), some (.int y2), some (.int y3), some (.int y4), some (.int y5)]) (st' := [.int y4, .int (h6.1 38 13), .ref 46]) (h' := h6) (sg1 rfl rfl (sg1 rfl rfl (sg1 rfl rfl (sg1 rfl rfl (sg1 rfl rfl rfl))))) ?_
  refine Ex.ifc rfl rfl (fun (c0 : y4 = 0) => ?_) (fun (c0 : ¬ (y4 = 0)) => ?_)
  · rw [if_pos c0] at hf
    refine Ex.seg 2 (pc' := 117) (lc' := [some (.ref 38), some (.int y1), some (.int y2), some (.int y3), some (.int y4), some (.int y5)]) (st' := [.int (h6.1 38 14), .int (h6.1 38 13), .ref 46]) (h' := h6) (sg1 rfl rfl (sg1 rfl rfl rfl)) ?_
    exact Ex.weak (sm_le_s (sm_le_s (sm_le_s (sm_le_n (sm_le_s (sm_le_s sm_le_nil)))))) (B_114_117 hd  hf hs)
  · rw [if_neg c0] at hf
    refine Ex.seg 3 (pc' := 117) (lc' := [some (.ref 38), some (.int y1), some (.int y2), some (.int y3), some (.int y4), some (.int y5)]) (st' := [.int (h6.1 38 13), .int (h6.1 38 13), .ref 46]) (h' := h6) (sg1 rfl rfl (sg1 rfl rfl (sg1 rfl rfl rfl))) ?_
    exact Ex.weak (sm_le_s (sm_le_s (sm_le_s (sm_le_n (sm_le_s (sm_le_s sm_le_nil)))))) (B_114_117 hd  hf hs)
def F_114_60  (h : sm_H) : Option (Int32 × sm_H) :=
  some ((-5), h)
theorem B_114_60 {L : Nat} {xs : Nat → Int32} {d : Nat} (hd : 2 ≤ d) {res : Option Value × sm_H}   {h : sm_H} {r : (Int32 × sm_H)} (hf : F_114_60  h = some r) (hs : (fun (r : Int32 × sm_H) => res = (some (.int r.1), r.2)) r) : Ex (P_G L xs) (RUN L xs d) (sm_lk P_t114) 0 60 [none, none, none, none, none, none] [] h res := by
  unfold F_114_60 at hf
  refine Ex.seg 1 (pc' := 62) (lc' := [none, none, none, none, none, none]) (st' := [.int (-5)]) (h' := h) (sg1 rfl rfl rfl) ?_
  obtain rfl := Option.some.inj hf
  exact Ex.iret rfl rfl (fun c0 => by cases c0) hs
def F_114_22  (h : sm_H) : Option (Int32 × sm_H) :=
  some ((-1), h)
theorem B_114_22 {L : Nat} {xs : Nat → Int32} {d : Nat} (hd : 2 ≤ d) {res : Option Value × sm_H}   {h : sm_H} {r : (Int32 × sm_H)} (hf : F_114_22  h = some r) (hs : (fun (r : Int32 × sm_H) => res = (some (.int r.1), r.2)) r) : Ex (P_G L xs) (RUN L xs d) (sm_lk P_t114) 0 22 [none, none, none, none, none, none] [] h res := by
  unfold F_114_22 at hf
  refine Ex.seg 1 (pc' := 23) (lc' := [none, none, none, none, none, none]) (st' := [.int (-1)]) (h' := h) (sg1 rfl rfl rfl) ?_
  obtain rfl := Option.some.inj hf
  exact Ex.iret rfl rfl (fun c0 => by cases c0) hs
def F_114_0 (x1 : Int32) (x2 : Int32) (x3 : Int32) (x4 : Int32) (x5 : Int32) (h : sm_H) : Option (Int32 × sm_H) :=
  (F_55 x1 h).bind fun q7 =>
  if q7.1 = 0 then (F_114_22 q7.2)
  else ((F_54 x3 q7.2).bind fun q8 =>
  if q8.1 = 0 then (F_114_22 q8.2)
  else ((F_116 x2 x5 q8.2).bind fun q9 =>
  if q9.1 = 0 then (if 100 ≤ (q9.2.1 38 13) then (F_114_60 q9.2)
  else (if x4 = 0 then (if (q9.2.1 38 14) < 24 then (F_114_63 x1 x2 x3 x4 x5 q9.2)
  else (F_114_60 q9.2))
  else (F_114_63 x1 x2 x3 x4 x5 q9.2)))
  else (some ((-2), q9.2))))
theorem B_114_0 {L : Nat} {xs : Nat → Int32} {d : Nat} (hd : 2 ≤ d) {res : Option Value × sm_H} {x1 : Int32} {x2 : Int32} {x3 : Int32} {x4 : Int32} {x5 : Int32}  {h : sm_H} {r : (Int32 × sm_H)} (hf : F_114_0 x1 x2 x3 x4 x5 h = some r) (hs : (fun (r : Int32 × sm_H) => res = (some (.int r.1), r.2)) r) : Ex (P_G L xs) (RUN L xs d) (sm_lk P_t114) 0 0 [some (.ref 38), some (.int x1), some (.int x2), some (.int x3), some (.int x4), some (.int x5)] [] h res := by
  unfold F_114_0 at hf
  refine Ex.seg 3 (pc' := 5) (lc' := [some (.ref 38), some (.int x1), some (.int x2), some (.int x3), some (.int x4), some (.int x5)]) (st' := [.int x1, .ref 1]) (h' := h) (sg1 rfl rfl (sg1 rfl rfl (sg1 rfl rfl rfl))) ?_
  obtain ⟨q7, e_q7, hf⟩ := bnd hf
  refine Ex.callV (a := 1) (As := [.int x1]) (r := []) (v := some (.int q7.1)) (h' := q7.2) rfl rfl (by decide) rfl (Nat.le_of_ble_eq_true rfl) rfl (E_55 (Nat.le_trans (by decide) hd) e_q7) rfl ?_
  refine Ex.ifc rfl rfl (fun (c0 : q7.1 = 0) => ?_) (fun (c0 : ¬ (q7.1 = 0)) => ?_)
  · rw [if_pos c0] at hf
    exact Ex.weak (sm_le_n (sm_le_n (sm_le_n (sm_le_n (sm_le_n (sm_le_n sm_le_nil)))))) (B_114_22 hd  hf hs)
  · rw [if_neg c0] at hf
    refine Ex.seg 3 (pc' := 16) (lc' := [some (.ref 38), some (.int x1), some (.int x2), some (.int x3), some (.int x4), some (.int x5)]) (st' := [.int x3, .ref 1]) (h' := q7.2) (sg1 rfl rfl (sg1 rfl rfl (sg1 rfl rfl rfl))) ?_
    obtain ⟨q8, e_q8, hf⟩ := bnd hf
    refine Ex.callV (a := 1) (As := [.int x3]) (r := []) (v := some (.int q8.1)) (h' := q8.2) rfl rfl (by decide) rfl (Nat.le_of_ble_eq_true rfl) rfl (E_54 (Nat.le_trans (by decide) hd) e_q8) rfl ?_
    refine Ex.ifc rfl rfl (fun (c0 : ¬ (q8.1 = 0)) => ?_) (fun (c0 : ¬ ¬ (q8.1 = 0)) => ?_)
    · rw [if_neg c0] at hf
      refine Ex.seg 3 (pc' := 28) (lc' := [some (.ref 38), some (.int x1), some (.int x2), some (.int x3), some (.int x4), some (.int x5)]) (st' := [.int x5, .int x2, .ref 38]) (h' := q8.2) (sg1 rfl rfl (sg1 rfl rfl (sg1 rfl rfl rfl))) ?_
      obtain ⟨q9, e_q9, hf⟩ := bnd hf
      refine Ex.callV (a := 38) (As := [.int x2, .int x5]) (r := []) (v := some (.int q9.1)) (h' := q9.2) rfl rfl (by decide) rfl (Nat.le_of_ble_eq_true rfl) rfl (E_116 (Nat.le_trans (by decide) hd) e_q9) rfl ?_
      refine Ex.ifc rfl rfl (fun (c0 : q9.1 = 0) => ?_) (fun (c0 : ¬ (q9.1 = 0)) => ?_)
      · rw [if_pos c0] at hf
        refine Ex.seg 3 (pc' := 43) (lc' := [some (.ref 38), some (.int x1), some (.int x2), some (.int x3), some (.int x4), some (.int x5)]) (st' := [.int 100, .int (q9.2.1 38 13)]) (h' := q9.2) (sg1 rfl rfl (sg1 rfl rfl (sg1 rfl rfl rfl))) ?_
        refine Ex.icmp rfl rfl (fun (c0 : 100 ≤ (q9.2.1 38 13)) => ?_) (fun (c0 : ¬ (100 ≤ (q9.2.1 38 13))) => ?_)
        · rw [if_pos c0] at hf
          exact Ex.weak (sm_le_n (sm_le_n (sm_le_n (sm_le_n (sm_le_n (sm_le_n sm_le_nil)))))) (B_114_60 hd  hf hs)
        · rw [if_neg c0] at hf
          refine Ex.seg 1 (pc' := 48) (lc' := [some (.ref 38), some (.int x1), some (.int x2), some (.int x3), some (.int x4), some (.int x5)]) (st' := [.int x4]) (h' := q9.2) (sg1 rfl rfl rfl) ?_
          refine Ex.ifc rfl rfl (fun (c0 : ¬ (x4 = 0)) => ?_) (fun (c0 : ¬ ¬ (x4 = 0)) => ?_)
          · rw [if_neg c0] at hf
            exact Ex.weak (sm_le_s (sm_le_s (sm_le_s (sm_le_s (sm_le_s (sm_le_s sm_le_nil)))))) (B_114_63 hd  hf hs)
          · rw [if_pos (Classical.not_not.mp c0)] at hf
            refine Ex.seg 3 (pc' := 57) (lc' := [some (.ref 38), some (.int x1), some (.int x2), some (.int x3), some (.int x4), some (.int x5)]) (st' := [.int 24, .int (q9.2.1 38 14)]) (h' := q9.2) (sg1 rfl rfl (sg1 rfl rfl (sg1 rfl rfl rfl))) ?_
            refine Ex.icmp rfl rfl (fun (c0 : (q9.2.1 38 14) < 24) => ?_) (fun (c0 : ¬ ((q9.2.1 38 14) < 24)) => ?_)
            · rw [if_pos c0] at hf
              exact Ex.weak (sm_le_s (sm_le_s (sm_le_s (sm_le_s (sm_le_s (sm_le_s sm_le_nil)))))) (B_114_63 hd  hf hs)
            · rw [if_neg c0] at hf
              exact Ex.weak (sm_le_n (sm_le_n (sm_le_n (sm_le_n (sm_le_n (sm_le_n sm_le_nil)))))) (B_114_60 hd  hf hs)
      · rw [if_neg c0] at hf
        refine Ex.seg 1 (pc' := 36) (lc' := [some (.ref 38), some (.int x1), some (.int x2), some (.int x3), some (.int x4), some (.int x5)]) (st' := [.int (-2)]) (h' := q9.2) (sg1 rfl rfl rfl) ?_
        obtain rfl := Option.some.inj hf
        exact Ex.iret rfl rfl (fun c0 => by cases c0) hs
    · rw [if_pos (Classical.not_not.mp c0)] at hf
      exact Ex.weak (sm_le_n (sm_le_n (sm_le_n (sm_le_n (sm_le_n (sm_le_n sm_le_nil)))))) (B_114_22 hd  hf hs)
/-- HandleHouse$Members.tellField(IIIZI)I -/
abbrev F_114 (x1 : Int32) (x2 : Int32) (x3 : Int32) (x4 : Int32) (x5 : Int32) (h : sm_H) : Option (Int32 × sm_H) := F_114_0 x1 x2 x3 x4 x5 h
theorem E_114 {L : Nat} {xs : Nat → Int32} {d : Nat} (hd : 3 ≤ d) {x1 : Int32} {x2 : Int32} {x3 : Int32} {x4 : Int32} {x5 : Int32} {h : sm_H} {r : Int32 × sm_H} (hf : F_114 x1 x2 x3 x4 x5 h = some r) : RUN L xs d 114 [.ref 38, .int x1, .int x2, .int x3, .int x4, .int x5] h (some (.int r.1), r.2) := by
  obtain ⟨d, rfl⟩ : ∃ e, d = e + 1 := ⟨d - 1, by omega⟩
  exact ⟨Nat.le_of_ble_eq_true rfl, B_114_0 (by omega) hf rfl⟩
def F_121_47 (z0 : Int32) (h : sm_H) : Option (Int32 × sm_H) :=
  if z0 = 0 ∨ z0 = 1 then some (z0, h) else none
theorem B_121_47 {L : Nat} {xs : Nat → Int32} {d : Nat} (hd : 2 ≤ d) {res : Option Value × sm_H} {z0 : Int32}  {h : sm_H} {r : (Int32 × sm_H)} (hf : F_121_47 z0 h = some r) (hs : (fun (r : Int32 × sm_H) => res = (some (.int r.1), r.2)) r) : Ex (P_G L xs) (RUN L xs d) (sm_lk P_t121) 3 47 [none, none] [.int z0] h res := by
  unfold F_121_47 at hf
  rcases Classical.em (z0 = 0 ∨ z0 = 1) with c0 | c0
  · rw [if_pos c0] at hf
    obtain rfl := Option.some.inj hf
    exact Ex.iret rfl rfl (fun _ => c0) hs
  · rw [if_neg c0] at hf
    cases hf
def F_121_46  (h : sm_H) : Option (Int32 × sm_H) :=
  F_121_47 0 h
theorem B_121_46 {L : Nat} {xs : Nat → Int32} {d : Nat} (hd : 2 ≤ d) {res : Option Value × sm_H}   {h : sm_H} {r : (Int32 × sm_H)} (hf : F_121_46  h = some r) (hs : (fun (r : Int32 × sm_H) => res = (some (.int r.1), r.2)) r) : Ex (P_G L xs) (RUN L xs d) (sm_lk P_t121) 3 46 [none, none] [] h res := by
  unfold F_121_46 at hf
  refine Ex.seg 1 (pc' := 47) (lc' := [none, none]) (st' := [.int 0]) (h' := h) (sg1 rfl rfl rfl) ?_
  exact Ex.weak (sm_le_s (sm_le_s sm_le_nil)) (B_121_47 hd  hf hs)
def F_121_0 (x1 : Int32) (h : sm_H) : Option (Int32 × sm_H) :=
  (F_128 x1 h).bind fun q1 =>
  if q1.1 = 0 then ((ldZ q1.2 42 100 x1).bind fun v2 =>
  if v2 = 0 then ((ldI q1.2 40 100 x1).bind fun v3 =>
  if v3 = 0 then ((ldI q1.2 45 100 x1).bind fun v4 =>
  (F_225 v4 q1.2).bind fun q5 =>
  if q5.1 = 0 then (F_121_47 1 q5.2)
  else (F_121_46 q5.2))
  else (F_121_46 q1.2))
  else (F_121_46 q1.2))
  else (F_121_46 q1.2)
theorem B_121_0 {L : Nat} {xs : Nat → Int32} {d : Nat} (hd : 2 ≤ d) {res : Option Value × sm_H} {x1 : Int32}  {h : sm_H} {r : (Int32 × sm_H)} (hf : F_121_0 x1 h = some r) (hs : (fun (r : Int32 × sm_H) => res = (some (.int r.1), r.2)) r) : Ex (P_G L xs) (RUN L xs d) (sm_lk P_t121) 3 0 [some (.ref 38), some (.int x1)] [] h res := by
  unfold F_121_0 at hf
  refine Ex.seg 2 (pc' := 2) (lc' := [some (.ref 38), some (.int x1)]) (st' := [.int x1, .ref 38]) (h' := h) (sg1 rfl rfl (sg1 rfl rfl rfl)) ?_
  obtain ⟨q1, e_q1, hf⟩ := bnd hf
  refine Ex.callV (a := 38) (As := [.int x1]) (r := []) (v := some (.int q1.1)) (h' := q1.2) rfl rfl (by decide) rfl (Nat.le_of_ble_eq_true rfl) rfl (E_128 (Nat.le_trans (by decide) hd) e_q1) rfl ?_
  refine Ex.ifc rfl rfl (fun (c0 : ¬ (q1.1 = 0)) => ?_) (fun (c0 : ¬ ¬ (q1.1 = 0)) => ?_)
  · rw [if_neg c0] at hf
    exact Ex.weak (sm_le_n (sm_le_n sm_le_nil)) (B_121_46 hd  hf hs)
  · rw [if_pos (Classical.not_not.mp c0)] at hf
    refine Ex.seg 3 (pc' := 13) (lc' := [some (.ref 38), some (.int x1)]) (st' := [.int x1, .ref 42]) (h' := q1.2) (sg1 rfl rfl (sg1 rfl rfl (sg1 rfl rfl rfl))) ?_
    obtain ⟨v2, e_v2, hf⟩ := bnd hf
    refine Ex.zald e_v2 rfl rfl ?_
    refine Ex.ifc rfl rfl (fun (c0 : ¬ (v2 = 0)) => ?_) (fun (c0 : ¬ ¬ (v2 = 0)) => ?_)
    · rw [if_neg c0] at hf
      exact Ex.weak (sm_le_n (sm_le_n sm_le_nil)) (B_121_46 hd  hf hs)
    · rw [if_pos (Classical.not_not.mp c0)] at hf
      refine Ex.seg 3 (pc' := 22) (lc' := [some (.ref 38), some (.int x1)]) (st' := [.int x1, .ref 40]) (h' := q1.2) (sg1 rfl rfl (sg1 rfl rfl (sg1 rfl rfl rfl))) ?_
      obtain ⟨v3, e_v3, hf⟩ := bnd hf
      refine Ex.iald e_v3 rfl rfl ?_
      refine Ex.ifc rfl rfl (fun (c0 : ¬ (v3 = 0)) => ?_) (fun (c0 : ¬ ¬ (v3 = 0)) => ?_)
      · rw [if_neg c0] at hf
        exact Ex.weak (sm_le_n (sm_le_n sm_le_nil)) (B_121_46 hd  hf hs)
      · rw [if_pos (Classical.not_not.mp c0)] at hf
        refine Ex.seg 5 (pc' := 35) (lc' := [some (.ref 38), some (.int x1)]) (st' := [.int x1, .ref 45, .ref 5]) (h' := q1.2) (sg1 rfl rfl (sg1 rfl rfl (sg1 rfl rfl (sg1 rfl rfl (sg1 rfl rfl rfl))))) ?_
        obtain ⟨v4, e_v4, hf⟩ := bnd hf
        refine Ex.iald e_v4 rfl rfl ?_
        obtain ⟨q5, e_q5, hf⟩ := bnd hf
        refine Ex.callV (a := 5) (As := [.int v4]) (r := []) (v := some (.int q5.1)) (h' := q5.2) rfl rfl (by decide) rfl (Nat.le_of_ble_eq_true rfl) rfl (E_225 (Nat.le_trans (by decide) hd) e_q5) rfl ?_
        refine Ex.ifc rfl rfl (fun (c0 : ¬ (q5.1 = 0)) => ?_) (fun (c0 : ¬ ¬ (q5.1 = 0)) => ?_)
        · rw [if_neg c0] at hf
          exact Ex.weak (sm_le_n (sm_le_n sm_le_nil)) (B_121_46 hd  hf hs)
        · rw [if_pos (Classical.not_not.mp c0)] at hf
          refine Ex.seg 2 (pc' := 47) (lc' := [some (.ref 38), some (.int x1)]) (st' := [.int 1]) (h' := q5.2) (sg1 rfl rfl (sg1 rfl rfl rfl)) ?_
          exact Ex.weak (sm_le_n (sm_le_n sm_le_nil)) (B_121_47 hd  hf hs)
/-- HandleHouse$Members.isMaker(I)Z -/
abbrev F_121 (x1 : Int32) (h : sm_H) : Option (Int32 × sm_H) := F_121_0 x1 h
theorem E_121 {L : Nat} {xs : Nat → Int32} {d : Nat} (hd : 3 ≤ d) {x1 : Int32} {h : sm_H} {r : Int32 × sm_H} (hf : F_121 x1 h = some r) : RUN L xs d 121 [.ref 38, .int x1] h (some (.int r.1), r.2) := by
  obtain ⟨d, rfl⟩ : ∃ e, d = e + 1 := ⟨d - 1, by omega⟩
  exact ⟨Nat.le_of_ble_eq_true rfl, B_121_0 (by omega) hf rfl⟩
def F_134_69 (z0 : Int32) (h : sm_H) : Option (Int32 × sm_H) :=
  if z0 = 0 ∨ z0 = 1 then some (z0, h) else none
theorem B_134_69 {L : Nat} {xs : Nat → Int32} {d : Nat} (hd : 3 ≤ d) {res : Option Value × sm_H} {z0 : Int32}  {h : sm_H} {r : (Int32 × sm_H)} (hf : F_134_69 z0 h = some r) (hs : (fun (r : Int32 × sm_H) => res = (some (.int r.1), r.2)) r) : Ex (P_G L xs) (RUN L xs d) (sm_lk P_t134) 3 69 [none, none, none] [.int z0] h res := by
  unfold F_134_69 at hf
  rcases Classical.em (z0 = 0 ∨ z0 = 1) with c0 | c0
  · rw [if_pos c0] at hf
    obtain rfl := Option.some.inj hf
    exact Ex.iret rfl rfl (fun _ => c0) hs
  · rw [if_neg c0] at hf
    cases hf
def F_134_68  (h : sm_H) : Option (Int32 × sm_H) :=
  F_134_69 0 h
theorem B_134_68 {L : Nat} {xs : Nat → Int32} {d : Nat} (hd : 3 ≤ d) {res : Option Value × sm_H}   {h : sm_H} {r : (Int32 × sm_H)} (hf : F_134_68  h = some r) (hs : (fun (r : Int32 × sm_H) => res = (some (.int r.1), r.2)) r) : Ex (P_G L xs) (RUN L xs d) (sm_lk P_t134) 3 68 [none, none, none] [] h res := by
  unfold F_134_68 at hf
  refine Ex.seg 1 (pc' := 69) (lc' := [none, none, none]) (st' := [.int 0]) (h' := h) (sg1 rfl rfl rfl) ?_
  exact Ex.weak (sm_le_s (sm_le_s (sm_le_s sm_le_nil))) (B_134_69 hd  hf hs)
def F_134_0 (x1 : Int32) (x2 : Int32) (h : sm_H) : Option (Int32 × sm_H) :=
  (ldI h 40 100 x1).bind fun v1 =>
  (ldI h 40 100 x2).bind fun v2 =>
  if v1 = v2 then ((ldI h 45 100 x1).bind fun v3 =>
  (ldI h 45 100 x2).bind fun v4 =>
  if v3 = v4 then ((F_128 x1 h).bind fun q5 =>
  if q5.1 = 0 then ((ldZ q5.2 42 100 x1).bind fun v6 =>
  if v6 = 0 then ((F_121 x1 q5.2).bind fun q7 =>
  if q7.1 = 0 then ((ldI q7.2 41 100 x1).bind fun v8 =>
  if v8 = 0 then (F_134_68 q7.2)
  else (F_134_69 1 q7.2))
  else (F_134_68 q7.2))
  else (F_134_68 q5.2))
  else (F_134_68 q5.2))
  else (F_134_68 h))
  else (F_134_68 h)
theorem B_134_0 {L : Nat} {xs : Nat → Int32} {d : Nat} (hd : 3 ≤ d) {res : Option Value × sm_H} {x1 : Int32} {x2 : Int32}  {h : sm_H} {r : (Int32 × sm_H)} (hf : F_134_0 x1 x2 h = some r) (hs : (fun (r : Int32 × sm_H) => res = (some (.int r.1), r.2)) r) : Ex (P_G L xs) (RUN L xs d) (sm_lk P_t134) 3 0 [some (.ref 38), some (.int x1), some (.int x2)] [] h res := by
  unfold F_134_0 at hf
  refine Ex.seg 3 (pc' := 5) (lc' := [some (.ref 38), some (.int x1), some (.int x2)]) (st' := [.int x1, .ref 40]) (h' := h) (sg1 rfl rfl (sg1 rfl rfl (sg1 rfl rfl rfl))) ?_
  obtain ⟨v1, e_v1, hf⟩ := bnd hf
  refine Ex.iald e_v1 rfl rfl ?_
  refine Ex.seg 3 (pc' := 11) (lc' := [some (.ref 38), some (.int x1), some (.int x2)]) (st' := [.int x2, .ref 40, .int v1]) (h' := h) (sg1 rfl rfl (sg1 rfl rfl (sg1 rfl rfl rfl))) ?_
  obtain ⟨v2, e_v2, hf⟩ := bnd hf
  refine Ex.iald e_v2 rfl rfl ?_
  refine Ex.icmp rfl rfl (fun (c0 : ¬ (v1 = v2)) => ?_) (fun (c0 : ¬ ¬ (v1 = v2)) => ?_)
  · rw [if_neg c0] at hf
    exact Ex.weak (sm_le_n (sm_le_n (sm_le_n sm_le_nil))) (B_134_68 hd  hf hs)
  · rw [if_pos (Classical.not_not.mp c0)] at hf
    refine Ex.seg 3 (pc' := 20) (lc' := [some (.ref 38), some (.int x1), some (.int x2)]) (st' := [.int x1, .ref 45]) (h' := h) (sg1 rfl rfl (sg1 rfl rfl (sg1 rfl rfl rfl))) ?_
    obtain ⟨v3, e_v3, hf⟩ := bnd hf
    refine Ex.iald e_v3 rfl rfl ?_
    refine Ex.seg 3 (pc' := 26) (lc' := [some (.ref 38), some (.int x1), some (.int x2)]) (st' := [.int x2, .ref 45, .int v3]) (h' := h) (sg1 rfl rfl (sg1 rfl rfl (sg1 rfl rfl rfl))) ?_
    obtain ⟨v4, e_v4, hf⟩ := bnd hf
    refine Ex.iald e_v4 rfl rfl ?_
    refine Ex.icmp rfl rfl (fun (c0 : ¬ (v3 = v4)) => ?_) (fun (c0 : ¬ ¬ (v3 = v4)) => ?_)
    · rw [if_neg c0] at hf
      exact Ex.weak (sm_le_n (sm_le_n (sm_le_n sm_le_nil))) (B_134_68 hd  hf hs)
    · rw [if_pos (Classical.not_not.mp c0)] at hf
      refine Ex.seg 2 (pc' := 32) (lc' := [some (.ref 38), some (.int x1), some (.int x2)]) (st' := [.int x1, .ref 38]) (h' := h) (sg1 rfl rfl (sg1 rfl rfl rfl)) ?_
      obtain ⟨q5, e_q5, hf⟩ := bnd hf
      refine Ex.callV (a := 38) (As := [.int x1]) (r := []) (v := some (.int q5.1)) (h' := q5.2) rfl rfl (by decide) rfl (Nat.le_of_ble_eq_true rfl) rfl (E_128 (Nat.le_trans (by decide) hd) e_q5) rfl ?_
      refine Ex.ifc rfl rfl (fun (c0 : ¬ (q5.1 = 0)) => ?_) (fun (c0 : ¬ ¬ (q5.1 = 0)) => ?_)
      · rw [if_neg c0] at hf
        exact Ex.weak (sm_le_n (sm_le_n (sm_le_n sm_le_nil))) (B_134_68 hd  hf hs)
      · rw [if_pos (Classical.not_not.mp c0)] at hf
        refine Ex.seg 3 (pc' := 43) (lc' := [some (.ref 38), some (.int x1), some (.int x2)]) (st' := [.int x1, .ref 42]) (h' := q5.2) (sg1 rfl rfl (sg1 rfl rfl (sg1 rfl rfl rfl))) ?_
        obtain ⟨v6, e_v6, hf⟩ := bnd hf
        refine Ex.zald e_v6 rfl rfl ?_
        refine Ex.ifc rfl rfl (fun (c0 : ¬ (v6 = 0)) => ?_) (fun (c0 : ¬ ¬ (v6 = 0)) => ?_)
        · rw [if_neg c0] at hf
          exact Ex.weak (sm_le_n (sm_le_n (sm_le_n sm_le_nil))) (B_134_68 hd  hf hs)
        · rw [if_pos (Classical.not_not.mp c0)] at hf
          refine Ex.seg 2 (pc' := 49) (lc' := [some (.ref 38), some (.int x1), some (.int x2)]) (st' := [.int x1, .ref 38]) (h' := q5.2) (sg1 rfl rfl (sg1 rfl rfl rfl)) ?_
          obtain ⟨q7, e_q7, hf⟩ := bnd hf
          refine Ex.callV (a := 38) (As := [.int x1]) (r := []) (v := some (.int q7.1)) (h' := q7.2) rfl rfl (by decide) rfl (Nat.le_of_ble_eq_true rfl) rfl (E_121 (Nat.le_trans (by decide) hd) e_q7) rfl ?_
          refine Ex.ifc rfl rfl (fun (c0 : ¬ (q7.1 = 0)) => ?_) (fun (c0 : ¬ ¬ (q7.1 = 0)) => ?_)
          · rw [if_neg c0] at hf
            exact Ex.weak (sm_le_n (sm_le_n (sm_le_n sm_le_nil))) (B_134_68 hd  hf hs)
          · rw [if_pos (Classical.not_not.mp c0)] at hf
            refine Ex.seg 3 (pc' := 60) (lc' := [some (.ref 38), some (.int x1), some (.int x2)]) (st' := [.int x1, .ref 41]) (h' := q7.2) (sg1 rfl rfl (sg1 rfl rfl (sg1 rfl rfl rfl))) ?_
            obtain ⟨v8, e_v8, hf⟩ := bnd hf
            refine Ex.iald e_v8 rfl rfl ?_
            refine Ex.ifc rfl rfl (fun (c0 : v8 = 0) => ?_) (fun (c0 : ¬ (v8 = 0)) => ?_)
            · rw [if_pos c0] at hf
              exact Ex.weak (sm_le_n (sm_le_n (sm_le_n sm_le_nil))) (B_134_68 hd  hf hs)
            · rw [if_neg c0] at hf
              refine Ex.seg 2 (pc' := 69) (lc' := [some (.ref 38), some (.int x1), some (.int x2)]) (st' := [.int 1]) (h' := q7.2) (sg1 rfl rfl (sg1 rfl rfl rfl)) ?_
              exact Ex.weak (sm_le_n (sm_le_n (sm_le_n sm_le_nil))) (B_134_69 hd  hf hs)
/-- HandleHouse$Members.overrides(II)Z -/
abbrev F_134 (x1 : Int32) (x2 : Int32) (h : sm_H) : Option (Int32 × sm_H) := F_134_0 x1 x2 h
theorem E_134 {L : Nat} {xs : Nat → Int32} {d : Nat} (hd : 4 ≤ d) {x1 : Int32} {x2 : Int32} {h : sm_H} {r : Int32 × sm_H} (hf : F_134 x1 x2 h = some r) : RUN L xs d 134 [.ref 38, .int x1, .int x2] h (some (.int r.1), r.2) := by
  obtain ⟨d, rfl⟩ : ∃ e, d = e + 1 := ⟨d - 1, by omega⟩
  exact ⟨Nat.le_of_ble_eq_true rfl, B_134_0 (by omega) hf rfl⟩
def F_165_70 (z0 : Int32) (h : sm_H) : Option (Int32 × sm_H) :=
  some (z0, h)
theorem B_165_70 {L : Nat} {xs : Nat → Int32} {d : Nat} (hd : 1 ≤ d) {res : Option Value × sm_H} {z0 : Int32}  {h : sm_H} {r : (Int32 × sm_H)} (hf : F_165_70 z0 h = some r) (hs : (fun (r : Int32 × sm_H) => res = (some (.int r.1), r.2)) r) : Ex (P_G L xs) (RUN L xs d) (sm_lk P_t165) 0 70 [none, none, none, none, none, none, none, none] [.int z0] h res := by
  unfold F_165_70 at hf
  obtain rfl := Option.some.inj hf
  exact Ex.iret rfl rfl (fun c0 => by cases c0) hs
def F_165_39 (y1 : Int64) (y5 : Int32) (z0 : Int64) (h : sm_H) : Option ((Int64 × Int64 × Int32 × sm_H) ⊕ (Int32 × sm_H)) :=
  (some (y5 + (-8) : Int32)).bind fun v1 =>
  some (.inl (y1, z0, v1, h))
theorem B_165_39 {L : Nat} {xs : Nat → Int32} {d : Nat} (hd : 1 ≤ d) {res : Option Value × sm_H} {S1 : (Int64 × Int64 × Int32 × sm_H) → Prop} (hS1 : ∀ s, S1 s → Ex (P_G L xs) (RUN L xs d) (sm_lk P_t165) 0 6 [some (.ref 55), some (.long s.1), none, some (.long s.2.1), none, some (.int s.2.2.1), none, none] [] s.2.2.2 res) {y1 : Int64} {y5 : Int32} {z0 : Int64}  {h : sm_H} {r : ((Int64 × Int64 × Int32 × sm_H) ⊕ (Int32 × sm_H))} (hf : F_165_39 y1 y5 z0 h = some r) (hs : (Sum.elim S1 (fun (r : Int32 × sm_H) => res = (some (.int r.1), r.2))) r) : Ex (P_G L xs) (RUN L xs d) (sm_lk P_t165) 0 39 [some (.ref 55), some (.long y1), none, none, none, some (.int y5), none, none] [.long z0] h res := by
  unfold F_165_39 at hf
  refine Ex.seg 2 (pc' := 43) (lc' := [some (.ref 55), some (.long y1), none, some (.long z0), none, some (.int (y5 + (-8))), none, none]) (st' := []) (h' := h) (sg1 rfl rfl (sg1 rfl rfl rfl)) ?_
  obtain ⟨v1, e_v1, hf⟩ := bnd hf
  rw [Option.some.inj e_v1]
  refine Ex.seg 1 (pc' := 6) (lc' := [some (.ref 55), some (.long y1), none, some (.long z0), none, some (.int v1), none, none]) (st' := []) (h' := h) (sg1 rfl rfl rfl) ?_
  obtain rfl := Option.some.inj hf
  exact Ex.weak (sm_le_s (sm_le_s (sm_le_s (sm_le_s (sm_le_s (sm_le_s (sm_le_s (sm_le_s sm_le_nil)))))))) (hS1 _ hs)
def F_165_6B (s : (Int64 × Int64 × Int32 × sm_H)) : Option ((Int64 × Int64 × Int32 × sm_H) ⊕ (Int32 × sm_H)) :=
  if s.2.2.1 < 0 then ((F_166 s.2.1 s.2.2.2).bind fun q2 =>
  if q2.1 = (-1) then ((F_165_70 (-1) q2.2).map fun r => (.inr r))
  else ((ldI q2.2 63 60 q2.1).bind fun v3 =>
  (F_165_70 v3 q2.2).map fun r => (.inr r)))
  else ((some (((Int64.toUInt64 s.1 >>> ((Int32.toInt64 s.2.2.1).toUInt64 &&& Int64.toUInt64 63)).toInt64 &&& 255) : Int64)).bind fun v4 =>
  if (lg_cmp v4 0) = 0 then (F_165_39 s.1 s.2.2.1 s.2.1 s.2.2.2)
  else (F_165_39 s.1 s.2.2.1 ((s.2.1 <<< (Int32.toInt64 8 &&& 63)) ||| v4) s.2.2.2))
theorem B_165_6B {L : Nat} {xs : Nat → Int32} {d : Nat} (hd : 1 ≤ d) {res : Option Value × sm_H} {S1 : (Int64 × Int64 × Int32 × sm_H) → Prop} (hS1 : ∀ s, S1 s → Ex (P_G L xs) (RUN L xs d) (sm_lk P_t165) 0 6 [some (.ref 55), some (.long s.1), none, some (.long s.2.1), none, some (.int s.2.2.1), none, none] [] s.2.2.2 res) {s : (Int64 × Int64 × Int32 × sm_H)}  {r : ((Int64 × Int64 × Int32 × sm_H) ⊕ (Int32 × sm_H))} (hf : F_165_6B s = some r) (hs : (Sum.elim S1 (fun (r : Int32 × sm_H) => res = (some (.int r.1), r.2))) r) : Ex (P_G L xs) (RUN L xs d) (sm_lk P_t165) 0 6 [some (.ref 55), some (.long s.1), none, some (.long s.2.1), none, some (.int s.2.2.1), none, none] [] s.2.2.2 res := by
  unfold F_165_6B at hf
  refine Ex.seg 1 (pc' := 8) (lc' := [some (.ref 55), some (.long s.1), none, some (.long s.2.1), none, some (.int s.2.2.1), none, none]) (st' := [.int s.2.2.1]) (h' := s.2.2.2) (sg1 rfl rfl rfl) ?_
  refine Ex.ifc rfl rfl (fun (c0 : s.2.2.1 < 0) => ?_) (fun (c0 : ¬ (s.2.2.1 < 0)) => ?_)
  · rw [if_pos c0] at hf
    refine Ex.seg 2 (pc' := 48) (lc' := [some (.ref 55), some (.long s.1), none, some (.long s.2.1), none, some (.int s.2.2.1), none, none]) (st' := [.long s.2.1, .ref 55]) (h' := s.2.2.2) (sg1 rfl rfl (sg1 rfl rfl rfl)) ?_
    obtain ⟨q2, e_q2, hf⟩ := bnd hf
    refine Ex.callV (a := 55) (As := [.long s.2.1]) (r := []) (v := some (.int q2.1)) (h' := q2.2) rfl rfl (by decide) rfl (Nat.le_of_ble_eq_true rfl) rfl (E_166 (Nat.le_trans (by decide) hd) e_q2) rfl ?_
    refine Ex.seg 3 (pc' := 56) (lc' := [some (.ref 55), some (.long s.1), none, some (.long s.2.1), none, some (.int q2.1), none, none]) (st' := [.int (-1), .int q2.1]) (h' := q2.2) (sg1 rfl rfl (sg1 rfl rfl (sg1 rfl rfl rfl))) ?_
    refine Ex.icmp rfl rfl (fun (c0 : ¬ (q2.1 = (-1))) => ?_) (fun (c0 : ¬ ¬ (q2.1 = (-1))) => ?_)
    · rw [if_neg c0] at hf
      refine Ex.seg 3 (pc' := 69) (lc' := [some (.ref 55), some (.long s.1), none, some (.long s.2.1), none, some (.int q2.1), none, none]) (st' := [.int q2.1, .ref 63]) (h' := q2.2) (sg1 rfl rfl (sg1 rfl rfl (sg1 rfl rfl rfl))) ?_
      obtain ⟨v3, e_v3, hf⟩ := bnd hf
      refine Ex.iald e_v3 rfl rfl ?_
      obtain ⟨r0, hf0, rfl⟩ := Option.map_eq_some_iff.mp hf
      exact Ex.weak (sm_le_n (sm_le_n (sm_le_s (sm_le_n (sm_le_s (sm_le_n (sm_le_s (sm_le_s sm_le_nil)))))))) (B_165_70 hd  hf0 hs)
    · rw [if_pos (Classical.not_not.mp c0)] at hf
      refine Ex.seg 2 (pc' := 70) (lc' := [some (.ref 55), some (.long s.1), none, some (.long s.2.1), none, some (.int q2.1), none, none]) (st' := [.int (-1)]) (h' := q2.2) (sg1 rfl rfl (sg1 rfl rfl rfl)) ?_
      obtain ⟨r0, hf0, rfl⟩ := Option.map_eq_some_iff.mp hf
      exact Ex.weak (sm_le_n (sm_le_n (sm_le_s (sm_le_n (sm_le_s (sm_le_n (sm_le_s (sm_le_s sm_le_nil)))))))) (B_165_70 hd  hf0 hs)
  · rw [if_neg c0] at hf
    refine Ex.seg 6 (pc' := 21) (lc' := [some (.ref 55), some (.long s.1), none, some (.long s.2.1), none, some (.int s.2.2.1), some (.long ((Int64.toUInt64 s.1 >>> ((Int32.toInt64 s.2.2.1).toUInt64 &&& Int64.toUInt64 63)).toInt64 &&& 255)), none]) (st' := []) (h' := s.2.2.2) (sg1 rfl rfl (sg1 rfl rfl (sg1 rfl rfl (sg1 rfl rfl (sg1 rfl rfl (sg1 rfl rfl rfl)))))) ?_
    obtain ⟨v4, e_v4, hf⟩ := bnd hf
    rw [Option.some.inj e_v4]
    refine Ex.seg 3 (pc' := 25) (lc' := [some (.ref 55), some (.long s.1), none, some (.long s.2.1), none, some (.int s.2.2.1), some (.long v4), none]) (st' := [.int (lg_cmp v4 0)]) (h' := s.2.2.2) (sg1 rfl rfl (sg1 rfl rfl (sg1 rfl rfl rfl))) ?_
    refine Ex.ifc rfl rfl (fun (c0 : ¬ ((lg_cmp v4 0) = 0)) => ?_) (fun (c0 : ¬ ¬ ((lg_cmp v4 0) = 0)) => ?_)
    · rw [if_neg c0] at hf
      refine Ex.seg 5 (pc' := 39) (lc' := [some (.ref 55), some (.long s.1), none, some (.long s.2.1), none, some (.int s.2.2.1), some (.long v4), none]) (st' := [.long ((s.2.1 <<< (Int32.toInt64 8 &&& 63)) ||| v4)]) (h' := s.2.2.2) (sg1 rfl rfl (sg1 rfl rfl (sg1 rfl rfl (sg1 rfl rfl (sg1 rfl rfl rfl))))) ?_
      exact Ex.weak (sm_le_s (sm_le_s (sm_le_s (sm_le_n (sm_le_s (sm_le_s (sm_le_n (sm_le_s sm_le_nil)))))))) (B_165_39 hd hS1 hf hs)
    · rw [if_pos (Classical.not_not.mp c0)] at hf
      refine Ex.seg 2 (pc' := 39) (lc' := [some (.ref 55), some (.long s.1), none, some (.long s.2.1), none, some (.int s.2.2.1), some (.long v4), none]) (st' := [.long s.2.1]) (h' := s.2.2.2) (sg1 rfl rfl (sg1 rfl rfl rfl)) ?_
      exact Ex.weak (sm_le_s (sm_le_s (sm_le_s (sm_le_n (sm_le_s (sm_le_s (sm_le_n (sm_le_s sm_le_nil)))))))) (B_165_39 hd hS1 hf hs)
def F_165_6 (y1 : Int64) (y3 : Int64) (y5 : Int32) (h : sm_H) : Option (Int32 × sm_H) := lp F_165_6B 1000000 (y1, y3, y5, h)
theorem B_165_6 {L : Nat} {xs : Nat → Int32} {d : Nat} (hd : 1 ≤ d) {res : Option Value × sm_H} {y1 : Int64} {y3 : Int64} {y5 : Int32}  {h : sm_H} {r : (Int32 × sm_H)} (hf : F_165_6 y1 y3 y5 h = some r) (hs : (fun (r : Int32 × sm_H) => res = (some (.int r.1), r.2)) r) : Ex (P_G L xs) (RUN L xs d) (sm_lk P_t165) 0 6 [some (.ref 55), some (.long y1), none, some (.long y3), none, some (.int y5), none, none] [] h res := by
  unfold F_165_6 at hf
  exact lp_ok (P := fun (s : (Int64 × Int64 × Int32 × sm_H)) => Ex (P_G L xs) (RUN L xs d) (sm_lk P_t165) 0 6 [some (.ref 55), some (.long s.1), none, some (.long s.2.1), none, some (.int s.2.2.1), none, none] [] s.2.2.2 res) (S := (fun (r : Int32 × sm_H) => res = (some (.int r.1), r.2))) (fun s x hx hsx => by
    intros
    exact B_165_6B hd  (fun _ q => q) hx hsx) 1000000 _ r hf hs
def F_165_0 (x1 : Int64) (h : sm_H) : Option (Int32 × sm_H) :=
  F_165_6 x1 0 56 h
theorem B_165_0 {L : Nat} {xs : Nat → Int32} {d : Nat} (hd : 1 ≤ d) {res : Option Value × sm_H} {x1 : Int64}  {h : sm_H} {r : (Int32 × sm_H)} (hf : F_165_0 x1 h = some r) (hs : (fun (r : Int32 × sm_H) => res = (some (.int r.1), r.2)) r) : Ex (P_G L xs) (RUN L xs d) (sm_lk P_t165) 0 0 [some (.ref 55), some (.long x1), none, none, none, none, none, none] [] h res := by
  unfold F_165_0 at hf
  refine Ex.seg 4 (pc' := 6) (lc' := [some (.ref 55), some (.long x1), none, some (.long 0), none, some (.int 56), none, none]) (st' := []) (h' := h) (sg1 rfl rfl (sg1 rfl rfl (sg1 rfl rfl (sg1 rfl rfl rfl)))) ?_
  exact Ex.weak (sm_le_s (sm_le_s (sm_le_s (sm_le_s (sm_le_s (sm_le_s (sm_le_s (sm_le_s sm_le_nil)))))))) (B_165_6 hd  hf hs)
/-- HandleHouse$Texts.handleNamed(J)I -/
abbrev F_165 (x1 : Int64) (h : sm_H) : Option (Int32 × sm_H) := F_165_0 x1 h
theorem E_165 {L : Nat} {xs : Nat → Int32} {d : Nat} (hd : 2 ≤ d) {x1 : Int64} {h : sm_H} {r : Int32 × sm_H} (hf : F_165 x1 h = some r) : RUN L xs d 165 [.ref 55, .long x1] h (some (.int r.1), r.2) := by
  obtain ⟨d, rfl⟩ : ∃ e, d = e + 1 := ⟨d - 1, by omega⟩
  exact ⟨Nat.le_of_ble_eq_true rfl, B_165_0 (by omega) hf rfl⟩
def F_170_0 (x1 : Int32) (h : sm_H) : Option (Int32 × sm_H) :=
  (F_243 h).bind fun q1 =>
  (F_169 x1 q1.1 q1.2).bind fun q2 =>
  some (q2.1, q2.2)
theorem B_170_0 {L : Nat} {xs : Nat → Int32} {d : Nat} (hd : 1 ≤ d) {res : Option Value × sm_H} {x1 : Int32}  {h : sm_H} {r : (Int32 × sm_H)} (hf : F_170_0 x1 h = some r) (hs : (fun (r : Int32 × sm_H) => res = (some (.int r.1), r.2)) r) : Ex (P_G L xs) (RUN L xs d) (sm_lk P_t170) 0 0 [some (.ref 55), some (.int x1)] [] h res := by
  unfold F_170_0 at hf
  refine Ex.seg 4 (pc' := 6) (lc' := [some (.ref 55), some (.int x1)]) (st' := [.ref 52, .int x1, .ref 55]) (h' := h) (sg1 rfl rfl (sg1 rfl rfl (sg1 rfl rfl (sg1 rfl rfl rfl)))) ?_
  obtain ⟨q1, e_q1, hf⟩ := bnd hf
  refine Ex.callV (a := 52) (As := []) (r := [.int x1, .ref 55]) (v := some (.int q1.1)) (h' := q1.2) rfl rfl (by decide) rfl (Nat.le_of_ble_eq_true rfl) rfl (E_243 (Nat.le_trans (by decide) hd) e_q1) rfl ?_
  obtain ⟨q2, e_q2, hf⟩ := bnd hf
  refine Ex.callV (a := 55) (As := [.int x1, .int q1.1]) (r := []) (v := some (.int q2.1)) (h' := q2.2) rfl rfl (by decide) rfl (Nat.le_of_ble_eq_true rfl) rfl (E_169 (Nat.le_trans (by decide) hd) e_q2) rfl ?_
  obtain rfl := Option.some.inj hf
  exact Ex.iret rfl rfl (fun c0 => by cases c0) hs
/-- HandleHouse$Texts.failHere(I)I -/
abbrev F_170 (x1 : Int32) (h : sm_H) : Option (Int32 × sm_H) := F_170_0 x1 h
theorem E_170 {L : Nat} {xs : Nat → Int32} {d : Nat} (hd : 2 ≤ d) {x1 : Int32} {h : sm_H} {r : Int32 × sm_H} (hf : F_170 x1 h = some r) : RUN L xs d 170 [.ref 55, .int x1] h (some (.int r.1), r.2) := by
  obtain ⟨d, rfl⟩ : ∃ e, d = e + 1 := ⟨d - 1, by omega⟩
  exact ⟨Nat.le_of_ble_eq_true rfl, B_170_0 (by omega) hf rfl⟩
def F_173_37 (z0 : Int32) (h : sm_H) : Option (Int32 × sm_H) :=
  if z0 = 0 ∨ z0 = 1 then some (z0, h) else none
theorem B_173_37 {L : Nat} {xs : Nat → Int32} {d : Nat} (hd : 2 ≤ d) {res : Option Value × sm_H} {z0 : Int32}  {h : sm_H} {r : (Int32 × sm_H)} (hf : F_173_37 z0 h = some r) (hs : (fun (r : Int32 × sm_H) => res = (some (.int r.1), r.2)) r) : Ex (P_G L xs) (RUN L xs d) (sm_lk P_t173) 3 37 [none] [.int z0] h res := by
  unfold F_173_37 at hf
  rcases Classical.em (z0 = 0 ∨ z0 = 1) with c0 | c0
  · rw [if_pos c0] at hf
    obtain rfl := Option.some.inj hf
    exact Ex.iret rfl rfl (fun _ => c0) hs
  · rw [if_neg c0] at hf
    cases hf
def F_173_15  (h : sm_H) : Option (Int32 × sm_H) :=
  (some (sm_wI h 55 16 ((h.1 55 16) + 1))).bind fun h1 =>
  if (h1.1 55 17) = 0 then (F_173_37 1 h1)
  else (F_173_37 0 h1)
theorem B_173_15 {L : Nat} {xs : Nat → Int32} {d : Nat} (hd : 2 ≤ d) {res : Option Value × sm_H}   {h : sm_H} {r : (Int32 × sm_H)} (hf : F_173_15  h = some r) (hs : (fun (r : Int32 × sm_H) => res = (some (.int r.1), r.2)) r) : Ex (P_G L xs) (RUN L xs d) (sm_lk P_t173) 3 15 [some (.ref 55)] [] h res := by
  unfold F_173_15 at hf
  refine Ex.seg 6 (pc' := 25) (lc' := [some (.ref 55)]) (st' := []) (h' := (sm_wI h 55 16 ((h.1 55 16) + 1))) (sg1 rfl rfl (sg1 rfl rfl (sg1 rfl rfl (sg1 rfl rfl (sg1 rfl rfl (sg1 rfl rfl rfl)))))) ?_
  obtain ⟨h1, e_h1, hf⟩ := bnd hf
  rw [Option.some.inj e_h1]
  refine Ex.seg 2 (pc' := 29) (lc' := [some (.ref 55)]) (st' := [.int (h1.1 55 17)]) (h' := h1) (sg1 rfl rfl (sg1 rfl rfl rfl)) ?_
  refine Ex.ifc rfl rfl (fun (c0 : ¬ ((h1.1 55 17) = 0)) => ?_) (fun (c0 : ¬ ¬ ((h1.1 55 17) = 0)) => ?_)
  · rw [if_neg c0] at hf
    refine Ex.seg 1 (pc' := 37) (lc' := [some (.ref 55)]) (st' := [.int 0]) (h' := h1) (sg1 rfl rfl rfl) ?_
    exact Ex.weak (sm_le_n sm_le_nil) (B_173_37 hd  hf hs)
  · rw [if_pos (Classical.not_not.mp c0)] at hf
    refine Ex.seg 2 (pc' := 37) (lc' := [some (.ref 55)]) (st' := [.int 1]) (h' := h1) (sg1 rfl rfl (sg1 rfl rfl rfl)) ?_
    exact Ex.weak (sm_le_n sm_le_nil) (B_173_37 hd  hf hs)
def F_173_0  (h : sm_H) : Option (Int32 × sm_H) :=
  if (h.1 55 16) < 20 then (F_173_15 h)
  else ((F_170 5 h).bind fun q2 =>
  F_173_15 q2.2)
theorem B_173_0 {L : Nat} {xs : Nat → Int32} {d : Nat} (hd : 2 ≤ d) {res : Option Value × sm_H}   {h : sm_H} {r : (Int32 × sm_H)} (hf : F_173_0  h = some r) (hs : (fun (r : Int32 × sm_H) => res = (some (.int r.1), r.2)) r) : Ex (P_G L xs) (RUN L xs d) (sm_lk P_t173) 3 0 [some (.ref 55)] [] h res := by
  unfold F_173_0 at hf
  refine Ex.seg 3 (pc' := 6) (lc' := [some (.ref 55)]) (st' := [.int 20, .int (h.1 55 16)]) (h' := h) (sg1 rfl rfl (sg1 rfl rfl (sg1 rfl rfl rfl))) ?_
  refine Ex.icmp rfl rfl (fun (c0 : (h.1 55 16) < 20) => ?_) (fun (c0 : ¬ ((h.1 55 16) < 20)) => ?_)
  · rw [if_pos c0] at hf
    exact Ex.weak (sm_le_s sm_le_nil) (B_173_15 hd  hf hs)
  · rw [if_neg c0] at hf
    refine Ex.seg 2 (pc' := 11) (lc' := [some (.ref 55)]) (st' := [.int 5, .ref 55]) (h' := h) (sg1 rfl rfl (sg1 rfl rfl rfl)) ?_
    obtain ⟨q2, e_q2, hf⟩ := bnd hf
    refine Ex.callV (a := 55) (As := [.int 5]) (r := []) (v := some (.int q2.1)) (h' := q2.2) rfl rfl (by decide) rfl (Nat.le_of_ble_eq_true rfl) rfl (E_170 (Nat.le_trans (by decide) hd) e_q2) rfl ?_
    refine Ex.seg 1 (pc' := 15) (lc' := [some (.ref 55)]) (st' := []) (h' := q2.2) (sg1 rfl rfl rfl) ?_
    exact Ex.weak (sm_le_s sm_le_nil) (B_173_15 hd  hf hs)
/-- HandleHouse$Texts.opens()Z -/
abbrev F_173  (h : sm_H) : Option (Int32 × sm_H) := F_173_0  h
theorem E_173 {L : Nat} {xs : Nat → Int32} {d : Nat} (hd : 3 ≤ d)  {h : sm_H} {r : Int32 × sm_H} (hf : F_173  h = some r) : RUN L xs d 173 [.ref 55] h (some (.int r.1), r.2) := by
  obtain ⟨d, rfl⟩ : ∃ e, d = e + 1 := ⟨d - 1, by omega⟩
  exact ⟨Nat.le_of_ble_eq_true rfl, B_173_0 (by omega) hf rfl⟩
def F_231_43 (y1 : Int32) (y2 : Int32) (h : sm_H) : Option ((Int32 × Int32 × sm_H) ⊕ (Int32 × sm_H)) :=
  (some (y2 + 1 : Int32)).bind fun v1 =>
  some (.inl (y1, v1, h))
theorem B_231_43 {L : Nat} {xs : Nat → Int32} {d : Nat} (hd : 1 ≤ d) {res : Option Value × sm_H} {S1 : (Int32 × Int32 × sm_H) → Prop} (hS1 : ∀ s, S1 s → Ex (P_G L xs) (RUN L xs d) (sm_lk P_t231) 0 2 [some (.ref 5), some (.int s.1), some (.int s.2.1)] [] s.2.2 res) {y1 : Int32} {y2 : Int32}  {h : sm_H} {r : ((Int32 × Int32 × sm_H) ⊕ (Int32 × sm_H))} (hf : F_231_43 y1 y2 h = some r) (hs : (Sum.elim S1 (fun (r : Int32 × sm_H) => res = (some (.int r.1), r.2))) r) : Ex (P_G L xs) (RUN L xs d) (sm_lk P_t231) 0 43 [some (.ref 5), some (.int y1), some (.int y2)] [] h res := by
  unfold F_231_43 at hf
  refine Ex.seg 1 (pc' := 46) (lc' := [some (.ref 5), some (.int y1), some (.int (y2 + 1))]) (st' := []) (h' := h) (sg1 rfl rfl rfl) ?_
  obtain ⟨v1, e_v1, hf⟩ := bnd hf
  rw [Option.some.inj e_v1]
  refine Ex.seg 1 (pc' := 2) (lc' := [some (.ref 5), some (.int y1), some (.int v1)]) (st' := []) (h' := h) (sg1 rfl rfl rfl) ?_
  obtain rfl := Option.some.inj hf
  exact Ex.weak (sm_le_s (sm_le_s (sm_le_s sm_le_nil))) (hS1 _ hs)
def F_231_2B (s : (Int32 × Int32 × sm_H)) : Option ((Int32 × Int32 × sm_H) ⊕ (Int32 × sm_H)) :=
  if (s.2.2.1 5 4) ≤ s.2.1 then (some (.inr ((-1), s.2.2)))
  else ((ldI s.2.2 6 300 s.2.1).bind fun v2 =>
  if v2 = s.1 then ((ldI s.2.2 7 300 s.2.1).bind fun v3 =>
  if v3 = (s.2.2.1 5 6) then ((F_232 s.2.1 s.2.2).bind fun q4 =>
  if q4.1 = 0 then (F_231_43 s.1 s.2.1 q4.2)
  else (some (.inr (s.2.1, q4.2))))
  else (F_231_43 s.1 s.2.1 s.2.2))
  else (F_231_43 s.1 s.2.1 s.2.2))
theorem B_231_2B {L : Nat} {xs : Nat → Int32} {d : Nat} (hd : 1 ≤ d) {res : Option Value × sm_H} {S1 : (Int32 × Int32 × sm_H) → Prop} (hS1 : ∀ s, S1 s → Ex (P_G L xs) (RUN L xs d) (sm_lk P_t231) 0 2 [some (.ref 5), some (.int s.1), some (.int s.2.1)] [] s.2.2 res) {s : (Int32 × Int32 × sm_H)}  {r : ((Int32 × Int32 × sm_H) ⊕ (Int32 × sm_H))} (hf : F_231_2B s = some r) (hs : (Sum.elim S1 (fun (r : Int32 × sm_H) => res = (some (.int r.1), r.2))) r) : Ex (P_G L xs) (RUN L xs d) (sm_lk P_t231) 0 2 [some (.ref 5), some (.int s.1), some (.int s.2.1)] [] s.2.2 res := by
  unfold F_231_2B at hf
  refine Ex.seg 3 (pc' := 7) (lc' := [some (.ref 5), some (.int s.1), some (.int s.2.1)]) (st' := [.int (s.2.2.1 5 4), .int s.2.1]) (h' := s.2.2) (sg1 rfl rfl (sg1 rfl rfl (sg1 rfl rfl rfl))) ?_
  refine Ex.icmp rfl rfl (fun (c0 : (s.2.2.1 5 4) ≤ s.2.1) => ?_) (fun (c0 : ¬ ((s.2.2.1 5 4) ≤ s.2.1)) => ?_)
  · rw [if_pos c0] at hf
    refine Ex.seg 1 (pc' := 50) (lc' := [some (.ref 5), some (.int s.1), some (.int s.2.1)]) (st' := [.int (-1)]) (h' := s.2.2) (sg1 rfl rfl rfl) ?_
    obtain rfl := Option.some.inj hf
    exact Ex.iret rfl rfl (fun c0 => by cases c0) hs
  · rw [if_neg c0] at hf
    refine Ex.seg 3 (pc' := 15) (lc' := [some (.ref 5), some (.int s.1), some (.int s.2.1)]) (st' := [.int s.2.1, .ref 6]) (h' := s.2.2) (sg1 rfl rfl (sg1 rfl rfl (sg1 rfl rfl rfl))) ?_
    obtain ⟨v2, e_v2, hf⟩ := bnd hf
    refine Ex.iald e_v2 rfl rfl ?_
    refine Ex.seg 1 (pc' := 17) (lc' := [some (.ref 5), some (.int s.1), some (.int s.2.1)]) (st' := [.int s.1, .int v2]) (h' := s.2.2) (sg1 rfl rfl rfl) ?_
    refine Ex.icmp rfl rfl (fun (c0 : ¬ (v2 = s.1)) => ?_) (fun (c0 : ¬ ¬ (v2 = s.1)) => ?_)
    · rw [if_neg c0] at hf
      exact Ex.weak (sm_le_s (sm_le_s (sm_le_s sm_le_nil))) (B_231_43 hd hS1 hf hs)
    · rw [if_pos (Classical.not_not.mp c0)] at hf
      refine Ex.seg 3 (pc' := 25) (lc' := [some (.ref 5), some (.int s.1), some (.int s.2.1)]) (st' := [.int s.2.1, .ref 7]) (h' := s.2.2) (sg1 rfl rfl (sg1 rfl rfl (sg1 rfl rfl rfl))) ?_
      obtain ⟨v3, e_v3, hf⟩ := bnd hf
      refine Ex.iald e_v3 rfl rfl ?_
      refine Ex.seg 2 (pc' := 30) (lc' := [some (.ref 5), some (.int s.1), some (.int s.2.1)]) (st' := [.int (s.2.2.1 5 6), .int v3]) (h' := s.2.2) (sg1 rfl rfl (sg1 rfl rfl rfl)) ?_
      refine Ex.icmp rfl rfl (fun (c0 : ¬ (v3 = (s.2.2.1 5 6))) => ?_) (fun (c0 : ¬ ¬ (v3 = (s.2.2.1 5 6))) => ?_)
      · rw [if_neg c0] at hf
        exact Ex.weak (sm_le_s (sm_le_s (sm_le_s sm_le_nil))) (B_231_43 hd hS1 hf hs)
      · rw [if_pos (Classical.not_not.mp c0)] at hf
        refine Ex.seg 2 (pc' := 35) (lc' := [some (.ref 5), some (.int s.1), some (.int s.2.1)]) (st' := [.int s.2.1, .ref 5]) (h' := s.2.2) (sg1 rfl rfl (sg1 rfl rfl rfl)) ?_
        obtain ⟨q4, e_q4, hf⟩ := bnd hf
        refine Ex.callV (a := 5) (As := [.int s.2.1]) (r := []) (v := some (.int q4.1)) (h' := q4.2) rfl rfl (by decide) rfl (Nat.le_of_ble_eq_true rfl) rfl (E_232 (Nat.le_trans (by decide) hd) e_q4) rfl ?_
        refine Ex.ifc rfl rfl (fun (c0 : q4.1 = 0) => ?_) (fun (c0 : ¬ (q4.1 = 0)) => ?_)
        · rw [if_pos c0] at hf
          exact Ex.weak (sm_le_s (sm_le_s (sm_le_s sm_le_nil))) (B_231_43 hd hS1 hf hs)
        · rw [if_neg c0] at hf
          refine Ex.seg 1 (pc' := 42) (lc' := [some (.ref 5), some (.int s.1), some (.int s.2.1)]) (st' := [.int s.2.1]) (h' := q4.2) (sg1 rfl rfl rfl) ?_
          obtain rfl := Option.some.inj hf
          exact Ex.iret rfl rfl (fun c0 => by cases c0) hs
def F_231_2 (y1 : Int32) (y2 : Int32) (h : sm_H) : Option (Int32 × sm_H) := lp F_231_2B 1000000 (y1, y2, h)
theorem B_231_2 {L : Nat} {xs : Nat → Int32} {d : Nat} (hd : 1 ≤ d) {res : Option Value × sm_H} {y1 : Int32} {y2 : Int32}  {h : sm_H} {r : (Int32 × sm_H)} (hf : F_231_2 y1 y2 h = some r) (hs : (fun (r : Int32 × sm_H) => res = (some (.int r.1), r.2)) r) : Ex (P_G L xs) (RUN L xs d) (sm_lk P_t231) 0 2 [some (.ref 5), some (.int y1), some (.int y2)] [] h res := by
  unfold F_231_2 at hf
  exact lp_ok (P := fun (s : (Int32 × Int32 × sm_H)) => Ex (P_G L xs) (RUN L xs d) (sm_lk P_t231) 0 2 [some (.ref 5), some (.int s.1), some (.int s.2.1)] [] s.2.2 res) (S := (fun (r : Int32 × sm_H) => res = (some (.int r.1), r.2))) (fun s x hx hsx => by
    intros
    exact B_231_2B hd  (fun _ q => q) hx hsx) 1000000 _ r hf hs
def F_231_0 (x1 : Int32) (h : sm_H) : Option (Int32 × sm_H) :=
  F_231_2 x1 0 h
theorem B_231_0 {L : Nat} {xs : Nat → Int32} {d : Nat} (hd : 1 ≤ d) {res : Option Value × sm_H} {x1 : Int32}  {h : sm_H} {r : (Int32 × sm_H)} (hf : F_231_0 x1 h = some r) (hs : (fun (r : Int32 × sm_H) => res = (some (.int r.1), r.2)) r) : Ex (P_G L xs) (RUN L xs d) (sm_lk P_t231) 0 0 [some (.ref 5), some (.int x1), none] [] h res := by
  unfold F_231_0 at hf
  refine Ex.seg 2 (pc' := 2) (lc' := [some (.ref 5), some (.int x1), some (.int 0)]) (st' := []) (h' := h) (sg1 rfl rfl (sg1 rfl rfl rfl)) ?_
  exact Ex.weak (sm_le_s (sm_le_s (sm_le_s sm_le_nil))) (B_231_2 hd  hf hs)
/-- HandleHouse$Types.known(I)I -/
abbrev F_231 (x1 : Int32) (h : sm_H) : Option (Int32 × sm_H) := F_231_0 x1 h
theorem E_231 {L : Nat} {xs : Nat → Int32} {d : Nat} (hd : 2 ≤ d) {x1 : Int32} {h : sm_H} {r : Int32 × sm_H} (hf : F_231 x1 h = some r) : RUN L xs d 231 [.ref 5, .int x1] h (some (.int r.1), r.2) := by
  obtain ⟨d, rfl⟩ : ∃ e, d = e + 1 := ⟨d - 1, by omega⟩
  exact ⟨Nat.le_of_ble_eq_true rfl, B_231_0 (by omega) hf rfl⟩
def F_233_33 (z0 : Int32) (h : sm_H) : Option (Int32 × sm_H) :=
  if z0 = 0 ∨ z0 = 1 then some (z0, h) else none
theorem B_233_33 {L : Nat} {xs : Nat → Int32} {d : Nat} (hd : 2 ≤ d) {res : Option Value × sm_H} {z0 : Int32}  {h : sm_H} {r : (Int32 × sm_H)} (hf : F_233_33 z0 h = some r) (hs : (fun (r : Int32 × sm_H) => res = (some (.int r.1), r.2)) r) : Ex (P_G L xs) (RUN L xs d) (sm_lk P_t233) 3 33 [none, none] [.int z0] h res := by
  unfold F_233_33 at hf
  rcases Classical.em (z0 = 0 ∨ z0 = 1) with c0 | c0
  · rw [if_pos c0] at hf
    obtain rfl := Option.some.inj hf
    exact Ex.iret rfl rfl (fun _ => c0) hs
  · rw [if_neg c0] at hf
    cases hf
def F_233_32  (h : sm_H) : Option (Int32 × sm_H) :=
  F_233_33 0 h
theorem B_233_32 {L : Nat} {xs : Nat → Int32} {d : Nat} (hd : 2 ≤ d) {res : Option Value × sm_H}   {h : sm_H} {r : (Int32 × sm_H)} (hf : F_233_32  h = some r) (hs : (fun (r : Int32 × sm_H) => res = (some (.int r.1), r.2)) r) : Ex (P_G L xs) (RUN L xs d) (sm_lk P_t233) 3 32 [none, none] [] h res := by
  unfold F_233_32 at hf
  refine Ex.seg 1 (pc' := 33) (lc' := [none, none]) (st' := [.int 0]) (h' := h) (sg1 rfl rfl rfl) ?_
  exact Ex.weak (sm_le_s (sm_le_s sm_le_nil)) (B_233_33 hd  hf hs)
def F_233_28  (h : sm_H) : Option (Int32 × sm_H) :=
  F_233_33 1 h
theorem B_233_28 {L : Nat} {xs : Nat → Int32} {d : Nat} (hd : 2 ≤ d) {res : Option Value × sm_H}   {h : sm_H} {r : (Int32 × sm_H)} (hf : F_233_28  h = some r) (hs : (fun (r : Int32 × sm_H) => res = (some (.int r.1), r.2)) r) : Ex (P_G L xs) (RUN L xs d) (sm_lk P_t233) 3 28 [none, none] [] h res := by
  unfold F_233_28 at hf
  refine Ex.seg 2 (pc' := 33) (lc' := [none, none]) (st' := [.int 1]) (h' := h) (sg1 rfl rfl (sg1 rfl rfl rfl)) ?_
  exact Ex.weak (sm_le_s (sm_le_s sm_le_nil)) (B_233_33 hd  hf hs)
def F_233_0 (x1 : Int32) (h : sm_H) : Option (Int32 × sm_H) :=
  if 10 < (h.1 5 6) then (F_233_32 h)
  else (if (h.1 5 4) < 300 then (F_233_28 h)
  else ((F_231 x1 h).bind fun q1 =>
  if q1.1 = (-1) then (F_233_32 q1.2)
  else (F_233_28 q1.2)))
theorem B_233_0 {L : Nat} {xs : Nat → Int32} {d : Nat} (hd : 2 ≤ d) {res : Option Value × sm_H} {x1 : Int32}  {h : sm_H} {r : (Int32 × sm_H)} (hf : F_233_0 x1 h = some r) (hs : (fun (r : Int32 × sm_H) => res = (some (.int r.1), r.2)) r) : Ex (P_G L xs) (RUN L xs d) (sm_lk P_t233) 3 0 [some (.ref 5), some (.int x1)] [] h res := by
  unfold F_233_0 at hf
  refine Ex.seg 3 (pc' := 6) (lc' := [some (.ref 5), some (.int x1)]) (st' := [.int 10, .int (h.1 5 6)]) (h' := h) (sg1 rfl rfl (sg1 rfl rfl (sg1 rfl rfl rfl))) ?_
  refine Ex.icmp rfl rfl (fun (c0 : 10 < (h.1 5 6)) => ?_) (fun (c0 : ¬ (10 < (h.1 5 6))) => ?_)
  · rw [if_pos c0] at hf
    exact Ex.weak (sm_le_n (sm_le_n sm_le_nil)) (B_233_32 hd  hf hs)
  · rw [if_neg c0] at hf
    refine Ex.seg 3 (pc' := 16) (lc' := [some (.ref 5), some (.int x1)]) (st' := [.int 300, .int (h.1 5 4)]) (h' := h) (sg1 rfl rfl (sg1 rfl rfl (sg1 rfl rfl rfl))) ?_
    refine Ex.icmp rfl rfl (fun (c0 : (h.1 5 4) < 300) => ?_) (fun (c0 : ¬ ((h.1 5 4) < 300)) => ?_)
    · rw [if_pos c0] at hf
      exact Ex.weak (sm_le_n (sm_le_n sm_le_nil)) (B_233_28 hd  hf hs)
    · rw [if_neg c0] at hf
      refine Ex.seg 2 (pc' := 21) (lc' := [some (.ref 5), some (.int x1)]) (st' := [.int x1, .ref 5]) (h' := h) (sg1 rfl rfl (sg1 rfl rfl rfl)) ?_
      obtain ⟨q1, e_q1, hf⟩ := bnd hf
      refine Ex.callV (a := 5) (As := [.int x1]) (r := []) (v := some (.int q1.1)) (h' := q1.2) rfl rfl (by decide) rfl (Nat.le_of_ble_eq_true rfl) rfl (E_231 (Nat.le_trans (by decide) hd) e_q1) rfl ?_
      refine Ex.seg 1 (pc' := 25) (lc' := [some (.ref 5), some (.int x1)]) (st' := [.int (-1), .int q1.1]) (h' := q1.2) (sg1 rfl rfl rfl) ?_
      refine Ex.icmp rfl rfl (fun (c0 : q1.1 = (-1)) => ?_) (fun (c0 : ¬ (q1.1 = (-1))) => ?_)
      · rw [if_pos c0] at hf
        exact Ex.weak (sm_le_n (sm_le_n sm_le_nil)) (B_233_32 hd  hf hs)
      · rw [if_neg c0] at hf
        exact Ex.weak (sm_le_n (sm_le_n sm_le_nil)) (B_233_28 hd  hf hs)
/-- HandleHouse$Types.fits(I)Z -/
abbrev F_233 (x1 : Int32) (h : sm_H) : Option (Int32 × sm_H) := F_233_0 x1 h
theorem E_233 {L : Nat} {xs : Nat → Int32} {d : Nat} (hd : 3 ≤ d) {x1 : Int32} {h : sm_H} {r : Int32 × sm_H} (hf : F_233 x1 h = some r) : RUN L xs d 233 [.ref 5, .int x1] h (some (.int r.1), r.2) := by
  obtain ⟨d, rfl⟩ : ∃ e, d = e + 1 := ⟨d - 1, by omega⟩
  exact ⟨Nat.le_of_ble_eq_true rfl, B_233_0 (by omega) hf rfl⟩
def F_236_112 (z0 : Int32) (h : sm_H) : Option (Int32 × sm_H) :=
  if z0 = 0 ∨ z0 = 1 then some (z0, h) else none
theorem B_236_112 {L : Nat} {xs : Nat → Int32} {d : Nat} (hd : 2 ≤ d) {res : Option Value × sm_H} {z0 : Int32}  {h : sm_H} {r : (Int32 × sm_H)} (hf : F_236_112 z0 h = some r) (hs : (fun (r : Int32 × sm_H) => res = (some (.int r.1), r.2)) r) : Ex (P_G L xs) (RUN L xs d) (sm_lk P_t236) 3 112 [none, none, none, none, none, none] [.int z0] h res := by
  unfold F_236_112 at hf
  rcases Classical.em (z0 = 0 ∨ z0 = 1) with c0 | c0
  · rw [if_pos c0] at hf
    obtain rfl := Option.some.inj hf
    exact Ex.iret rfl rfl (fun _ => c0) hs
  · rw [if_neg c0] at hf
    cases hf
def F_236_107  (h : sm_H) : Option (Int32 × sm_H) :=
  F_236_112 1 h
theorem B_236_107 {L : Nat} {xs : Nat → Int32} {d : Nat} (hd : 2 ≤ d) {res : Option Value × sm_H}   {h : sm_H} {r : (Int32 × sm_H)} (hf : F_236_107  h = some r) (hs : (fun (r : Int32 × sm_H) => res = (some (.int r.1), r.2)) r) : Ex (P_G L xs) (RUN L xs d) (sm_lk P_t236) 3 107 [none, none, none, none, none, none] [] h res := by
  unfold F_236_107 at hf
  refine Ex.seg 2 (pc' := 112) (lc' := [none, none, none, none, none, none]) (st' := [.int 1]) (h' := h) (sg1 rfl rfl (sg1 rfl rfl rfl)) ?_
  exact Ex.weak (sm_le_s (sm_le_s (sm_le_s (sm_le_s (sm_le_s (sm_le_s sm_le_nil)))))) (B_236_112 hd  hf hs)
def F_236_68 (y1 : Int32) (y2 : Int32) (y3 : Int32) (h : sm_H) : Option (Int32 × sm_H) :=
  (F_225 y1 h).bind fun q1 =>
  (F_225 y2 q1.2).bind fun q2 =>
  if q1.1 = 0 then (F_236_107 q2.2)
  else (if q2.1 = 0 then (F_236_107 q2.2)
  else ((F_64 q1.1 q2.1 y3 q2.2).bind fun q3 =>
  if q3.1 = 0 then (F_236_112 0 q3.2)
  else (F_236_107 q3.2)))
theorem B_236_68 {L : Nat} {xs : Nat → Int32} {d : Nat} (hd : 2 ≤ d) {res : Option Value × sm_H} {y1 : Int32} {y2 : Int32} {y3 : Int32}  {h : sm_H} {r : (Int32 × sm_H)} (hf : F_236_68 y1 y2 y3 h = some r) (hs : (fun (r : Int32 × sm_H) => res = (some (.int r.1), r.2)) r) : Ex (P_G L xs) (RUN L xs d) (sm_lk P_t236) 3 68 [some (.ref 5), some (.int y1), some (.int y2), some (.int y3), none, none] [] h res := by
  unfold F_236_68 at hf
  refine Ex.seg 2 (pc' := 70) (lc' := [some (.ref 5), some (.int y1), some (.int y2), some (.int y3), none, none]) (st' := [.int y1, .ref 5]) (h' := h) (sg1 rfl rfl (sg1 rfl rfl rfl)) ?_
  obtain ⟨q1, e_q1, hf⟩ := bnd hf
  refine Ex.callV (a := 5) (As := [.int y1]) (r := []) (v := some (.int q1.1)) (h' := q1.2) rfl rfl (by decide) rfl (Nat.le_of_ble_eq_true rfl) rfl (E_225 (Nat.le_trans (by decide) hd) e_q1) rfl ?_
  refine Ex.seg 3 (pc' := 77) (lc' := [some (.ref 5), some (.int y1), some (.int y2), some (.int y3), some (.int q1.1), none]) (st' := [.int y2, .ref 5]) (h' := q1.2) (sg1 rfl rfl (sg1 rfl rfl (sg1 rfl rfl rfl))) ?_
  obtain ⟨q2, e_q2, hf⟩ := bnd hf
  refine Ex.callV (a := 5) (As := [.int y2]) (r := []) (v := some (.int q2.1)) (h' := q2.2) rfl rfl (by decide) rfl (Nat.le_of_ble_eq_true rfl) rfl (E_225 (Nat.le_trans (by decide) hd) e_q2) rfl ?_
  refine Ex.seg 2 (pc' := 84) (lc' := [some (.ref 5), some (.int y1), some (.int y2), some (.int y3), some (.int q1.1), some (.int q2.1)]) (st' := [.int q1.1]) (h' := q2.2) (sg1 rfl rfl (sg1 rfl rfl rfl)) ?_
  refine Ex.ifc rfl rfl (fun (c0 : q1.1 = 0) => ?_) (fun (c0 : ¬ (q1.1 = 0)) => ?_)
  · rw [if_pos c0] at hf
    exact Ex.weak (sm_le_n (sm_le_n (sm_le_n (sm_le_n (sm_le_n (sm_le_n sm_le_nil)))))) (B_236_107 hd  hf hs)
  · rw [if_neg c0] at hf
    refine Ex.seg 1 (pc' := 89) (lc' := [some (.ref 5), some (.int y1), some (.int y2), some (.int y3), some (.int q1.1), some (.int q2.1)]) (st' := [.int q2.1]) (h' := q2.2) (sg1 rfl rfl rfl) ?_
    refine Ex.ifc rfl rfl (fun (c0 : q2.1 = 0) => ?_) (fun (c0 : ¬ (q2.1 = 0)) => ?_)
    · rw [if_pos c0] at hf
      exact Ex.weak (sm_le_n (sm_le_n (sm_le_n (sm_le_n (sm_le_n (sm_le_n sm_le_nil)))))) (B_236_107 hd  hf hs)
    · rw [if_neg c0] at hf
      refine Ex.seg 5 (pc' := 101) (lc' := [some (.ref 5), some (.int y1), some (.int y2), some (.int y3), some (.int q1.1), some (.int q2.1)]) (st' := [.int y3, .int q2.1, .int q1.1, .ref 1]) (h' := q2.2) (sg1 rfl rfl (sg1 rfl rfl (sg1 rfl rfl (sg1 rfl rfl (sg1 rfl rfl rfl))))) ?_
      obtain ⟨q3, e_q3, hf⟩ := bnd hf
      refine Ex.callV (a := 1) (As := [.int q1.1, .int q2.1, .int y3]) (r := []) (v := some (.int q3.1)) (h' := q3.2) rfl rfl (by decide) rfl (Nat.le_of_ble_eq_true rfl) rfl (E_64 (Nat.le_trans (by decide) hd) e_q3) rfl ?_
      refine Ex.ifc rfl rfl (fun (c0 : q3.1 = 0) => ?_) (fun (c0 : ¬ (q3.1 = 0)) => ?_)
      · rw [if_pos c0] at hf
        refine Ex.seg 1 (pc' := 112) (lc' := [some (.ref 5), some (.int y1), some (.int y2), some (.int y3), some (.int q1.1), some (.int q2.1)]) (st' := [.int 0]) (h' := q3.2) (sg1 rfl rfl rfl) ?_
        exact Ex.weak (sm_le_n (sm_le_n (sm_le_n (sm_le_n (sm_le_n (sm_le_n sm_le_nil)))))) (B_236_112 hd  hf hs)
      · rw [if_neg c0] at hf
        exact Ex.weak (sm_le_n (sm_le_n (sm_le_n (sm_le_n (sm_le_n (sm_le_n sm_le_nil)))))) (B_236_107 hd  hf hs)
def F_236_18B (s : (Int32 × Int32 × Int32 × Int32 × sm_H)) : Option ((Int32 × Int32 × Int32 × Int32 × sm_H) ⊕ (Int32 × sm_H)) :=
  (F_226 s.1 s.2.2.2.2).bind fun q4 =>
  if q4.1 ≤ s.2.2.2.1 then ((F_236_68 s.1 s.2.1 s.2.2.1 q4.2).map fun r => (.inr r))
  else (if 10 ≤ s.2.2.2.1 then ((F_236_68 s.1 s.2.1 s.2.2.1 q4.2).map fun r => (.inr r))
  else ((F_227 s.2.1 s.2.2.2.1 q4.2).bind fun q5 =>
  (F_227 s.1 s.2.2.2.1 q5.2).bind fun q6 =>
  (F_64 q5.1 q6.1 s.2.2.1 q6.2).bind fun q7 =>
  if q7.1 = 0 then (some (.inr (0, q7.2)))
  else ((some (s.2.2.2.1 + 1 : Int32)).bind fun v8 =>
  some (.inl (s.1, s.2.1, s.2.2.1, v8, q7.2)))))
theorem B_236_18B {L : Nat} {xs : Nat → Int32} {d : Nat} (hd : 2 ≤ d) {res : Option Value × sm_H} {S1 : (Int32 × Int32 × Int32 × Int32 × sm_H) → Prop} (hS1 : ∀ s, S1 s → Ex (P_G L xs) (RUN L xs d) (sm_lk P_t236) 3 18 [some (.ref 5), some (.int s.1), some (.int s.2.1), some (.int s.2.2.1), some (.int s.2.2.2.1), none] [] s.2.2.2.2 res) {s : (Int32 × Int32 × Int32 × Int32 × sm_H)}  {r : ((Int32 × Int32 × Int32 × Int32 × sm_H) ⊕ (Int32 × sm_H))} (hf : F_236_18B s = some r) (hs : (Sum.elim S1 (fun (r : Int32 × sm_H) => res = (some (.int r.1), r.2))) r) : Ex (P_G L xs) (RUN L xs d) (sm_lk P_t236) 3 18 [some (.ref 5), some (.int s.1), some (.int s.2.1), some (.int s.2.2.1), some (.int s.2.2.2.1), none] [] s.2.2.2.2 res := by
  unfold F_236_18B at hf
  refine Ex.seg 3 (pc' := 22) (lc' := [some (.ref 5), some (.int s.1), some (.int s.2.1), some (.int s.2.2.1), some (.int s.2.2.2.1), none]) (st' := [.int s.1, .ref 5, .int s.2.2.2.1]) (h' := s.2.2.2.2) (sg1 rfl rfl (sg1 rfl rfl (sg1 rfl rfl rfl))) ?_
  obtain ⟨q4, e_q4, hf⟩ := bnd hf
  refine Ex.callV (a := 5) (As := [.int s.1]) (r := [.int s.2.2.2.1]) (v := some (.int q4.1)) (h' := q4.2) rfl rfl (by decide) rfl (Nat.le_of_ble_eq_true rfl) rfl (E_226 (Nat.le_trans (by decide) hd) e_q4) rfl ?_
  refine Ex.icmp rfl rfl (fun (c0 : q4.1 ≤ s.2.2.2.1) => ?_) (fun (c0 : ¬ (q4.1 ≤ s.2.2.2.1)) => ?_)
  · rw [if_pos c0] at hf
    obtain ⟨r0, hf0, rfl⟩ := Option.map_eq_some_iff.mp hf
    exact Ex.weak (sm_le_s (sm_le_s (sm_le_s (sm_le_s (sm_le_n (sm_le_s sm_le_nil)))))) (B_236_68 hd  hf0 hs)
  · rw [if_neg c0] at hf
    refine Ex.seg 2 (pc' := 32) (lc' := [some (.ref 5), some (.int s.1), some (.int s.2.1), some (.int s.2.2.1), some (.int s.2.2.2.1), none]) (st' := [.int 10, .int s.2.2.2.1]) (h' := q4.2) (sg1 rfl rfl (sg1 rfl rfl rfl)) ?_
    refine Ex.icmp rfl rfl (fun (c0 : 10 ≤ s.2.2.2.1) => ?_) (fun (c0 : ¬ (10 ≤ s.2.2.2.1)) => ?_)
    · rw [if_pos c0] at hf
      obtain ⟨r0, hf0, rfl⟩ := Option.map_eq_some_iff.mp hf
      exact Ex.weak (sm_le_s (sm_le_s (sm_le_s (sm_le_s (sm_le_n (sm_le_s sm_le_nil)))))) (B_236_68 hd  hf0 hs)
    · rw [if_neg c0] at hf
      refine Ex.seg 5 (pc' := 43) (lc' := [some (.ref 5), some (.int s.1), some (.int s.2.1), some (.int s.2.2.1), some (.int s.2.2.2.1), none]) (st' := [.int s.2.2.2.1, .int s.2.1, .ref 5, .ref 1]) (h' := q4.2) (sg1 rfl rfl (sg1 rfl rfl (sg1 rfl rfl (sg1 rfl rfl (sg1 rfl rfl rfl))))) ?_
      obtain ⟨q5, e_q5, hf⟩ := bnd hf
      refine Ex.callV (a := 5) (As := [.int s.2.1, .int s.2.2.2.1]) (r := [.ref 1]) (v := some (.int q5.1)) (h' := q5.2) rfl rfl (by decide) rfl (Nat.le_of_ble_eq_true rfl) rfl (E_227 (Nat.le_trans (by decide) hd) e_q5) rfl ?_
      refine Ex.seg 3 (pc' := 50) (lc' := [some (.ref 5), some (.int s.1), some (.int s.2.1), some (.int s.2.2.1), some (.int s.2.2.2.1), none]) (st' := [.int s.2.2.2.1, .int s.1, .ref 5, .int q5.1, .ref 1]) (h' := q5.2) (sg1 rfl rfl (sg1 rfl rfl (sg1 rfl rfl rfl))) ?_
      obtain ⟨q6, e_q6, hf⟩ := bnd hf
      refine Ex.callV (a := 5) (As := [.int s.1, .int s.2.2.2.1]) (r := [.int q5.1, .ref 1]) (v := some (.int q6.1)) (h' := q6.2) rfl rfl (by decide) rfl (Nat.le_of_ble_eq_true rfl) rfl (E_227 (Nat.le_trans (by decide) hd) e_q6) rfl ?_
      refine Ex.seg 1 (pc' := 54) (lc' := [some (.ref 5), some (.int s.1), some (.int s.2.1), some (.int s.2.2.1), some (.int s.2.2.2.1), none]) (st' := [.int s.2.2.1, .int q6.1, .int q5.1, .ref 1]) (h' := q6.2) (sg1 rfl rfl rfl) ?_
      obtain ⟨q7, e_q7, hf⟩ := bnd hf
      refine Ex.callV (a := 1) (As := [.int q5.1, .int q6.1, .int s.2.2.1]) (r := []) (v := some (.int q7.1)) (h' := q7.2) rfl rfl (by decide) rfl (Nat.le_of_ble_eq_true rfl) rfl (E_64 (Nat.le_trans (by decide) hd) e_q7) rfl ?_
      refine Ex.ifc rfl rfl (fun (c0 : ¬ (q7.1 = 0)) => ?_) (fun (c0 : ¬ ¬ (q7.1 = 0)) => ?_)
      · rw [if_neg c0] at hf
        refine Ex.seg 1 (pc' := 65) (lc' := [some (.ref 5), some (.int s.1), some (.int s.2.1), some (.int s.2.2.1), some (.int (s.2.2.2.1 + 1)), none]) (st' := []) (h' := q7.2) (sg1 rfl rfl rfl) ?_
        obtain ⟨v8, e_v8, hf⟩ := bnd hf
        rw [Option.some.inj e_v8]
        refine Ex.seg 1 (pc' := 18) (lc' := [some (.ref 5), some (.int s.1), some (.int s.2.1), some (.int s.2.2.1), some (.int v8), none]) (st' := []) (h' := q7.2) (sg1 rfl rfl rfl) ?_
        obtain rfl := Option.some.inj hf
        exact Ex.weak (sm_le_s (sm_le_s (sm_le_s (sm_le_s (sm_le_s (sm_le_s sm_le_nil)))))) (hS1 _ hs)
      · rw [if_pos (Classical.not_not.mp c0)] at hf
        refine Ex.seg 1 (pc' := 61) (lc' := [some (.ref 5), some (.int s.1), some (.int s.2.1), some (.int s.2.2.1), some (.int s.2.2.2.1), none]) (st' := [.int 0]) (h' := q7.2) (sg1 rfl rfl rfl) ?_
        obtain rfl := Option.some.inj hf
        exact Ex.iret rfl rfl (fun _ => by decide) hs
def F_236_18 (y1 : Int32) (y2 : Int32) (y3 : Int32) (y4 : Int32) (h : sm_H) : Option (Int32 × sm_H) := lp F_236_18B 1000000 (y1, y2, y3, y4, h)
theorem B_236_18 {L : Nat} {xs : Nat → Int32} {d : Nat} (hd : 2 ≤ d) {res : Option Value × sm_H} {y1 : Int32} {y2 : Int32} {y3 : Int32} {y4 : Int32}  {h : sm_H} {r : (Int32 × sm_H)} (hf : F_236_18 y1 y2 y3 y4 h = some r) (hs : (fun (r : Int32 × sm_H) => res = (some (.int r.1), r.2)) r) : Ex (P_G L xs) (RUN L xs d) (sm_lk P_t236) 3 18 [some (.ref 5), some (.int y1), some (.int y2), some (.int y3), some (.int y4), none] [] h res := by
  unfold F_236_18 at hf
  exact lp_ok (P := fun (s : (Int32 × Int32 × Int32 × Int32 × sm_H)) => Ex (P_G L xs) (RUN L xs d) (sm_lk P_t236) 3 18 [some (.ref 5), some (.int s.1), some (.int s.2.1), some (.int s.2.2.1), some (.int s.2.2.2.1), none] [] s.2.2.2.2 res) (S := (fun (r : Int32 × sm_H) => res = (some (.int r.1), r.2))) (fun s x hx hsx => by
    intros
    exact B_236_18B hd  (fun _ q => q) hx hsx) 1000000 _ r hf hs
def F_236_0 (x1 : Int32) (x2 : Int32) (x3 : Int32) (h : sm_H) : Option (Int32 × sm_H) :=
  (F_226 x1 h).bind fun q9 =>
  (F_226 x2 q9.2).bind fun q10 =>
  if q9.1 = q10.1 then (F_236_18 x1 x2 x3 0 q10.2)
  else (some (0, q10.2))
theorem B_236_0 {L : Nat} {xs : Nat → Int32} {d : Nat} (hd : 2 ≤ d) {res : Option Value × sm_H} {x1 : Int32} {x2 : Int32} {x3 : Int32}  {h : sm_H} {r : (Int32 × sm_H)} (hf : F_236_0 x1 x2 x3 h = some r) (hs : (fun (r : Int32 × sm_H) => res = (some (.int r.1), r.2)) r) : Ex (P_G L xs) (RUN L xs d) (sm_lk P_t236) 3 0 [some (.ref 5), some (.int x1), some (.int x2), some (.int x3), none, none] [] h res := by
  unfold F_236_0 at hf
  refine Ex.seg 2 (pc' := 2) (lc' := [some (.ref 5), some (.int x1), some (.int x2), some (.int x3), none, none]) (st' := [.int x1, .ref 5]) (h' := h) (sg1 rfl rfl (sg1 rfl rfl rfl)) ?_
  obtain ⟨q9, e_q9, hf⟩ := bnd hf
  refine Ex.callV (a := 5) (As := [.int x1]) (r := []) (v := some (.int q9.1)) (h' := q9.2) rfl rfl (by decide) rfl (Nat.le_of_ble_eq_true rfl) rfl (E_226 (Nat.le_trans (by decide) hd) e_q9) rfl ?_
  refine Ex.seg 2 (pc' := 7) (lc' := [some (.ref 5), some (.int x1), some (.int x2), some (.int x3), none, none]) (st' := [.int x2, .ref 5, .int q9.1]) (h' := q9.2) (sg1 rfl rfl (sg1 rfl rfl rfl)) ?_
  obtain ⟨q10, e_q10, hf⟩ := bnd hf
  refine Ex.callV (a := 5) (As := [.int x2]) (r := [.int q9.1]) (v := some (.int q10.1)) (h' := q10.2) rfl rfl (by decide) rfl (Nat.le_of_ble_eq_true rfl) rfl (E_226 (Nat.le_trans (by decide) hd) e_q10) rfl ?_
  refine Ex.icmp rfl rfl (fun (c0 : q9.1 = q10.1) => ?_) (fun (c0 : ¬ (q9.1 = q10.1)) => ?_)
  · rw [if_pos c0] at hf
    refine Ex.seg 2 (pc' := 18) (lc' := [some (.ref 5), some (.int x1), some (.int x2), some (.int x3), some (.int 0), none]) (st' := []) (h' := q10.2) (sg1 rfl rfl (sg1 rfl rfl rfl)) ?_
    exact Ex.weak (sm_le_s (sm_le_s (sm_le_s (sm_le_s (sm_le_s (sm_le_s sm_le_nil)))))) (B_236_18 hd  hf hs)
  · rw [if_neg c0] at hf
    refine Ex.seg 1 (pc' := 14) (lc' := [some (.ref 5), some (.int x1), some (.int x2), some (.int x3), none, none]) (st' := [.int 0]) (h' := q10.2) (sg1 rfl rfl rfl) ?_
    obtain rfl := Option.some.inj hf
    exact Ex.iret rfl rfl (fun _ => by decide) hs
/-- HandleHouse$Types.allowsAs(IIZ)Z -/
abbrev F_236 (x1 : Int32) (x2 : Int32) (x3 : Int32) (h : sm_H) : Option (Int32 × sm_H) := F_236_0 x1 x2 x3 h
theorem E_236 {L : Nat} {xs : Nat → Int32} {d : Nat} (hd : 3 ≤ d) {x1 : Int32} {x2 : Int32} {x3 : Int32} {h : sm_H} {r : Int32 × sm_H} (hf : F_236 x1 x2 x3 h = some r) : RUN L xs d 236 [.ref 5, .int x1, .int x2, .int x3] h (some (.int r.1), r.2) := by
  obtain ⟨d, rfl⟩ : ∃ e, d = e + 1 := ⟨d - 1, by omega⟩
  exact ⟨Nat.le_of_ble_eq_true rfl, B_236_0 (by omega) hf rfl⟩
def F_259_0 (x1 : Int32) (x2 : Int32) (h : sm_H) : Option (Int32 × sm_H) :=
  (F_52 x1 x2 h).bind fun q1 =>
  some (q1.1, q1.2)
theorem B_259_0 {L : Nat} {xs : Nat → Int32} {d : Nat} (hd : 2 ≤ d) {res : Option Value × sm_H} {x1 : Int32} {x2 : Int32}  {h : sm_H} {r : (Int32 × sm_H)} (hf : F_259_0 x1 x2 h = some r) (hs : (fun (r : Int32 × sm_H) => res = (some (.int r.1), r.2)) r) : Ex (P_G L xs) (RUN L xs d) (sm_lk P_t259) 0 0 [some (.ref 0), some (.int x1), some (.int x2)] [] h res := by
  unfold F_259_0 at hf
  refine Ex.seg 4 (pc' := 6) (lc' := [some (.ref 0), some (.int x1), some (.int x2)]) (st' := [.int x2, .int x1, .ref 1]) (h' := h) (sg1 rfl rfl (sg1 rfl rfl (sg1 rfl rfl (sg1 rfl rfl rfl)))) ?_
  obtain ⟨q1, e_q1, hf⟩ := bnd hf
  refine Ex.callV (a := 1) (As := [.int x1, .int x2]) (r := []) (v := some (.int q1.1)) (h' := q1.2) rfl rfl (by decide) rfl (Nat.le_of_ble_eq_true rfl) rfl (E_52 (Nat.le_trans (by decide) hd) e_q1) rfl ?_
  obtain rfl := Option.some.inj hf
  exact Ex.iret rfl rfl (fun c0 => by cases c0) hs
/-- HandleHouse.newClass(II)I -/
abbrev F_259 (x1 : Int32) (x2 : Int32) (h : sm_H) : Option (Int32 × sm_H) := F_259_0 x1 x2 h
theorem E_259 {L : Nat} {xs : Nat → Int32} {d : Nat} (hd : 3 ≤ d) {x1 : Int32} {x2 : Int32} {h : sm_H} {r : Int32 × sm_H} (hf : F_259 x1 x2 h = some r) : RUN L xs d 259 [.ref 0, .int x1, .int x2] h (some (.int r.1), r.2) := by
  obtain ⟨d, rfl⟩ : ∃ e, d = e + 1 := ⟨d - 1, by omega⟩
  exact ⟨Nat.le_of_ble_eq_true rfl, B_259_0 (by omega) hf rfl⟩
def F_267_0 (x1 : Int32) (x2 : Int32) (x3 : Int32) (x4 : Int32) (x5 : Int32) (h : sm_H) : Option (Int32 × sm_H) :=
  (F_114 x1 x2 x3 x4 x5 h).bind fun q1 =>
  (F_264 q1.1 q1.2).bind fun q2 =>
  some (q2.1, q2.2)
theorem B_267_0 {L : Nat} {xs : Nat → Int32} {d : Nat} (hd : 3 ≤ d) {res : Option Value × sm_H} {x1 : Int32} {x2 : Int32} {x3 : Int32} {x4 : Int32} {x5 : Int32}  {h : sm_H} {r : (Int32 × sm_H)} (hf : F_267_0 x1 x2 x3 x4 x5 h = some r) (hs : (fun (r : Int32 × sm_H) => res = (some (.int r.1), r.2)) r) : Ex (P_G L xs) (RUN L xs d) (sm_lk P_t267) 0 0 [some (.ref 0), some (.int x1), some (.int x2), some (.int x3), some (.int x4), some (.int x5)] [] h res := by
  unfold F_267_0 at hf
  refine Ex.seg 8 (pc' := 12) (lc' := [some (.ref 0), some (.int x1), some (.int x2), some (.int x3), some (.int x4), some (.int x5)]) (st' := [.int x5, .int x4, .int x3, .int x2, .int x1, .ref 38, .ref 0]) (h' := h) (sg1 rfl rfl (sg1 rfl rfl (sg1 rfl rfl (sg1 rfl rfl (sg1 rfl rfl (sg1 rfl rfl (sg1 rfl rfl (sg1 rfl rfl rfl)))))))) ?_
  obtain ⟨q1, e_q1, hf⟩ := bnd hf
  refine Ex.callV (a := 38) (As := [.int x1, .int x2, .int x3, .int x4, .int x5]) (r := [.ref 0]) (v := some (.int q1.1)) (h' := q1.2) rfl rfl (by decide) rfl (Nat.le_of_ble_eq_true rfl) rfl (E_114 (Nat.le_trans (by decide) hd) e_q1) rfl ?_
  obtain ⟨q2, e_q2, hf⟩ := bnd hf
  refine Ex.callV (a := 0) (As := [.int q1.1]) (r := []) (v := some (.int q2.1)) (h' := q2.2) rfl rfl (by decide) rfl (Nat.le_of_ble_eq_true rfl) rfl (E_264 (Nat.le_trans (by decide) hd) e_q2) rfl ?_
  obtain rfl := Option.some.inj hf
  exact Ex.iret rfl rfl (fun c0 => by cases c0) hs
/-- HandleHouse.field(IIIZI)I -/
abbrev F_267 (x1 : Int32) (x2 : Int32) (x3 : Int32) (x4 : Int32) (x5 : Int32) (h : sm_H) : Option (Int32 × sm_H) := F_267_0 x1 x2 x3 x4 x5 h
theorem E_267 {L : Nat} {xs : Nat → Int32} {d : Nat} (hd : 4 ≤ d) {x1 : Int32} {x2 : Int32} {x3 : Int32} {x4 : Int32} {x5 : Int32} {h : sm_H} {r : Int32 × sm_H} (hf : F_267 x1 x2 x3 x4 x5 h = some r) : RUN L xs d 267 [.ref 0, .int x1, .int x2, .int x3, .int x4, .int x5] h (some (.int r.1), r.2) := by
  obtain ⟨d, rfl⟩ : ∃ e, d = e + 1 := ⟨d - 1, by omega⟩
  exact ⟨Nat.le_of_ble_eq_true rfl, B_267_0 (by omega) hf rfl⟩
def F_286_0 (x1 : Int64) (h : sm_H) : Option (Int32 × sm_H) :=
  (F_165 x1 h).bind fun q1 =>
  some (q1.1, q1.2)
theorem B_286_0 {L : Nat} {xs : Nat → Int32} {d : Nat} (hd : 2 ≤ d) {res : Option Value × sm_H} {x1 : Int64}  {h : sm_H} {r : (Int32 × sm_H)} (hf : F_286_0 x1 h = some r) (hs : (fun (r : Int32 × sm_H) => res = (some (.int r.1), r.2)) r) : Ex (P_G L xs) (RUN L xs d) (sm_lk P_t286) 0 0 [some (.ref 0), some (.long x1), none] [] h res := by
  unfold F_286_0 at hf
  refine Ex.seg 3 (pc' := 5) (lc' := [some (.ref 0), some (.long x1), none]) (st' := [.long x1, .ref 55]) (h' := h) (sg1 rfl rfl (sg1 rfl rfl (sg1 rfl rfl rfl))) ?_
  obtain ⟨q1, e_q1, hf⟩ := bnd hf
  refine Ex.callV (a := 55) (As := [.long x1]) (r := []) (v := some (.int q1.1)) (h' := q1.2) rfl rfl (by decide) rfl (Nat.le_of_ble_eq_true rfl) rfl (E_165 (Nat.le_trans (by decide) hd) e_q1) rfl ?_
  obtain rfl := Option.some.inj hf
  exact Ex.iret rfl rfl (fun c0 => by cases c0) hs
/-- HandleHouse.named(J)I -/
abbrev F_286 (x1 : Int64) (h : sm_H) : Option (Int32 × sm_H) := F_286_0 x1 h
theorem E_286 {L : Nat} {xs : Nat → Int32} {d : Nat} (hd : 3 ≤ d) {x1 : Int64} {h : sm_H} {r : Int32 × sm_H} (hf : F_286 x1 h = some r) : RUN L xs d 286 [.ref 0, .long x1] h (some (.int r.1), r.2) := by
  obtain ⟨d, rfl⟩ : ∃ e, d = e + 1 := ⟨d - 1, by omega⟩
  exact ⟨Nat.le_of_ble_eq_true rfl, B_286_0 (by omega) hf rfl⟩
def F_287_0 (x1 : Int32) (x2 : Int32) (x3 : Int32) (h : sm_H) : Option (Int32 × sm_H) :=
  (F_64 x1 x2 x3 h).bind fun q1 =>
  if q1.1 = 0 ∨ q1.1 = 1 then some (q1.1, q1.2) else none
theorem B_287_0 {L : Nat} {xs : Nat → Int32} {d : Nat} (hd : 2 ≤ d) {res : Option Value × sm_H} {x1 : Int32} {x2 : Int32} {x3 : Int32}  {h : sm_H} {r : (Int32 × sm_H)} (hf : F_287_0 x1 x2 x3 h = some r) (hs : (fun (r : Int32 × sm_H) => res = (some (.int r.1), r.2)) r) : Ex (P_G L xs) (RUN L xs d) (sm_lk P_t287) 3 0 [some (.ref 0), some (.int x1), some (.int x2), some (.int x3)] [] h res := by
  unfold F_287_0 at hf
  refine Ex.seg 5 (pc' := 7) (lc' := [some (.ref 0), some (.int x1), some (.int x2), some (.int x3)]) (st' := [.int x3, .int x2, .int x1, .ref 1]) (h' := h) (sg1 rfl rfl (sg1 rfl rfl (sg1 rfl rfl (sg1 rfl rfl (sg1 rfl rfl rfl))))) ?_
  obtain ⟨q1, e_q1, hf⟩ := bnd hf
  refine Ex.callV (a := 1) (As := [.int x1, .int x2, .int x3]) (r := []) (v := some (.int q1.1)) (h' := q1.2) rfl rfl (by decide) rfl (Nat.le_of_ble_eq_true rfl) rfl (E_64 (Nat.le_trans (by decide) hd) e_q1) rfl ?_
  rcases Classical.em (q1.1 = 0 ∨ q1.1 = 1) with c0 | c0
  · rw [if_pos c0] at hf
    obtain rfl := Option.some.inj hf
    exact Ex.iret rfl rfl (fun _ => c0) hs
  · rw [if_neg c0] at hf
    cases hf
/-- HandleHouse.may(IIZ)Z -/
abbrev F_287 (x1 : Int32) (x2 : Int32) (x3 : Int32) (h : sm_H) : Option (Int32 × sm_H) := F_287_0 x1 x2 x3 h
theorem E_287 {L : Nat} {xs : Nat → Int32} {d : Nat} (hd : 3 ≤ d) {x1 : Int32} {x2 : Int32} {x3 : Int32} {h : sm_H} {r : Int32 × sm_H} (hf : F_287 x1 x2 x3 h = some r) : RUN L xs d 287 [.ref 0, .int x1, .int x2, .int x3] h (some (.int r.1), r.2) := by
  obtain ⟨d, rfl⟩ : ∃ e, d = e + 1 := ⟨d - 1, by omega⟩
  exact ⟨Nat.le_of_ble_eq_true rfl, B_287_0 (by omega) hf rfl⟩
def F_32_304  (h : sm_H) : Option (Int32 × sm_H) :=
  (F_229 (h.1 34 8) h).bind fun q1 =>
  (F_229 5 q1).bind fun q2 =>
  (F_63 (q2.1 34 8) q2).bind fun q3 =>
  (F_33 q3.1 (((q3.2.1 34 7) - 22) + 4) q3.2).bind fun q4 =>
  some (q4.1, q4.2)
theorem B_32_304 {L : Nat} {xs : Nat → Int32} {d : Nat} (hd : 2 ≤ d) {res : Option Value × sm_H}   {h : sm_H} {r : (Int32 × sm_H)} (hf : F_32_304  h = some r) (hs : (fun (r : Int32 × sm_H) => res = (some (.int r.1), r.2)) r) : Ex (P_G L xs) (RUN L xs d) (sm_lk P_t32) 0 304 [some (.ref 34)] [] h res := by
  unfold F_32_304 at hf
  refine Ex.seg 4 (pc' := 312) (lc' := [some (.ref 34)]) (st' := [.int (h.1 34 8), .ref 5]) (h' := h) (sg1 rfl rfl (sg1 rfl rfl (sg1 rfl rfl (sg1 rfl rfl rfl)))) ?_
  obtain ⟨q1, e_q1, hf⟩ := bnd hf
  refine Ex.callV (a := 5) (As := [.int (h.1 34 8)]) (r := []) (v := none) (h' := q1) rfl rfl (by decide) rfl (Nat.le_of_ble_eq_true rfl) rfl (E_229 (Nat.le_trans (by decide) hd) e_q1) rfl ?_
  refine Ex.seg 3 (pc' := 320) (lc' := [some (.ref 34)]) (st' := [.int 5, .ref 5]) (h' := q1) (sg1 rfl rfl (sg1 rfl rfl (sg1 rfl rfl rfl))) ?_
  obtain ⟨q2, e_q2, hf⟩ := bnd hf
  refine Ex.callV (a := 5) (As := [.int 5]) (r := []) (v := none) (h' := q2) rfl rfl (by decide) rfl (Nat.le_of_ble_eq_true rfl) rfl (E_229 (Nat.le_trans (by decide) hd) e_q2) rfl ?_
  refine Ex.seg 5 (pc' := 332) (lc' := [some (.ref 34)]) (st' := [.int (q2.1 34 8), .ref 1, .ref 34]) (h' := q2) (sg1 rfl rfl (sg1 rfl rfl (sg1 rfl rfl (sg1 rfl rfl (sg1 rfl rfl rfl))))) ?_
  obtain ⟨q3, e_q3, hf⟩ := bnd hf
  refine Ex.callV (a := 1) (As := [.int (q2.1 34 8)]) (r := [.ref 34]) (v := some (.int q3.1)) (h' := q3.2) rfl rfl (by decide) rfl (Nat.le_of_ble_eq_true rfl) rfl (E_63 (Nat.le_trans (by decide) hd) e_q3) rfl ?_
  refine Ex.seg 6 (pc' := 344) (lc' := [some (.ref 34)]) (st' := [.int (((q3.2.1 34 7) - 22) + 4), .int q3.1, .ref 34]) (h' := q3.2) (sg1 rfl rfl (sg1 rfl rfl (sg1 rfl rfl (sg1 rfl rfl (sg1 rfl rfl (sg1 rfl rfl rfl)))))) ?_
  obtain ⟨q4, e_q4, hf⟩ := bnd hf
  refine Ex.callV (a := 34) (As := [.int q3.1, .int (((q3.2.1 34 7) - 22) + 4)]) (r := []) (v := some (.int q4.1)) (h' := q4.2) rfl rfl (by decide) rfl (Nat.le_of_ble_eq_true rfl) rfl (E_33 (Nat.le_trans (by decide) hd) e_q4) rfl ?_
  obtain rfl := Option.some.inj hf
  exact Ex.iret rfl rfl (fun c0 => by cases c0) hs
def F_32_219 (z0 : Int32) (h : sm_H) : Option (Int32 × sm_H) :=
  some (z0, h)
theorem B_32_219 {L : Nat} {xs : Nat → Int32} {d : Nat} (hd : 2 ≤ d) {res : Option Value × sm_H} {z0 : Int32}  {h : sm_H} {r : (Int32 × sm_H)} (hf : F_32_219 z0 h = some r) (hs : (fun (r : Int32 × sm_H) => res = (some (.int r.1), r.2)) r) : Ex (P_G L xs) (RUN L xs d) (sm_lk P_t32) 0 219 [none] [.int z0] h res := by
  unfold F_32_219 at hf
  obtain rfl := Option.some.inj hf
  exact Ex.iret rfl rfl (fun c0 => by cases c0) hs
def F_32_0  (h : sm_H) : Option (Int32 × sm_H) :=
  if (h.1 34 7) = 0 then (some ((h.1 34 8), h))
  else (if (h.1 34 7) = 1 then (some (18, h))
  else (if (h.1 34 7) = 2 then ((F_229 (h.1 34 8) h).bind fun q5 =>
  some ((q5.1 34 8), q5))
  else (if (h.1 34 7) = 3 then ((F_229 (h.1 34 9) h).bind fun q6 =>
  (F_229 (q6.1 34 9) q6).bind fun q7 =>
  if (q7.1 34 8) < 11 then (F_32_219 (q7.1 34 9) q7)
  else (F_32_219 1 q7))
  else (if (h.1 34 7) = 19 then ((F_229 (h.1 34 9) h).bind fun q8 =>
  some ((q8.1 34 8), q8))
  else (if (h.1 34 7) = 20 then ((F_229 5 h).bind fun q9 =>
  some ((q9.1 34 8), q9))
  else (if (h.1 34 7) = 21 then ((F_229 (h.1 34 8) h).bind fun q10 =>
  some (5, q10))
  else (if (h.1 34 7) = 31 then ((F_229 7 h).bind fun q11 =>
  some (1, q11))
  else (if (h.1 34 7) = 32 then ((F_229 7 h).bind fun q12 =>
  (F_229 7 q12).bind fun q13 =>
  some (1, q13))
  else (if (h.1 34 7) = 33 then ((F_229 19 h).bind fun q14 =>
  some (5, q14))
  else (F_32_304 h))))))))))
theorem B_32_0 {L : Nat} {xs : Nat → Int32} {d : Nat} (hd : 2 ≤ d) {res : Option Value × sm_H}   {h : sm_H} {r : (Int32 × sm_H)} (hf : F_32_0  h = some r) (hs : (fun (r : Int32 × sm_H) => res = (some (.int r.1), r.2)) r) : Ex (P_G L xs) (RUN L xs d) (sm_lk P_t32) 0 0 [some (.ref 34)] [] h res := by
  unfold F_32_0 at hf
  refine Ex.seg 2 (pc' := 4) (lc' := [some (.ref 34)]) (st' := [.int (h.1 34 7)]) (h' := h) (sg1 rfl rfl (sg1 rfl rfl rfl)) ?_
  rcases Classical.em ((h.1 34 7) = 0) with n1 | n1
  · rw [if_pos n1] at hf
    refine Ex.swt (t := 156) rfl rfl (by rw [n1]; exact Or.inr ⟨by decide, by decide, _, rfl, by decide⟩) ?_
    refine Ex.seg 2 (pc' := 160) (lc' := [some (.ref 34)]) (st' := [.int (h.1 34 8)]) (h' := h) (sg1 rfl rfl (sg1 rfl rfl rfl)) ?_
    obtain rfl := Option.some.inj hf
    exact Ex.iret rfl rfl (fun c0 => by cases c0) hs
  rw [if_neg n1] at hf
  rcases Classical.em ((h.1 34 7) = 1) with n2 | n2
  · rw [if_pos n2] at hf
    refine Ex.swt (t := 161) rfl rfl (by rw [n2]; exact Or.inr ⟨by decide, by decide, _, rfl, by decide⟩) ?_
    refine Ex.seg 1 (pc' := 163) (lc' := [some (.ref 34)]) (st' := [.int 18]) (h' := h) (sg1 rfl rfl rfl) ?_
    obtain rfl := Option.some.inj hf
    exact Ex.iret rfl rfl (fun c0 => by cases c0) hs
  rw [if_neg n2] at hf
  rcases Classical.em ((h.1 34 7) = 2) with n3 | n3
  · rw [if_pos n3] at hf
    refine Ex.swt (t := 164) rfl rfl (by rw [n3]; exact Or.inr ⟨by decide, by decide, _, rfl, by decide⟩) ?_
    refine Ex.seg 4 (pc' := 172) (lc' := [some (.ref 34)]) (st' := [.int (h.1 34 8), .ref 5]) (h' := h) (sg1 rfl rfl (sg1 rfl rfl (sg1 rfl rfl (sg1 rfl rfl rfl)))) ?_
    obtain ⟨q5, e_q5, hf⟩ := bnd hf
    refine Ex.callV (a := 5) (As := [.int (h.1 34 8)]) (r := []) (v := none) (h' := q5) rfl rfl (by decide) rfl (Nat.le_of_ble_eq_true rfl) rfl (E_229 (Nat.le_trans (by decide) hd) e_q5) rfl ?_
    refine Ex.seg 2 (pc' := 179) (lc' := [some (.ref 34)]) (st' := [.int (q5.1 34 8)]) (h' := q5) (sg1 rfl rfl (sg1 rfl rfl rfl)) ?_
    obtain rfl := Option.some.inj hf
    exact Ex.iret rfl rfl (fun c0 => by cases c0) hs
  rw [if_neg n3] at hf
  rcases Classical.em ((h.1 34 7) = 3) with n4 | n4
  · rw [if_pos n4] at hf
    refine Ex.swt (t := 180) rfl rfl (by rw [n4]; exact Or.inr ⟨by decide, by decide, _, rfl, by decide⟩) ?_
    refine Ex.seg 4 (pc' := 188) (lc' := [some (.ref 34)]) (st' := [.int (h.1 34 9), .ref 5]) (h' := h) (sg1 rfl rfl (sg1 rfl rfl (sg1 rfl rfl (sg1 rfl rfl rfl)))) ?_
    obtain ⟨q6, e_q6, hf⟩ := bnd hf
    refine Ex.callV (a := 5) (As := [.int (h.1 34 9)]) (r := []) (v := none) (h' := q6) rfl rfl (by decide) rfl (Nat.le_of_ble_eq_true rfl) rfl (E_229 (Nat.le_trans (by decide) hd) e_q6) rfl ?_
    refine Ex.seg 4 (pc' := 199) (lc' := [some (.ref 34)]) (st' := [.int (q6.1 34 9), .ref 5]) (h' := q6) (sg1 rfl rfl (sg1 rfl rfl (sg1 rfl rfl (sg1 rfl rfl rfl)))) ?_
    obtain ⟨q7, e_q7, hf⟩ := bnd hf
    refine Ex.callV (a := 5) (As := [.int (q6.1 34 9)]) (r := []) (v := none) (h' := q7) rfl rfl (by decide) rfl (Nat.le_of_ble_eq_true rfl) rfl (E_229 (Nat.le_trans (by decide) hd) e_q7) rfl ?_
    refine Ex.seg 3 (pc' := 208) (lc' := [some (.ref 34)]) (st' := [.int 11, .int (q7.1 34 8)]) (h' := q7) (sg1 rfl rfl (sg1 rfl rfl (sg1 rfl rfl rfl))) ?_
    refine Ex.icmp rfl rfl (fun (c0 : (q7.1 34 8) < 11) => ?_) (fun (c0 : ¬ ((q7.1 34 8) < 11)) => ?_)
    · rw [if_pos c0] at hf
      refine Ex.seg 2 (pc' := 219) (lc' := [some (.ref 34)]) (st' := [.int (q7.1 34 9)]) (h' := q7) (sg1 rfl rfl (sg1 rfl rfl rfl)) ?_
      exact Ex.weak (sm_le_n sm_le_nil) (B_32_219 hd  hf hs)
    · rw [if_neg c0] at hf
      refine Ex.seg 2 (pc' := 219) (lc' := [some (.ref 34)]) (st' := [.int 1]) (h' := q7) (sg1 rfl rfl (sg1 rfl rfl rfl)) ?_
      exact Ex.weak (sm_le_n sm_le_nil) (B_32_219 hd  hf hs)
  rw [if_neg n4] at hf
  rcases Classical.em ((h.1 34 7) = 19) with n5 | n5
  · rw [if_pos n5] at hf
    refine Ex.swt (t := 220) rfl rfl (by rw [n5]; exact Or.inr ⟨by decide, by decide, _, rfl, by decide⟩) ?_
    refine Ex.seg 4 (pc' := 228) (lc' := [some (.ref 34)]) (st' := [.int (h.1 34 9), .ref 5]) (h' := h) (sg1 rfl rfl (sg1 rfl rfl (sg1 rfl rfl (sg1 rfl rfl rfl)))) ?_
    obtain ⟨q8, e_q8, hf⟩ := bnd hf
    refine Ex.callV (a := 5) (As := [.int (h.1 34 9)]) (r := []) (v := none) (h' := q8) rfl rfl (by decide) rfl (Nat.le_of_ble_eq_true rfl) rfl (E_229 (Nat.le_trans (by decide) hd) e_q8) rfl ?_
    refine Ex.seg 2 (pc' := 235) (lc' := [some (.ref 34)]) (st' := [.int (q8.1 34 8)]) (h' := q8) (sg1 rfl rfl (sg1 rfl rfl rfl)) ?_
    obtain rfl := Option.some.inj hf
    exact Ex.iret rfl rfl (fun c0 => by cases c0) hs
  rw [if_neg n5] at hf
  rcases Classical.em ((h.1 34 7) = 20) with n6 | n6
  · rw [if_pos n6] at hf
    refine Ex.swt (t := 236) rfl rfl (by rw [n6]; exact Or.inr ⟨by decide, by decide, _, rfl, by decide⟩) ?_
    refine Ex.seg 3 (pc' := 241) (lc' := [some (.ref 34)]) (st' := [.int 5, .ref 5]) (h' := h) (sg1 rfl rfl (sg1 rfl rfl (sg1 rfl rfl rfl))) ?_
    obtain ⟨q9, e_q9, hf⟩ := bnd hf
    refine Ex.callV (a := 5) (As := [.int 5]) (r := []) (v := none) (h' := q9) rfl rfl (by decide) rfl (Nat.le_of_ble_eq_true rfl) rfl (E_229 (Nat.le_trans (by decide) hd) e_q9) rfl ?_
    refine Ex.seg 2 (pc' := 248) (lc' := [some (.ref 34)]) (st' := [.int (q9.1 34 8)]) (h' := q9) (sg1 rfl rfl (sg1 rfl rfl rfl)) ?_
    obtain rfl := Option.some.inj hf
    exact Ex.iret rfl rfl (fun c0 => by cases c0) hs
  rw [if_neg n6] at hf
  rcases Classical.em ((h.1 34 7) = 21) with n7 | n7
  · rw [if_pos n7] at hf
    refine Ex.swt (t := 249) rfl rfl (by rw [n7]; exact Or.inr ⟨by decide, by decide, _, rfl, by decide⟩) ?_
    refine Ex.seg 4 (pc' := 257) (lc' := [some (.ref 34)]) (st' := [.int (h.1 34 8), .ref 5]) (h' := h) (sg1 rfl rfl (sg1 rfl rfl (sg1 rfl rfl (sg1 rfl rfl rfl)))) ?_
    obtain ⟨q10, e_q10, hf⟩ := bnd hf
    refine Ex.callV (a := 5) (As := [.int (h.1 34 8)]) (r := []) (v := none) (h' := q10) rfl rfl (by decide) rfl (Nat.le_of_ble_eq_true rfl) rfl (E_229 (Nat.le_trans (by decide) hd) e_q10) rfl ?_
    refine Ex.seg 1 (pc' := 261) (lc' := [some (.ref 34)]) (st' := [.int 5]) (h' := q10) (sg1 rfl rfl rfl) ?_
    obtain rfl := Option.some.inj hf
    exact Ex.iret rfl rfl (fun c0 => by cases c0) hs
  rw [if_neg n7] at hf
  rcases Classical.em ((h.1 34 7) = 31) with n8 | n8
  · rw [if_pos n8] at hf
    refine Ex.swt (t := 262) rfl rfl (by rw [n8]; exact Or.inr ⟨by decide, by decide, _, rfl, by decide⟩) ?_
    refine Ex.seg 3 (pc' := 268) (lc' := [some (.ref 34)]) (st' := [.int 7, .ref 5]) (h' := h) (sg1 rfl rfl (sg1 rfl rfl (sg1 rfl rfl rfl))) ?_
    obtain ⟨q11, e_q11, hf⟩ := bnd hf
    refine Ex.callV (a := 5) (As := [.int 7]) (r := []) (v := none) (h' := q11) rfl rfl (by decide) rfl (Nat.le_of_ble_eq_true rfl) rfl (E_229 (Nat.le_trans (by decide) hd) e_q11) rfl ?_
    refine Ex.seg 1 (pc' := 272) (lc' := [some (.ref 34)]) (st' := [.int 1]) (h' := q11) (sg1 rfl rfl rfl) ?_
    obtain rfl := Option.some.inj hf
    exact Ex.iret rfl rfl (fun c0 => by cases c0) hs
  rw [if_neg n8] at hf
  rcases Classical.em ((h.1 34 7) = 32) with n9 | n9
  · rw [if_pos n9] at hf
    refine Ex.swt (t := 273) rfl rfl (by rw [n9]; exact Or.inr ⟨by decide, by decide, _, rfl, by decide⟩) ?_
    refine Ex.seg 3 (pc' := 279) (lc' := [some (.ref 34)]) (st' := [.int 7, .ref 5]) (h' := h) (sg1 rfl rfl (sg1 rfl rfl (sg1 rfl rfl rfl))) ?_
    obtain ⟨q12, e_q12, hf⟩ := bnd hf
    refine Ex.callV (a := 5) (As := [.int 7]) (r := []) (v := none) (h' := q12) rfl rfl (by decide) rfl (Nat.le_of_ble_eq_true rfl) rfl (E_229 (Nat.le_trans (by decide) hd) e_q12) rfl ?_
    refine Ex.seg 3 (pc' := 288) (lc' := [some (.ref 34)]) (st' := [.int 7, .ref 5]) (h' := q12) (sg1 rfl rfl (sg1 rfl rfl (sg1 rfl rfl rfl))) ?_
    obtain ⟨q13, e_q13, hf⟩ := bnd hf
    refine Ex.callV (a := 5) (As := [.int 7]) (r := []) (v := none) (h' := q13) rfl rfl (by decide) rfl (Nat.le_of_ble_eq_true rfl) rfl (E_229 (Nat.le_trans (by decide) hd) e_q13) rfl ?_
    refine Ex.seg 1 (pc' := 292) (lc' := [some (.ref 34)]) (st' := [.int 1]) (h' := q13) (sg1 rfl rfl rfl) ?_
    obtain rfl := Option.some.inj hf
    exact Ex.iret rfl rfl (fun c0 => by cases c0) hs
  rw [if_neg n9] at hf
  rcases Classical.em ((h.1 34 7) = 33) with n10 | n10
  · rw [if_pos n10] at hf
    refine Ex.swt (t := 293) rfl rfl (by rw [n10]; exact Or.inr ⟨by decide, by decide, _, rfl, by decide⟩) ?_
    refine Ex.seg 3 (pc' := 299) (lc' := [some (.ref 34)]) (st' := [.int 19, .ref 5]) (h' := h) (sg1 rfl rfl (sg1 rfl rfl (sg1 rfl rfl rfl))) ?_
    obtain ⟨q14, e_q14, hf⟩ := bnd hf
    refine Ex.callV (a := 5) (As := [.int 19]) (r := []) (v := none) (h' := q14) rfl rfl (by decide) rfl (Nat.le_of_ble_eq_true rfl) rfl (E_229 (Nat.le_trans (by decide) hd) e_q14) rfl ?_
    refine Ex.seg 1 (pc' := 303) (lc' := [some (.ref 34)]) (st' := [.int 5]) (h' := q14) (sg1 rfl rfl rfl) ?_
    obtain rfl := Option.some.inj hf
    exact Ex.iret rfl rfl (fun c0 => by cases c0) hs
  rw [if_neg n10] at hf
  refine Ex.swt (t := 304) rfl rfl (sw_dflt (by decide) (by decide) (fun k hk he => ?_)) ?_
  · have hk : k < 34 := hk
    rcases (show k = 0 ∨ k = 1 ∨ k = 2 ∨ k = 3 ∨ k = 4 ∨ k = 5 ∨ k = 6 ∨ k = 7 ∨ k = 8 ∨ k = 9 ∨ k = 10 ∨ k = 11 ∨ k = 12 ∨ k = 13 ∨ k = 14 ∨ k = 15 ∨ k = 16 ∨ k = 17 ∨ k = 18 ∨ k = 19 ∨ k = 20 ∨ k = 21 ∨ k = 22 ∨ k = 23 ∨ k = 24 ∨ k = 25 ∨ k = 26 ∨ k = 27 ∨ k = 28 ∨ k = 29 ∨ k = 30 ∨ k = 31 ∨ k = 32 ∨ k = 33 by omega) with rfl | rfl | rfl | rfl | rfl | rfl | rfl | rfl | rfl | rfl | rfl | rfl | rfl | rfl | rfl | rfl | rfl | rfl | rfl | rfl | rfl | rfl | rfl | rfl | rfl | rfl | rfl | rfl | rfl | rfl | rfl | rfl | rfl | rfl
    · exact absurd (Int32.toInt_inj.mp (he.symm.trans (by decide : (_ : Int) = Int32.toInt 0))) n1
    · exact absurd (Int32.toInt_inj.mp (he.symm.trans (by decide : (_ : Int) = Int32.toInt 1))) n2
    · exact absurd (Int32.toInt_inj.mp (he.symm.trans (by decide : (_ : Int) = Int32.toInt 2))) n3
    · exact absurd (Int32.toInt_inj.mp (he.symm.trans (by decide : (_ : Int) = Int32.toInt 3))) n4
    · rfl
    · rfl
    · rfl
    · rfl
    · rfl
    · rfl
    · rfl
    · rfl
    · rfl
    · rfl
    · rfl
    · rfl
    · rfl
    · rfl
    · rfl
    · exact absurd (Int32.toInt_inj.mp (he.symm.trans (by decide : (_ : Int) = Int32.toInt 19))) n5
    · exact absurd (Int32.toInt_inj.mp (he.symm.trans (by decide : (_ : Int) = Int32.toInt 20))) n6
    · exact absurd (Int32.toInt_inj.mp (he.symm.trans (by decide : (_ : Int) = Int32.toInt 21))) n7
    · rfl
    · rfl
    · rfl
    · rfl
    · rfl
    · rfl
    · rfl
    · rfl
    · rfl
    · exact absurd (Int32.toInt_inj.mp (he.symm.trans (by decide : (_ : Int) = Int32.toInt 31))) n8
    · exact absurd (Int32.toInt_inj.mp (he.symm.trans (by decide : (_ : Int) = Int32.toInt 32))) n9
    · exact absurd (Int32.toInt_inj.mp (he.symm.trans (by decide : (_ : Int) = Int32.toInt 33))) n10
  exact Ex.weak (sm_le_s sm_le_nil) (B_32_304 hd  hf hs)
/-- HandleHouse$Forms.sketchFirst()I -/
abbrev F_32  (h : sm_H) : Option (Int32 × sm_H) := F_32_0  h
theorem E_32 {L : Nat} {xs : Nat → Int32} {d : Nat} (hd : 3 ≤ d)  {h : sm_H} {r : Int32 × sm_H} (hf : F_32  h = some r) : RUN L xs d 32 [.ref 34] h (some (.int r.1), r.2) := by
  obtain ⟨d, rfl⟩ : ∃ e, d = e + 1 := ⟨d - 1, by omega⟩
  exact ⟨Nat.le_of_ble_eq_true rfl, B_32_0 (by omega) hf rfl⟩
def F_90_127 (z0 : Int32) (h : sm_H) : Option (Int32 × sm_H) :=
  some (z0, h)
theorem B_90_127 {L : Nat} {xs : Nat → Int32} {d : Nat} (hd : 3 ≤ d) {res : Option Value × sm_H} {z0 : Int32}  {h : sm_H} {r : (Int32 × sm_H)} (hf : F_90_127 z0 h = some r) (hs : (fun (r : Int32 × sm_H) => res = (some (.int r.1), r.2)) r) : Ex (P_G L xs) (RUN L xs d) (sm_lk P_t90) 0 127 [none, none, none, none] [.int z0] h res := by
  unfold F_90_127 at hf
  obtain rfl := Option.some.inj hf
  exact Ex.iret rfl rfl (fun c0 => by cases c0) hs
def F_90_122  (h : sm_H) : Option (Int32 × sm_H) :=
  F_90_127 0 h
theorem B_90_122 {L : Nat} {xs : Nat → Int32} {d : Nat} (hd : 3 ≤ d) {res : Option Value × sm_H}   {h : sm_H} {r : (Int32 × sm_H)} (hf : F_90_122  h = some r) (hs : (fun (r : Int32 × sm_H) => res = (some (.int r.1), r.2)) r) : Ex (P_G L xs) (RUN L xs d) (sm_lk P_t90) 0 122 [none, none, none, none] [] h res := by
  unfold F_90_122 at hf
  refine Ex.seg 2 (pc' := 127) (lc' := [none, none, none, none]) (st' := [.int 0]) (h' := h) (sg1 rfl rfl (sg1 rfl rfl rfl)) ?_
  exact Ex.weak (sm_le_s (sm_le_s (sm_le_s (sm_le_s sm_le_nil)))) (B_90_127 hd  hf hs)
def F_90_80  (h : sm_H) : Option (Int32 × sm_H) :=
  some (0, h)
theorem B_90_80 {L : Nat} {xs : Nat → Int32} {d : Nat} (hd : 3 ≤ d) {res : Option Value × sm_H}   {h : sm_H} {r : (Int32 × sm_H)} (hf : F_90_80  h = some r) (hs : (fun (r : Int32 × sm_H) => res = (some (.int r.1), r.2)) r) : Ex (P_G L xs) (RUN L xs d) (sm_lk P_t90) 0 80 [none, none, none, none] [] h res := by
  unfold F_90_80 at hf
  refine Ex.seg 1 (pc' := 81) (lc' := [none, none, none, none]) (st' := [.int 0]) (h' := h) (sg1 rfl rfl rfl) ?_
  obtain rfl := Option.some.inj hf
  exact Ex.iret rfl rfl (fun c0 => by cases c0) hs
def F_90_8  (h : sm_H) : Option (Int32 × sm_H) :=
  (F_75 0 0 h).bind fun q1 =>
  some (0, q1.2)
theorem B_90_8 {L : Nat} {xs : Nat → Int32} {d : Nat} (hd : 3 ≤ d) {res : Option Value × sm_H}   {h : sm_H} {r : (Int32 × sm_H)} (hf : F_90_8  h = some r) (hs : (fun (r : Int32 × sm_H) => res = (some (.int r.1), r.2)) r) : Ex (P_G L xs) (RUN L xs d) (sm_lk P_t90) 0 8 [some (.ref 49), none, none, none] [] h res := by
  unfold F_90_8 at hf
  refine Ex.seg 3 (pc' := 11) (lc' := [some (.ref 49), none, none, none]) (st' := [.int 0, .long 0, .ref 49]) (h' := h) (sg1 rfl rfl (sg1 rfl rfl (sg1 rfl rfl rfl))) ?_
  obtain ⟨q1, e_q1, hf⟩ := bnd hf
  refine Ex.callV (a := 49) (As := [.long 0, .int 0]) (r := []) (v := some (.int q1.1)) (h' := q1.2) rfl rfl (by decide) rfl (Nat.le_of_ble_eq_true rfl) rfl (E_75 (Nat.le_trans (by decide) hd) e_q1) rfl ?_
  refine Ex.seg 2 (pc' := 16) (lc' := [some (.ref 49), none, none, none]) (st' := [.int 0]) (h' := q1.2) (sg1 rfl rfl (sg1 rfl rfl rfl)) ?_
  obtain rfl := Option.some.inj hf
  exact Ex.iret rfl rfl (fun c0 => by cases c0) hs
def F_90_0 (x1 : Int32) (x2 : Int32) (x3 : Int32) (h : sm_H) : Option (Int32 × sm_H) :=
  if x1 = 0 then (F_90_8 h)
  else (if x2 = 0 then (F_90_8 h)
  else (if x1 = x2 then (some (0, h))
  else ((F_56 x1 h).bind fun q2 =>
  if q2.1 = 0 then ((F_56 x2 q2.2).bind fun q3 =>
  if q3.1 = 0 then (if (q3.2.1 49 10) = 0 then (F_90_122 q3.2)
  else ((F_60 (q3.2.1 49 10) x2 q3.2).bind fun q4 =>
  if q4.1 = 0 then (F_90_127 2 q4.2)
  else (F_90_122 q4.2)))
  else ((F_91 x2 x3 q3.2).bind fun q5 =>
  some (q5.1, q5.2)))
  else ((F_56 x2 q2.2).bind fun q6 =>
  if q6.1 = 0 then ((F_75 (q6.2.2.1 49 9) (x1 + 8) q6.2).bind fun q7 =>
  F_90_80 q7.2)
  else ((F_68 (q6.2.2.1 49 9) x2 q6.2).bind fun q8 =>
  (F_75 q8.1 0 q8.2).bind fun q9 =>
  F_90_80 q9.2)))))
theorem B_90_0 {L : Nat} {xs : Nat → Int32} {d : Nat} (hd : 3 ≤ d) {res : Option Value × sm_H} {x1 : Int32} {x2 : Int32} {x3 : Int32}  {h : sm_H} {r : (Int32 × sm_H)} (hf : F_90_0 x1 x2 x3 h = some r) (hs : (fun (r : Int32 × sm_H) => res = (some (.int r.1), r.2)) r) : Ex (P_G L xs) (RUN L xs d) (sm_lk P_t90) 0 0 [some (.ref 49), some (.int x1), some (.int x2), some (.int x3)] [] h res := by
  unfold F_90_0 at hf
  refine Ex.seg 1 (pc' := 1) (lc' := [some (.ref 49), some (.int x1), some (.int x2), some (.int x3)]) (st' := [.int x1]) (h' := h) (sg1 rfl rfl rfl) ?_
  refine Ex.ifc rfl rfl (fun (c0 : x1 = 0) => ?_) (fun (c0 : ¬ (x1 = 0)) => ?_)
  · rw [if_pos c0] at hf
    exact Ex.weak (sm_le_s (sm_le_n (sm_le_n (sm_le_n sm_le_nil)))) (B_90_8 hd  hf hs)
  · rw [if_neg c0] at hf
    refine Ex.seg 1 (pc' := 5) (lc' := [some (.ref 49), some (.int x1), some (.int x2), some (.int x3)]) (st' := [.int x2]) (h' := h) (sg1 rfl rfl rfl) ?_
    refine Ex.ifc rfl rfl (fun (c0 : ¬ (x2 = 0)) => ?_) (fun (c0 : ¬ ¬ (x2 = 0)) => ?_)
    · rw [if_neg c0] at hf
      refine Ex.seg 2 (pc' := 19) (lc' := [some (.ref 49), some (.int x1), some (.int x2), some (.int x3)]) (st' := [.int x2, .int x1]) (h' := h) (sg1 rfl rfl (sg1 rfl rfl rfl)) ?_
      refine Ex.icmp rfl rfl (fun (c0 : ¬ (x1 = x2)) => ?_) (fun (c0 : ¬ ¬ (x1 = x2)) => ?_)
      · rw [if_neg c0] at hf
        refine Ex.seg 3 (pc' := 29) (lc' := [some (.ref 49), some (.int x1), some (.int x2), some (.int x3)]) (st' := [.int x1, .ref 1]) (h' := h) (sg1 rfl rfl (sg1 rfl rfl (sg1 rfl rfl rfl))) ?_
        obtain ⟨q2, e_q2, hf⟩ := bnd hf
        refine Ex.callV (a := 1) (As := [.int x1]) (r := []) (v := some (.int q2.1)) (h' := q2.2) rfl rfl (by decide) rfl (Nat.le_of_ble_eq_true rfl) rfl (E_56 (Nat.le_trans (by decide) hd) e_q2) rfl ?_
        refine Ex.ifc rfl rfl (fun (c0 : q2.1 = 0) => ?_) (fun (c0 : ¬ (q2.1 = 0)) => ?_)
        · rw [if_pos c0] at hf
          refine Ex.seg 3 (pc' := 87) (lc' := [some (.ref 49), some (.int x1), some (.int x2), some (.int x3)]) (st' := [.int x2, .ref 1]) (h' := q2.2) (sg1 rfl rfl (sg1 rfl rfl (sg1 rfl rfl rfl))) ?_
          obtain ⟨q3, e_q3, hf⟩ := bnd hf
          refine Ex.callV (a := 1) (As := [.int x2]) (r := []) (v := some (.int q3.1)) (h' := q3.2) rfl rfl (by decide) rfl (Nat.le_of_ble_eq_true rfl) rfl (E_56 (Nat.le_trans (by decide) hd) e_q3) rfl ?_
          refine Ex.ifc rfl rfl (fun (c0 : q3.1 = 0) => ?_) (fun (c0 : ¬ (q3.1 = 0)) => ?_)
          · rw [if_pos c0] at hf
            refine Ex.seg 2 (pc' := 104) (lc' := [some (.ref 49), some (.int x1), some (.int x2), some (.int x3)]) (st' := [.int (q3.2.1 49 10)]) (h' := q3.2) (sg1 rfl rfl (sg1 rfl rfl rfl)) ?_
            refine Ex.ifc rfl rfl (fun (c0 : (q3.2.1 49 10) = 0) => ?_) (fun (c0 : ¬ ((q3.2.1 49 10) = 0)) => ?_)
            · rw [if_pos c0] at hf
              exact Ex.weak (sm_le_n (sm_le_n (sm_le_n (sm_le_n sm_le_nil)))) (B_90_122 hd  hf hs)
            · rw [if_neg c0] at hf
              refine Ex.seg 5 (pc' := 116) (lc' := [some (.ref 49), some (.int x1), some (.int x2), some (.int x3)]) (st' := [.int x2, .int (q3.2.1 49 10), .ref 1]) (h' := q3.2) (sg1 rfl rfl (sg1 rfl rfl (sg1 rfl rfl (sg1 rfl rfl (sg1 rfl rfl rfl))))) ?_
              obtain ⟨q4, e_q4, hf⟩ := bnd hf
              refine Ex.callV (a := 1) (As := [.int (q3.2.1 49 10), .int x2]) (r := []) (v := some (.int q4.1)) (h' := q4.2) rfl rfl (by decide) rfl (Nat.le_of_ble_eq_true rfl) rfl (E_60 (Nat.le_trans (by decide) hd) e_q4) rfl ?_
              refine Ex.ifc rfl rfl (fun (c0 : q4.1 = 0) => ?_) (fun (c0 : ¬ (q4.1 = 0)) => ?_)
              · rw [if_pos c0] at hf
                refine Ex.seg 1 (pc' := 127) (lc' := [some (.ref 49), some (.int x1), some (.int x2), some (.int x3)]) (st' := [.int 2]) (h' := q4.2) (sg1 rfl rfl rfl) ?_
                exact Ex.weak (sm_le_n (sm_le_n (sm_le_n (sm_le_n sm_le_nil)))) (B_90_127 hd  hf hs)
              · rw [if_neg c0] at hf
                exact Ex.weak (sm_le_n (sm_le_n (sm_le_n (sm_le_n sm_le_nil)))) (B_90_122 hd  hf hs)
          · rw [if_neg c0] at hf
            refine Ex.seg 3 (pc' := 96) (lc' := [some (.ref 49), some (.int x1), some (.int x2), some (.int x3)]) (st' := [.int x3, .int x2, .ref 49]) (h' := q3.2) (sg1 rfl rfl (sg1 rfl rfl (sg1 rfl rfl rfl))) ?_
            obtain ⟨q5, e_q5, hf⟩ := bnd hf
            refine Ex.callV (a := 49) (As := [.int x2, .int x3]) (r := []) (v := some (.int q5.1)) (h' := q5.2) rfl rfl (by decide) rfl (Nat.le_of_ble_eq_true rfl) rfl (E_91 (Nat.le_trans (by decide) hd) e_q5) rfl ?_
            obtain rfl := Option.some.inj hf
            exact Ex.iret rfl rfl (fun c0 => by cases c0) hs
        · rw [if_neg c0] at hf
          refine Ex.seg 3 (pc' := 40) (lc' := [some (.ref 49), some (.int x1), some (.int x2), some (.int x3)]) (st' := [.int x2, .ref 1]) (h' := q2.2) (sg1 rfl rfl (sg1 rfl rfl (sg1 rfl rfl rfl))) ?_
          obtain ⟨q6, e_q6, hf⟩ := bnd hf
          refine Ex.callV (a := 1) (As := [.int x2]) (r := []) (v := some (.int q6.1)) (h' := q6.2) rfl rfl (by decide) rfl (Nat.le_of_ble_eq_true rfl) rfl (E_56 (Nat.le_trans (by decide) hd) e_q6) rfl ?_
          refine Ex.ifc rfl rfl (fun (c0 : q6.1 = 0) => ?_) (fun (c0 : ¬ (q6.1 = 0)) => ?_)
          · rw [if_pos c0] at hf
            refine Ex.seg 6 (pc' := 76) (lc' := [some (.ref 49), some (.int x1), some (.int x2), some (.int x3)]) (st' := [.int (x1 + 8), .long (q6.2.2.1 49 9), .ref 49]) (h' := q6.2) (sg1 rfl rfl (sg1 rfl rfl (sg1 rfl rfl (sg1 rfl rfl (sg1 rfl rfl (sg1 rfl rfl rfl)))))) ?_
            obtain ⟨q7, e_q7, hf⟩ := bnd hf
            refine Ex.callV (a := 49) (As := [.long (q6.2.2.1 49 9), .int (x1 + 8)]) (r := []) (v := some (.int q7.1)) (h' := q7.2) rfl rfl (by decide) rfl (Nat.le_of_ble_eq_true rfl) rfl (E_75 (Nat.le_trans (by decide) hd) e_q7) rfl ?_
            refine Ex.seg 1 (pc' := 80) (lc' := [some (.ref 49), some (.int x1), some (.int x2), some (.int x3)]) (st' := []) (h' := q7.2) (sg1 rfl rfl rfl) ?_
            exact Ex.weak (sm_le_n (sm_le_n (sm_le_n (sm_le_n sm_le_nil)))) (B_90_80 hd  hf hs)
          · rw [if_neg c0] at hf
            refine Ex.seg 6 (pc' := 56) (lc' := [some (.ref 49), some (.int x1), some (.int x2), some (.int x3)]) (st' := [.int x2, .long (q6.2.2.1 49 9), .ref 1, .ref 49]) (h' := q6.2) (sg1 rfl rfl (sg1 rfl rfl (sg1 rfl rfl (sg1 rfl rfl (sg1 rfl rfl (sg1 rfl rfl rfl)))))) ?_
            obtain ⟨q8, e_q8, hf⟩ := bnd hf
            refine Ex.callV (a := 1) (As := [.long (q6.2.2.1 49 9), .int x2]) (r := [.ref 49]) (v := some (.long q8.1)) (h' := q8.2) rfl rfl (by decide) rfl (Nat.le_of_ble_eq_true rfl) rfl (E_68 (Nat.le_trans (by decide) hd) e_q8) rfl ?_
            refine Ex.seg 1 (pc' := 60) (lc' := [some (.ref 49), some (.int x1), some (.int x2), some (.int x3)]) (st' := [.int 0, .long q8.1, .ref 49]) (h' := q8.2) (sg1 rfl rfl rfl) ?_
            obtain ⟨q9, e_q9, hf⟩ := bnd hf
            refine Ex.callV (a := 49) (As := [.long q8.1, .int 0]) (r := []) (v := some (.int q9.1)) (h' := q9.2) rfl rfl (by decide) rfl (Nat.le_of_ble_eq_true rfl) rfl (E_75 (Nat.le_trans (by decide) hd) e_q9) rfl ?_
            refine Ex.seg 2 (pc' := 80) (lc' := [some (.ref 49), some (.int x1), some (.int x2), some (.int x3)]) (st' := []) (h' := q9.2) (sg1 rfl rfl (sg1 rfl rfl rfl)) ?_
            exact Ex.weak (sm_le_n (sm_le_n (sm_le_n (sm_le_n sm_le_nil)))) (B_90_80 hd  hf hs)
      · rw [if_pos (Classical.not_not.mp c0)] at hf
        refine Ex.seg 1 (pc' := 23) (lc' := [some (.ref 49), some (.int x1), some (.int x2), some (.int x3)]) (st' := [.int 0]) (h' := h) (sg1 rfl rfl rfl) ?_
        obtain rfl := Option.some.inj hf
        exact Ex.iret rfl rfl (fun c0 => by cases c0) hs
    · rw [if_pos (Classical.not_not.mp c0)] at hf
      exact Ex.weak (sm_le_s (sm_le_n (sm_le_n (sm_le_n sm_le_nil)))) (B_90_8 hd  hf hs)
/-- HandleHouse$Machine.convert(IIZ)I -/
abbrev F_90 (x1 : Int32) (x2 : Int32) (x3 : Int32) (h : sm_H) : Option (Int32 × sm_H) := F_90_0 x1 x2 x3 h
theorem E_90 {L : Nat} {xs : Nat → Int32} {d : Nat} (hd : 4 ≤ d) {x1 : Int32} {x2 : Int32} {x3 : Int32} {h : sm_H} {r : Int32 × sm_H} (hf : F_90 x1 x2 x3 h = some r) : RUN L xs d 90 [.ref 49, .int x1, .int x2, .int x3] h (some (.int r.1), r.2) := by
  obtain ⟨d, rfl⟩ : ∃ e, d = e + 1 := ⟨d - 1, by omega⟩
  exact ⟨Nat.le_of_ble_eq_true rfl, B_90_0 (by omega) hf rfl⟩
def F_120_82 (z0 : Int32) (h : sm_H) : Option (Int32 × sm_H) :=
  if z0 = 0 ∨ z0 = 1 then some (z0, h) else none
theorem B_120_82 {L : Nat} {xs : Nat → Int32} {d : Nat} (hd : 3 ≤ d) {res : Option Value × sm_H} {z0 : Int32}  {h : sm_H} {r : (Int32 × sm_H)} (hf : F_120_82 z0 h = some r) (hs : (fun (r : Int32 × sm_H) => res = (some (.int r.1), r.2)) r) : Ex (P_G L xs) (RUN L xs d) (sm_lk P_t120) 3 82 [none, none, none, none] [.int z0] h res := by
  unfold F_120_82 at hf
  rcases Classical.em (z0 = 0 ∨ z0 = 1) with c0 | c0
  · rw [if_pos c0] at hf
    obtain rfl := Option.some.inj hf
    exact Ex.iret rfl rfl (fun _ => c0) hs
  · rw [if_neg c0] at hf
    cases hf
def F_120_81  (h : sm_H) : Option (Int32 × sm_H) :=
  F_120_82 0 h
theorem B_120_81 {L : Nat} {xs : Nat → Int32} {d : Nat} (hd : 3 ≤ d) {res : Option Value × sm_H}   {h : sm_H} {r : (Int32 × sm_H)} (hf : F_120_81  h = some r) (hs : (fun (r : Int32 × sm_H) => res = (some (.int r.1), r.2)) r) : Ex (P_G L xs) (RUN L xs d) (sm_lk P_t120) 3 81 [none, none, none, none] [] h res := by
  unfold F_120_81 at hf
  refine Ex.seg 1 (pc' := 82) (lc' := [none, none, none, none]) (st' := [.int 0]) (h' := h) (sg1 rfl rfl rfl) ?_
  exact Ex.weak (sm_le_s (sm_le_s (sm_le_s (sm_le_s sm_le_nil)))) (B_120_82 hd  hf hs)
def F_120_74 (z0 : Int32) (z1 : Int32) (h : sm_H) : Option (Int32 × sm_H) :=
  if z0 = z1 then (F_120_82 1 h)
  else (F_120_81 h)
theorem B_120_74 {L : Nat} {xs : Nat → Int32} {d : Nat} (hd : 3 ≤ d) {res : Option Value × sm_H} {z0 : Int32} {z1 : Int32}  {h : sm_H} {r : (Int32 × sm_H)} (hf : F_120_74 z0 z1 h = some r) (hs : (fun (r : Int32 × sm_H) => res = (some (.int r.1), r.2)) r) : Ex (P_G L xs) (RUN L xs d) (sm_lk P_t120) 3 74 [none, none, none, none] [.int z1, .int z0] h res := by
  unfold F_120_74 at hf
  refine Ex.icmp rfl rfl (fun (c0 : ¬ (z0 = z1)) => ?_) (fun (c0 : ¬ ¬ (z0 = z1)) => ?_)
  · rw [if_neg c0] at hf
    exact Ex.weak (sm_le_s (sm_le_s (sm_le_s (sm_le_s sm_le_nil)))) (B_120_81 hd  hf hs)
  · rw [if_pos (Classical.not_not.mp c0)] at hf
    refine Ex.seg 2 (pc' := 82) (lc' := [none, none, none, none]) (st' := [.int 1]) (h' := h) (sg1 rfl rfl (sg1 rfl rfl rfl)) ?_
    exact Ex.weak (sm_le_s (sm_le_s (sm_le_s (sm_le_s sm_le_nil)))) (B_120_82 hd  hf hs)
def F_120_37  (h : sm_H) : Option (Int32 × sm_H) :=
  some (0, h)
theorem B_120_37 {L : Nat} {xs : Nat → Int32} {d : Nat} (hd : 3 ≤ d) {res : Option Value × sm_H}   {h : sm_H} {r : (Int32 × sm_H)} (hf : F_120_37  h = some r) (hs : (fun (r : Int32 × sm_H) => res = (some (.int r.1), r.2)) r) : Ex (P_G L xs) (RUN L xs d) (sm_lk P_t120) 3 37 [none, none, none, none] [] h res := by
  unfold F_120_37 at hf
  refine Ex.seg 1 (pc' := 38) (lc' := [none, none, none, none]) (st' := [.int 0]) (h' := h) (sg1 rfl rfl rfl) ?_
  obtain rfl := Option.some.inj hf
  exact Ex.iret rfl rfl (fun _ => by decide) hs
def F_120_18 (z0 : Int32) (h : sm_H) : Option (Int32 × sm_H) :=
  if z0 = 0 ∨ z0 = 1 then some (z0, h) else none
theorem B_120_18 {L : Nat} {xs : Nat → Int32} {d : Nat} (hd : 3 ≤ d) {res : Option Value × sm_H} {z0 : Int32}  {h : sm_H} {r : (Int32 × sm_H)} (hf : F_120_18 z0 h = some r) (hs : (fun (r : Int32 × sm_H) => res = (some (.int r.1), r.2)) r) : Ex (P_G L xs) (RUN L xs d) (sm_lk P_t120) 3 18 [none, none, none, none] [.int z0] h res := by
  unfold F_120_18 at hf
  rcases Classical.em (z0 = 0 ∨ z0 = 1) with c0 | c0
  · rw [if_pos c0] at hf
    obtain rfl := Option.some.inj hf
    exact Ex.iret rfl rfl (fun _ => c0) hs
  · rw [if_neg c0] at hf
    cases hf
def F_120_0 (x1 : Int32) (x2 : Int32) (x3 : Int32) (h : sm_H) : Option (Int32 × sm_H) :=
  if x3 < 4 then ((F_128 x1 h).bind fun q1 =>
  if q1.1 = 0 then ((ldI q1.2 45 100 x1).bind fun v2 =>
  if v2 = x2 then (if x3 = 0 then ((ldZ q1.2 42 100 x1).bind fun v5 =>
  if v5 = 0 ∨ v5 = 1 then some (v5, q1.2) else none)
  else ((ldZ q1.2 42 100 x1).bind fun v3 =>
  if v3 = 0 then ((F_121 x1 q1.2).bind fun q4 =>
  if x3 = 3 then (F_120_74 q4.1 1 q4.2)
  else (F_120_74 q4.1 0 q4.2))
  else (F_120_81 q1.2)))
  else (F_120_37 q1.2))
  else (F_120_37 q1.2))
  else ((F_128 x1 h).bind fun q6 =>
  if q6.1 = 0 then (F_120_18 0 q6.2)
  else (F_120_18 1 q6.2))
theorem B_120_0 {L : Nat} {xs : Nat → Int32} {d : Nat} (hd : 3 ≤ d) {res : Option Value × sm_H} {x1 : Int32} {x2 : Int32} {x3 : Int32}  {h : sm_H} {r : (Int32 × sm_H)} (hf : F_120_0 x1 x2 x3 h = some r) (hs : (fun (r : Int32 × sm_H) => res = (some (.int r.1), r.2)) r) : Ex (P_G L xs) (RUN L xs d) (sm_lk P_t120) 3 0 [some (.ref 38), some (.int x1), some (.int x2), some (.int x3)] [] h res := by
  unfold F_120_0 at hf
  refine Ex.seg 2 (pc' := 2) (lc' := [some (.ref 38), some (.int x1), some (.int x2), some (.int x3)]) (st' := [.int 4, .int x3]) (h' := h) (sg1 rfl rfl (sg1 rfl rfl rfl)) ?_
  refine Ex.icmp rfl rfl (fun (c0 : x3 < 4) => ?_) (fun (c0 : ¬ (x3 < 4)) => ?_)
  · rw [if_pos c0] at hf
    refine Ex.seg 2 (pc' := 21) (lc' := [some (.ref 38), some (.int x1), some (.int x2), some (.int x3)]) (st' := [.int x1, .ref 38]) (h' := h) (sg1 rfl rfl (sg1 rfl rfl rfl)) ?_
    obtain ⟨q1, e_q1, hf⟩ := bnd hf
    refine Ex.callV (a := 38) (As := [.int x1]) (r := []) (v := some (.int q1.1)) (h' := q1.2) rfl rfl (by decide) rfl (Nat.le_of_ble_eq_true rfl) rfl (E_128 (Nat.le_trans (by decide) hd) e_q1) rfl ?_
    refine Ex.ifc rfl rfl (fun (c0 : ¬ (q1.1 = 0)) => ?_) (fun (c0 : ¬ ¬ (q1.1 = 0)) => ?_)
    · rw [if_neg c0] at hf
      exact Ex.weak (sm_le_n (sm_le_n (sm_le_n (sm_le_n sm_le_nil)))) (B_120_37 hd  hf hs)
    · rw [if_pos (Classical.not_not.mp c0)] at hf
      refine Ex.seg 3 (pc' := 32) (lc' := [some (.ref 38), some (.int x1), some (.int x2), some (.int x3)]) (st' := [.int x1, .ref 45]) (h' := q1.2) (sg1 rfl rfl (sg1 rfl rfl (sg1 rfl rfl rfl))) ?_
      obtain ⟨v2, e_v2, hf⟩ := bnd hf
      refine Ex.iald e_v2 rfl rfl ?_
      refine Ex.seg 1 (pc' := 34) (lc' := [some (.ref 38), some (.int x1), some (.int x2), some (.int x3)]) (st' := [.int x2, .int v2]) (h' := q1.2) (sg1 rfl rfl rfl) ?_
      refine Ex.icmp rfl rfl (fun (c0 : v2 = x2) => ?_) (fun (c0 : ¬ (v2 = x2)) => ?_)
      · rw [if_pos c0] at hf
        refine Ex.seg 1 (pc' := 40) (lc' := [some (.ref 38), some (.int x1), some (.int x2), some (.int x3)]) (st' := [.int x3]) (h' := q1.2) (sg1 rfl rfl rfl) ?_
        refine Ex.ifc rfl rfl (fun (c0 : ¬ (x3 = 0)) => ?_) (fun (c0 : ¬ ¬ (x3 = 0)) => ?_)
        · rw [if_neg c0] at hf
          refine Ex.seg 3 (pc' := 55) (lc' := [some (.ref 38), some (.int x1), some (.int x2), some (.int x3)]) (st' := [.int x1, .ref 42]) (h' := q1.2) (sg1 rfl rfl (sg1 rfl rfl (sg1 rfl rfl rfl))) ?_
          obtain ⟨v3, e_v3, hf⟩ := bnd hf
          refine Ex.zald e_v3 rfl rfl ?_
          refine Ex.ifc rfl rfl (fun (c0 : ¬ (v3 = 0)) => ?_) (fun (c0 : ¬ ¬ (v3 = 0)) => ?_)
          · rw [if_neg c0] at hf
            exact Ex.weak (sm_le_n (sm_le_n (sm_le_n (sm_le_n sm_le_nil)))) (B_120_81 hd  hf hs)
          · rw [if_pos (Classical.not_not.mp c0)] at hf
            refine Ex.seg 2 (pc' := 61) (lc' := [some (.ref 38), some (.int x1), some (.int x2), some (.int x3)]) (st' := [.int x1, .ref 38]) (h' := q1.2) (sg1 rfl rfl (sg1 rfl rfl rfl)) ?_
            obtain ⟨q4, e_q4, hf⟩ := bnd hf
            refine Ex.callV (a := 38) (As := [.int x1]) (r := []) (v := some (.int q4.1)) (h' := q4.2) rfl rfl (by decide) rfl (Nat.le_of_ble_eq_true rfl) rfl (E_121 (Nat.le_trans (by decide) hd) e_q4) rfl ?_
            refine Ex.seg 2 (pc' := 66) (lc' := [some (.ref 38), some (.int x1), some (.int x2), some (.int x3)]) (st' := [.int 3, .int x3, .int q4.1]) (h' := q4.2) (sg1 rfl rfl (sg1 rfl rfl rfl)) ?_
            refine Ex.icmp rfl rfl (fun (c0 : ¬ (x3 = 3)) => ?_) (fun (c0 : ¬ ¬ (x3 = 3)) => ?_)
            · rw [if_neg c0] at hf
              refine Ex.seg 1 (pc' := 74) (lc' := [some (.ref 38), some (.int x1), some (.int x2), some (.int x3)]) (st' := [.int 0, .int q4.1]) (h' := q4.2) (sg1 rfl rfl rfl) ?_
              exact Ex.weak (sm_le_n (sm_le_n (sm_le_n (sm_le_n sm_le_nil)))) (B_120_74 hd  hf hs)
            · rw [if_pos (Classical.not_not.mp c0)] at hf
              refine Ex.seg 2 (pc' := 74) (lc' := [some (.ref 38), some (.int x1), some (.int x2), some (.int x3)]) (st' := [.int 1, .int q4.1]) (h' := q4.2) (sg1 rfl rfl (sg1 rfl rfl rfl)) ?_
              exact Ex.weak (sm_le_n (sm_le_n (sm_le_n (sm_le_n sm_le_nil)))) (B_120_74 hd  hf hs)
        · rw [if_pos (Classical.not_not.mp c0)] at hf
          refine Ex.seg 3 (pc' := 48) (lc' := [some (.ref 38), some (.int x1), some (.int x2), some (.int x3)]) (st' := [.int x1, .ref 42]) (h' := q1.2) (sg1 rfl rfl (sg1 rfl rfl (sg1 rfl rfl rfl))) ?_
          obtain ⟨v5, e_v5, hf⟩ := bnd hf
          refine Ex.zald e_v5 rfl rfl ?_
          rcases Classical.em (v5 = 0 ∨ v5 = 1) with c0 | c0
          · rw [if_pos c0] at hf
            obtain rfl := Option.some.inj hf
            exact Ex.iret rfl rfl (fun _ => c0) hs
          · rw [if_neg c0] at hf
            cases hf
      · rw [if_neg c0] at hf
        exact Ex.weak (sm_le_n (sm_le_n (sm_le_n (sm_le_n sm_le_nil)))) (B_120_37 hd  hf hs)
  · rw [if_neg c0] at hf
    refine Ex.seg 2 (pc' := 7) (lc' := [some (.ref 38), some (.int x1), some (.int x2), some (.int x3)]) (st' := [.int x1, .ref 38]) (h' := h) (sg1 rfl rfl (sg1 rfl rfl rfl)) ?_
    obtain ⟨q6, e_q6, hf⟩ := bnd hf
    refine Ex.callV (a := 38) (As := [.int x1]) (r := []) (v := some (.int q6.1)) (h' := q6.2) rfl rfl (by decide) rfl (Nat.le_of_ble_eq_true rfl) rfl (E_128 (Nat.le_trans (by decide) hd) e_q6) rfl ?_
    refine Ex.ifc rfl rfl (fun (c0 : q6.1 = 0) => ?_) (fun (c0 : ¬ (q6.1 = 0)) => ?_)
    · rw [if_pos c0] at hf
      refine Ex.seg 1 (pc' := 18) (lc' := [some (.ref 38), some (.int x1), some (.int x2), some (.int x3)]) (st' := [.int 0]) (h' := q6.2) (sg1 rfl rfl rfl) ?_
      exact Ex.weak (sm_le_n (sm_le_n (sm_le_n (sm_le_n sm_le_nil)))) (B_120_18 hd  hf hs)
    · rw [if_neg c0] at hf
      refine Ex.seg 2 (pc' := 18) (lc' := [some (.ref 38), some (.int x1), some (.int x2), some (.int x3)]) (st' := [.int 1]) (h' := q6.2) (sg1 rfl rfl (sg1 rfl rfl rfl)) ?_
      exact Ex.weak (sm_le_n (sm_le_n (sm_le_n (sm_le_n sm_le_nil)))) (B_120_18 hd  hf hs)
/-- HandleHouse$Members.suits(III)Z -/
abbrev F_120 (x1 : Int32) (x2 : Int32) (x3 : Int32) (h : sm_H) : Option (Int32 × sm_H) := F_120_0 x1 x2 x3 h
theorem E_120 {L : Nat} {xs : Nat → Int32} {d : Nat} (hd : 4 ≤ d) {x1 : Int32} {x2 : Int32} {x3 : Int32} {h : sm_H} {r : Int32 × sm_H} (hf : F_120 x1 x2 x3 h = some r) : RUN L xs d 120 [.ref 38, .int x1, .int x2, .int x3] h (some (.int r.1), r.2) := by
  obtain ⟨d, rfl⟩ : ∃ e, d = e + 1 := ⟨d - 1, by omega⟩
  exact ⟨Nat.le_of_ble_eq_true rfl, B_120_0 (by omega) hf rfl⟩
def F_133_119 (y1 : Int32) (y2 : Int32) (y3 : Int32) (y4 : Int32) (h : sm_H) : Option ((Int32 × Int32 × Int32 × Int32 × sm_H) ⊕ (Int32 × sm_H)) :=
  (some (y4 + 1 : Int32)).bind fun v1 =>
  some (.inl (y1, y2, y3, v1, h))
theorem B_133_119 {L : Nat} {xs : Nat → Int32} {d : Nat} (hd : 4 ≤ d) {res : Option Value × sm_H} {S1 : (Int32 × Int32 × Int32 × Int32 × sm_H) → Prop} (hS1 : ∀ s, S1 s → Ex (P_G L xs) (RUN L xs d) (sm_lk P_t133) 0 28 [some (.ref 38), some (.int s.1), some (.int s.2.1), some (.int s.2.2.1), some (.int s.2.2.2.1), none] [] s.2.2.2.2 res) {y1 : Int32} {y2 : Int32} {y3 : Int32} {y4 : Int32}  {h : sm_H} {r : ((Int32 × Int32 × Int32 × Int32 × sm_H) ⊕ (Int32 × sm_H))} (hf : F_133_119 y1 y2 y3 y4 h = some r) (hs : (Sum.elim S1 (fun (r : Int32 × sm_H) => res = (some (.int r.1), r.2))) r) : Ex (P_G L xs) (RUN L xs d) (sm_lk P_t133) 0 119 [some (.ref 38), some (.int y1), some (.int y2), some (.int y3), some (.int y4), none] [] h res := by
  unfold F_133_119 at hf
  refine Ex.seg 1 (pc' := 122) (lc' := [some (.ref 38), some (.int y1), some (.int y2), some (.int y3), some (.int (y4 + 1)), none]) (st' := []) (h' := h) (sg1 rfl rfl rfl) ?_
  obtain ⟨v1, e_v1, hf⟩ := bnd hf
  rw [Option.some.inj e_v1]
  refine Ex.seg 1 (pc' := 28) (lc' := [some (.ref 38), some (.int y1), some (.int y2), some (.int y3), some (.int v1), none]) (st' := []) (h' := h) (sg1 rfl rfl rfl) ?_
  obtain rfl := Option.some.inj hf
  exact Ex.weak (sm_le_s (sm_le_s (sm_le_s (sm_le_s (sm_le_s (sm_le_s sm_le_nil)))))) (hS1 _ hs)
def F_133_81 (y1 : Int32) (y2 : Int32) (y3 : Int32) (y4 : Int32) (z0 : Int32) (h : sm_H) : Option ((Int32 × Int32 × Int32 × Int32 × sm_H) ⊕ (Int32 × sm_H)) :=
  if z0 = 0 then (F_133_119 y1 y2 y3 y4 h)
  else ((ldI h 39 100 y4).bind fun v2 =>
  (F_60 y2 v2 h).bind fun q3 =>
  if q3.1 = 0 then (F_133_119 y1 y2 y3 y4 q3.2)
  else ((F_134 y4 y1 q3.2).bind fun q4 =>
  if q4.1 = 0 then (F_133_119 y1 y2 y3 y4 q4.2)
  else (F_133_119 y1 y2 y4 y4 q4.2)))
theorem B_133_81 {L : Nat} {xs : Nat → Int32} {d : Nat} (hd : 4 ≤ d) {res : Option Value × sm_H} {S1 : (Int32 × Int32 × Int32 × Int32 × sm_H) → Prop} (hS1 : ∀ s, S1 s → Ex (P_G L xs) (RUN L xs d) (sm_lk P_t133) 0 28 [some (.ref 38), some (.int s.1), some (.int s.2.1), some (.int s.2.2.1), some (.int s.2.2.2.1), none] [] s.2.2.2.2 res) {y1 : Int32} {y2 : Int32} {y3 : Int32} {y4 : Int32} {z0 : Int32}  {h : sm_H} {r : ((Int32 × Int32 × Int32 × Int32 × sm_H) ⊕ (Int32 × sm_H))} (hf : F_133_81 y1 y2 y3 y4 z0 h = some r) (hs : (Sum.elim S1 (fun (r : Int32 × sm_H) => res = (some (.int r.1), r.2))) r) : Ex (P_G L xs) (RUN L xs d) (sm_lk P_t133) 0 81 [some (.ref 38), some (.int y1), some (.int y2), some (.int y3), some (.int y4), none] [.int z0] h res := by
  unfold F_133_81 at hf
  refine Ex.seg 2 (pc' := 85) (lc' := [some (.ref 38), some (.int y1), some (.int y2), some (.int y3), some (.int y4), some (.int z0)]) (st' := [.int z0]) (h' := h) (sg1 rfl rfl (sg1 rfl rfl rfl)) ?_
  refine Ex.ifc rfl rfl (fun (c0 : z0 = 0) => ?_) (fun (c0 : ¬ (z0 = 0)) => ?_)
  · rw [if_pos c0] at hf
    exact Ex.weak (sm_le_s (sm_le_s (sm_le_s (sm_le_s (sm_le_s (sm_le_n sm_le_nil)))))) (B_133_119 hd hS1 hf hs)
  · rw [if_neg c0] at hf
    refine Ex.seg 6 (pc' := 99) (lc' := [some (.ref 38), some (.int y1), some (.int y2), some (.int y3), some (.int y4), some (.int z0)]) (st' := [.int y4, .ref 39, .int y2, .ref 1]) (h' := h) (sg1 rfl rfl (sg1 rfl rfl (sg1 rfl rfl (sg1 rfl rfl (sg1 rfl rfl (sg1 rfl rfl rfl)))))) ?_
    obtain ⟨v2, e_v2, hf⟩ := bnd hf
    refine Ex.iald e_v2 rfl rfl ?_
    obtain ⟨q3, e_q3, hf⟩ := bnd hf
    refine Ex.callV (a := 1) (As := [.int y2, .int v2]) (r := []) (v := some (.int q3.1)) (h' := q3.2) rfl rfl (by decide) rfl (Nat.le_of_ble_eq_true rfl) rfl (E_60 (Nat.le_trans (by decide) hd) e_q3) rfl ?_
    refine Ex.ifc rfl rfl (fun (c0 : q3.1 = 0) => ?_) (fun (c0 : ¬ (q3.1 = 0)) => ?_)
    · rw [if_pos c0] at hf
      exact Ex.weak (sm_le_s (sm_le_s (sm_le_s (sm_le_s (sm_le_s (sm_le_n sm_le_nil)))))) (B_133_119 hd hS1 hf hs)
    · rw [if_neg c0] at hf
      refine Ex.seg 3 (pc' := 110) (lc' := [some (.ref 38), some (.int y1), some (.int y2), some (.int y3), some (.int y4), some (.int z0)]) (st' := [.int y1, .int y4, .ref 38]) (h' := q3.2) (sg1 rfl rfl (sg1 rfl rfl (sg1 rfl rfl rfl))) ?_
      obtain ⟨q4, e_q4, hf⟩ := bnd hf
      refine Ex.callV (a := 38) (As := [.int y4, .int y1]) (r := []) (v := some (.int q4.1)) (h' := q4.2) rfl rfl (by decide) rfl (Nat.le_of_ble_eq_true rfl) rfl (E_134 (Nat.le_trans (by decide) hd) e_q4) rfl ?_
      refine Ex.ifc rfl rfl (fun (c0 : q4.1 = 0) => ?_) (fun (c0 : ¬ (q4.1 = 0)) => ?_)
      · rw [if_pos c0] at hf
        exact Ex.weak (sm_le_s (sm_le_s (sm_le_s (sm_le_s (sm_le_s (sm_le_n sm_le_nil)))))) (B_133_119 hd hS1 hf hs)
      · rw [if_neg c0] at hf
        refine Ex.seg 2 (pc' := 119) (lc' := [some (.ref 38), some (.int y1), some (.int y2), some (.int y4), some (.int y4), some (.int z0)]) (st' := []) (h' := q4.2) (sg1 rfl rfl (sg1 rfl rfl rfl)) ?_
        exact Ex.weak (sm_le_s (sm_le_s (sm_le_s (sm_le_s (sm_le_s (sm_le_n sm_le_nil)))))) (B_133_119 hd hS1 hf hs)
def F_133_80 (y1 : Int32) (y2 : Int32) (y3 : Int32) (y4 : Int32) (h : sm_H) : Option ((Int32 × Int32 × Int32 × Int32 × sm_H) ⊕ (Int32 × sm_H)) :=
  F_133_81 y1 y2 y3 y4 0 h
theorem B_133_80 {L : Nat} {xs : Nat → Int32} {d : Nat} (hd : 4 ≤ d) {res : Option Value × sm_H} {S1 : (Int32 × Int32 × Int32 × Int32 × sm_H) → Prop} (hS1 : ∀ s, S1 s → Ex (P_G L xs) (RUN L xs d) (sm_lk P_t133) 0 28 [some (.ref 38), some (.int s.1), some (.int s.2.1), some (.int s.2.2.1), some (.int s.2.2.2.1), none] [] s.2.2.2.2 res) {y1 : Int32} {y2 : Int32} {y3 : Int32} {y4 : Int32}  {h : sm_H} {r : ((Int32 × Int32 × Int32 × Int32 × sm_H) ⊕ (Int32 × sm_H))} (hf : F_133_80 y1 y2 y3 y4 h = some r) (hs : (Sum.elim S1 (fun (r : Int32 × sm_H) => res = (some (.int r.1), r.2))) r) : Ex (P_G L xs) (RUN L xs d) (sm_lk P_t133) 0 80 [some (.ref 38), some (.int y1), some (.int y2), some (.int y3), some (.int y4), none] [] h res := by
  unfold F_133_80 at hf
  refine Ex.seg 1 (pc' := 81) (lc' := [some (.ref 38), some (.int y1), some (.int y2), some (.int y3), some (.int y4), none]) (st' := [.int 0]) (h' := h) (sg1 rfl rfl rfl) ?_
  exact Ex.weak (sm_le_s (sm_le_s (sm_le_s (sm_le_s (sm_le_s (sm_le_s sm_le_nil)))))) (B_133_81 hd hS1 hf hs)
def F_133_28B (s : (Int32 × Int32 × Int32 × Int32 × sm_H)) : Option ((Int32 × Int32 × Int32 × Int32 × sm_H) ⊕ (Int32 × sm_H)) :=
  if (s.2.2.2.2.1 38 13) ≤ s.2.2.2.1 then ((F_131 s.2.2.1 s.2.2.2.2).bind fun q5 =>
  some (.inr (q5.1, q5.2)))
  else ((ldI s.2.2.2.2 39 100 s.2.2.2.1).bind fun v6 =>
  (ldI s.2.2.2.2 39 100 s.2.2.1).bind fun v7 =>
  if v6 = v7 then (F_133_80 s.1 s.2.1 s.2.2.1 s.2.2.2.1 s.2.2.2.2)
  else ((ldI s.2.2.2.2 39 100 s.2.2.2.1).bind fun v8 =>
  (ldI s.2.2.2.2 39 100 s.2.2.1).bind fun v9 =>
  (F_60 v8 v9 s.2.2.2.2).bind fun q10 =>
  if q10.1 = 0 then (F_133_80 s.1 s.2.1 s.2.2.1 s.2.2.2.1 q10.2)
  else (F_133_81 s.1 s.2.1 s.2.2.1 s.2.2.2.1 1 q10.2)))
theorem B_133_28B {L : Nat} {xs : Nat → Int32} {d : Nat} (hd : 4 ≤ d) {res : Option Value × sm_H} {S1 : (Int32 × Int32 × Int32 × Int32 × sm_H) → Prop} (hS1 : ∀ s, S1 s → Ex (P_G L xs) (RUN L xs d) (sm_lk P_t133) 0 28 [some (.ref 38), some (.int s.1), some (.int s.2.1), some (.int s.2.2.1), some (.int s.2.2.2.1), none] [] s.2.2.2.2 res) {s : (Int32 × Int32 × Int32 × Int32 × sm_H)}  {r : ((Int32 × Int32 × Int32 × Int32 × sm_H) ⊕ (Int32 × sm_H))} (hf : F_133_28B s = some r) (hs : (Sum.elim S1 (fun (r : Int32 × sm_H) => res = (some (.int r.1), r.2))) r) : Ex (P_G L xs) (RUN L xs d) (sm_lk P_t133) 0 28 [some (.ref 38), some (.int s.1), some (.int s.2.1), some (.int s.2.2.1), some (.int s.2.2.2.1), none] [] s.2.2.2.2 res := by
  unfold F_133_28B at hf
  refine Ex.seg 3 (pc' := 34) (lc' := [some (.ref 38), some (.int s.1), some (.int s.2.1), some (.int s.2.2.1), some (.int s.2.2.2.1), none]) (st' := [.int (s.2.2.2.2.1 38 13), .int s.2.2.2.1]) (h' := s.2.2.2.2) (sg1 rfl rfl (sg1 rfl rfl (sg1 rfl rfl rfl))) ?_
  refine Ex.icmp rfl rfl (fun (c0 : (s.2.2.2.2.1 38 13) ≤ s.2.2.2.1) => ?_) (fun (c0 : ¬ ((s.2.2.2.2.1 38 13) ≤ s.2.2.2.1)) => ?_)
  · rw [if_pos c0] at hf
    refine Ex.seg 2 (pc' := 127) (lc' := [some (.ref 38), some (.int s.1), some (.int s.2.1), some (.int s.2.2.1), some (.int s.2.2.2.1), none]) (st' := [.int s.2.2.1, .ref 38]) (h' := s.2.2.2.2) (sg1 rfl rfl (sg1 rfl rfl rfl)) ?_
    obtain ⟨q5, e_q5, hf⟩ := bnd hf
    refine Ex.callV (a := 38) (As := [.int s.2.2.1]) (r := []) (v := some (.int q5.1)) (h' := q5.2) rfl rfl (by decide) rfl (Nat.le_of_ble_eq_true rfl) rfl (E_131 (Nat.le_trans (by decide) hd) e_q5) rfl ?_
    obtain rfl := Option.some.inj hf
    exact Ex.iret rfl rfl (fun c0 => by cases c0) hs
  · rw [if_neg c0] at hf
    refine Ex.seg 3 (pc' := 43) (lc' := [some (.ref 38), some (.int s.1), some (.int s.2.1), some (.int s.2.2.1), some (.int s.2.2.2.1), none]) (st' := [.int s.2.2.2.1, .ref 39]) (h' := s.2.2.2.2) (sg1 rfl rfl (sg1 rfl rfl (sg1 rfl rfl rfl))) ?_
    obtain ⟨v6, e_v6, hf⟩ := bnd hf
    refine Ex.iald e_v6 rfl rfl ?_
    refine Ex.seg 3 (pc' := 49) (lc' := [some (.ref 38), some (.int s.1), some (.int s.2.1), some (.int s.2.2.1), some (.int s.2.2.2.1), none]) (st' := [.int s.2.2.1, .ref 39, .int v6]) (h' := s.2.2.2.2) (sg1 rfl rfl (sg1 rfl rfl (sg1 rfl rfl rfl))) ?_
    obtain ⟨v7, e_v7, hf⟩ := bnd hf
    refine Ex.iald e_v7 rfl rfl ?_
    refine Ex.icmp rfl rfl (fun (c0 : v6 = v7) => ?_) (fun (c0 : ¬ (v6 = v7)) => ?_)
    · rw [if_pos c0] at hf
      exact Ex.weak (sm_le_s (sm_le_s (sm_le_s (sm_le_s (sm_le_s (sm_le_s sm_le_nil)))))) (B_133_80 hd hS1 hf hs)
    · rw [if_neg c0] at hf
      refine Ex.seg 5 (pc' := 63) (lc' := [some (.ref 38), some (.int s.1), some (.int s.2.1), some (.int s.2.2.1), some (.int s.2.2.2.1), none]) (st' := [.int s.2.2.2.1, .ref 39, .ref 1]) (h' := s.2.2.2.2) (sg1 rfl rfl (sg1 rfl rfl (sg1 rfl rfl (sg1 rfl rfl (sg1 rfl rfl rfl))))) ?_
      obtain ⟨v8, e_v8, hf⟩ := bnd hf
      refine Ex.iald e_v8 rfl rfl ?_
      refine Ex.seg 3 (pc' := 69) (lc' := [some (.ref 38), some (.int s.1), some (.int s.2.1), some (.int s.2.2.1), some (.int s.2.2.2.1), none]) (st' := [.int s.2.2.1, .ref 39, .int v8, .ref 1]) (h' := s.2.2.2.2) (sg1 rfl rfl (sg1 rfl rfl (sg1 rfl rfl rfl))) ?_
      obtain ⟨v9, e_v9, hf⟩ := bnd hf
      refine Ex.iald e_v9 rfl rfl ?_
      obtain ⟨q10, e_q10, hf⟩ := bnd hf
      refine Ex.callV (a := 1) (As := [.int v8, .int v9]) (r := []) (v := some (.int q10.1)) (h' := q10.2) rfl rfl (by decide) rfl (Nat.le_of_ble_eq_true rfl) rfl (E_60 (Nat.le_trans (by decide) hd) e_q10) rfl ?_
      refine Ex.ifc rfl rfl (fun (c0 : q10.1 = 0) => ?_) (fun (c0 : ¬ (q10.1 = 0)) => ?_)
      · rw [if_pos c0] at hf
        exact Ex.weak (sm_le_s (sm_le_s (sm_le_s (sm_le_s (sm_le_s (sm_le_s sm_le_nil)))))) (B_133_80 hd hS1 hf hs)
      · rw [if_neg c0] at hf
        refine Ex.seg 2 (pc' := 81) (lc' := [some (.ref 38), some (.int s.1), some (.int s.2.1), some (.int s.2.2.1), some (.int s.2.2.2.1), none]) (st' := [.int 1]) (h' := q10.2) (sg1 rfl rfl (sg1 rfl rfl rfl)) ?_
        exact Ex.weak (sm_le_s (sm_le_s (sm_le_s (sm_le_s (sm_le_s (sm_le_s sm_le_nil)))))) (B_133_81 hd hS1 hf hs)
def F_133_28 (y1 : Int32) (y2 : Int32) (y3 : Int32) (y4 : Int32) (h : sm_H) : Option (Int32 × sm_H) := lp F_133_28B 1000000 (y1, y2, y3, y4, h)
theorem B_133_28 {L : Nat} {xs : Nat → Int32} {d : Nat} (hd : 4 ≤ d) {res : Option Value × sm_H} {y1 : Int32} {y2 : Int32} {y3 : Int32} {y4 : Int32}  {h : sm_H} {r : (Int32 × sm_H)} (hf : F_133_28 y1 y2 y3 y4 h = some r) (hs : (fun (r : Int32 × sm_H) => res = (some (.int r.1), r.2)) r) : Ex (P_G L xs) (RUN L xs d) (sm_lk P_t133) 0 28 [some (.ref 38), some (.int y1), some (.int y2), some (.int y3), some (.int y4), none] [] h res := by
  unfold F_133_28 at hf
  exact lp_ok (P := fun (s : (Int32 × Int32 × Int32 × Int32 × sm_H)) => Ex (P_G L xs) (RUN L xs d) (sm_lk P_t133) 0 28 [some (.ref 38), some (.int s.1), some (.int s.2.1), some (.int s.2.2.1), some (.int s.2.2.2.1), none] [] s.2.2.2.2 res) (S := (fun (r : Int32 × sm_H) => res = (some (.int r.1), r.2))) (fun s x hx hsx => by
    intros
    exact B_133_28B hd  (fun _ q => q) hx hsx) 1000000 _ r hf hs
def F_133_17 (y1 : Int32) (h : sm_H) : Option (Int32 × sm_H) :=
  (F_131 y1 h).bind fun q11 =>
  some (q11.1, q11.2)
theorem B_133_17 {L : Nat} {xs : Nat → Int32} {d : Nat} (hd : 4 ≤ d) {res : Option Value × sm_H} {y1 : Int32}  {h : sm_H} {r : (Int32 × sm_H)} (hf : F_133_17 y1 h = some r) (hs : (fun (r : Int32 × sm_H) => res = (some (.int r.1), r.2)) r) : Ex (P_G L xs) (RUN L xs d) (sm_lk P_t133) 0 17 [some (.ref 38), some (.int y1), none, none, none, none] [] h res := by
  unfold F_133_17 at hf
  refine Ex.seg 2 (pc' := 19) (lc' := [some (.ref 38), some (.int y1), none, none, none, none]) (st' := [.int y1, .ref 38]) (h' := h) (sg1 rfl rfl (sg1 rfl rfl rfl)) ?_
  obtain ⟨q11, e_q11, hf⟩ := bnd hf
  refine Ex.callV (a := 38) (As := [.int y1]) (r := []) (v := some (.int q11.1)) (h' := q11.2) rfl rfl (by decide) rfl (Nat.le_of_ble_eq_true rfl) rfl (E_131 (Nat.le_trans (by decide) hd) e_q11) rfl ?_
  obtain rfl := Option.some.inj hf
  exact Ex.iret rfl rfl (fun c0 => by cases c0) hs
def F_133_0 (x1 : Int32) (x2 : Int32) (h : sm_H) : Option (Int32 × sm_H) :=
  (F_113 x1 h).bind fun q12 =>
  if q12.1 = 0 then (F_133_17 x1 q12.2)
  else ((ldI q12.2 41 100 x1).bind fun v13 =>
  if v13 = 0 then (F_133_17 x1 q12.2)
  else (F_133_28 x1 x2 x1 0 q12.2))
theorem B_133_0 {L : Nat} {xs : Nat → Int32} {d : Nat} (hd : 4 ≤ d) {res : Option Value × sm_H} {x1 : Int32} {x2 : Int32}  {h : sm_H} {r : (Int32 × sm_H)} (hf : F_133_0 x1 x2 h = some r) (hs : (fun (r : Int32 × sm_H) => res = (some (.int r.1), r.2)) r) : Ex (P_G L xs) (RUN L xs d) (sm_lk P_t133) 0 0 [some (.ref 38), some (.int x1), some (.int x2), none, none, none] [] h res := by
  unfold F_133_0 at hf
  refine Ex.seg 2 (pc' := 2) (lc' := [some (.ref 38), some (.int x1), some (.int x2), none, none, none]) (st' := [.int x1, .ref 38]) (h' := h) (sg1 rfl rfl (sg1 rfl rfl rfl)) ?_
  obtain ⟨q12, e_q12, hf⟩ := bnd hf
  refine Ex.callV (a := 38) (As := [.int x1]) (r := []) (v := some (.int q12.1)) (h' := q12.2) rfl rfl (by decide) rfl (Nat.le_of_ble_eq_true rfl) rfl (E_113 (Nat.le_trans (by decide) hd) e_q12) rfl ?_
  refine Ex.ifc rfl rfl (fun (c0 : q12.1 = 0) => ?_) (fun (c0 : ¬ (q12.1 = 0)) => ?_)
  · rw [if_pos c0] at hf
    exact Ex.weak (sm_le_s (sm_le_s (sm_le_n (sm_le_s (sm_le_s (sm_le_s sm_le_nil)))))) (B_133_17 hd  hf hs)
  · rw [if_neg c0] at hf
    refine Ex.seg 3 (pc' := 13) (lc' := [some (.ref 38), some (.int x1), some (.int x2), none, none, none]) (st' := [.int x1, .ref 41]) (h' := q12.2) (sg1 rfl rfl (sg1 rfl rfl (sg1 rfl rfl rfl))) ?_
    obtain ⟨v13, e_v13, hf⟩ := bnd hf
    refine Ex.iald e_v13 rfl rfl ?_
    refine Ex.ifc rfl rfl (fun (c0 : ¬ (v13 = 0)) => ?_) (fun (c0 : ¬ ¬ (v13 = 0)) => ?_)
    · rw [if_neg c0] at hf
      refine Ex.seg 4 (pc' := 28) (lc' := [some (.ref 38), some (.int x1), some (.int x2), some (.int x1), some (.int 0), none]) (st' := []) (h' := q12.2) (sg1 rfl rfl (sg1 rfl rfl (sg1 rfl rfl (sg1 rfl rfl rfl)))) ?_
      exact Ex.weak (sm_le_s (sm_le_s (sm_le_s (sm_le_s (sm_le_s (sm_le_s sm_le_nil)))))) (B_133_28 hd  hf hs)
    · rw [if_pos (Classical.not_not.mp c0)] at hf
      exact Ex.weak (sm_le_s (sm_le_s (sm_le_n (sm_le_s (sm_le_s (sm_le_s sm_le_nil)))))) (B_133_17 hd  hf hs)
/-- HandleHouse$Members.chosenFor(II)I -/
abbrev F_133 (x1 : Int32) (x2 : Int32) (h : sm_H) : Option (Int32 × sm_H) := F_133_0 x1 x2 h
theorem E_133 {L : Nat} {xs : Nat → Int32} {d : Nat} (hd : 5 ≤ d) {x1 : Int32} {x2 : Int32} {h : sm_H} {r : Int32 × sm_H} (hf : F_133 x1 x2 h = some r) : RUN L xs d 133 [.ref 38, .int x1, .int x2] h (some (.int r.1), r.2) := by
  obtain ⟨d, rfl⟩ : ∃ e, d = e + 1 := ⟨d - 1, by omega⟩
  exact ⟨Nat.le_of_ble_eq_true rfl, B_133_0 (by omega) hf rfl⟩
