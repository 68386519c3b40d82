/-! FUNCTIONS of the methods (by program, wip/gen/fgen.py) -/
def F_119_108  (h : sm_H) : Option (Int32 × sm_H) :=
  some ((-1), h)
theorem B_119_108 {L : Nat} {xs : Nat → Int32} {d : Nat} (hd : 4 ≤ d) {res : Option Value × sm_H}   {h : sm_H} {r : (Int32 × sm_H)} (hf : F_119_108  h = some r) (hs : (fun (r : Int32 × sm_H) => res = (some (.int r.1), r.2)) r) : Ex (P_G L xs) (RUN L xs d) (sm_lk P_t119) 0 108 [none, none, none, none, none, none, none, none] [] h res := by
  unfold F_119_108 at hf
  refine Ex.seg 1 (pc' := 109) (lc' := [none, none, none, none, none, none, none, none]) (st' := [.int (-1)]) (h' := h) (sg1 rfl rfl rfl) ?_
  obtain rfl := Option.some.inj hf
  exact Ex.iret rfl rfl (fun c0 => by cases c0) hs
def F_119_100 (y2 : Int32) (y3 : Int32) (y4 : Int32) (y6 : Int32) (z0 : Int32) (h : sm_H) : Option ((Int32 × Int32 × Int32 × Int32 × Int32 × sm_H) ⊕ (Int32 × sm_H)) :=
  (some (y6 + 1 : Int32)).bind fun v1 =>
  some (.inl (y2, y3, y4, z0, v1, h))
theorem B_119_100 {L : Nat} {xs : Nat → Int32} {d : Nat} (hd : 4 ≤ d) {res : Option Value × sm_H} {S1 : (Int32 × Int32 × Int32 × Int32 × Int32 × sm_H) → Prop} (hS1 : ∀ s, S1 s → Ex (P_G L xs) (RUN L xs d) (sm_lk P_t119) 0 6 [some (.ref 38), none, some (.int s.1), some (.int s.2.1), some (.int s.2.2.1), some (.int s.2.2.2.1), some (.int s.2.2.2.2.1), none] [] s.2.2.2.2.2 res) {y2 : Int32} {y3 : Int32} {y4 : Int32} {y6 : Int32} {z0 : Int32}  {h : sm_H} {r : ((Int32 × Int32 × Int32 × Int32 × Int32 × sm_H) ⊕ (Int32 × sm_H))} (hf : F_119_100 y2 y3 y4 y6 z0 h = some r) (hs : (Sum.elim S1 (fun (r : Int32 × sm_H) => res = (some (.int r.1), r.2))) r) : Ex (P_G L xs) (RUN L xs d) (sm_lk P_t119) 0 100 [some (.ref 38), none, some (.int y2), some (.int y3), some (.int y4), none, some (.int y6), none] [.int z0] h res := by
  unfold F_119_100 at hf
  refine Ex.seg 2 (pc' := 105) (lc' := [some (.ref 38), none, some (.int y2), some (.int y3), some (.int y4), some (.int z0), some (.int (y6 + 1)), none]) (st' := []) (h' := h) (sg1 rfl rfl (sg1 rfl rfl rfl)) ?_
  obtain ⟨v1, e_v1, hf⟩ := bnd hf
  rw [Option.some.inj e_v1]
  refine Ex.seg 1 (pc' := 6) (lc' := [some (.ref 38), none, some (.int y2), some (.int y3), some (.int y4), some (.int z0), some (.int v1), none]) (st' := []) (h' := h) (sg1 rfl rfl rfl) ?_
  obtain rfl := Option.some.inj hf
  exact Ex.weak (sm_le_s (sm_le_s (sm_le_s (sm_le_s (sm_le_s (sm_le_s (sm_le_s (sm_le_s sm_le_nil)))))))) (hS1 _ hs)
def F_119_75 (y2 : Int32) (y3 : Int32) (y4 : Int32) (y5 : Int32) (y6 : Int32) (y7 : Int32) (h : sm_H) : Option ((Int32 × Int32 × Int32 × Int32 × Int32 × Int32 × sm_H) ⊕ ((Int32 × Int32 × Int32 × Int32 × Int32 × sm_H) ⊕ (Int32 × sm_H))) :=
  (some (y7 + 1 : Int32)).bind fun v2 =>
  some (.inl (y2, y3, y4, y5, y6, v2, h))
theorem B_119_75 {L : Nat} {xs : Nat → Int32} {d : Nat} (hd : 4 ≤ d) {res : Option Value × sm_H} {S1 : (Int32 × Int32 × Int32 × Int32 × Int32 × sm_H) → Prop} (hS1 : ∀ s, S1 s → Ex (P_G L xs) (RUN L xs d) (sm_lk P_t119) 0 6 [some (.ref 38), none, some (.int s.1), some (.int s.2.1), some (.int s.2.2.1), some (.int s.2.2.2.1), some (.int s.2.2.2.2.1), none] [] s.2.2.2.2.2 res) {S2 : (Int32 × Int32 × Int32 × Int32 × Int32 × Int32 × sm_H) → Prop} (hS2 : ∀ s, S2 s → Ex (P_G L xs) (RUN L xs d) (sm_lk P_t119) 0 28 [some (.ref 38), none, some (.int s.1), some (.int s.2.1), some (.int s.2.2.1), some (.int s.2.2.2.1), some (.int s.2.2.2.2.1), some (.int s.2.2.2.2.2.1)] [] s.2.2.2.2.2.2 res) {y2 : Int32} {y3 : Int32} {y4 : Int32} {y5 : Int32} {y6 : Int32} {y7 : Int32}  {h : sm_H} {r : ((Int32 × Int32 × Int32 × Int32 × Int32 × Int32 × sm_H) ⊕ ((Int32 × Int32 × Int32 × Int32 × Int32 × sm_H) ⊕ (Int32 × sm_H)))} (hf : F_119_75 y2 y3 y4 y5 y6 y7 h = some r) (hs : (Sum.elim S2 (Sum.elim S1 (fun (r : Int32 × sm_H) => res = (some (.int r.1), r.2)))) r) : Ex (P_G L xs) (RUN L xs d) (sm_lk P_t119) 0 75 [some (.ref 38), none, some (.int y2), some (.int y3), some (.int y4), some (.int y5), some (.int y6), some (.int y7)] [] h res := by
  unfold F_119_75 at hf
  refine Ex.seg 1 (pc' := 78) (lc' := [some (.ref 38), none, some (.int y2), some (.int y3), some (.int y4), some (.int y5), some (.int y6), some (.int (y7 + 1))]) (st' := []) (h' := h) (sg1 rfl rfl rfl) ?_
  obtain ⟨v2, e_v2, hf⟩ := bnd hf
  rw [Option.some.inj e_v2]
  refine Ex.seg 1 (pc' := 28) (lc' := [some (.ref 38), none, some (.int y2), some (.int y3), some (.int y4), some (.int y5), some (.int y6), some (.int v2)]) (st' := []) (h' := h) (sg1 rfl rfl rfl) ?_
  obtain rfl := Option.some.inj hf
  exact Ex.weak (sm_le_s (sm_le_s (sm_le_s (sm_le_s (sm_le_s (sm_le_s (sm_le_s (sm_le_s sm_le_nil)))))))) (hS2 _ hs)
def F_119_28B (s : (Int32 × Int32 × Int32 × Int32 × Int32 × Int32 × sm_H)) : Option ((Int32 × Int32 × Int32 × Int32 × Int32 × Int32 × sm_H) ⊕ ((Int32 × Int32 × Int32 × Int32 × Int32 × sm_H) ⊕ (Int32 × sm_H))) :=
  if (s.2.2.2.2.2.2.1 38 13) ≤ s.2.2.2.2.2.1 then (if s.2.2.1 = 3 then ((F_119_100 s.1 s.2.1 s.2.2.1 s.2.2.2.2.1 (-1) s.2.2.2.2.2.2).map fun r => (.inr r))
  else ((F_61 s.2.2.2.1 s.2.2.2.2.2.2).bind fun q3 =>
  (F_119_100 s.1 s.2.1 s.2.2.1 s.2.2.2.2.1 q3.1 q3.2).map fun r => (.inr r)))
  else ((ldI s.2.2.2.2.2.2 39 100 s.2.2.2.2.2.1).bind fun v4 =>
  if v4 = s.2.2.2.1 then ((ldI s.2.2.2.2.2.2 40 100 s.2.2.2.2.2.1).bind fun v5 =>
  if v5 = s.1 then ((F_120 s.2.2.2.2.2.1 s.2.1 s.2.2.1 s.2.2.2.2.2.2).bind fun q6 =>
  if q6.1 = 0 then (F_119_75 s.1 s.2.1 s.2.2.1 s.2.2.2.1 s.2.2.2.2.1 s.2.2.2.2.2.1 q6.2)
  else (some (.inr (.inr (s.2.2.2.2.2.1, q6.2)))))
  else (F_119_75 s.1 s.2.1 s.2.2.1 s.2.2.2.1 s.2.2.2.2.1 s.2.2.2.2.2.1 s.2.2.2.2.2.2))
  else (F_119_75 s.1 s.2.1 s.2.2.1 s.2.2.2.1 s.2.2.2.2.1 s.2.2.2.2.2.1 s.2.2.2.2.2.2))
theorem B_119_28B {L : Nat} {xs : Nat → Int32} {d : Nat} (hd : 4 ≤ d) {res : Option Value × sm_H} {S1 : (Int32 × Int32 × Int32 × Int32 × Int32 × sm_H) → Prop} (hS1 : ∀ s, S1 s → Ex (P_G L xs) (RUN L xs d) (sm_lk P_t119) 0 6 [some (.ref 38), none, some (.int s.1), some (.int s.2.1), some (.int s.2.2.1), some (.int s.2.2.2.1), some (.int s.2.2.2.2.1), none] [] s.2.2.2.2.2 res) {S2 : (Int32 × Int32 × Int32 × Int32 × Int32 × Int32 × sm_H) → Prop} (hS2 : ∀ s, S2 s → Ex (P_G L xs) (RUN L xs d) (sm_lk P_t119) 0 28 [some (.ref 38), none, some (.int s.1), some (.int s.2.1), some (.int s.2.2.1), some (.int s.2.2.2.1), some (.int s.2.2.2.2.1), some (.int s.2.2.2.2.2.1)] [] s.2.2.2.2.2.2 res) {s : (Int32 × Int32 × Int32 × Int32 × Int32 × Int32 × sm_H)}  {r : ((Int32 × Int32 × Int32 × Int32 × Int32 × Int32 × sm_H) ⊕ ((Int32 × Int32 × Int32 × Int32 × Int32 × sm_H) ⊕ (Int32 × sm_H)))} (hf : F_119_28B s = some r) (hs : (Sum.elim S2 (Sum.elim S1 (fun (r : Int32 × sm_H) => res = (some (.int r.1), r.2)))) r) : Ex (P_G L xs) (RUN L xs d) (sm_lk P_t119) 0 28 [some (.ref 38), none, some (.int s.1), some (.int s.2.1), some (.int s.2.2.1), some (.int s.2.2.2.1), some (.int s.2.2.2.2.1), some (.int s.2.2.2.2.2.1)] [] s.2.2.2.2.2.2 res := by
  unfold F_119_28B at hf
  refine Ex.seg 3 (pc' := 34) (lc' := [some (.ref 38), none, some (.int s.1), some (.int s.2.1), some (.int s.2.2.1), some (.int s.2.2.2.1), some (.int s.2.2.2.2.1), some (.int s.2.2.2.2.2.1)]) (st' := [.int (s.2.2.2.2.2.2.1 38 13), .int s.2.2.2.2.2.1]) (h' := s.2.2.2.2.2.2) (sg1 rfl rfl (sg1 rfl rfl (sg1 rfl rfl rfl))) ?_
  refine Ex.icmp rfl rfl (fun (c0 : (s.2.2.2.2.2.2.1 38 13) ≤ s.2.2.2.2.2.1) => ?_) (fun (c0 : ¬ ((s.2.2.2.2.2.2.1 38 13) ≤ s.2.2.2.2.2.1)) => ?_)
  · rw [if_pos c0] at hf
    refine Ex.seg 2 (pc' := 84) (lc' := [some (.ref 38), none, some (.int s.1), some (.int s.2.1), some (.int s.2.2.1), some (.int s.2.2.2.1), some (.int s.2.2.2.2.1), some (.int s.2.2.2.2.2.1)]) (st' := [.int 3, .int s.2.2.1]) (h' := s.2.2.2.2.2.2) (sg1 rfl rfl (sg1 rfl rfl rfl)) ?_
    refine Ex.icmp rfl rfl (fun (c0 : ¬ (s.2.2.1 = 3)) => ?_) (fun (c0 : ¬ ¬ (s.2.2.1 = 3)) => ?_)
    · rw [if_neg c0] at hf
      refine Ex.seg 3 (pc' := 97) (lc' := [some (.ref 38), none, some (.int s.1), some (.int s.2.1), some (.int s.2.2.1), some (.int s.2.2.2.1), some (.int s.2.2.2.2.1), some (.int s.2.2.2.2.2.1)]) (st' := [.int s.2.2.2.1, .ref 1]) (h' := s.2.2.2.2.2.2) (sg1 rfl rfl (sg1 rfl rfl (sg1 rfl rfl rfl))) ?_
      obtain ⟨q3, e_q3, hf⟩ := bnd hf
      refine Ex.callV (a := 1) (As := [.int s.2.2.2.1]) (r := []) (v := some (.int q3.1)) (h' := q3.2) rfl rfl (by decide) rfl (Nat.le_of_ble_eq_true rfl) rfl (E_61 (Nat.le_trans (by decide) hd) e_q3) rfl ?_
      obtain ⟨r0, hf0, rfl⟩ := Option.map_eq_some_iff.mp hf
      exact Ex.weak (sm_le_s (sm_le_s (sm_le_s (sm_le_s (sm_le_s (sm_le_n (sm_le_s (sm_le_n sm_le_nil)))))))) (B_119_100 hd hS1 hf0 hs)
    · rw [if_pos (Classical.not_not.mp c0)] at hf
      refine Ex.seg 2 (pc' := 100) (lc' := [some (.ref 38), none, some (.int s.1), some (.int s.2.1), some (.int s.2.2.1), some (.int s.2.2.2.1), some (.int s.2.2.2.2.1), some (.int s.2.2.2.2.2.1)]) (st' := [.int (-1)]) (h' := s.2.2.2.2.2.2) (sg1 rfl rfl (sg1 rfl rfl rfl)) ?_
      obtain ⟨r0, hf0, rfl⟩ := Option.map_eq_some_iff.mp hf
      exact Ex.weak (sm_le_s (sm_le_s (sm_le_s (sm_le_s (sm_le_s (sm_le_n (sm_le_s (sm_le_n sm_le_nil)))))))) (B_119_100 hd hS1 hf0 hs)
  · rw [if_neg c0] at hf
    refine Ex.seg 3 (pc' := 43) (lc' := [some (.ref 38), none, some (.int s.1), some (.int s.2.1), some (.int s.2.2.1), some (.int s.2.2.2.1), some (.int s.2.2.2.2.1), some (.int s.2.2.2.2.2.1)]) (st' := [.int s.2.2.2.2.2.1, .ref 39]) (h' := s.2.2.2.2.2.2) (sg1 rfl rfl (sg1 rfl rfl (sg1 rfl rfl rfl))) ?_
    obtain ⟨v4, e_v4, hf⟩ := bnd hf
    refine Ex.iald e_v4 rfl rfl ?_
    refine Ex.seg 1 (pc' := 46) (lc' := [some (.ref 38), none, some (.int s.1), some (.int s.2.1), some (.int s.2.2.1), some (.int s.2.2.2.1), some (.int s.2.2.2.2.1), some (.int s.2.2.2.2.2.1)]) (st' := [.int s.2.2.2.1, .int v4]) (h' := s.2.2.2.2.2.2) (sg1 rfl rfl rfl) ?_
    refine Ex.icmp rfl rfl (fun (c0 : ¬ (v4 = s.2.2.2.1)) => ?_) (fun (c0 : ¬ ¬ (v4 = s.2.2.2.1)) => ?_)
    · rw [if_neg c0] at hf
      exact Ex.weak (sm_le_s (sm_le_s (sm_le_s (sm_le_s (sm_le_s (sm_le_s (sm_le_s (sm_le_s sm_le_nil)))))))) (B_119_75 hd hS1 hS2 hf hs)
    · rw [if_pos (Classical.not_not.mp c0)] at hf
      refine Ex.seg 3 (pc' := 55) (lc' := [some (.ref 38), none, some (.int s.1), some (.int s.2.1), some (.int s.2.2.1), some (.int s.2.2.2.1), some (.int s.2.2.2.2.1), some (.int s.2.2.2.2.2.1)]) (st' := [.int s.2.2.2.2.2.1, .ref 40]) (h' := s.2.2.2.2.2.2) (sg1 rfl rfl (sg1 rfl rfl (sg1 rfl rfl rfl))) ?_
      obtain ⟨v5, e_v5, hf⟩ := bnd hf
      refine Ex.iald e_v5 rfl rfl ?_
      refine Ex.seg 1 (pc' := 57) (lc' := [some (.ref 38), none, some (.int s.1), some (.int s.2.1), some (.int s.2.2.1), some (.int s.2.2.2.1), some (.int s.2.2.2.2.1), some (.int s.2.2.2.2.2.1)]) (st' := [.int s.1, .int v5]) (h' := s.2.2.2.2.2.2) (sg1 rfl rfl rfl) ?_
      refine Ex.icmp rfl rfl (fun (c0 : ¬ (v5 = s.1)) => ?_) (fun (c0 : ¬ ¬ (v5 = s.1)) => ?_)
      · rw [if_neg c0] at hf
        exact Ex.weak (sm_le_s (sm_le_s (sm_le_s (sm_le_s (sm_le_s (sm_le_s (sm_le_s (sm_le_s sm_le_nil)))))))) (B_119_75 hd hS1 hS2 hf hs)
      · rw [if_pos (Classical.not_not.mp c0)] at hf
        refine Ex.seg 4 (pc' := 66) (lc' := [some (.ref 38), none, some (.int s.1), some (.int s.2.1), some (.int s.2.2.1), some (.int s.2.2.2.1), some (.int s.2.2.2.2.1), some (.int s.2.2.2.2.2.1)]) (st' := [.int s.2.2.1, .int s.2.1, .int s.2.2.2.2.2.1, .ref 38]) (h' := s.2.2.2.2.2.2) (sg1 rfl rfl (sg1 rfl rfl (sg1 rfl rfl (sg1 rfl rfl rfl)))) ?_
        obtain ⟨q6, e_q6, hf⟩ := bnd hf
        refine Ex.callV (a := 38) (As := [.int s.2.2.2.2.2.1, .int s.2.1, .int s.2.2.1]) (r := []) (v := some (.int q6.1)) (h' := q6.2) rfl rfl (by decide) rfl (Nat.le_of_ble_eq_true rfl) rfl (E_120 (Nat.le_trans (by decide) hd) e_q6) rfl ?_
        refine Ex.ifc rfl rfl (fun (c0 : q6.1 = 0) => ?_) (fun (c0 : ¬ (q6.1 = 0)) => ?_)
        · rw [if_pos c0] at hf
          exact Ex.weak (sm_le_s (sm_le_s (sm_le_s (sm_le_s (sm_le_s (sm_le_s (sm_le_s (sm_le_s sm_le_nil)))))))) (B_119_75 hd hS1 hS2 hf hs)
        · rw [if_neg c0] at hf
          refine Ex.seg 1 (pc' := 74) (lc' := [some (.ref 38), none, some (.int s.1), some (.int s.2.1), some (.int s.2.2.1), some (.int s.2.2.2.1), some (.int s.2.2.2.2.1), some (.int s.2.2.2.2.2.1)]) (st' := [.int s.2.2.2.2.2.1]) (h' := q6.2) (sg1 rfl rfl rfl) ?_
          obtain rfl := Option.some.inj hf
          exact Ex.iret rfl rfl (fun c0 => by cases c0) hs
def F_119_28 (y2 : Int32) (y3 : Int32) (y4 : Int32) (y5 : Int32) (y6 : Int32) (y7 : Int32) (h : sm_H) : Option ((Int32 × Int32 × Int32 × Int32 × Int32 × sm_H) ⊕ (Int32 × sm_H)) := lp F_119_28B 1000000 (y2, y3, y4, y5, y6, y7, h)
theorem B_119_28 {L : Nat} {xs : Nat → Int32} {d : Nat} (hd : 4 ≤ d) {res : Option Value × sm_H} {S1 : (Int32 × Int32 × Int32 × Int32 × Int32 × sm_H) → Prop} (hS1 : ∀ s, S1 s → Ex (P_G L xs) (RUN L xs d) (sm_lk P_t119) 0 6 [some (.ref 38), none, some (.int s.1), some (.int s.2.1), some (.int s.2.2.1), some (.int s.2.2.2.1), some (.int s.2.2.2.2.1), none] [] s.2.2.2.2.2 res) {y2 : Int32} {y3 : Int32} {y4 : Int32} {y5 : Int32} {y6 : Int32} {y7 : Int32}  {h : sm_H} {r : ((Int32 × Int32 × Int32 × Int32 × Int32 × sm_H) ⊕ (Int32 × sm_H))} (hf : F_119_28 y2 y3 y4 y5 y6 y7 h = some r) (hs : (Sum.elim S1 (fun (r : Int32 × sm_H) => res = (some (.int r.1), r.2))) r) : Ex (P_G L xs) (RUN L xs d) (sm_lk P_t119) 0 28 [some (.ref 38), none, some (.int y2), some (.int y3), some (.int y4), some (.int y5), some (.int y6), some (.int y7)] [] h res := by
  unfold F_119_28 at hf
  exact lp_ok (P := fun (s : (Int32 × Int32 × Int32 × Int32 × Int32 × Int32 × sm_H)) => Ex (P_G L xs) (RUN L xs d) (sm_lk P_t119) 0 28 [some (.ref 38), none, some (.int s.1), some (.int s.2.1), some (.int s.2.2.1), some (.int s.2.2.2.1), some (.int s.2.2.2.2.1), some (.int s.2.2.2.2.2.1)] [] s.2.2.2.2.2.2 res) (S := (Sum.elim S1 (fun (r : Int32 × sm_H) => res = (some (.int r.1), r.2)))) (fun s x hx hsx => by
    intros
    exact B_119_28B hd hS1 (fun _ q => q) hx hsx) 1000000 _ r hf hs
def F_119_6B (s : (Int32 × Int32 × Int32 × Int32 × Int32 × sm_H)) : Option ((Int32 × Int32 × Int32 × Int32 × Int32 × sm_H) ⊕ (Int32 × sm_H)) :=
  if 32 ≤ s.2.2.2.2.1 then ((F_119_108 s.2.2.2.2.2).map fun r => (.inr r))
  else ((F_55 s.2.2.2.1 s.2.2.2.2.2).bind fun q7 =>
  if q7.1 = 0 then ((F_119_108 q7.2).map fun r => (.inr r))
  else (F_119_28 s.1 s.2.1 s.2.2.1 s.2.2.2.1 s.2.2.2.2.1 0 q7.2))
theorem B_119_6B {L : Nat} {xs : Nat → Int32} {d : Nat} (hd : 4 ≤ d) {res : Option Value × sm_H} {S1 : (Int32 × Int32 × Int32 × Int32 × Int32 × sm_H) → Prop} (hS1 : ∀ s, S1 s → Ex (P_G L xs) (RUN L xs d) (sm_lk P_t119) 0 6 [some (.ref 38), none, some (.int s.1), some (.int s.2.1), some (.int s.2.2.1), some (.int s.2.2.2.1), some (.int s.2.2.2.2.1), none] [] s.2.2.2.2.2 res) {s : (Int32 × Int32 × Int32 × Int32 × Int32 × sm_H)}  {r : ((Int32 × Int32 × Int32 × Int32 × Int32 × sm_H) ⊕ (Int32 × sm_H))} (hf : F_119_6B s = some r) (hs : (Sum.elim S1 (fun (r : Int32 × sm_H) => res = (some (.int r.1), r.2))) r) : Ex (P_G L xs) (RUN L xs d) (sm_lk P_t119) 0 6 [some (.ref 38), none, some (.int s.1), some (.int s.2.1), some (.int s.2.2.1), some (.int s.2.2.2.1), some (.int s.2.2.2.2.1), none] [] s.2.2.2.2.2 res := by
  unfold F_119_6B at hf
  refine Ex.seg 2 (pc' := 10) (lc' := [some (.ref 38), none, some (.int s.1), some (.int s.2.1), some (.int s.2.2.1), some (.int s.2.2.2.1), some (.int s.2.2.2.2.1), none]) (st' := [.int 32, .int s.2.2.2.2.1]) (h' := s.2.2.2.2.2) (sg1 rfl rfl (sg1 rfl rfl rfl)) ?_
  refine Ex.icmp rfl rfl (fun (c0 : 32 ≤ s.2.2.2.2.1) => ?_) (fun (c0 : ¬ (32 ≤ s.2.2.2.2.1)) => ?_)
  · rw [if_pos c0] at hf
    obtain ⟨r0, hf0, rfl⟩ := Option.map_eq_some_iff.mp hf
    exact Ex.weak (sm_le_n (sm_le_s (sm_le_n (sm_le_n (sm_le_n (sm_le_n (sm_le_n (sm_le_s sm_le_nil)))))))) (B_119_108 hd  hf0 hs)
  · rw [if_neg c0] at hf
    refine Ex.seg 3 (pc' := 19) (lc' := [some (.ref 38), none, some (.int s.1), some (.int s.2.1), some (.int s.2.2.1), some (.int s.2.2.2.1), some (.int s.2.2.2.2.1), none]) (st' := [.int s.2.2.2.1, .ref 1]) (h' := s.2.2.2.2.2) (sg1 rfl rfl (sg1 rfl rfl (sg1 rfl rfl rfl))) ?_
    obtain ⟨q7, e_q7, hf⟩ := bnd hf
    refine Ex.callV (a := 1) (As := [.int s.2.2.2.1]) (r := []) (v := some (.int q7.1)) (h' := q7.2) rfl rfl (by decide) rfl (Nat.le_of_ble_eq_true rfl) rfl (E_55 (Nat.le_trans (by decide) hd) e_q7) rfl ?_
    refine Ex.ifc rfl rfl (fun (c0 : q7.1 = 0) => ?_) (fun (c0 : ¬ (q7.1 = 0)) => ?_)
    · rw [if_pos c0] at hf
      obtain ⟨r0, hf0, rfl⟩ := Option.map_eq_some_iff.mp hf
      exact Ex.weak (sm_le_n (sm_le_s (sm_le_n (sm_le_n (sm_le_n (sm_le_n (sm_le_n (sm_le_s sm_le_nil)))))))) (B_119_108 hd  hf0 hs)
    · rw [if_neg c0] at hf
      refine Ex.seg 2 (pc' := 28) (lc' := [some (.ref 38), none, some (.int s.1), some (.int s.2.1), some (.int s.2.2.1), some (.int s.2.2.2.1), some (.int s.2.2.2.2.1), some (.int 0)]) (st' := []) (h' := q7.2) (sg1 rfl rfl (sg1 rfl rfl rfl)) ?_
      exact Ex.weak (sm_le_s (sm_le_s (sm_le_s (sm_le_s (sm_le_s (sm_le_s (sm_le_s (sm_le_s sm_le_nil)))))))) (B_119_28 hd hS1 hf hs)
def F_119_6 (y2 : Int32) (y3 : Int32) (y4 : Int32) (y5 : Int32) (y6 : Int32) (h : sm_H) : Option (Int32 × sm_H) := lp F_119_6B 1000000 (y2, y3, y4, y5, y6, h)
theorem B_119_6 {L : Nat} {xs : Nat → Int32} {d : Nat} (hd : 4 ≤ d) {res : Option Value × sm_H} {y2 : Int32} {y3 : Int32} {y4 : Int32} {y5 : Int32} {y6 : Int32}  {h : sm_H} {r : (Int32 × sm_H)} (hf : F_119_6 y2 y3 y4 y5 y6 h = some r) (hs : (fun (r : Int32 × sm_H) => res = (some (.int r.1), r.2)) r) : Ex (P_G L xs) (RUN L xs d) (sm_lk P_t119) 0 6 [some (.ref 38), none, some (.int y2), some (.int y3), some (.int y4), some (.int y5), some (.int y6), none] [] h res := by
  unfold F_119_6 at hf
  exact lp_ok (P := fun (s : (Int32 × Int32 × Int32 × Int32 × Int32 × sm_H)) => Ex (P_G L xs) (RUN L xs d) (sm_lk P_t119) 0 6 [some (.ref 38), none, some (.int s.1), some (.int s.2.1), some (.int s.2.2.1), some (.int s.2.2.2.1), some (.int s.2.2.2.2.1), none] [] s.2.2.2.2.2 res) (S := (fun (r : Int32 × sm_H) => res = (some (.int r.1), r.2))) (fun s x hx hsx => by
    intros
    exact B_119_6B hd  (fun _ q => q) hx hsx) 1000000 _ r hf hs
def F_119_0 (x1 : Int32) (x2 : Int32) (x3 : Int32) (x4 : Int32) (h : sm_H) : Option (Int32 × sm_H) :=
  F_119_6 x2 x3 x4 x1 0 h
theorem B_119_0 {L : Nat} {xs : Nat → Int32} {d : Nat} (hd : 4 ≤ d) {res : Option Value × sm_H} {x1 : Int32} {x2 : Int32} {x3 : Int32} {x4 : Int32}  {h : sm_H} {r : (Int32 × sm_H)} (hf : F_119_0 x1 x2 x3 x4 h = some r) (hs : (fun (r : Int32 × sm_H) => res = (some (.int r.1), r.2)) r) : Ex (P_G L xs) (RUN L xs d) (sm_lk P_t119) 0 0 [some (.ref 38), some (.int x1), some (.int x2), some (.int x3), some (.int x4), none, none, none] [] h res := by
  unfold F_119_0 at hf
  refine Ex.seg 4 (pc' := 6) (lc' := [some (.ref 38), some (.int x1), some (.int x2), some (.int x3), some (.int x4), some (.int x1), some (.int 0), none]) (st' := []) (h' := h) (sg1 rfl rfl (sg1 rfl rfl (sg1 rfl rfl (sg1 rfl rfl rfl)))) ?_
  exact Ex.weak (sm_le_s (sm_le_n (sm_le_s (sm_le_s (sm_le_s (sm_le_s (sm_le_s (sm_le_s sm_le_nil)))))))) (B_119_6 hd  hf hs)
/-- HandleHouse$Members.firstOf(IIII)I -/
abbrev F_119 (x1 : Int32) (x2 : Int32) (x3 : Int32) (x4 : Int32) (h : sm_H) : Option (Int32 × sm_H) := F_119_0 x1 x2 x3 x4 h
theorem E_119 {L : Nat} {xs : Nat → Int32} {d : Nat} (hd : 5 ≤ d) {x1 : Int32} {x2 : Int32} {x3 : Int32} {x4 : Int32} {h : sm_H} {r : Int32 × sm_H} (hf : F_119 x1 x2 x3 x4 h = some r) : RUN L xs d 119 [.ref 38, .int x1, .int x2, .int x3, .int x4] h (some (.int r.1), r.2) := by
  obtain ⟨d, rfl⟩ : ∃ e, d = e + 1 := ⟨d - 1, by omega⟩
  exact ⟨Nat.le_of_ble_eq_true rfl, B_119_0 (by omega) hf rfl⟩
