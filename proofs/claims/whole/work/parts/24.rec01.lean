/-! FUNCTIONS of the methods (by program, wip/gen/fgen.py) -/
def F_193_0 (rec : sm_H → Option (Int32 × sm_H))  (h : sm_H) : Option (Int32 × sm_H) :=
  (F_171 h).bind fun q1 =>
  (rec q1.2).bind fun q2 =>
  some (q2.1, q2.2)
theorem B_193_0 {L : Nat} {xs : Nat → Int32} {d : Nat} {M : Nat} {rec : sm_H → Option (Int32 × sm_H)} (hrec : ∀ d, M ≤ d → ∀ (h : sm_H) (q : Int32 × sm_H), rec h = some q → RUN L xs d 194 [.ref 55] h (some (.int q.1), q.2)) (hd : 3 + M ≤ d) {res : Option Value × sm_H}   {h : sm_H} {r : (Int32 × sm_H)} (hf : F_193_0 rec  h = some r) (hs : (fun (r : Int32 × sm_H) => res = (some (.int r.1), r.2)) r) : Ex (P_G L xs) (RUN L xs d) (sm_lk P_t193) 0 0 [some (.ref 55)] [] h res := by
  unfold F_193_0 at hf
  refine Ex.seg 1 (pc' := 1) (lc' := [some (.ref 55)]) (st' := [.ref 55]) (h' := h) (sg1 rfl rfl rfl) ?_
  obtain ⟨q1, e_q1, hf⟩ := bnd hf
  refine Ex.callV (a := 55) (As := []) (r := []) (v := some (.int q1.1)) (h' := q1.2) rfl rfl (by decide) rfl (Nat.le_of_ble_eq_true rfl) rfl (E_171 (by omega) e_q1) rfl ?_
  refine Ex.seg 2 (pc' := 6) (lc' := [some (.ref 55)]) (st' := [.ref 55]) (h' := q1.2) (sg1 rfl rfl (sg1 rfl rfl rfl)) ?_
  obtain ⟨q2, e_q2, hf⟩ := bnd hf
  refine Ex.callV (a := 55) (As := []) (r := []) (v := some (.int q2.1)) (h' := q2.2) rfl rfl (by decide) rfl (Nat.le_of_ble_eq_true rfl) rfl (hrec d (by omega)  _ _ e_q2) rfl ?_
  obtain rfl := Option.some.inj hf
  exact Ex.iret rfl rfl (fun c0 => by cases c0) hs
/-- HandleHouse$Texts.readExpression()I -/
abbrev F_193 (rec : sm_H → Option (Int32 × sm_H))  (h : sm_H) : Option (Int32 × sm_H) := F_193_0 rec  h
theorem E_193 {L : Nat} {xs : Nat → Int32} {d : Nat} {M : Nat} {rec : sm_H → Option (Int32 × sm_H)} (hrec : ∀ d, M ≤ d → ∀ (h : sm_H) (q : Int32 × sm_H), rec h = some q → RUN L xs d 194 [.ref 55] h (some (.int q.1), q.2)) (hd : 4 + M ≤ d)  {h : sm_H} {r : Int32 × sm_H} (hf : F_193 rec  h = some r) : RUN L xs d 193 [.ref 55] h (some (.int r.1), r.2) := by
  obtain ⟨d, rfl⟩ : ∃ e, d = e + 1 := ⟨d - 1, by omega⟩
  exact ⟨Nat.le_of_ble_eq_true rfl, B_193_0 hrec (by omega) hf rfl⟩
def F_199_2B (rec : sm_H → Option (Int32 × sm_H)) (s : (Int32 × Int32 × sm_H)) : Option ((Int32 × Int32 × sm_H) ⊕ (Int32 × sm_H)) :=
  if s.1 ≤ s.2.1 then (some (.inr (1, s.2.2)))
  else ((F_193 rec s.2.2).bind fun q1 =>
  (F_188 q1.1 0 q1.2).bind fun q2 =>
  if q2.1 = 0 then (some (.inr (0, q2.2)))
  else ((some (s.2.1 + 1 : Int32)).bind fun v3 =>
  some (.inl (s.1, v3, q2.2))))
theorem B_199_2B {L : Nat} {xs : Nat → Int32} {d : Nat} {M : Nat} {rec : sm_H → Option (Int32 × sm_H)} (hrec : ∀ d, M ≤ d → ∀ (h : sm_H) (q : Int32 × sm_H), rec h = some q → RUN L xs d 194 [.ref 55] h (some (.int q.1), q.2)) (hd : 4 + M ≤ d) {res : Option Value × sm_H} {S1 : (Int32 × Int32 × sm_H) → Prop} (hS1 : ∀ s, S1 s → Ex (P_G L xs) (RUN L xs d) (sm_lk P_t199) 3 2 [some (.ref 55), some (.int s.1), some (.int s.2.1)] [] s.2.2 res) {s : (Int32 × Int32 × sm_H)}  {r : ((Int32 × Int32 × sm_H) ⊕ (Int32 × sm_H))} (hf : F_199_2B rec s = some r) (hs : (Sum.elim S1 (fun (r : Int32 × sm_H) => res = (some (.int r.1), r.2))) r) : Ex (P_G L xs) (RUN L xs d) (sm_lk P_t199) 3 2 [some (.ref 55), some (.int s.1), some (.int s.2.1)] [] s.2.2 res := by
  unfold F_199_2B at hf
  refine Ex.seg 2 (pc' := 4) (lc' := [some (.ref 55), some (.int s.1), some (.int s.2.1)]) (st' := [.int s.1, .int s.2.1]) (h' := s.2.2) (sg1 rfl rfl (sg1 rfl rfl rfl)) ?_
  refine Ex.icmp rfl rfl (fun (c0 : s.1 ≤ s.2.1) => ?_) (fun (c0 : ¬ (s.1 ≤ s.2.1)) => ?_)
  · rw [if_pos c0] at hf
    refine Ex.seg 1 (pc' := 28) (lc' := [some (.ref 55), some (.int s.1), some (.int s.2.1)]) (st' := [.int 1]) (h' := s.2.2) (sg1 rfl rfl rfl) ?_
    obtain rfl := Option.some.inj hf
    exact Ex.iret rfl rfl (fun _ => by decide) hs
  · rw [if_neg c0] at hf
    refine Ex.seg 2 (pc' := 9) (lc' := [some (.ref 55), some (.int s.1), some (.int s.2.1)]) (st' := [.ref 55, .ref 55]) (h' := s.2.2) (sg1 rfl rfl (sg1 rfl rfl rfl)) ?_
    obtain ⟨q1, e_q1, hf⟩ := bnd hf
    refine Ex.callV (a := 55) (As := []) (r := [.ref 55]) (v := some (.int q1.1)) (h' := q1.2) rfl rfl (by decide) rfl (Nat.le_of_ble_eq_true rfl) rfl (E_193 hrec (by omega) e_q1) rfl ?_
    refine Ex.seg 1 (pc' := 13) (lc' := [some (.ref 55), some (.int s.1), some (.int s.2.1)]) (st' := [.long 0, .int q1.1, .ref 55]) (h' := q1.2) (sg1 rfl rfl rfl) ?_
    obtain ⟨q2, e_q2, hf⟩ := bnd hf
    refine Ex.callV (a := 55) (As := [.int q1.1, .long 0]) (r := []) (v := some (.int q2.1)) (h' := q2.2) rfl rfl (by decide) rfl (Nat.le_of_ble_eq_true rfl) rfl (E_188 (by omega) e_q2) rfl ?_
    refine Ex.ifc rfl rfl (fun (c0 : ¬ (q2.1 = 0)) => ?_) (fun (c0 : ¬ ¬ (q2.1 = 0)) => ?_)
    · rw [if_neg c0] at hf
      refine Ex.seg 1 (pc' := 24) (lc' := [some (.ref 55), some (.int s.1), some (.int (s.2.1 + 1))]) (st' := []) (h' := q2.2) (sg1 rfl rfl rfl) ?_
      obtain ⟨v3, e_v3, hf⟩ := bnd hf
      rw [Option.some.inj e_v3]
      refine Ex.seg 1 (pc' := 2) (lc' := [some (.ref 55), some (.int s.1), some (.int v3)]) (st' := []) (h' := q2.2) (sg1 rfl rfl rfl) ?_
      obtain rfl := Option.some.inj hf
      exact Ex.weak (sm_le_s (sm_le_s (sm_le_s sm_le_nil))) (hS1 _ hs)
    · rw [if_pos (Classical.not_not.mp c0)] at hf
      refine Ex.seg 1 (pc' := 20) (lc' := [some (.ref 55), some (.int s.1), some (.int s.2.1)]) (st' := [.int 0]) (h' := q2.2) (sg1 rfl rfl rfl) ?_
      obtain rfl := Option.some.inj hf
      exact Ex.iret rfl rfl (fun _ => by decide) hs
def F_199_2 (rec : sm_H → Option (Int32 × sm_H)) (y1 : Int32) (y2 : Int32) (h : sm_H) : Option (Int32 × sm_H) := lp (F_199_2B rec ) 1000000 (y1, y2, h)
theorem B_199_2 {L : Nat} {xs : Nat → Int32} {d : Nat} {M : Nat} {rec : sm_H → Option (Int32 × sm_H)} (hrec : ∀ d, M ≤ d → ∀ (h : sm_H) (q : Int32 × sm_H), rec h = some q → RUN L xs d 194 [.ref 55] h (some (.int q.1), q.2)) (hd : 4 + M ≤ d) {res : Option Value × sm_H} {y1 : Int32} {y2 : Int32}  {h : sm_H} {r : (Int32 × sm_H)} (hf : F_199_2 rec y1 y2 h = some r) (hs : (fun (r : Int32 × sm_H) => res = (some (.int r.1), r.2)) r) : Ex (P_G L xs) (RUN L xs d) (sm_lk P_t199) 3 2 [some (.ref 55), some (.int y1), some (.int y2)] [] h res := by
  unfold F_199_2 at hf
  exact lp_ok (P := fun (s : (Int32 × Int32 × sm_H)) => Ex (P_G L xs) (RUN L xs d) (sm_lk P_t199) 3 2 [some (.ref 55), some (.int s.1), some (.int s.2.1)] [] s.2.2 res) (S := (fun (r : Int32 × sm_H) => res = (some (.int r.1), r.2))) (fun s x hx hsx => by
    intros
    exact B_199_2B hrec hd  (fun _ q => q) hx hsx) 1000000 _ r hf hs
def F_199_0 (rec : sm_H → Option (Int32 × sm_H)) (x1 : Int32) (h : sm_H) : Option (Int32 × sm_H) :=
  F_199_2 rec  x1 0 h
theorem B_199_0 {L : Nat} {xs : Nat → Int32} {d : Nat} {M : Nat} {rec : sm_H → Option (Int32 × sm_H)} (hrec : ∀ d, M ≤ d → ∀ (h : sm_H) (q : Int32 × sm_H), rec h = some q → RUN L xs d 194 [.ref 55] h (some (.int q.1), q.2)) (hd : 4 + M ≤ d) {res : Option Value × sm_H} {x1 : Int32}  {h : sm_H} {r : (Int32 × sm_H)} (hf : F_199_0 rec x1 h = some r) (hs : (fun (r : Int32 × sm_H) => res = (some (.int r.1), r.2)) r) : Ex (P_G L xs) (RUN L xs d) (sm_lk P_t199) 3 0 [some (.ref 55), some (.int x1), none] [] h res := by
  unfold F_199_0 at hf
  refine Ex.seg 2 (pc' := 2) (lc' := [some (.ref 55), some (.int x1), some (.int 0)]) (st' := []) (h' := h) (sg1 rfl rfl (sg1 rfl rfl rfl)) ?_
  exact Ex.weak (sm_le_s (sm_le_s (sm_le_s sm_le_nil))) (B_199_2 hrec hd  hf hs)
/-- HandleHouse$Texts.readsParts(I)Z -/
abbrev F_199 (rec : sm_H → Option (Int32 × sm_H)) (x1 : Int32) (h : sm_H) : Option (Int32 × sm_H) := F_199_0 rec x1 h
theorem E_199 {L : Nat} {xs : Nat → Int32} {d : Nat} {M : Nat} {rec : sm_H → Option (Int32 × sm_H)} (hrec : ∀ d, M ≤ d → ∀ (h : sm_H) (q : Int32 × sm_H), rec h = some q → RUN L xs d 194 [.ref 55] h (some (.int q.1), q.2)) (hd : 5 + M ≤ d) {x1 : Int32} {h : sm_H} {r : Int32 × sm_H} (hf : F_199 rec x1 h = some r) : RUN L xs d 199 [.ref 55, .int x1] h (some (.int r.1), r.2) := by
  obtain ⟨d, rfl⟩ : ∃ e, d = e + 1 := ⟨d - 1, by omega⟩
  exact ⟨Nat.le_of_ble_eq_true rfl, B_199_0 hrec (by omega) hf rfl⟩
def F_207_76 (rec : sm_H → Option (Int32 × sm_H)) (z0 : Int32) (h : sm_H) : Option (Int32 × sm_H) :=
  if z0 = 0 ∨ z0 = 1 then some (z0, h) else none
theorem B_207_76 {L : Nat} {xs : Nat → Int32} {d : Nat} {M : Nat} {rec : sm_H → Option (Int32 × sm_H)} (hrec : ∀ d, M ≤ d → ∀ (h : sm_H) (q : Int32 × sm_H), rec h = some q → RUN L xs d 194 [.ref 55] h (some (.int q.1), q.2)) (hd : 4 + M ≤ d) {res : Option Value × sm_H} {z0 : Int32}  {h : sm_H} {r : (Int32 × sm_H)} (hf : F_207_76 rec z0 h = some r) (hs : (fun (r : Int32 × sm_H) => res = (some (.int r.1), r.2)) r) : Ex (P_G L xs) (RUN L xs d) (sm_lk P_t207) 3 76 [none, none, none, none, none] [.int z0] h res := by
  unfold F_207_76 at hf
  rcases Classical.em (z0 = 0 ∨ z0 = 1) with c0 | c0
  · rw [if_pos c0] at hf
    obtain rfl := Option.some.inj hf
    exact Ex.iret rfl rfl (fun _ => c0) hs
  · rw [if_neg c0] at hf
    cases hf
def F_207_75 (rec : sm_H → Option (Int32 × sm_H))  (h : sm_H) : Option (Int32 × sm_H) :=
  F_207_76 rec  0 h
theorem B_207_75 {L : Nat} {xs : Nat → Int32} {d : Nat} {M : Nat} {rec : sm_H → Option (Int32 × sm_H)} (hrec : ∀ d, M ≤ d → ∀ (h : sm_H) (q : Int32 × sm_H), rec h = some q → RUN L xs d 194 [.ref 55] h (some (.int q.1), q.2)) (hd : 4 + M ≤ d) {res : Option Value × sm_H}   {h : sm_H} {r : (Int32 × sm_H)} (hf : F_207_75 rec  h = some r) (hs : (fun (r : Int32 × sm_H) => res = (some (.int r.1), r.2)) r) : Ex (P_G L xs) (RUN L xs d) (sm_lk P_t207) 3 75 [none, none, none, none, none] [] h res := by
  unfold F_207_75 at hf
  refine Ex.seg 1 (pc' := 76) (lc' := [none, none, none, none, none]) (st' := [.int 0]) (h' := h) (sg1 rfl rfl rfl) ?_
  exact Ex.weak (sm_le_s (sm_le_s (sm_le_s (sm_le_s (sm_le_s sm_le_nil))))) (B_207_76 hrec hd  hf hs)
def F_207_0 (rec : sm_H → Option (Int32 × sm_H)) (x1 : Int32) (h : sm_H) : Option (Int32 × sm_H) :=
  (F_172 4 h).bind fun q1 =>
  if q1.1 = 0 then (some (0, q1.2))
  else ((F_248 q1.2).bind fun q2 =>
  (F_193 rec q2.2).bind fun q3 =>
  if q3.1 = (-1) then (some (0, q3.2))
  else ((F_44 q3.1 q3.2).bind fun q4 =>
  if q4.1 = 0 then ((F_169 7 x1 q4.2).bind fun q7 =>
  some (0, q7.2))
  else ((F_188 q3.1 q2.1 q4.2).bind fun q5 =>
  if q5.1 = 0 then (F_207_75 rec  q5.2)
  else ((F_175 q5.2).bind fun q6 =>
  if q6.1 = 0 then (F_207_75 rec  q6.2)
  else (F_207_76 rec  1 q6.2)))))
theorem B_207_0 {L : Nat} {xs : Nat → Int32} {d : Nat} {M : Nat} {rec : sm_H → Option (Int32 × sm_H)} (hrec : ∀ d, M ≤ d → ∀ (h : sm_H) (q : Int32 × sm_H), rec h = some q → RUN L xs d 194 [.ref 55] h (some (.int q.1), q.2)) (hd : 4 + M ≤ d) {res : Option Value × sm_H} {x1 : Int32}  {h : sm_H} {r : (Int32 × sm_H)} (hf : F_207_0 rec x1 h = some r) (hs : (fun (r : Int32 × sm_H) => res = (some (.int r.1), r.2)) r) : Ex (P_G L xs) (RUN L xs d) (sm_lk P_t207) 3 0 [some (.ref 55), some (.int x1), none, none, none] [] h res := by
  unfold F_207_0 at hf
  refine Ex.seg 2 (pc' := 2) (lc' := [some (.ref 55), some (.int x1), none, none, none]) (st' := [.int 4, .ref 55]) (h' := h) (sg1 rfl rfl (sg1 rfl rfl rfl)) ?_
  obtain ⟨q1, e_q1, hf⟩ := bnd hf
  refine Ex.callV (a := 55) (As := [.int 4]) (r := []) (v := some (.int q1.1)) (h' := q1.2) rfl rfl (by decide) rfl (Nat.le_of_ble_eq_true rfl) rfl (E_172 (by omega) e_q1) rfl ?_
  refine Ex.ifc rfl rfl (fun (c0 : ¬ (q1.1 = 0)) => ?_) (fun (c0 : ¬ ¬ (q1.1 = 0)) => ?_)
  · rw [if_neg c0] at hf
    refine Ex.seg 2 (pc' := 14) (lc' := [some (.ref 55), some (.int x1), none, none, none]) (st' := [.ref 52]) (h' := q1.2) (sg1 rfl rfl (sg1 rfl rfl rfl)) ?_
    obtain ⟨q2, e_q2, hf⟩ := bnd hf
    refine Ex.callV (a := 52) (As := []) (r := []) (v := some (.long q2.1)) (h' := q2.2) rfl rfl (by decide) rfl (Nat.le_of_ble_eq_true rfl) rfl (E_248 (by omega) e_q2) rfl ?_
    refine Ex.seg 2 (pc' := 19) (lc' := [some (.ref 55), some (.int x1), some (.long q2.1), none, none]) (st' := [.ref 55]) (h' := q2.2) (sg1 rfl rfl (sg1 rfl rfl rfl)) ?_
    obtain ⟨q3, e_q3, hf⟩ := bnd hf
    refine Ex.callV (a := 55) (As := []) (r := []) (v := some (.int q3.1)) (h' := q3.2) rfl rfl (by decide) rfl (Nat.le_of_ble_eq_true rfl) rfl (E_193 hrec (by omega) e_q3) rfl ?_
    refine Ex.seg 3 (pc' := 27) (lc' := [some (.ref 55), some (.int x1), some (.long q2.1), none, some (.int q3.1)]) (st' := [.int (-1), .int q3.1]) (h' := q3.2) (sg1 rfl rfl (sg1 rfl rfl (sg1 rfl rfl rfl))) ?_
    refine Ex.icmp rfl rfl (fun (c0 : ¬ (q3.1 = (-1))) => ?_) (fun (c0 : ¬ ¬ (q3.1 = (-1))) => ?_)
    · rw [if_neg c0] at hf
      refine Ex.seg 3 (pc' := 38) (lc' := [some (.ref 55), some (.int x1), some (.long q2.1), none, some (.int q3.1)]) (st' := [.int q3.1, .ref 10]) (h' := q3.2) (sg1 rfl rfl (sg1 rfl rfl (sg1 rfl rfl rfl))) ?_
      obtain ⟨q4, e_q4, hf⟩ := bnd hf
      refine Ex.callV (a := 10) (As := [.int q3.1]) (r := []) (v := some (.int q4.1)) (h' := q4.2) rfl rfl (by decide) rfl (Nat.le_of_ble_eq_true rfl) rfl (E_44 (by omega) e_q4) rfl ?_
      refine Ex.ifc rfl rfl (fun (c0 : ¬ (q4.1 = 0)) => ?_) (fun (c0 : ¬ ¬ (q4.1 = 0)) => ?_)
      · rw [if_neg c0] at hf
        refine Ex.seg 3 (pc' := 58) (lc' := [some (.ref 55), some (.int x1), some (.long q2.1), none, some (.int q3.1)]) (st' := [.long q2.1, .int q3.1, .ref 55]) (h' := q4.2) (sg1 rfl rfl (sg1 rfl rfl (sg1 rfl rfl rfl))) ?_
        obtain ⟨q5, e_q5, hf⟩ := bnd hf
        refine Ex.callV (a := 55) (As := [.int q3.1, .long q2.1]) (r := []) (v := some (.int q5.1)) (h' := q5.2) rfl rfl (by decide) rfl (Nat.le_of_ble_eq_true rfl) rfl (E_188 (by omega) e_q5) rfl ?_
        refine Ex.ifc rfl rfl (fun (c0 : q5.1 = 0) => ?_) (fun (c0 : ¬ (q5.1 = 0)) => ?_)
        · rw [if_pos c0] at hf
          exact Ex.weak (sm_le_n (sm_le_n (sm_le_n (sm_le_s (sm_le_n sm_le_nil))))) (B_207_75 hrec hd  hf hs)
        · rw [if_neg c0] at hf
          refine Ex.seg 1 (pc' := 65) (lc' := [some (.ref 55), some (.int x1), some (.long q2.1), none, some (.int q3.1)]) (st' := [.ref 55]) (h' := q5.2) (sg1 rfl rfl rfl) ?_
          obtain ⟨q6, e_q6, hf⟩ := bnd hf
          refine Ex.callV (a := 55) (As := []) (r := []) (v := some (.int q6.1)) (h' := q6.2) rfl rfl (by decide) rfl (Nat.le_of_ble_eq_true rfl) rfl (E_175 (by omega) e_q6) rfl ?_
          refine Ex.ifc rfl rfl (fun (c0 : q6.1 = 0) => ?_) (fun (c0 : ¬ (q6.1 = 0)) => ?_)
          · rw [if_pos c0] at hf
            exact Ex.weak (sm_le_n (sm_le_n (sm_le_n (sm_le_s (sm_le_n sm_le_nil))))) (B_207_75 hrec hd  hf hs)
          · rw [if_neg c0] at hf
            refine Ex.seg 2 (pc' := 76) (lc' := [some (.ref 55), some (.int x1), some (.long q2.1), none, some (.int q3.1)]) (st' := [.int 1]) (h' := q6.2) (sg1 rfl rfl (sg1 rfl rfl rfl)) ?_
            exact Ex.weak (sm_le_n (sm_le_n (sm_le_n (sm_le_s (sm_le_n sm_le_nil))))) (B_207_76 hrec hd  hf hs)
      · rw [if_pos (Classical.not_not.mp c0)] at hf
        refine Ex.seg 3 (pc' := 48) (lc' := [some (.ref 55), some (.int x1), some (.long q2.1), none, some (.int q3.1)]) (st' := [.int x1, .int 7, .ref 55]) (h' := q4.2) (sg1 rfl rfl (sg1 rfl rfl (sg1 rfl rfl rfl))) ?_
        obtain ⟨q7, e_q7, hf⟩ := bnd hf
        refine Ex.callV (a := 55) (As := [.int 7, .int x1]) (r := []) (v := some (.int q7.1)) (h' := q7.2) rfl rfl (by decide) rfl (Nat.le_of_ble_eq_true rfl) rfl (E_169 (by omega) e_q7) rfl ?_
        refine Ex.seg 2 (pc' := 53) (lc' := [some (.ref 55), some (.int x1), some (.long q2.1), none, some (.int q3.1)]) (st' := [.int 0]) (h' := q7.2) (sg1 rfl rfl (sg1 rfl rfl rfl)) ?_
        obtain rfl := Option.some.inj hf
        exact Ex.iret rfl rfl (fun _ => by decide) hs
    · rw [if_pos (Classical.not_not.mp c0)] at hf
      refine Ex.seg 1 (pc' := 31) (lc' := [some (.ref 55), some (.int x1), some (.long q2.1), none, some (.int q3.1)]) (st' := [.int 0]) (h' := q3.2) (sg1 rfl rfl rfl) ?_
      obtain rfl := Option.some.inj hf
      exact Ex.iret rfl rfl (fun _ => by decide) hs
  · rw [if_pos (Classical.not_not.mp c0)] at hf
    refine Ex.seg 1 (pc' := 9) (lc' := [some (.ref 55), some (.int x1), none, none, none]) (st' := [.int 0]) (h' := q1.2) (sg1 rfl rfl rfl) ?_
    obtain rfl := Option.some.inj hf
    exact Ex.iret rfl rfl (fun _ => by decide) hs
/-- HandleHouse$Texts.readsVariable(I)Z -/
abbrev F_207 (rec : sm_H → Option (Int32 × sm_H)) (x1 : Int32) (h : sm_H) : Option (Int32 × sm_H) := F_207_0 rec x1 h
theorem E_207 {L : Nat} {xs : Nat → Int32} {d : Nat} {M : Nat} {rec : sm_H → Option (Int32 × sm_H)} (hrec : ∀ d, M ≤ d → ∀ (h : sm_H) (q : Int32 × sm_H), rec h = some q → RUN L xs d 194 [.ref 55] h (some (.int q.1), q.2)) (hd : 5 + M ≤ d) {x1 : Int32} {h : sm_H} {r : Int32 × sm_H} (hf : F_207 rec x1 h = some r) : RUN L xs d 207 [.ref 55, .int x1] h (some (.int r.1), r.2) := by
  obtain ⟨d, rfl⟩ : ∃ e, d = e + 1 := ⟨d - 1, by omega⟩
  exact ⟨Nat.le_of_ble_eq_true rfl, B_207_0 hrec (by omega) hf rfl⟩
def F_212_80 (rec : sm_H → Option (Int32 × sm_H))  (h : sm_H) : Option (Int32 × sm_H) :=
  some (0, h)
theorem B_212_80 {L : Nat} {xs : Nat → Int32} {d : Nat} {M : Nat} {rec : sm_H → Option (Int32 × sm_H)} (hrec : ∀ d, M ≤ d → ∀ (h : sm_H) (q : Int32 × sm_H), rec h = some q → RUN L xs d 194 [.ref 55] h (some (.int q.1), q.2)) (hd : 5 + M ≤ d) {res : Option Value × sm_H}   {h : sm_H} {r : (Int32 × sm_H)} (hf : F_212_80 rec  h = some r) (hs : (fun (r : Int32 × sm_H) => res = (some (.int r.1), r.2)) r) : Ex (P_G L xs) (RUN L xs d) (sm_lk P_t212) 0 80 [none, none, none, none] [] h res := by
  unfold F_212_80 at hf
  refine Ex.seg 1 (pc' := 81) (lc' := [none, none, none, none]) (st' := [.int 0]) (h' := h) (sg1 rfl rfl rfl) ?_
  obtain rfl := Option.some.inj hf
  exact Ex.iret rfl rfl (fun c0 => by cases c0) hs
def F_212_58 (rec : sm_H → Option (Int32 × sm_H)) (y1 : Int32) (y2 : Int32) (h : sm_H) : Option ((Int32 × Int32 × sm_H) ⊕ (Int32 × sm_H)) :=
  if (h.1 55 17) = 0 then ((F_173 h).bind fun q1 =>
  if q1.1 = 0 then ((F_212_80 rec  q1.2).map fun r => (.inr r))
  else ((F_207 rec y1 q1.2).bind fun q2 =>
  if q2.1 = 0 then ((F_212_80 rec  q2.2).map fun r => (.inr r))
  else ((some (y2 + 1 : Int32)).bind fun v3 =>
  some (.inl (y1, v3, q2.2)))))
  else ((F_212_80 rec  h).map fun r => (.inr r))
theorem B_212_58 {L : Nat} {xs : Nat → Int32} {d : Nat} {M : Nat} {rec : sm_H → Option (Int32 × sm_H)} (hrec : ∀ d, M ≤ d → ∀ (h : sm_H) (q : Int32 × sm_H), rec h = some q → RUN L xs d 194 [.ref 55] h (some (.int q.1), q.2)) (hd : 5 + M ≤ d) {res : Option Value × sm_H} {S1 : (Int32 × Int32 × sm_H) → Prop} (hS1 : ∀ s, S1 s → Ex (P_G L xs) (RUN L xs d) (sm_lk P_t212) 0 11 [some (.ref 55), some (.int s.1), some (.int s.2.1), none] [] s.2.2 res) {y1 : Int32} {y2 : Int32}  {h : sm_H} {r : ((Int32 × Int32 × sm_H) ⊕ (Int32 × sm_H))} (hf : F_212_58 rec y1 y2 h = some r) (hs : (Sum.elim S1 (fun (r : Int32 × sm_H) => res = (some (.int r.1), r.2))) r) : Ex (P_G L xs) (RUN L xs d) (sm_lk P_t212) 0 58 [some (.ref 55), some (.int y1), some (.int y2), none] [] h res := by
  unfold F_212_58 at hf
  refine Ex.seg 2 (pc' := 62) (lc' := [some (.ref 55), some (.int y1), some (.int y2), none]) (st' := [.int (h.1 55 17)]) (h' := h) (sg1 rfl rfl (sg1 rfl rfl rfl)) ?_
  refine Ex.ifc rfl rfl (fun (c0 : ¬ ((h.1 55 17) = 0)) => ?_) (fun (c0 : ¬ ¬ ((h.1 55 17) = 0)) => ?_)
  · rw [if_neg c0] at hf
    obtain ⟨r0, hf0, rfl⟩ := Option.map_eq_some_iff.mp hf
    exact Ex.weak (sm_le_n (sm_le_n (sm_le_n (sm_le_s sm_le_nil)))) (B_212_80 hrec hd  hf0 hs)
  · rw [if_pos (Classical.not_not.mp c0)] at hf
    refine Ex.seg 1 (pc' := 66) (lc' := [some (.ref 55), some (.int y1), some (.int y2), none]) (st' := [.ref 55]) (h' := h) (sg1 rfl rfl rfl) ?_
    obtain ⟨q1, e_q1, hf⟩ := bnd hf
    refine Ex.callV (a := 55) (As := []) (r := []) (v := some (.int q1.1)) (h' := q1.2) rfl rfl (by decide) rfl (Nat.le_of_ble_eq_true rfl) rfl (E_173 (by omega) e_q1) rfl ?_
    refine Ex.ifc rfl rfl (fun (c0 : q1.1 = 0) => ?_) (fun (c0 : ¬ (q1.1 = 0)) => ?_)
    · rw [if_pos c0] at hf
      obtain ⟨r0, hf0, rfl⟩ := Option.map_eq_some_iff.mp hf
      exact Ex.weak (sm_le_n (sm_le_n (sm_le_n (sm_le_s sm_le_nil)))) (B_212_80 hrec hd  hf0 hs)
    · rw [if_neg c0] at hf
      refine Ex.seg 2 (pc' := 74) (lc' := [some (.ref 55), some (.int y1), some (.int y2), none]) (st' := [.int y1, .ref 55]) (h' := q1.2) (sg1 rfl rfl (sg1 rfl rfl rfl)) ?_
      obtain ⟨q2, e_q2, hf⟩ := bnd hf
      refine Ex.callV (a := 55) (As := [.int y1]) (r := []) (v := some (.int q2.1)) (h' := q2.2) rfl rfl (by decide) rfl (Nat.le_of_ble_eq_true rfl) rfl (E_207 hrec (by omega) e_q2) rfl ?_
      refine Ex.ifc rfl rfl (fun (c0 : ¬ (q2.1 = 0)) => ?_) (fun (c0 : ¬ ¬ (q2.1 = 0)) => ?_)
      · rw [if_neg c0] at hf
        refine Ex.seg 1 (pc' := 85) (lc' := [some (.ref 55), some (.int y1), some (.int (y2 + 1)), none]) (st' := []) (h' := q2.2) (sg1 rfl rfl rfl) ?_
        obtain ⟨v3, e_v3, hf⟩ := bnd hf
        rw [Option.some.inj e_v3]
        refine Ex.seg 1 (pc' := 11) (lc' := [some (.ref 55), some (.int y1), some (.int v3), none]) (st' := []) (h' := q2.2) (sg1 rfl rfl rfl) ?_
        obtain rfl := Option.some.inj hf
        exact Ex.weak (sm_le_s (sm_le_s (sm_le_s (sm_le_s sm_le_nil)))) (hS1 _ hs)
      · rw [if_pos (Classical.not_not.mp c0)] at hf
        obtain ⟨r0, hf0, rfl⟩ := Option.map_eq_some_iff.mp hf
        exact Ex.weak (sm_le_n (sm_le_n (sm_le_n (sm_le_s sm_le_nil)))) (B_212_80 hrec hd  hf0 hs)
def F_212_52 (rec : sm_H → Option (Int32 × sm_H)) (y1 : Int32) (y2 : Int32) (h : sm_H) : Option ((Int32 × Int32 × sm_H) ⊕ (Int32 × sm_H)) :=
  (F_170 4 h).bind fun q4 =>
  F_212_58 rec  y1 y2 q4.2
theorem B_212_52 {L : Nat} {xs : Nat → Int32} {d : Nat} {M : Nat} {rec : sm_H → Option (Int32 × sm_H)} (hrec : ∀ d, M ≤ d → ∀ (h : sm_H) (q : Int32 × sm_H), rec h = some q → RUN L xs d 194 [.ref 55] h (some (.int q.1), q.2)) (hd : 5 + M ≤ d) {res : Option Value × sm_H} {S1 : (Int32 × Int32 × sm_H) → Prop} (hS1 : ∀ s, S1 s → Ex (P_G L xs) (RUN L xs d) (sm_lk P_t212) 0 11 [some (.ref 55), some (.int s.1), some (.int s.2.1), none] [] s.2.2 res) {y1 : Int32} {y2 : Int32}  {h : sm_H} {r : ((Int32 × Int32 × sm_H) ⊕ (Int32 × sm_H))} (hf : F_212_52 rec y1 y2 h = some r) (hs : (Sum.elim S1 (fun (r : Int32 × sm_H) => res = (some (.int r.1), r.2))) r) : Ex (P_G L xs) (RUN L xs d) (sm_lk P_t212) 0 52 [some (.ref 55), some (.int y1), some (.int y2), none] [] h res := by
  unfold F_212_52 at hf
  refine Ex.seg 2 (pc' := 54) (lc' := [some (.ref 55), some (.int y1), some (.int y2), none]) (st' := [.int 4, .ref 55]) (h' := h) (sg1 rfl rfl (sg1 rfl rfl rfl)) ?_
  obtain ⟨q4, e_q4, hf⟩ := bnd hf
  refine Ex.callV (a := 55) (As := [.int 4]) (r := []) (v := some (.int q4.1)) (h' := q4.2) rfl rfl (by decide) rfl (Nat.le_of_ble_eq_true rfl) rfl (E_170 (by omega) e_q4) rfl ?_
  refine Ex.seg 1 (pc' := 58) (lc' := [some (.ref 55), some (.int y1), some (.int y2), none]) (st' := []) (h' := q4.2) (sg1 rfl rfl rfl) ?_
  exact Ex.weak (sm_le_s (sm_le_s (sm_le_s (sm_le_s sm_le_nil)))) (B_212_58 hrec hd hS1 hf hs)
def F_212_42 (rec : sm_H → Option (Int32 × sm_H)) (y1 : Int32) (y2 : Int32) (y3 : Int32) (h : sm_H) : Option ((Int32 × Int32 × sm_H) ⊕ (Int32 × sm_H)) :=
  if y3 = 1 then (if y2 = 3 then (F_212_52 rec  y1 y2 h)
  else (F_212_58 rec  y1 y2 h))
  else (F_212_52 rec  y1 y2 h)
theorem B_212_42 {L : Nat} {xs : Nat → Int32} {d : Nat} {M : Nat} {rec : sm_H → Option (Int32 × sm_H)} (hrec : ∀ d, M ≤ d → ∀ (h : sm_H) (q : Int32 × sm_H), rec h = some q → RUN L xs d 194 [.ref 55] h (some (.int q.1), q.2)) (hd : 5 + M ≤ d) {res : Option Value × sm_H} {S1 : (Int32 × Int32 × sm_H) → Prop} (hS1 : ∀ s, S1 s → Ex (P_G L xs) (RUN L xs d) (sm_lk P_t212) 0 11 [some (.ref 55), some (.int s.1), some (.int s.2.1), none] [] s.2.2 res) {y1 : Int32} {y2 : Int32} {y3 : Int32}  {h : sm_H} {r : ((Int32 × Int32 × sm_H) ⊕ (Int32 × sm_H))} (hf : F_212_42 rec y1 y2 y3 h = some r) (hs : (Sum.elim S1 (fun (r : Int32 × sm_H) => res = (some (.int r.1), r.2))) r) : Ex (P_G L xs) (RUN L xs d) (sm_lk P_t212) 0 42 [some (.ref 55), some (.int y1), some (.int y2), some (.int y3)] [] h res := by
  unfold F_212_42 at hf
  refine Ex.seg 2 (pc' := 44) (lc' := [some (.ref 55), some (.int y1), some (.int y2), some (.int y3)]) (st' := [.int 1, .int y3]) (h' := h) (sg1 rfl rfl (sg1 rfl rfl rfl)) ?_
  refine Ex.icmp rfl rfl (fun (c0 : ¬ (y3 = 1)) => ?_) (fun (c0 : ¬ ¬ (y3 = 1)) => ?_)
  · rw [if_neg c0] at hf
    exact Ex.weak (sm_le_s (sm_le_s (sm_le_s (sm_le_n sm_le_nil)))) (B_212_52 hrec hd hS1 hf hs)
  · rw [if_pos (Classical.not_not.mp c0)] at hf
    refine Ex.seg 2 (pc' := 49) (lc' := [some (.ref 55), some (.int y1), some (.int y2), some (.int y3)]) (st' := [.int 3, .int y2]) (h' := h) (sg1 rfl rfl (sg1 rfl rfl rfl)) ?_
    refine Ex.icmp rfl rfl (fun (c0 : ¬ (y2 = 3)) => ?_) (fun (c0 : ¬ ¬ (y2 = 3)) => ?_)
    · rw [if_neg c0] at hf
      exact Ex.weak (sm_le_s (sm_le_s (sm_le_s (sm_le_n sm_le_nil)))) (B_212_58 hrec hd hS1 hf hs)
    · rw [if_pos (Classical.not_not.mp c0)] at hf
      exact Ex.weak (sm_le_s (sm_le_s (sm_le_s (sm_le_n sm_le_nil)))) (B_212_52 hrec hd hS1 hf hs)
def F_212_11B (rec : sm_H → Option (Int32 × sm_H)) (s : (Int32 × Int32 × sm_H)) : Option ((Int32 × Int32 × sm_H) ⊕ (Int32 × sm_H)) :=
  if 3 < s.2.1 then (some (.inr (0, s.2.2)))
  else ((F_171 s.2.2).bind fun q5 =>
  if q5.1 = 2 then (if s.2.1 ≤ 0 then (F_212_42 rec  s.1 s.2.1 q5.1 q5.2)
  else ((some (sm_wI q5.2 55 16 ((q5.2.1 55 16) - 1))).bind fun h6 =>
  some (.inr (s.2.1, h6))))
  else (F_212_42 rec  s.1 s.2.1 q5.1 q5.2))
theorem B_212_11B {L : Nat} {xs : Nat → Int32} {d : Nat} {M : Nat} {rec : sm_H → Option (Int32 × sm_H)} (hrec : ∀ d, M ≤ d → ∀ (h : sm_H) (q : Int32 × sm_H), rec h = some q → RUN L xs d 194 [.ref 55] h (some (.int q.1), q.2)) (hd : 5 + M ≤ d) {res : Option Value × sm_H} {S1 : (Int32 × Int32 × sm_H) → Prop} (hS1 : ∀ s, S1 s → Ex (P_G L xs) (RUN L xs d) (sm_lk P_t212) 0 11 [some (.ref 55), some (.int s.1), some (.int s.2.1), none] [] s.2.2 res) {s : (Int32 × Int32 × sm_H)}  {r : ((Int32 × Int32 × sm_H) ⊕ (Int32 × sm_H))} (hf : F_212_11B rec s = some r) (hs : (Sum.elim S1 (fun (r : Int32 × sm_H) => res = (some (.int r.1), r.2))) r) : Ex (P_G L xs) (RUN L xs d) (sm_lk P_t212) 0 11 [some (.ref 55), some (.int s.1), some (.int s.2.1), none] [] s.2.2 res := by
  unfold F_212_11B at hf
  refine Ex.seg 2 (pc' := 13) (lc' := [some (.ref 55), some (.int s.1), some (.int s.2.1), none]) (st' := [.int 3, .int s.2.1]) (h' := s.2.2) (sg1 rfl rfl (sg1 rfl rfl rfl)) ?_
  refine Ex.icmp rfl rfl (fun (c0 : 3 < s.2.1) => ?_) (fun (c0 : ¬ (3 < s.2.1)) => ?_)
  · rw [if_pos c0] at hf
    refine Ex.seg 1 (pc' := 89) (lc' := [some (.ref 55), some (.int s.1), some (.int s.2.1), none]) (st' := [.int 0]) (h' := s.2.2) (sg1 rfl rfl rfl) ?_
    obtain rfl := Option.some.inj hf
    exact Ex.iret rfl rfl (fun c0 => by cases c0) hs
  · rw [if_neg c0] at hf
    refine Ex.seg 1 (pc' := 17) (lc' := [some (.ref 55), some (.int s.1), some (.int s.2.1), none]) (st' := [.ref 55]) (h' := s.2.2) (sg1 rfl rfl rfl) ?_
    obtain ⟨q5, e_q5, hf⟩ := bnd hf
    refine Ex.callV (a := 55) (As := []) (r := []) (v := some (.int q5.1)) (h' := q5.2) rfl rfl (by decide) rfl (Nat.le_of_ble_eq_true rfl) rfl (E_171 (by omega) e_q5) rfl ?_
    refine Ex.seg 3 (pc' := 23) (lc' := [some (.ref 55), some (.int s.1), some (.int s.2.1), some (.int q5.1)]) (st' := [.int 2, .int q5.1]) (h' := q5.2) (sg1 rfl rfl (sg1 rfl rfl (sg1 rfl rfl rfl))) ?_
    refine Ex.icmp rfl rfl (fun (c0 : ¬ (q5.1 = 2)) => ?_) (fun (c0 : ¬ ¬ (q5.1 = 2)) => ?_)
    · rw [if_neg c0] at hf
      exact Ex.weak (sm_le_s (sm_le_s (sm_le_s (sm_le_s sm_le_nil)))) (B_212_42 hrec hd hS1 hf hs)
    · rw [if_pos (Classical.not_not.mp c0)] at hf
      refine Ex.seg 1 (pc' := 27) (lc' := [some (.ref 55), some (.int s.1), some (.int s.2.1), some (.int q5.1)]) (st' := [.int s.2.1]) (h' := q5.2) (sg1 rfl rfl rfl) ?_
      refine Ex.ifc rfl rfl (fun (c0 : s.2.1 ≤ 0) => ?_) (fun (c0 : ¬ (s.2.1 ≤ 0)) => ?_)
      · rw [if_pos c0] at hf
        exact Ex.weak (sm_le_s (sm_le_s (sm_le_s (sm_le_s sm_le_nil)))) (B_212_42 hrec hd hS1 hf hs)
      · rw [if_neg c0] at hf
        refine Ex.seg 6 (pc' := 40) (lc' := [some (.ref 55), some (.int s.1), some (.int s.2.1), some (.int q5.1)]) (st' := []) (h' := (sm_wI q5.2 55 16 ((q5.2.1 55 16) - 1))) (sg1 rfl rfl (sg1 rfl rfl (sg1 rfl rfl (sg1 rfl rfl (sg1 rfl rfl (sg1 rfl rfl rfl)))))) ?_
        obtain ⟨h6, e_h6, hf⟩ := bnd hf
        rw [Option.some.inj e_h6]
        refine Ex.seg 1 (pc' := 41) (lc' := [some (.ref 55), some (.int s.1), some (.int s.2.1), some (.int q5.1)]) (st' := [.int s.2.1]) (h' := h6) (sg1 rfl rfl rfl) ?_
        obtain rfl := Option.some.inj hf
        exact Ex.iret rfl rfl (fun c0 => by cases c0) hs
def F_212_11 (rec : sm_H → Option (Int32 × sm_H)) (y1 : Int32) (y2 : Int32) (h : sm_H) : Option (Int32 × sm_H) := lp (F_212_11B rec ) 1000000 (y1, y2, h)
theorem B_212_11 {L : Nat} {xs : Nat → Int32} {d : Nat} {M : Nat} {rec : sm_H → Option (Int32 × sm_H)} (hrec : ∀ d, M ≤ d → ∀ (h : sm_H) (q : Int32 × sm_H), rec h = some q → RUN L xs d 194 [.ref 55] h (some (.int q.1), q.2)) (hd : 5 + M ≤ d) {res : Option Value × sm_H} {y1 : Int32} {y2 : Int32}  {h : sm_H} {r : (Int32 × sm_H)} (hf : F_212_11 rec y1 y2 h = some r) (hs : (fun (r : Int32 × sm_H) => res = (some (.int r.1), r.2)) r) : Ex (P_G L xs) (RUN L xs d) (sm_lk P_t212) 0 11 [some (.ref 55), some (.int y1), some (.int y2), none] [] h res := by
  unfold F_212_11 at hf
  exact lp_ok (P := fun (s : (Int32 × Int32 × sm_H)) => Ex (P_G L xs) (RUN L xs d) (sm_lk P_t212) 0 11 [some (.ref 55), some (.int s.1), some (.int s.2.1), none] [] s.2.2 res) (S := (fun (r : Int32 × sm_H) => res = (some (.int r.1), r.2))) (fun s x hx hsx => by
    intros
    exact B_212_11B hrec hd  (fun _ q => q) hx hsx) 1000000 _ r hf hs
def F_212_0 (rec : sm_H → Option (Int32 × sm_H)) (x1 : Int32) (h : sm_H) : Option (Int32 × sm_H) :=
  (F_174 h).bind fun q7 =>
  if q7.1 = 0 then (some (0, q7.2))
  else (F_212_11 rec  x1 0 q7.2)
theorem B_212_0 {L : Nat} {xs : Nat → Int32} {d : Nat} {M : Nat} {rec : sm_H → Option (Int32 × sm_H)} (hrec : ∀ d, M ≤ d → ∀ (h : sm_H) (q : Int32 × sm_H), rec h = some q → RUN L xs d 194 [.ref 55] h (some (.int q.1), q.2)) (hd : 5 + M ≤ d) {res : Option Value × sm_H} {x1 : Int32}  {h : sm_H} {r : (Int32 × sm_H)} (hf : F_212_0 rec x1 h = some r) (hs : (fun (r : Int32 × sm_H) => res = (some (.int r.1), r.2)) r) : Ex (P_G L xs) (RUN L xs d) (sm_lk P_t212) 0 0 [some (.ref 55), some (.int x1), none, none] [] h res := by
  unfold F_212_0 at hf
  refine Ex.seg 1 (pc' := 1) (lc' := [some (.ref 55), some (.int x1), none, none]) (st' := [.ref 55]) (h' := h) (sg1 rfl rfl rfl) ?_
  obtain ⟨q7, e_q7, hf⟩ := bnd hf
  refine Ex.callV (a := 55) (As := []) (r := []) (v := some (.int q7.1)) (h' := q7.2) rfl rfl (by decide) rfl (Nat.le_of_ble_eq_true rfl) rfl (E_174 (by omega) e_q7) rfl ?_
  refine Ex.ifc rfl rfl (fun (c0 : ¬ (q7.1 = 0)) => ?_) (fun (c0 : ¬ ¬ (q7.1 = 0)) => ?_)
  · rw [if_neg c0] at hf
    refine Ex.seg 2 (pc' := 11) (lc' := [some (.ref 55), some (.int x1), some (.int 0), none]) (st' := []) (h' := q7.2) (sg1 rfl rfl (sg1 rfl rfl rfl)) ?_
    exact Ex.weak (sm_le_s (sm_le_s (sm_le_s (sm_le_s sm_le_nil)))) (B_212_11 hrec hd  hf hs)
  · rw [if_pos (Classical.not_not.mp c0)] at hf
    refine Ex.seg 1 (pc' := 8) (lc' := [some (.ref 55), some (.int x1), none, none]) (st' := [.int 0]) (h' := q7.2) (sg1 rfl rfl rfl) ?_
    obtain rfl := Option.some.inj hf
    exact Ex.iret rfl rfl (fun c0 => by cases c0) hs
/-- HandleHouse$Texts.readVariables(I)I -/
abbrev F_212 (rec : sm_H → Option (Int32 × sm_H)) (x1 : Int32) (h : sm_H) : Option (Int32 × sm_H) := F_212_0 rec x1 h
theorem E_212 {L : Nat} {xs : Nat → Int32} {d : Nat} {M : Nat} {rec : sm_H → Option (Int32 × sm_H)} (hrec : ∀ d, M ≤ d → ∀ (h : sm_H) (q : Int32 × sm_H), rec h = some q → RUN L xs d 194 [.ref 55] h (some (.int q.1), q.2)) (hd : 6 + M ≤ d) {x1 : Int32} {h : sm_H} {r : Int32 × sm_H} (hf : F_212 rec x1 h = some r) : RUN L xs d 212 [.ref 55, .int x1] h (some (.int r.1), r.2) := by
  obtain ⟨d, rfl⟩ : ∃ e, d = e + 1 := ⟨d - 1, by omega⟩
  exact ⟨Nat.le_of_ble_eq_true rfl, B_212_0 hrec (by omega) hf rfl⟩
def F_89_163 (rec : Int32 → Int32 → sm_H → Option (Int32 × sm_H)) (z0 : Int32) (h : sm_H) : Option (Int32 × sm_H) :=
  some (z0, h)
theorem B_89_163 {L : Nat} {xs : Nat → Int32} {d : Nat} {M : Nat} {rec : Int32 → Int32 → sm_H → Option (Int32 × sm_H)} (hrec : ∀ d, M ≤ d → ∀ (x1 x2 : Int32) (h : sm_H) (q : Int32 × sm_H), rec x1 x2 h = some q → RUN L xs d 82 [.ref 49, .int x1, .int x2] h (some (.int q.1), q.2)) (hd : 4 + M ≤ d) {res : Option Value × sm_H} {z0 : Int32}  {h : sm_H} {r : (Int32 × sm_H)} (hf : F_89_163 rec z0 h = some r) (hs : (fun (r : Int32 × sm_H) => res = (some (.int r.1), r.2)) r) : Ex (P_G L xs) (RUN L xs d) (sm_lk P_t89) 0 163 [none, none, none, none, none, none, none, none] [.int z0] h res := by
  unfold F_89_163 at hf
  obtain rfl := Option.some.inj hf
  exact Ex.iret rfl rfl (fun c0 => by cases c0) hs
def F_89_3B (rec : Int32 → Int32 → sm_H → Option (Int32 × sm_H)) (s : (Int32 × Int32 × Int32 × Int32 × Int32 × Int32 × sm_H)) : Option ((Int32 × Int32 × Int32 × Int32 × Int32 × Int32 × sm_H) ⊕ (Int32 × sm_H)) :=
  (F_45 s.1 s.2.2.2.2.2.2).bind fun q1 =>
  if q1.1 ≤ s.2.2.2.2.2.1 then ((rec s.1 (s.2.2.2.1 + 1) q1.2).bind fun q2 =>
  if q2.1 = 0 then ((F_44 s.1 q2.2).bind fun q3 =>
  (F_225 s.2.1 q3.2).bind fun q4 =>
  (F_90 q3.1 q4.1 s.2.2.2.2.1 q4.2).bind fun q5 =>
  if q5.1 = 0 then ((F_89_163 rec  0 q5.2).map fun r => (.inr r))
  else ((F_76 q5.1 q5.2).bind fun q6 =>
  (F_89_163 rec  q6.1 q6.2).map fun r => (.inr r)))
  else (some (.inr (q2.1, q2.2))))
  else ((F_77 s.2.2.2.1 (s.2.2.1 + s.2.2.2.2.2.1) q1.2).bind fun q7 =>
  (F_78 s.2.2.2.1 (s.2.2.1 + s.2.2.2.2.2.1) q7.2).bind fun q8 =>
  (F_75 q7.1 q8.1 q8.2).bind fun q9 =>
  (F_227 s.2.1 s.2.2.2.2.2.1 q9.2).bind fun q10 =>
  (F_46 s.1 s.2.2.2.2.2.1 q10.2).bind fun q11 =>
  (F_90 q10.1 q11.1 s.2.2.2.2.1 q11.2).bind fun q12 =>
  if q12.1 = 0 then ((F_79 (s.2.2.2.1 + 1) s.2.2.2.2.2.1 (q12.2.2.1 49 9) (q12.2.1 49 10) q12.2).bind fun q13 =>
  (some (s.2.2.2.2.2.1 + 1 : Int32)).bind fun v14 =>
  some (.inl (s.1, s.2.1, s.2.2.1, s.2.2.2.1, s.2.2.2.2.1, v14, q13)))
  else ((F_76 q12.1 q12.2).bind fun q15 =>
  some (.inr (q15.1, q15.2))))
theorem B_89_3B {L : Nat} {xs : Nat → Int32} {d : Nat} {M : Nat} {rec : Int32 → Int32 → sm_H → Option (Int32 × sm_H)} (hrec : ∀ d, M ≤ d → ∀ (x1 x2 : Int32) (h : sm_H) (q : Int32 × sm_H), rec x1 x2 h = some q → RUN L xs d 82 [.ref 49, .int x1, .int x2] h (some (.int q.1), q.2)) (hd : 4 + M ≤ d) {res : Option Value × sm_H} {S1 : (Int32 × Int32 × Int32 × Int32 × Int32 × Int32 × sm_H) → Prop} (hS1 : ∀ s, S1 s → Ex (P_G L xs) (RUN L xs d) (sm_lk P_t89) 0 3 [some (.ref 49), some (.int s.1), some (.int s.2.1), some (.int s.2.2.1), some (.int s.2.2.2.1), some (.int s.2.2.2.2.1), some (.int s.2.2.2.2.2.1), none] [] s.2.2.2.2.2.2 res) {s : (Int32 × Int32 × Int32 × Int32 × Int32 × Int32 × sm_H)}  {r : ((Int32 × Int32 × Int32 × Int32 × Int32 × Int32 × sm_H) ⊕ (Int32 × sm_H))} (hf : F_89_3B rec s = some r) (hs : (Sum.elim S1 (fun (r : Int32 × sm_H) => res = (some (.int r.1), r.2))) r) : Ex (P_G L xs) (RUN L xs d) (sm_lk P_t89) 0 3 [some (.ref 49), some (.int s.1), some (.int s.2.1), some (.int s.2.2.1), some (.int s.2.2.2.1), some (.int s.2.2.2.2.1), some (.int s.2.2.2.2.2.1), none] [] s.2.2.2.2.2.2 res := by
  unfold F_89_3B at hf
  refine Ex.seg 4 (pc' := 10) (lc' := [some (.ref 49), some (.int s.1), some (.int s.2.1), some (.int s.2.2.1), some (.int s.2.2.2.1), some (.int s.2.2.2.2.1), some (.int s.2.2.2.2.2.1), none]) (st' := [.int s.1, .ref 10, .int s.2.2.2.2.2.1]) (h' := s.2.2.2.2.2.2) (sg1 rfl rfl (sg1 rfl rfl (sg1 rfl rfl (sg1 rfl rfl rfl)))) ?_
  obtain ⟨q1, e_q1, hf⟩ := bnd hf
  refine Ex.callV (a := 10) (As := [.int s.1]) (r := [.int s.2.2.2.2.2.1]) (v := some (.int q1.1)) (h' := q1.2) rfl rfl (by decide) rfl (Nat.le_of_ble_eq_true rfl) rfl (E_45 (by omega) e_q1) rfl ?_
  refine Ex.icmp rfl rfl (fun (c0 : q1.1 ≤ s.2.2.2.2.2.1) => ?_) (fun (c0 : ¬ (q1.1 ≤ s.2.2.2.2.2.1)) => ?_)
  · rw [if_pos c0] at hf
    refine Ex.seg 5 (pc' := 111) (lc' := [some (.ref 49), some (.int s.1), some (.int s.2.1), some (.int s.2.2.1), some (.int s.2.2.2.1), some (.int s.2.2.2.2.1), some (.int s.2.2.2.2.2.1), none]) (st' := [.int (s.2.2.2.1 + 1), .int s.1, .ref 49]) (h' := q1.2) (sg1 rfl rfl (sg1 rfl rfl (sg1 rfl rfl (sg1 rfl rfl (sg1 rfl rfl rfl))))) ?_
    obtain ⟨q2, e_q2, hf⟩ := bnd hf
    refine Ex.callV (a := 49) (As := [.int s.1, .int (s.2.2.2.1 + 1)]) (r := []) (v := some (.int q2.1)) (h' := q2.2) rfl rfl (by decide) rfl (Nat.le_of_ble_eq_true rfl) rfl (hrec d (by omega) _ _ _ _ e_q2) rfl ?_
    refine Ex.seg 2 (pc' := 118) (lc' := [some (.ref 49), some (.int s.1), some (.int s.2.1), some (.int s.2.2.1), some (.int s.2.2.2.1), some (.int s.2.2.2.2.1), some (.int q2.1), none]) (st' := [.int q2.1]) (h' := q2.2) (sg1 rfl rfl (sg1 rfl rfl rfl)) ?_
    refine Ex.ifc rfl rfl (fun (c0 : q2.1 = 0) => ?_) (fun (c0 : ¬ (q2.1 = 0)) => ?_)
    · rw [if_pos c0] at hf
      refine Ex.seg 4 (pc' := 130) (lc' := [some (.ref 49), some (.int s.1), some (.int s.2.1), some (.int s.2.2.1), some (.int s.2.2.2.1), some (.int s.2.2.2.2.1), some (.int q2.1), none]) (st' := [.int s.1, .ref 10, .ref 49]) (h' := q2.2) (sg1 rfl rfl (sg1 rfl rfl (sg1 rfl rfl (sg1 rfl rfl rfl)))) ?_
      obtain ⟨q3, e_q3, hf⟩ := bnd hf
      refine Ex.callV (a := 10) (As := [.int s.1]) (r := [.ref 49]) (v := some (.int q3.1)) (h' := q3.2) rfl rfl (by decide) rfl (Nat.le_of_ble_eq_true rfl) rfl (E_44 (by omega) e_q3) rfl ?_
      refine Ex.seg 3 (pc' := 138) (lc' := [some (.ref 49), some (.int s.1), some (.int s.2.1), some (.int s.2.2.1), some (.int s.2.2.2.1), some (.int s.2.2.2.2.1), some (.int q2.1), none]) (st' := [.int s.2.1, .ref 5, .int q3.1, .ref 49]) (h' := q3.2) (sg1 rfl rfl (sg1 rfl rfl (sg1 rfl rfl rfl))) ?_
      obtain ⟨q4, e_q4, hf⟩ := bnd hf
      refine Ex.callV (a := 5) (As := [.int s.2.1]) (r := [.int q3.1, .ref 49]) (v := some (.int q4.1)) (h' := q4.2) rfl rfl (by decide) rfl (Nat.le_of_ble_eq_true rfl) rfl (E_225 (by omega) e_q4) rfl ?_
      refine Ex.seg 1 (pc' := 143) (lc' := [some (.ref 49), some (.int s.1), some (.int s.2.1), some (.int s.2.2.1), some (.int s.2.2.2.1), some (.int s.2.2.2.2.1), some (.int q2.1), none]) (st' := [.int s.2.2.2.2.1, .int q4.1, .int q3.1, .ref 49]) (h' := q4.2) (sg1 rfl rfl rfl) ?_
      obtain ⟨q5, e_q5, hf⟩ := bnd hf
      refine Ex.callV (a := 49) (As := [.int q3.1, .int q4.1, .int s.2.2.2.2.1]) (r := []) (v := some (.int q5.1)) (h' := q5.2) rfl rfl (by decide) rfl (Nat.le_of_ble_eq_true rfl) rfl (E_90 (by omega) e_q5) rfl ?_
      refine Ex.seg 2 (pc' := 150) (lc' := [some (.ref 49), some (.int s.1), some (.int s.2.1), some (.int s.2.2.1), some (.int s.2.2.2.1), some (.int s.2.2.2.2.1), some (.int q2.1), some (.int q5.1)]) (st' := [.int q5.1]) (h' := q5.2) (sg1 rfl rfl (sg1 rfl rfl rfl)) ?_
      refine Ex.ifc rfl rfl (fun (c0 : ¬ (q5.1 = 0)) => ?_) (fun (c0 : ¬ ¬ (q5.1 = 0)) => ?_)
      · rw [if_neg c0] at hf
        refine Ex.seg 2 (pc' := 160) (lc' := [some (.ref 49), some (.int s.1), some (.int s.2.1), some (.int s.2.2.1), some (.int s.2.2.2.1), some (.int s.2.2.2.2.1), some (.int q2.1), some (.int q5.1)]) (st' := [.int q5.1, .ref 49]) (h' := q5.2) (sg1 rfl rfl (sg1 rfl rfl rfl)) ?_
        obtain ⟨q6, e_q6, hf⟩ := bnd hf
        refine Ex.callV (a := 49) (As := [.int q5.1]) (r := []) (v := some (.int q6.1)) (h' := q6.2) rfl rfl (by decide) rfl (Nat.le_of_ble_eq_true rfl) rfl (E_76 (by omega) e_q6) rfl ?_
        obtain ⟨r0, hf0, rfl⟩ := Option.map_eq_some_iff.mp hf
        exact Ex.weak (sm_le_n (sm_le_n (sm_le_n (sm_le_n (sm_le_n (sm_le_n (sm_le_n (sm_le_n sm_le_nil)))))))) (B_89_163 hrec hd  hf0 hs)
      · rw [if_pos (Classical.not_not.mp c0)] at hf
        refine Ex.seg 2 (pc' := 163) (lc' := [some (.ref 49), some (.int s.1), some (.int s.2.1), some (.int s.2.2.1), some (.int s.2.2.2.1), some (.int s.2.2.2.2.1), some (.int q2.1), some (.int q5.1)]) (st' := [.int 0]) (h' := q5.2) (sg1 rfl rfl (sg1 rfl rfl rfl)) ?_
        obtain ⟨r0, hf0, rfl⟩ := Option.map_eq_some_iff.mp hf
        exact Ex.weak (sm_le_n (sm_le_n (sm_le_n (sm_le_n (sm_le_n (sm_le_n (sm_le_n (sm_le_n sm_le_nil)))))))) (B_89_163 hrec hd  hf0 hs)
    · rw [if_neg c0] at hf
      refine Ex.seg 1 (pc' := 123) (lc' := [some (.ref 49), some (.int s.1), some (.int s.2.1), some (.int s.2.2.1), some (.int s.2.2.2.1), some (.int s.2.2.2.2.1), some (.int q2.1), none]) (st' := [.int q2.1]) (h' := q2.2) (sg1 rfl rfl rfl) ?_
      obtain rfl := Option.some.inj hf
      exact Ex.iret rfl rfl (fun c0 => by cases c0) hs
  · rw [if_neg c0] at hf
    refine Ex.seg 6 (pc' := 24) (lc' := [some (.ref 49), some (.int s.1), some (.int s.2.1), some (.int s.2.2.1), some (.int s.2.2.2.1), some (.int s.2.2.2.2.1), some (.int s.2.2.2.2.2.1), none]) (st' := [.int (s.2.2.1 + s.2.2.2.2.2.1), .int s.2.2.2.1, .ref 49, .ref 49]) (h' := q1.2) (sg1 rfl rfl (sg1 rfl rfl (sg1 rfl rfl (sg1 rfl rfl (sg1 rfl rfl (sg1 rfl rfl rfl)))))) ?_
    obtain ⟨q7, e_q7, hf⟩ := bnd hf
    refine Ex.callV (a := 49) (As := [.int s.2.2.2.1, .int (s.2.2.1 + s.2.2.2.2.2.1)]) (r := [.ref 49]) (v := some (.long q7.1)) (h' := q7.2) rfl rfl (by decide) rfl (Nat.le_of_ble_eq_true rfl) rfl (E_77 (by omega) e_q7) rfl ?_
    refine Ex.seg 5 (pc' := 34) (lc' := [some (.ref 49), some (.int s.1), some (.int s.2.1), some (.int s.2.2.1), some (.int s.2.2.2.1), some (.int s.2.2.2.2.1), some (.int s.2.2.2.2.2.1), none]) (st' := [.int (s.2.2.1 + s.2.2.2.2.2.1), .int s.2.2.2.1, .ref 49, .long q7.1, .ref 49]) (h' := q7.2) (sg1 rfl rfl (sg1 rfl rfl (sg1 rfl rfl (sg1 rfl rfl (sg1 rfl rfl rfl))))) ?_
    obtain ⟨q8, e_q8, hf⟩ := bnd hf
    refine Ex.callV (a := 49) (As := [.int s.2.2.2.1, .int (s.2.2.1 + s.2.2.2.2.2.1)]) (r := [.long q7.1, .ref 49]) (v := some (.int q8.1)) (h' := q8.2) rfl rfl (by decide) rfl (Nat.le_of_ble_eq_true rfl) rfl (E_78 (by omega) e_q8) rfl ?_
    obtain ⟨q9, e_q9, hf⟩ := bnd hf
    refine Ex.callV (a := 49) (As := [.long q7.1, .int q8.1]) (r := []) (v := some (.int q9.1)) (h' := q9.2) rfl rfl (by decide) rfl (Nat.le_of_ble_eq_true rfl) rfl (E_75 (by omega) e_q9) rfl ?_
    refine Ex.seg 6 (pc' := 49) (lc' := [some (.ref 49), some (.int s.1), some (.int s.2.1), some (.int s.2.2.1), some (.int s.2.2.2.1), some (.int s.2.2.2.2.1), some (.int s.2.2.2.2.2.1), none]) (st' := [.int s.2.2.2.2.2.1, .int s.2.1, .ref 5, .ref 49]) (h' := q9.2) (sg1 rfl rfl (sg1 rfl rfl (sg1 rfl rfl (sg1 rfl rfl (sg1 rfl rfl (sg1 rfl rfl rfl)))))) ?_
    obtain ⟨q10, e_q10, hf⟩ := bnd hf
    refine Ex.callV (a := 5) (As := [.int s.2.1, .int s.2.2.2.2.2.1]) (r := [.ref 49]) (v := some (.int q10.1)) (h' := q10.2) rfl rfl (by decide) rfl (Nat.le_of_ble_eq_true rfl) rfl (E_227 (by omega) e_q10) rfl ?_
    refine Ex.seg 4 (pc' := 59) (lc' := [some (.ref 49), some (.int s.1), some (.int s.2.1), some (.int s.2.2.1), some (.int s.2.2.2.1), some (.int s.2.2.2.2.1), some (.int s.2.2.2.2.2.1), none]) (st' := [.int s.2.2.2.2.2.1, .int s.1, .ref 10, .int q10.1, .ref 49]) (h' := q10.2) (sg1 rfl rfl (sg1 rfl rfl (sg1 rfl rfl (sg1 rfl rfl rfl)))) ?_
    obtain ⟨q11, e_q11, hf⟩ := bnd hf
    refine Ex.callV (a := 10) (As := [.int s.1, .int s.2.2.2.2.2.1]) (r := [.int q10.1, .ref 49]) (v := some (.int q11.1)) (h' := q11.2) rfl rfl (by decide) rfl (Nat.le_of_ble_eq_true rfl) rfl (E_46 (by omega) e_q11) rfl ?_
    refine Ex.seg 1 (pc' := 64) (lc' := [some (.ref 49), some (.int s.1), some (.int s.2.1), some (.int s.2.2.1), some (.int s.2.2.2.1), some (.int s.2.2.2.2.1), some (.int s.2.2.2.2.2.1), none]) (st' := [.int s.2.2.2.2.1, .int q11.1, .int q10.1, .ref 49]) (h' := q11.2) (sg1 rfl rfl rfl) ?_
    obtain ⟨q12, e_q12, hf⟩ := bnd hf
    refine Ex.callV (a := 49) (As := [.int q10.1, .int q11.1, .int s.2.2.2.2.1]) (r := []) (v := some (.int q12.1)) (h' := q12.2) rfl rfl (by decide) rfl (Nat.le_of_ble_eq_true rfl) rfl (E_90 (by omega) e_q12) rfl ?_
    refine Ex.seg 2 (pc' := 71) (lc' := [some (.ref 49), some (.int s.1), some (.int s.2.1), some (.int s.2.2.1), some (.int s.2.2.2.1), some (.int s.2.2.2.2.1), some (.int s.2.2.2.2.2.1), some (.int q12.1)]) (st' := [.int q12.1]) (h' := q12.2) (sg1 rfl rfl (sg1 rfl rfl rfl)) ?_
    refine Ex.ifc rfl rfl (fun (c0 : q12.1 = 0) => ?_) (fun (c0 : ¬ (q12.1 = 0)) => ?_)
    · rw [if_pos c0] at hf
      refine Ex.seg 9 (pc' := 96) (lc' := [some (.ref 49), some (.int s.1), some (.int s.2.1), some (.int s.2.2.1), some (.int s.2.2.2.1), some (.int s.2.2.2.2.1), some (.int s.2.2.2.2.2.1), some (.int q12.1)]) (st' := [.int (q12.2.1 49 10), .long (q12.2.2.1 49 9), .int s.2.2.2.2.2.1, .int (s.2.2.2.1 + 1), .ref 49]) (h' := q12.2) (sg1 rfl rfl (sg1 rfl rfl (sg1 rfl rfl (sg1 rfl rfl (sg1 rfl rfl (sg1 rfl rfl (sg1 rfl rfl (sg1 rfl rfl (sg1 rfl rfl rfl))))))))) ?_
      obtain ⟨q13, e_q13, hf⟩ := bnd hf
      refine Ex.callV (a := 49) (As := [.int (s.2.2.2.1 + 1), .int s.2.2.2.2.2.1, .long (q12.2.2.1 49 9), .int (q12.2.1 49 10)]) (r := []) (v := none) (h' := q13) rfl rfl (by decide) rfl (Nat.le_of_ble_eq_true rfl) rfl (E_79 (by omega) e_q13) rfl ?_
      refine Ex.seg 1 (pc' := 102) (lc' := [some (.ref 49), some (.int s.1), some (.int s.2.1), some (.int s.2.2.1), some (.int s.2.2.2.1), some (.int s.2.2.2.2.1), some (.int (s.2.2.2.2.2.1 + 1)), some (.int q12.1)]) (st' := []) (h' := q13) (sg1 rfl rfl rfl) ?_
      obtain ⟨v14, e_v14, hf⟩ := bnd hf
      rw [Option.some.inj e_v14]
      refine Ex.seg 1 (pc' := 3) (lc' := [some (.ref 49), some (.int s.1), some (.int s.2.1), some (.int s.2.2.1), some (.int s.2.2.2.1), some (.int s.2.2.2.2.1), some (.int v14), some (.int q12.1)]) (st' := []) (h' := q13) (sg1 rfl rfl rfl) ?_
      obtain rfl := Option.some.inj hf
      exact Ex.weak (sm_le_s (sm_le_s (sm_le_s (sm_le_s (sm_le_s (sm_le_s (sm_le_s (sm_le_n sm_le_nil)))))))) (hS1 _ hs)
    · rw [if_neg c0] at hf
      refine Ex.seg 2 (pc' := 77) (lc' := [some (.ref 49), some (.int s.1), some (.int s.2.1), some (.int s.2.2.1), some (.int s.2.2.2.1), some (.int s.2.2.2.2.1), some (.int s.2.2.2.2.2.1), some (.int q12.1)]) (st' := [.int q12.1, .ref 49]) (h' := q12.2) (sg1 rfl rfl (sg1 rfl rfl rfl)) ?_
      obtain ⟨q15, e_q15, hf⟩ := bnd hf
      refine Ex.callV (a := 49) (As := [.int q12.1]) (r := []) (v := some (.int q15.1)) (h' := q15.2) rfl rfl (by decide) rfl (Nat.le_of_ble_eq_true rfl) rfl (E_76 (by omega) e_q15) rfl ?_
      obtain rfl := Option.some.inj hf
      exact Ex.iret rfl rfl (fun c0 => by cases c0) hs
def F_89_3 (rec : Int32 → Int32 → sm_H → Option (Int32 × sm_H)) (y1 : Int32) (y2 : Int32) (y3 : Int32) (y4 : Int32) (y5 : Int32) (y6 : Int32) (h : sm_H) : Option (Int32 × sm_H) := lp (F_89_3B rec ) 1000000 (y1, y2, y3, y4, y5, y6, h)
theorem B_89_3 {L : Nat} {xs : Nat → Int32} {d : Nat} {M : Nat} {rec : Int32 → Int32 → sm_H → Option (Int32 × sm_H)} (hrec : ∀ d, M ≤ d → ∀ (x1 x2 : Int32) (h : sm_H) (q : Int32 × sm_H), rec x1 x2 h = some q → RUN L xs d 82 [.ref 49, .int x1, .int x2] h (some (.int q.1), q.2)) (hd : 4 + M ≤ d) {res : Option Value × sm_H} {y1 : Int32} {y2 : Int32} {y3 : Int32} {y4 : Int32} {y5 : Int32} {y6 : Int32}  {h : sm_H} {r : (Int32 × sm_H)} (hf : F_89_3 rec y1 y2 y3 y4 y5 y6 h = some r) (hs : (fun (r : Int32 × sm_H) => res = (some (.int r.1), r.2)) r) : Ex (P_G L xs) (RUN L xs d) (sm_lk P_t89) 0 3 [some (.ref 49), some (.int y1), some (.int y2), some (.int y3), some (.int y4), some (.int y5), some (.int y6), none] [] h res := by
  unfold F_89_3 at hf
  exact lp_ok (P := fun (s : (Int32 × Int32 × Int32 × Int32 × Int32 × Int32 × sm_H)) => Ex (P_G L xs) (RUN L xs d) (sm_lk P_t89) 0 3 [some (.ref 49), some (.int s.1), some (.int s.2.1), some (.int s.2.2.1), some (.int s.2.2.2.1), some (.int s.2.2.2.2.1), some (.int s.2.2.2.2.2.1), none] [] s.2.2.2.2.2.2 res) (S := (fun (r : Int32 × sm_H) => res = (some (.int r.1), r.2))) (fun s x hx hsx => by
    intros
    exact B_89_3B hrec hd  (fun _ q => q) hx hsx) 1000000 _ r hf hs
def F_89_0 (rec : Int32 → Int32 → sm_H → Option (Int32 × sm_H)) (x1 : Int32) (x2 : Int32) (x3 : Int32) (x4 : Int32) (x5 : Int32) (h : sm_H) : Option (Int32 × sm_H) :=
  F_89_3 rec  x1 x2 x3 x4 x5 0 h
theorem B_89_0 {L : Nat} {xs : Nat → Int32} {d : Nat} {M : Nat} {rec : Int32 → Int32 → sm_H → Option (Int32 × sm_H)} (hrec : ∀ d, M ≤ d → ∀ (x1 x2 : Int32) (h : sm_H) (q : Int32 × sm_H), rec x1 x2 h = some q → RUN L xs d 82 [.ref 49, .int x1, .int x2] h (some (.int q.1), q.2)) (hd : 4 + M ≤ d) {res : Option Value × sm_H} {x1 : Int32} {x2 : Int32} {x3 : Int32} {x4 : Int32} {x5 : Int32}  {h : sm_H} {r : (Int32 × sm_H)} (hf : F_89_0 rec x1 x2 x3 x4 x5 h = some r) (hs : (fun (r : Int32 × sm_H) => res = (some (.int r.1), r.2)) r) : Ex (P_G L xs) (RUN L xs d) (sm_lk P_t89) 0 0 [some (.ref 49), some (.int x1), some (.int x2), some (.int x3), some (.int x4), some (.int x5), none, none] [] h res := by
  unfold F_89_0 at hf
  refine Ex.seg 2 (pc' := 3) (lc' := [some (.ref 49), some (.int x1), some (.int x2), some (.int x3), some (.int x4), some (.int x5), some (.int 0), none]) (st' := []) (h' := h) (sg1 rfl rfl (sg1 rfl rfl rfl)) ?_
  exact Ex.weak (sm_le_s (sm_le_s (sm_le_s (sm_le_s (sm_le_s (sm_le_s (sm_le_s (sm_le_s sm_le_nil)))))))) (B_89_3 hrec hd  hf hs)
/-- HandleHouse$Machine.callAs(IIIIZ)I -/
abbrev F_89 (rec : Int32 → Int32 → sm_H → Option (Int32 × sm_H)) (x1 : Int32) (x2 : Int32) (x3 : Int32) (x4 : Int32) (x5 : Int32) (h : sm_H) : Option (Int32 × sm_H) := F_89_0 rec x1 x2 x3 x4 x5 h
theorem E_89 {L : Nat} {xs : Nat → Int32} {d : Nat} {M : Nat} {rec : Int32 → Int32 → sm_H → Option (Int32 × sm_H)} (hrec : ∀ d, M ≤ d → ∀ (x1 x2 : Int32) (h : sm_H) (q : Int32 × sm_H), rec x1 x2 h = some q → RUN L xs d 82 [.ref 49, .int x1, .int x2] h (some (.int q.1), q.2)) (hd : 5 + M ≤ d) {x1 : Int32} {x2 : Int32} {x3 : Int32} {x4 : Int32} {x5 : Int32} {h : sm_H} {r : Int32 × sm_H} (hf : F_89 rec x1 x2 x3 x4 x5 h = some r) : RUN L xs d 89 [.ref 49, .int x1, .int x2, .int x3, .int x4, .int x5] h (some (.int r.1), r.2) := by
  obtain ⟨d, rfl⟩ : ∃ e, d = e + 1 := ⟨d - 1, by omega⟩
  exact ⟨Nat.le_of_ble_eq_true rfl, B_89_0 hrec (by omega) hf rfl⟩
def F_100_74 (rec : Int32 → Int32 → sm_H → Option (Int32 × sm_H)) (y2 : Int32) (z0 : Int32) (h : sm_H) : Option (Int32 × sm_H) :=
  (F_81 y2 z0 h).bind fun q1 =>
  (rec z0 (y2 + 1) q1).bind fun q2 =>
  some (q2.1, q2.2)
theorem B_100_74 {L : Nat} {xs : Nat → Int32} {d : Nat} {M : Nat} {rec : Int32 → Int32 → sm_H → Option (Int32 × sm_H)} (hrec : ∀ d, M ≤ d → ∀ (x1 x2 : Int32) (h : sm_H) (q : Int32 × sm_H), rec x1 x2 h = some q → RUN L xs d 82 [.ref 49, .int x1, .int x2] h (some (.int q.1), q.2)) (hd : 5 + M ≤ d) {res : Option Value × sm_H} {y2 : Int32} {z0 : Int32}  {h : sm_H} {r : (Int32 × sm_H)} (hf : F_100_74 rec y2 z0 h = some r) (hs : (fun (r : Int32 × sm_H) => res = (some (.int r.1), r.2)) r) : Ex (P_G L xs) (RUN L xs d) (sm_lk P_t100) 0 74 [some (.ref 49), none, some (.int y2), none, none, none] [.int z0] h res := by
  unfold F_100_74 at hf
  refine Ex.seg 4 (pc' := 80) (lc' := [some (.ref 49), none, some (.int y2), none, none, some (.int z0)]) (st' := [.int z0, .int y2, .ref 49]) (h' := h) (sg1 rfl rfl (sg1 rfl rfl (sg1 rfl rfl (sg1 rfl rfl rfl)))) ?_
  obtain ⟨q1, e_q1, hf⟩ := bnd hf
  refine Ex.callV (a := 49) (As := [.int y2, .int z0]) (r := []) (v := none) (h' := q1) rfl rfl (by decide) rfl (Nat.le_of_ble_eq_true rfl) rfl (E_81 (by omega) e_q1) rfl ?_
  refine Ex.seg 5 (pc' := 89) (lc' := [some (.ref 49), none, some (.int y2), none, none, some (.int z0)]) (st' := [.int (y2 + 1), .int z0, .ref 49]) (h' := q1) (sg1 rfl rfl (sg1 rfl rfl (sg1 rfl rfl (sg1 rfl rfl (sg1 rfl rfl rfl))))) ?_
  obtain ⟨q2, e_q2, hf⟩ := bnd hf
  refine Ex.callV (a := 49) (As := [.int z0, .int (y2 + 1)]) (r := []) (v := some (.int q2.1)) (h' := q2.2) rfl rfl (by decide) rfl (Nat.le_of_ble_eq_true rfl) rfl (hrec d (by omega) _ _ _ _ e_q2) rfl ?_
  obtain rfl := Option.some.inj hf
  exact Ex.iret rfl rfl (fun c0 => by cases c0) hs
def F_100_42 (rec : Int32 → Int32 → sm_H → Option (Int32 × sm_H)) (y2 : Int32) (y3 : Int32) (z0 : Int32) (h : sm_H) : Option (Int32 × sm_H) :=
  if z0 = 0 then ((F_131 y3 h).bind fun q3 =>
  F_100_74 rec  y2 q3.1 q3.2)
  else ((F_78 y2 0 h).bind fun q4 =>
  (F_133 y3 q4.1 q4.2).bind fun q5 =>
  F_100_74 rec  y2 q5.1 q5.2)
theorem B_100_42 {L : Nat} {xs : Nat → Int32} {d : Nat} {M : Nat} {rec : Int32 → Int32 → sm_H → Option (Int32 × sm_H)} (hrec : ∀ d, M ≤ d → ∀ (x1 x2 : Int32) (h : sm_H) (q : Int32 × sm_H), rec x1 x2 h = some q → RUN L xs d 82 [.ref 49, .int x1, .int x2] h (some (.int q.1), q.2)) (hd : 5 + M ≤ d) {res : Option Value × sm_H} {y2 : Int32} {y3 : Int32} {z0 : Int32}  {h : sm_H} {r : (Int32 × sm_H)} (hf : F_100_42 rec y2 y3 z0 h = some r) (hs : (fun (r : Int32 × sm_H) => res = (some (.int r.1), r.2)) r) : Ex (P_G L xs) (RUN L xs d) (sm_lk P_t100) 0 42 [some (.ref 49), none, some (.int y2), some (.int y3), none, none] [.int z0] h res := by
  unfold F_100_42 at hf
  refine Ex.seg 2 (pc' := 46) (lc' := [some (.ref 49), none, some (.int y2), some (.int y3), some (.int z0), none]) (st' := [.int z0]) (h' := h) (sg1 rfl rfl (sg1 rfl rfl rfl)) ?_
  refine Ex.ifc rfl rfl (fun (c0 : z0 = 0) => ?_) (fun (c0 : ¬ (z0 = 0)) => ?_)
  · rw [if_pos c0] at hf
    refine Ex.seg 3 (pc' := 71) (lc' := [some (.ref 49), none, some (.int y2), some (.int y3), some (.int z0), none]) (st' := [.int y3, .ref 38]) (h' := h) (sg1 rfl rfl (sg1 rfl rfl (sg1 rfl rfl rfl))) ?_
    obtain ⟨q3, e_q3, hf⟩ := bnd hf
    refine Ex.callV (a := 38) (As := [.int y3]) (r := []) (v := some (.int q3.1)) (h' := q3.2) rfl rfl (by decide) rfl (Nat.le_of_ble_eq_true rfl) rfl (E_131 (by omega) e_q3) rfl ?_
    exact Ex.weak (sm_le_s (sm_le_s (sm_le_s (sm_le_n (sm_le_n (sm_le_s sm_le_nil)))))) (B_100_74 hrec hd  hf hs)
  · rw [if_neg c0] at hf
    refine Ex.seg 6 (pc' := 57) (lc' := [some (.ref 49), none, some (.int y2), some (.int y3), some (.int z0), none]) (st' := [.int 0, .int y2, .ref 49, .int y3, .ref 38]) (h' := h) (sg1 rfl rfl (sg1 rfl rfl (sg1 rfl rfl (sg1 rfl rfl (sg1 rfl rfl (sg1 rfl rfl rfl)))))) ?_
    obtain ⟨q4, e_q4, hf⟩ := bnd hf
    refine Ex.callV (a := 49) (As := [.int y2, .int 0]) (r := [.int y3, .ref 38]) (v := some (.int q4.1)) (h' := q4.2) rfl rfl (by decide) rfl (Nat.le_of_ble_eq_true rfl) rfl (E_78 (by omega) e_q4) rfl ?_
    obtain ⟨q5, e_q5, hf⟩ := bnd hf
    refine Ex.callV (a := 38) (As := [.int y3, .int q4.1]) (r := []) (v := some (.int q5.1)) (h' := q5.2) rfl rfl (by decide) rfl (Nat.le_of_ble_eq_true rfl) rfl (E_133 (by omega) e_q5) rfl ?_
    refine Ex.seg 1 (pc' := 74) (lc' := [some (.ref 49), none, some (.int y2), some (.int y3), some (.int z0), none]) (st' := [.int q5.1]) (h' := q5.2) (sg1 rfl rfl rfl) ?_
    exact Ex.weak (sm_le_s (sm_le_s (sm_le_s (sm_le_n (sm_le_n (sm_le_s sm_le_nil)))))) (B_100_74 hrec hd  hf hs)
def F_100_0 (rec : Int32 → Int32 → sm_H → Option (Int32 × sm_H)) (x1 : Int32) (x2 : Int32) (h : sm_H) : Option (Int32 × sm_H) :=
  (F_38 x1 h).bind fun q6 =>
  (F_78 x2 0 q6.2).bind fun q7 =>
  if q7.1 = 0 then ((F_76 1 q7.2).bind fun q9 =>
  some (q9.1, q9.2))
  else ((F_37 x1 q7.2).bind fun q8 =>
  if q8.1 = 36 then (F_100_42 rec  x2 q6.1 1 q8.2)
  else (F_100_42 rec  x2 q6.1 0 q8.2))
theorem B_100_0 {L : Nat} {xs : Nat → Int32} {d : Nat} {M : Nat} {rec : Int32 → Int32 → sm_H → Option (Int32 × sm_H)} (hrec : ∀ d, M ≤ d → ∀ (x1 x2 : Int32) (h : sm_H) (q : Int32 × sm_H), rec x1 x2 h = some q → RUN L xs d 82 [.ref 49, .int x1, .int x2] h (some (.int q.1), q.2)) (hd : 5 + M ≤ d) {res : Option Value × sm_H} {x1 : Int32} {x2 : Int32}  {h : sm_H} {r : (Int32 × sm_H)} (hf : F_100_0 rec x1 x2 h = some r) (hs : (fun (r : Int32 × sm_H) => res = (some (.int r.1), r.2)) r) : Ex (P_G L xs) (RUN L xs d) (sm_lk P_t100) 0 0 [some (.ref 49), some (.int x1), some (.int x2), none, none, none] [] h res := by
  unfold F_100_0 at hf
  refine Ex.seg 3 (pc' := 5) (lc' := [some (.ref 49), some (.int x1), some (.int x2), none, none, none]) (st' := [.int x1, .ref 10]) (h' := h) (sg1 rfl rfl (sg1 rfl rfl (sg1 rfl rfl rfl))) ?_
  obtain ⟨q6, e_q6, hf⟩ := bnd hf
  refine Ex.callV (a := 10) (As := [.int x1]) (r := []) (v := some (.int q6.1)) (h' := q6.2) rfl rfl (by decide) rfl (Nat.le_of_ble_eq_true rfl) rfl (E_38 (by omega) e_q6) rfl ?_
  refine Ex.seg 4 (pc' := 12) (lc' := [some (.ref 49), some (.int x1), some (.int x2), some (.int q6.1), none, none]) (st' := [.int 0, .int x2, .ref 49]) (h' := q6.2) (sg1 rfl rfl (sg1 rfl rfl (sg1 rfl rfl (sg1 rfl rfl rfl)))) ?_
  obtain ⟨q7, e_q7, hf⟩ := bnd hf
  refine Ex.callV (a := 49) (As := [.int x2, .int 0]) (r := []) (v := some (.int q7.1)) (h' := q7.2) rfl rfl (by decide) rfl (Nat.le_of_ble_eq_true rfl) rfl (E_78 (by omega) e_q7) rfl ?_
  refine Ex.ifc rfl rfl (fun (c0 : ¬ (q7.1 = 0)) => ?_) (fun (c0 : ¬ ¬ (q7.1 = 0)) => ?_)
  · rw [if_neg c0] at hf
    refine Ex.seg 3 (pc' := 29) (lc' := [some (.ref 49), some (.int x1), some (.int x2), some (.int q6.1), none, none]) (st' := [.int x1, .ref 10]) (h' := q7.2) (sg1 rfl rfl (sg1 rfl rfl (sg1 rfl rfl rfl))) ?_
    obtain ⟨q8, e_q8, hf⟩ := bnd hf
    refine Ex.callV (a := 10) (As := [.int x1]) (r := []) (v := some (.int q8.1)) (h' := q8.2) rfl rfl (by decide) rfl (Nat.le_of_ble_eq_true rfl) rfl (E_37 (by omega) e_q8) rfl ?_
    refine Ex.seg 1 (pc' := 34) (lc' := [some (.ref 49), some (.int x1), some (.int x2), some (.int q6.1), none, none]) (st' := [.int 36, .int q8.1]) (h' := q8.2) (sg1 rfl rfl rfl) ?_
    refine Ex.icmp rfl rfl (fun (c0 : ¬ (q8.1 = 36)) => ?_) (fun (c0 : ¬ ¬ (q8.1 = 36)) => ?_)
    · rw [if_neg c0] at hf
      refine Ex.seg 1 (pc' := 42) (lc' := [some (.ref 49), some (.int x1), some (.int x2), some (.int q6.1), none, none]) (st' := [.int 0]) (h' := q8.2) (sg1 rfl rfl rfl) ?_
      exact Ex.weak (sm_le_s (sm_le_n (sm_le_s (sm_le_s (sm_le_s (sm_le_s sm_le_nil)))))) (B_100_42 hrec hd  hf hs)
    · rw [if_pos (Classical.not_not.mp c0)] at hf
      refine Ex.seg 2 (pc' := 42) (lc' := [some (.ref 49), some (.int x1), some (.int x2), some (.int q6.1), none, none]) (st' := [.int 1]) (h' := q8.2) (sg1 rfl rfl (sg1 rfl rfl rfl)) ?_
      exact Ex.weak (sm_le_s (sm_le_n (sm_le_s (sm_le_s (sm_le_s (sm_le_s sm_le_nil)))))) (B_100_42 hrec hd  hf hs)
  · rw [if_pos (Classical.not_not.mp c0)] at hf
    refine Ex.seg 2 (pc' := 20) (lc' := [some (.ref 49), some (.int x1), some (.int x2), some (.int q6.1), none, none]) (st' := [.int 1, .ref 49]) (h' := q7.2) (sg1 rfl rfl (sg1 rfl rfl rfl)) ?_
    obtain ⟨q9, e_q9, hf⟩ := bnd hf
    refine Ex.callV (a := 49) (As := [.int 1]) (r := []) (v := some (.int q9.1)) (h' := q9.2) rfl rfl (by decide) rfl (Nat.le_of_ble_eq_true rfl) rfl (E_76 (by omega) e_q9) rfl ?_
    obtain rfl := Option.some.inj hf
    exact Ex.iret rfl rfl (fun c0 => by cases c0) hs
/-- HandleHouse$Machine.callMethod(II)I -/
abbrev F_100 (rec : Int32 → Int32 → sm_H → Option (Int32 × sm_H)) (x1 : Int32) (x2 : Int32) (h : sm_H) : Option (Int32 × sm_H) := F_100_0 rec x1 x2 h
theorem E_100 {L : Nat} {xs : Nat → Int32} {d : Nat} {M : Nat} {rec : Int32 → Int32 → sm_H → Option (Int32 × sm_H)} (hrec : ∀ d, M ≤ d → ∀ (x1 x2 : Int32) (h : sm_H) (q : Int32 × sm_H), rec x1 x2 h = some q → RUN L xs d 82 [.ref 49, .int x1, .int x2] h (some (.int q.1), q.2)) (hd : 6 + M ≤ d) {x1 : Int32} {x2 : Int32} {h : sm_H} {r : Int32 × sm_H} (hf : F_100 rec x1 x2 h = some r) : RUN L xs d 100 [.ref 49, .int x1, .int x2] h (some (.int r.1), r.2) := by
  obtain ⟨d, rfl⟩ : ∃ e, d = e + 1 := ⟨d - 1, by omega⟩
  exact ⟨Nat.le_of_ble_eq_true rfl, B_100_0 hrec (by omega) hf rfl⟩
def F_209_54 (rec : sm_H → Option (Int32 × sm_H))  (h : sm_H) : Option (Int32 × sm_H) :=
  some ((-1), h)
theorem B_209_54 {L : Nat} {xs : Nat → Int32} {d : Nat} {M : Nat} {rec : sm_H → Option (Int32 × sm_H)} (hrec : ∀ d, M ≤ d → ∀ (h : sm_H) (q : Int32 × sm_H), rec h = some q → RUN L xs d 194 [.ref 55] h (some (.int q.1), q.2)) (hd : 6 + M ≤ d) {res : Option Value × sm_H}   {h : sm_H} {r : (Int32 × sm_H)} (hf : F_209_54 rec  h = some r) (hs : (fun (r : Int32 × sm_H) => res = (some (.int r.1), r.2)) r) : Ex (P_G L xs) (RUN L xs d) (sm_lk P_t209) 0 54 [none, none, none, none] [] h res := by
  unfold F_209_54 at hf
  refine Ex.seg 1 (pc' := 55) (lc' := [none, none, none, none]) (st' := [.int (-1)]) (h' := h) (sg1 rfl rfl rfl) ?_
  obtain rfl := Option.some.inj hf
  exact Ex.iret rfl rfl (fun c0 => by cases c0) hs
def F_209_30 (rec : sm_H → Option (Int32 × sm_H))  (h : sm_H) : Option (Int32 × sm_H) :=
  some ((-1), h)
theorem B_209_30 {L : Nat} {xs : Nat → Int32} {d : Nat} {M : Nat} {rec : sm_H → Option (Int32 × sm_H)} (hrec : ∀ d, M ≤ d → ∀ (h : sm_H) (q : Int32 × sm_H), rec h = some q → RUN L xs d 194 [.ref 55] h (some (.int q.1), q.2)) (hd : 6 + M ≤ d) {res : Option Value × sm_H}   {h : sm_H} {r : (Int32 × sm_H)} (hf : F_209_30 rec  h = some r) (hs : (fun (r : Int32 × sm_H) => res = (some (.int r.1), r.2)) r) : Ex (P_G L xs) (RUN L xs d) (sm_lk P_t209) 0 30 [none, none, none, none] [] h res := by
  unfold F_209_30 at hf
  refine Ex.seg 1 (pc' := 31) (lc' := [none, none, none, none]) (st' := [.int (-1)]) (h' := h) (sg1 rfl rfl rfl) ?_
  obtain rfl := Option.some.inj hf
  exact Ex.iret rfl rfl (fun c0 => by cases c0) hs
def F_209_0 (rec : sm_H → Option (Int32 × sm_H)) (x1 : Int32) (h : sm_H) : Option (Int32 × sm_H) :=
  (some ((h.1 55 12) : Int32)).bind fun v1 =>
  (F_174 h).bind fun q2 =>
  if q2.1 = 0 then (F_209_30 rec  q2.2)
  else ((F_207 rec x1 q2.2).bind fun q3 =>
  if q3.1 = 0 then (F_209_30 rec  q3.2)
  else ((F_208 v1 1 x1 q3.2).bind fun q4 =>
  if q4.1 = 0 then (F_209_30 rec  q4.2)
  else ((F_193 rec q4.2).bind fun q5 =>
  (F_184 1 q5.2).bind fun q6 =>
  if q5.1 = (-1) then (F_209_54 rec  q6)
  else ((F_175 q6).bind fun q7 =>
  if q7.1 = 0 then (F_209_54 rec  q7.2)
  else ((F_187 v1 q7.2).bind fun q8 =>
  (F_206 q5.1 q8.1 x1 q8.2).bind fun q9 =>
  some (q9.1, q9.2))))))
theorem B_209_0 {L : Nat} {xs : Nat → Int32} {d : Nat} {M : Nat} {rec : sm_H → Option (Int32 × sm_H)} (hrec : ∀ d, M ≤ d → ∀ (h : sm_H) (q : Int32 × sm_H), rec h = some q → RUN L xs d 194 [.ref 55] h (some (.int q.1), q.2)) (hd : 6 + M ≤ d) {res : Option Value × sm_H} {x1 : Int32}  {h : sm_H} {r : (Int32 × sm_H)} (hf : F_209_0 rec x1 h = some r) (hs : (fun (r : Int32 × sm_H) => res = (some (.int r.1), r.2)) r) : Ex (P_G L xs) (RUN L xs d) (sm_lk P_t209) 0 0 [some (.ref 55), some (.int x1), none, none] [] h res := by
  unfold F_209_0 at hf
  refine Ex.seg 3 (pc' := 5) (lc' := [some (.ref 55), some (.int x1), some (.int (h.1 55 12)), none]) (st' := []) (h' := h) (sg1 rfl rfl (sg1 rfl rfl (sg1 rfl rfl rfl))) ?_
  obtain ⟨v1, e_v1, hf⟩ := bnd hf
  rw [Option.some.inj e_v1]
  refine Ex.seg 1 (pc' := 6) (lc' := [some (.ref 55), some (.int x1), some (.int v1), none]) (st' := [.ref 55]) (h' := h) (sg1 rfl rfl rfl) ?_
  obtain ⟨q2, e_q2, hf⟩ := bnd hf
  refine Ex.callV (a := 55) (As := []) (r := []) (v := some (.int q2.1)) (h' := q2.2) rfl rfl (by decide) rfl (Nat.le_of_ble_eq_true rfl) rfl (E_174 (by omega) e_q2) rfl ?_
  refine Ex.ifc rfl rfl (fun (c0 : q2.1 = 0) => ?_) (fun (c0 : ¬ (q2.1 = 0)) => ?_)
  · rw [if_pos c0] at hf
    exact Ex.weak (sm_le_n (sm_le_n (sm_le_n (sm_le_s sm_le_nil)))) (B_209_30 hrec hd  hf hs)
  · rw [if_neg c0] at hf
    refine Ex.seg 2 (pc' := 14) (lc' := [some (.ref 55), some (.int x1), some (.int v1), none]) (st' := [.int x1, .ref 55]) (h' := q2.2) (sg1 rfl rfl (sg1 rfl rfl rfl)) ?_
    obtain ⟨q3, e_q3, hf⟩ := bnd hf
    refine Ex.callV (a := 55) (As := [.int x1]) (r := []) (v := some (.int q3.1)) (h' := q3.2) rfl rfl (by decide) rfl (Nat.le_of_ble_eq_true rfl) rfl (E_207 hrec (by omega) e_q3) rfl ?_
    refine Ex.ifc rfl rfl (fun (c0 : q3.1 = 0) => ?_) (fun (c0 : ¬ (q3.1 = 0)) => ?_)
    · rw [if_pos c0] at hf
      exact Ex.weak (sm_le_n (sm_le_n (sm_le_n (sm_le_s sm_le_nil)))) (B_209_30 hrec hd  hf hs)
    · rw [if_neg c0] at hf
      refine Ex.seg 4 (pc' := 24) (lc' := [some (.ref 55), some (.int x1), some (.int v1), none]) (st' := [.int x1, .int 1, .int v1, .ref 55]) (h' := q3.2) (sg1 rfl rfl (sg1 rfl rfl (sg1 rfl rfl (sg1 rfl rfl rfl)))) ?_
      obtain ⟨q4, e_q4, hf⟩ := bnd hf
      refine Ex.callV (a := 55) (As := [.int v1, .int 1, .int x1]) (r := []) (v := some (.int q4.1)) (h' := q4.2) rfl rfl (by decide) rfl (Nat.le_of_ble_eq_true rfl) rfl (E_208 (by omega) e_q4) rfl ?_
      refine Ex.ifc rfl rfl (fun (c0 : ¬ (q4.1 = 0)) => ?_) (fun (c0 : ¬ ¬ (q4.1 = 0)) => ?_)
      · rw [if_neg c0] at hf
        refine Ex.seg 1 (pc' := 33) (lc' := [some (.ref 55), some (.int x1), some (.int v1), none]) (st' := [.ref 55]) (h' := q4.2) (sg1 rfl rfl rfl) ?_
        obtain ⟨q5, e_q5, hf⟩ := bnd hf
        refine Ex.callV (a := 55) (As := []) (r := []) (v := some (.int q5.1)) (h' := q5.2) rfl rfl (by decide) rfl (Nat.le_of_ble_eq_true rfl) rfl (E_193 hrec (by omega) e_q5) rfl ?_
        refine Ex.seg 3 (pc' := 39) (lc' := [some (.ref 55), some (.int x1), some (.int v1), some (.int q5.1)]) (st' := [.int 1, .ref 55]) (h' := q5.2) (sg1 rfl rfl (sg1 rfl rfl (sg1 rfl rfl rfl))) ?_
        obtain ⟨q6, e_q6, hf⟩ := bnd hf
        refine Ex.callV (a := 55) (As := [.int 1]) (r := []) (v := none) (h' := q6) rfl rfl (by decide) rfl (Nat.le_of_ble_eq_true rfl) rfl (E_184 (by omega) e_q6) rfl ?_
        refine Ex.seg 2 (pc' := 44) (lc' := [some (.ref 55), some (.int x1), some (.int v1), some (.int q5.1)]) (st' := [.int (-1), .int q5.1]) (h' := q6) (sg1 rfl rfl (sg1 rfl rfl rfl)) ?_
        refine Ex.icmp rfl rfl (fun (c0 : q5.1 = (-1)) => ?_) (fun (c0 : ¬ (q5.1 = (-1))) => ?_)
        · rw [if_pos c0] at hf
          exact Ex.weak (sm_le_n (sm_le_n (sm_le_n (sm_le_n sm_le_nil)))) (B_209_54 hrec hd  hf hs)
        · rw [if_neg c0] at hf
          refine Ex.seg 1 (pc' := 48) (lc' := [some (.ref 55), some (.int x1), some (.int v1), some (.int q5.1)]) (st' := [.ref 55]) (h' := q6) (sg1 rfl rfl rfl) ?_
          obtain ⟨q7, e_q7, hf⟩ := bnd hf
          refine Ex.callV (a := 55) (As := []) (r := []) (v := some (.int q7.1)) (h' := q7.2) rfl rfl (by decide) rfl (Nat.le_of_ble_eq_true rfl) rfl (E_175 (by omega) e_q7) rfl ?_
          refine Ex.ifc rfl rfl (fun (c0 : ¬ (q7.1 = 0)) => ?_) (fun (c0 : ¬ ¬ (q7.1 = 0)) => ?_)
          · rw [if_neg c0] at hf
            refine Ex.seg 4 (pc' := 60) (lc' := [some (.ref 55), some (.int x1), some (.int v1), some (.int q5.1)]) (st' := [.int v1, .ref 55, .int q5.1, .ref 55]) (h' := q7.2) (sg1 rfl rfl (sg1 rfl rfl (sg1 rfl rfl (sg1 rfl rfl rfl)))) ?_
            obtain ⟨q8, e_q8, hf⟩ := bnd hf
            refine Ex.callV (a := 55) (As := [.int v1]) (r := [.int q5.1, .ref 55]) (v := some (.int q8.1)) (h' := q8.2) rfl rfl (by decide) rfl (Nat.le_of_ble_eq_true rfl) rfl (E_187 (by omega) e_q8) rfl ?_
            refine Ex.seg 1 (pc' := 64) (lc' := [some (.ref 55), some (.int x1), some (.int v1), some (.int q5.1)]) (st' := [.int x1, .int q8.1, .int q5.1, .ref 55]) (h' := q8.2) (sg1 rfl rfl rfl) ?_
            obtain ⟨q9, e_q9, hf⟩ := bnd hf
            refine Ex.callV (a := 55) (As := [.int q5.1, .int q8.1, .int x1]) (r := []) (v := some (.int q9.1)) (h' := q9.2) rfl rfl (by decide) rfl (Nat.le_of_ble_eq_true rfl) rfl (E_206 (by omega) e_q9) rfl ?_
            obtain rfl := Option.some.inj hf
            exact Ex.iret rfl rfl (fun c0 => by cases c0) hs
          · rw [if_pos (Classical.not_not.mp c0)] at hf
            exact Ex.weak (sm_le_n (sm_le_n (sm_le_n (sm_le_n sm_le_nil)))) (B_209_54 hrec hd  hf hs)
      · rw [if_pos (Classical.not_not.mp c0)] at hf
        exact Ex.weak (sm_le_n (sm_le_n (sm_le_n (sm_le_s sm_le_nil)))) (B_209_30 hrec hd  hf hs)
/-- HandleHouse$Texts.let(I)I -/
abbrev F_209 (rec : sm_H → Option (Int32 × sm_H)) (x1 : Int32) (h : sm_H) : Option (Int32 × sm_H) := F_209_0 rec x1 h
theorem E_209 {L : Nat} {xs : Nat → Int32} {d : Nat} {M : Nat} {rec : sm_H → Option (Int32 × sm_H)} (hrec : ∀ d, M ≤ d → ∀ (h : sm_H) (q : Int32 × sm_H), rec h = some q → RUN L xs d 194 [.ref 55] h (some (.int q.1), q.2)) (hd : 7 + M ≤ d) {x1 : Int32} {h : sm_H} {r : Int32 × sm_H} (hf : F_209 rec x1 h = some r) : RUN L xs d 209 [.ref 55, .int x1] h (some (.int r.1), r.2) := by
  obtain ⟨d, rfl⟩ : ∃ e, d = e + 1 := ⟨d - 1, by omega⟩
  exact ⟨Nat.le_of_ble_eq_true rfl, B_209_0 hrec (by omega) hf rfl⟩
def F_210_153 (rec : sm_H → Option (Int32 × sm_H)) (z0 : Int32) (h : sm_H) : Option (Int32 × sm_H) :=
  some (z0, h)
theorem B_210_153 {L : Nat} {xs : Nat → Int32} {d : Nat} {M : Nat} {rec : sm_H → Option (Int32 × sm_H)} (hrec : ∀ d, M ≤ d → ∀ (h : sm_H) (q : Int32 × sm_H), rec h = some q → RUN L xs d 194 [.ref 55] h (some (.int q.1), q.2)) (hd : 7 + M ≤ d) {res : Option Value × sm_H} {z0 : Int32}  {h : sm_H} {r : (Int32 × sm_H)} (hf : F_210_153 rec z0 h = some r) (hs : (fun (r : Int32 × sm_H) => res = (some (.int r.1), r.2)) r) : Ex (P_G L xs) (RUN L xs d) (sm_lk P_t210) 0 153 [none, none, none, none, none, none] [.int z0] h res := by
  unfold F_210_153 at hf
  obtain rfl := Option.some.inj hf
  exact Ex.iret rfl rfl (fun c0 => by cases c0) hs
def F_210_95 (rec : sm_H → Option (Int32 × sm_H))  (h : sm_H) : Option (Int32 × sm_H) :=
  some ((-1), h)
theorem B_210_95 {L : Nat} {xs : Nat → Int32} {d : Nat} {M : Nat} {rec : sm_H → Option (Int32 × sm_H)} (hrec : ∀ d, M ≤ d → ∀ (h : sm_H) (q : Int32 × sm_H), rec h = some q → RUN L xs d 194 [.ref 55] h (some (.int q.1), q.2)) (hd : 7 + M ≤ d) {res : Option Value × sm_H}   {h : sm_H} {r : (Int32 × sm_H)} (hf : F_210_95 rec  h = some r) (hs : (fun (r : Int32 × sm_H) => res = (some (.int r.1), r.2)) r) : Ex (P_G L xs) (RUN L xs d) (sm_lk P_t210) 0 95 [none, none, none, none, none, none] [] h res := by
  unfold F_210_95 at hf
  refine Ex.seg 1 (pc' := 96) (lc' := [none, none, none, none, none, none]) (st' := [.int (-1)]) (h' := h) (sg1 rfl rfl rfl) ?_
  obtain rfl := Option.some.inj hf
  exact Ex.iret rfl rfl (fun c0 => by cases c0) hs
def F_210_54 (rec : sm_H → Option (Int32 × sm_H))  (h : sm_H) : Option (Int32 × sm_H) :=
  some ((-1), h)
theorem B_210_54 {L : Nat} {xs : Nat → Int32} {d : Nat} {M : Nat} {rec : sm_H → Option (Int32 × sm_H)} (hrec : ∀ d, M ≤ d → ∀ (h : sm_H) (q : Int32 × sm_H), rec h = some q → RUN L xs d 194 [.ref 55] h (some (.int q.1), q.2)) (hd : 7 + M ≤ d) {res : Option Value × sm_H}   {h : sm_H} {r : (Int32 × sm_H)} (hf : F_210_54 rec  h = some r) (hs : (fun (r : Int32 × sm_H) => res = (some (.int r.1), r.2)) r) : Ex (P_G L xs) (RUN L xs d) (sm_lk P_t210) 0 54 [none, none, none, none, none, none] [] h res := by
  unfold F_210_54 at hf
  refine Ex.seg 1 (pc' := 55) (lc' := [none, none, none, none, none, none]) (st' := [.int (-1)]) (h' := h) (sg1 rfl rfl rfl) ?_
  obtain rfl := Option.some.inj hf
  exact Ex.iret rfl rfl (fun c0 => by cases c0) hs
def F_210_28 (rec : sm_H → Option (Int32 × sm_H))  (h : sm_H) : Option (Int32 × sm_H) :=
  some ((-1), h)
theorem B_210_28 {L : Nat} {xs : Nat → Int32} {d : Nat} {M : Nat} {rec : sm_H → Option (Int32 × sm_H)} (hrec : ∀ d, M ≤ d → ∀ (h : sm_H) (q : Int32 × sm_H), rec h = some q → RUN L xs d 194 [.ref 55] h (some (.int q.1), q.2)) (hd : 7 + M ≤ d) {res : Option Value × sm_H}   {h : sm_H} {r : (Int32 × sm_H)} (hf : F_210_28 rec  h = some r) (hs : (fun (r : Int32 × sm_H) => res = (some (.int r.1), r.2)) r) : Ex (P_G L xs) (RUN L xs d) (sm_lk P_t210) 0 28 [none, none, none, none, none, none] [] h res := by
  unfold F_210_28 at hf
  refine Ex.seg 1 (pc' := 29) (lc' := [none, none, none, none, none, none]) (st' := [.int (-1)]) (h' := h) (sg1 rfl rfl rfl) ?_
  obtain rfl := Option.some.inj hf
  exact Ex.iret rfl rfl (fun c0 => by cases c0) hs
def F_210_0 (rec : sm_H → Option (Int32 × sm_H)) (x1 : Int32) (h : sm_H) : Option (Int32 × sm_H) :=
  (some ((h.1 55 12) : Int32)).bind fun v1 =>
  (F_199 rec 1 h).bind fun q2 =>
  if q2.1 = 0 then (F_210_28 rec  q2.2)
  else ((F_174 q2.2).bind fun q3 =>
  if q3.1 = 0 then (F_210_28 rec  q3.2)
  else ((F_172 4 q3.2).bind fun q4 =>
  if q4.1 = 0 then (F_210_28 rec  q4.2)
  else ((F_248 q4.2).bind fun q5 =>
  (F_175 q5.2).bind fun q6 =>
  if q6.1 = 0 then (F_210_54 rec  q6.2)
  else ((F_182 1 x1 q6.2).bind fun q7 =>
  if q7.1 = 0 then (F_210_54 rec  q7.2)
  else ((F_183 0 q5.1 19 q7.2).bind fun q8 =>
  (F_199 rec 1 q8).bind fun q9 =>
  if q9.1 = 0 then (F_210_95 rec  q9.2)
  else ((F_175 q9.2).bind fun q10 =>
  if q10.1 = 0 then (F_210_95 rec  q10.2)
  else ((F_189 v1 q10.2).bind fun q11 =>
  (F_190 (v1 + 1) q11.1 x1 q11.2).bind fun q12 =>
  if q12.1 = 0 then (F_210_95 rec  q12.2)
  else ((F_184 1 q12.2).bind fun q13 =>
  (F_187 v1 q13).bind fun q14 =>
  (F_187 (v1 + 1) q14.2).bind fun q15 =>
  (F_141 56 q14.1 q15.1 q15.2).bind fun q16 =>
  (F_5 15 19 0 0 q16.1 q16.2).bind fun q17 =>
  if 0 ≤ q17.1 then (F_210_153 rec  q17.1 q17.2)
  else ((F_169 8 x1 q17.2).bind fun q18 =>
  F_210_153 rec  q18.1 q18.2)))))))))
theorem B_210_0 {L : Nat} {xs : Nat → Int32} {d : Nat} {M : Nat} {rec : sm_H → Option (Int32 × sm_H)} (hrec : ∀ d, M ≤ d → ∀ (h : sm_H) (q : Int32 × sm_H), rec h = some q → RUN L xs d 194 [.ref 55] h (some (.int q.1), q.2)) (hd : 7 + M ≤ d) {res : Option Value × sm_H} {x1 : Int32}  {h : sm_H} {r : (Int32 × sm_H)} (hf : F_210_0 rec x1 h = some r) (hs : (fun (r : Int32 × sm_H) => res = (some (.int r.1), r.2)) r) : Ex (P_G L xs) (RUN L xs d) (sm_lk P_t210) 0 0 [some (.ref 55), some (.int x1), none, none, none, none] [] h res := by
  unfold F_210_0 at hf
  refine Ex.seg 3 (pc' := 5) (lc' := [some (.ref 55), some (.int x1), some (.int (h.1 55 12)), none, none, none]) (st' := []) (h' := h) (sg1 rfl rfl (sg1 rfl rfl (sg1 rfl rfl rfl))) ?_
  obtain ⟨v1, e_v1, hf⟩ := bnd hf
  rw [Option.some.inj e_v1]
  refine Ex.seg 2 (pc' := 7) (lc' := [some (.ref 55), some (.int x1), some (.int v1), none, none, none]) (st' := [.int 1, .ref 55]) (h' := h) (sg1 rfl rfl (sg1 rfl rfl rfl)) ?_
  obtain ⟨q2, e_q2, hf⟩ := bnd hf
  refine Ex.callV (a := 55) (As := [.int 1]) (r := []) (v := some (.int q2.1)) (h' := q2.2) rfl rfl (by decide) rfl (Nat.le_of_ble_eq_true rfl) rfl (E_199 hrec (by omega) e_q2) rfl ?_
  refine Ex.ifc rfl rfl (fun (c0 : q2.1 = 0) => ?_) (fun (c0 : ¬ (q2.1 = 0)) => ?_)
  · rw [if_pos c0] at hf
    exact Ex.weak (sm_le_n (sm_le_n (sm_le_n (sm_le_s (sm_le_s (sm_le_s sm_le_nil)))))) (B_210_28 hrec hd  hf hs)
  · rw [if_neg c0] at hf
    refine Ex.seg 1 (pc' := 14) (lc' := [some (.ref 55), some (.int x1), some (.int v1), none, none, none]) (st' := [.ref 55]) (h' := q2.2) (sg1 rfl rfl rfl) ?_
    obtain ⟨q3, e_q3, hf⟩ := bnd hf
    refine Ex.callV (a := 55) (As := []) (r := []) (v := some (.int q3.1)) (h' := q3.2) rfl rfl (by decide) rfl (Nat.le_of_ble_eq_true rfl) rfl (E_174 (by omega) e_q3) rfl ?_
    refine Ex.ifc rfl rfl (fun (c0 : q3.1 = 0) => ?_) (fun (c0 : ¬ (q3.1 = 0)) => ?_)
    · rw [if_pos c0] at hf
      exact Ex.weak (sm_le_n (sm_le_n (sm_le_n (sm_le_s (sm_le_s (sm_le_s sm_le_nil)))))) (B_210_28 hrec hd  hf hs)
    · rw [if_neg c0] at hf
      refine Ex.seg 2 (pc' := 22) (lc' := [some (.ref 55), some (.int x1), some (.int v1), none, none, none]) (st' := [.int 4, .ref 55]) (h' := q3.2) (sg1 rfl rfl (sg1 rfl rfl rfl)) ?_
      obtain ⟨q4, e_q4, hf⟩ := bnd hf
      refine Ex.callV (a := 55) (As := [.int 4]) (r := []) (v := some (.int q4.1)) (h' := q4.2) rfl rfl (by decide) rfl (Nat.le_of_ble_eq_true rfl) rfl (E_172 (by omega) e_q4) rfl ?_
      refine Ex.ifc rfl rfl (fun (c0 : ¬ (q4.1 = 0)) => ?_) (fun (c0 : ¬ ¬ (q4.1 = 0)) => ?_)
      · rw [if_neg c0] at hf
        refine Ex.seg 2 (pc' := 34) (lc' := [some (.ref 55), some (.int x1), some (.int v1), none, none, none]) (st' := [.ref 52]) (h' := q4.2) (sg1 rfl rfl (sg1 rfl rfl rfl)) ?_
        obtain ⟨q5, e_q5, hf⟩ := bnd hf
        refine Ex.callV (a := 52) (As := []) (r := []) (v := some (.long q5.1)) (h' := q5.2) rfl rfl (by decide) rfl (Nat.le_of_ble_eq_true rfl) rfl (E_248 (by omega) e_q5) rfl ?_
        refine Ex.seg 2 (pc' := 39) (lc' := [some (.ref 55), some (.int x1), some (.int v1), some (.long q5.1), none, none]) (st' := [.ref 55]) (h' := q5.2) (sg1 rfl rfl (sg1 rfl rfl rfl)) ?_
        obtain ⟨q6, e_q6, hf⟩ := bnd hf
        refine Ex.callV (a := 55) (As := []) (r := []) (v := some (.int q6.1)) (h' := q6.2) rfl rfl (by decide) rfl (Nat.le_of_ble_eq_true rfl) rfl (E_175 (by omega) e_q6) rfl ?_
        refine Ex.ifc rfl rfl (fun (c0 : q6.1 = 0) => ?_) (fun (c0 : ¬ (q6.1 = 0)) => ?_)
        · rw [if_pos c0] at hf
          exact Ex.weak (sm_le_n (sm_le_n (sm_le_n (sm_le_n (sm_le_s (sm_le_s sm_le_nil)))))) (B_210_54 hrec hd  hf hs)
        · rw [if_neg c0] at hf
          refine Ex.seg 3 (pc' := 48) (lc' := [some (.ref 55), some (.int x1), some (.int v1), some (.long q5.1), none, none]) (st' := [.int x1, .int 1, .ref 55]) (h' := q6.2) (sg1 rfl rfl (sg1 rfl rfl (sg1 rfl rfl rfl))) ?_
          obtain ⟨q7, e_q7, hf⟩ := bnd hf
          refine Ex.callV (a := 55) (As := [.int 1, .int x1]) (r := []) (v := some (.int q7.1)) (h' := q7.2) rfl rfl (by decide) rfl (Nat.le_of_ble_eq_true rfl) rfl (E_182 (by omega) e_q7) rfl ?_
          refine Ex.ifc rfl rfl (fun (c0 : ¬ (q7.1 = 0)) => ?_) (fun (c0 : ¬ ¬ (q7.1 = 0)) => ?_)
          · rw [if_neg c0] at hf
            refine Ex.seg 4 (pc' := 61) (lc' := [some (.ref 55), some (.int x1), some (.int v1), some (.long q5.1), none, none]) (st' := [.int 19, .long q5.1, .int 0, .ref 55]) (h' := q7.2) (sg1 rfl rfl (sg1 rfl rfl (sg1 rfl rfl (sg1 rfl rfl rfl)))) ?_
            obtain ⟨q8, e_q8, hf⟩ := bnd hf
            refine Ex.callV (a := 55) (As := [.int 0, .long q5.1, .int 19]) (r := []) (v := none) (h' := q8) rfl rfl (by decide) rfl (Nat.le_of_ble_eq_true rfl) rfl (E_183 (by omega) e_q8) rfl ?_
            refine Ex.seg 2 (pc' := 66) (lc' := [some (.ref 55), some (.int x1), some (.int v1), some (.long q5.1), none, none]) (st' := [.int 1, .ref 55]) (h' := q8) (sg1 rfl rfl (sg1 rfl rfl rfl)) ?_
            obtain ⟨q9, e_q9, hf⟩ := bnd hf
            refine Ex.callV (a := 55) (As := [.int 1]) (r := []) (v := some (.int q9.1)) (h' := q9.2) rfl rfl (by decide) rfl (Nat.le_of_ble_eq_true rfl) rfl (E_199 hrec (by omega) e_q9) rfl ?_
            refine Ex.ifc rfl rfl (fun (c0 : q9.1 = 0) => ?_) (fun (c0 : ¬ (q9.1 = 0)) => ?_)
            · rw [if_pos c0] at hf
              exact Ex.weak (sm_le_n (sm_le_n (sm_le_n (sm_le_n (sm_le_s (sm_le_s sm_le_nil)))))) (B_210_95 hrec hd  hf hs)
            · rw [if_neg c0] at hf
              refine Ex.seg 1 (pc' := 73) (lc' := [some (.ref 55), some (.int x1), some (.int v1), some (.long q5.1), none, none]) (st' := [.ref 55]) (h' := q9.2) (sg1 rfl rfl rfl) ?_
              obtain ⟨q10, e_q10, hf⟩ := bnd hf
              refine Ex.callV (a := 55) (As := []) (r := []) (v := some (.int q10.1)) (h' := q10.2) rfl rfl (by decide) rfl (Nat.le_of_ble_eq_true rfl) rfl (E_175 (by omega) e_q10) rfl ?_
              refine Ex.ifc rfl rfl (fun (c0 : q10.1 = 0) => ?_) (fun (c0 : ¬ (q10.1 = 0)) => ?_)
              · rw [if_pos c0] at hf
                exact Ex.weak (sm_le_n (sm_le_n (sm_le_n (sm_le_n (sm_le_s (sm_le_s sm_le_nil)))))) (B_210_95 hrec hd  hf hs)
              · rw [if_neg c0] at hf
                refine Ex.seg 6 (pc' := 85) (lc' := [some (.ref 55), some (.int x1), some (.int v1), some (.long q5.1), none, none]) (st' := [.int v1, .ref 55, .int (v1 + 1), .ref 55]) (h' := q10.2) (sg1 rfl rfl (sg1 rfl rfl (sg1 rfl rfl (sg1 rfl rfl (sg1 rfl rfl (sg1 rfl rfl rfl)))))) ?_
                obtain ⟨q11, e_q11, hf⟩ := bnd hf
                refine Ex.callV (a := 55) (As := [.int v1]) (r := [.int (v1 + 1), .ref 55]) (v := some (.int q11.1)) (h' := q11.2) rfl rfl (by decide) rfl (Nat.le_of_ble_eq_true rfl) rfl (E_189 (by omega) e_q11) rfl ?_
                refine Ex.seg 1 (pc' := 89) (lc' := [some (.ref 55), some (.int x1), some (.int v1), some (.long q5.1), none, none]) (st' := [.int x1, .int q11.1, .int (v1 + 1), .ref 55]) (h' := q11.2) (sg1 rfl rfl rfl) ?_
                obtain ⟨q12, e_q12, hf⟩ := bnd hf
                refine Ex.callV (a := 55) (As := [.int (v1 + 1), .int q11.1, .int x1]) (r := []) (v := some (.int q12.1)) (h' := q12.2) rfl rfl (by decide) rfl (Nat.le_of_ble_eq_true rfl) rfl (E_190 (by omega) e_q12) rfl ?_
                refine Ex.ifc rfl rfl (fun (c0 : ¬ (q12.1 = 0)) => ?_) (fun (c0 : ¬ ¬ (q12.1 = 0)) => ?_)
                · rw [if_neg c0] at hf
                  refine Ex.seg 2 (pc' := 99) (lc' := [some (.ref 55), some (.int x1), some (.int v1), some (.long q5.1), none, none]) (st' := [.int 1, .ref 55]) (h' := q12.2) (sg1 rfl rfl (sg1 rfl rfl rfl)) ?_
                  obtain ⟨q13, e_q13, hf⟩ := bnd hf
                  refine Ex.callV (a := 55) (As := [.int 1]) (r := []) (v := none) (h' := q13) rfl rfl (by decide) rfl (Nat.le_of_ble_eq_true rfl) rfl (E_184 (by omega) e_q13) rfl ?_
                  refine Ex.seg 10 (pc' := 118) (lc' := [some (.ref 55), some (.int x1), some (.int v1), some (.long q5.1), none, none]) (st' := [.int v1, .ref 55, .ref 56, .long 0, .int 0, .int 19, .int 15, .ref 34]) (h' := q13) (sg1 rfl rfl (sg1 rfl rfl (sg1 rfl rfl (sg1 rfl rfl (sg1 rfl rfl (sg1 rfl rfl (sg1 rfl rfl (sg1 rfl rfl (sg1 rfl rfl (sg1 rfl rfl rfl)))))))))) ?_
                  obtain ⟨q14, e_q14, hf⟩ := bnd hf
                  refine Ex.callV (a := 55) (As := [.int v1]) (r := [.ref 56, .long 0, .int 0, .int 19, .int 15, .ref 34]) (v := some (.int q14.1)) (h' := q14.2) rfl rfl (by decide) rfl (Nat.le_of_ble_eq_true rfl) rfl (E_187 (by omega) e_q14) rfl ?_
                  refine Ex.seg 4 (pc' := 125) (lc' := [some (.ref 55), some (.int x1), some (.int v1), some (.long q5.1), none, none]) (st' := [.int (v1 + 1), .ref 55, .int q14.1, .ref 56, .long 0, .int 0, .int 19, .int 15, .ref 34]) (h' := q14.2) (sg1 rfl rfl (sg1 rfl rfl (sg1 rfl rfl (sg1 rfl rfl rfl)))) ?_
                  obtain ⟨q15, e_q15, hf⟩ := bnd hf
                  refine Ex.callV (a := 55) (As := [.int (v1 + 1)]) (r := [.int q14.1, .ref 56, .long 0, .int 0, .int 19, .int 15, .ref 34]) (v := some (.int q15.1)) (h' := q15.2) rfl rfl (by decide) rfl (Nat.le_of_ble_eq_true rfl) rfl (E_187 (by omega) e_q15) rfl ?_
                  obtain ⟨q16, e_q16, hf⟩ := bnd hf
                  refine Ex.callV (a := 56) (As := [.int q14.1, .int q15.1]) (r := [.long 0, .int 0, .int 19, .int 15, .ref 34]) (v := some (.ref q16.1)) (h' := q16.2) rfl rfl (by decide) rfl (Nat.le_of_ble_eq_true rfl) rfl (E_141 (by omega) e_q16) rfl ?_
                  obtain ⟨q17, e_q17, hf⟩ := bnd hf
                  refine Ex.callV (a := 34) (As := [.int 15, .int 19, .int 0, .long 0, .ref q16.1]) (r := []) (v := some (.int q17.1)) (h' := q17.2) rfl rfl (by decide) rfl (Nat.le_of_ble_eq_true rfl) rfl (E_5 (by omega) e_q17) rfl ?_
                  refine Ex.seg 2 (pc' := 138) (lc' := [some (.ref 55), some (.int x1), some (.int v1), some (.long q5.1), none, some (.int q17.1)]) (st' := [.int q17.1]) (h' := q17.2) (sg1 rfl rfl (sg1 rfl rfl rfl)) ?_
                  refine Ex.ifc rfl rfl (fun (c0 : 0 ≤ q17.1) => ?_) (fun (c0 : ¬ (0 ≤ q17.1)) => ?_)
                  · rw [if_pos c0] at hf
                    refine Ex.seg 1 (pc' := 153) (lc' := [some (.ref 55), some (.int x1), some (.int v1), some (.long q5.1), none, some (.int q17.1)]) (st' := [.int q17.1]) (h' := q17.2) (sg1 rfl rfl rfl) ?_
                    exact Ex.weak (sm_le_n (sm_le_n (sm_le_n (sm_le_n (sm_le_s (sm_le_n sm_le_nil)))))) (B_210_153 hrec hd  hf hs)
                  · rw [if_neg c0] at hf
                    refine Ex.seg 3 (pc' := 145) (lc' := [some (.ref 55), some (.int x1), some (.int v1), some (.long q5.1), none, some (.int q17.1)]) (st' := [.int x1, .int 8, .ref 55]) (h' := q17.2) (sg1 rfl rfl (sg1 rfl rfl (sg1 rfl rfl rfl))) ?_
                    obtain ⟨q18, e_q18, hf⟩ := bnd hf
                    refine Ex.callV (a := 55) (As := [.int 8, .int x1]) (r := []) (v := some (.int q18.1)) (h' := q18.2) rfl rfl (by decide) rfl (Nat.le_of_ble_eq_true rfl) rfl (E_169 (by omega) e_q18) rfl ?_
                    refine Ex.seg 1 (pc' := 153) (lc' := [some (.ref 55), some (.int x1), some (.int v1), some (.long q5.1), none, some (.int q17.1)]) (st' := [.int q18.1]) (h' := q18.2) (sg1 rfl rfl rfl) ?_
                    exact Ex.weak (sm_le_n (sm_le_n (sm_le_n (sm_le_n (sm_le_s (sm_le_n sm_le_nil)))))) (B_210_153 hrec hd  hf hs)
                · rw [if_pos (Classical.not_not.mp c0)] at hf
                  exact Ex.weak (sm_le_n (sm_le_n (sm_le_n (sm_le_n (sm_le_s (sm_le_s sm_le_nil)))))) (B_210_95 hrec hd  hf hs)
          · rw [if_pos (Classical.not_not.mp c0)] at hf
            exact Ex.weak (sm_le_n (sm_le_n (sm_le_n (sm_le_n (sm_le_s (sm_le_s sm_le_nil)))))) (B_210_54 hrec hd  hf hs)
      · rw [if_pos (Classical.not_not.mp c0)] at hf
        exact Ex.weak (sm_le_n (sm_le_n (sm_le_n (sm_le_s (sm_le_s (sm_le_s sm_le_nil)))))) (B_210_28 hrec hd  hf hs)
/-- HandleHouse$Texts.attempt(I)I -/
abbrev F_210 (rec : sm_H → Option (Int32 × sm_H)) (x1 : Int32) (h : sm_H) : Option (Int32 × sm_H) := F_210_0 rec x1 h
theorem E_210 {L : Nat} {xs : Nat → Int32} {d : Nat} {M : Nat} {rec : sm_H → Option (Int32 × sm_H)} (hrec : ∀ d, M ≤ d → ∀ (h : sm_H) (q : Int32 × sm_H), rec h = some q → RUN L xs d 194 [.ref 55] h (some (.int q.1), q.2)) (hd : 8 + M ≤ d) {x1 : Int32} {h : sm_H} {r : Int32 × sm_H} (hf : F_210 rec x1 h = some r) : RUN L xs d 210 [.ref 55, .int x1] h (some (.int r.1), r.2) := by
  obtain ⟨d, rfl⟩ : ∃ e, d = e + 1 := ⟨d - 1, by omega⟩
  exact ⟨Nat.le_of_ble_eq_true rfl, B_210_0 hrec (by omega) hf rfl⟩
def F_211_194 (rec : sm_H → Option (Int32 × sm_H)) (z0 : Int32) (h : sm_H) : Option (Int32 × sm_H) :=
  some (z0, h)
theorem B_211_194 {L : Nat} {xs : Nat → Int32} {d : Nat} {M : Nat} {rec : sm_H → Option (Int32 × sm_H)} (hrec : ∀ d, M ≤ d → ∀ (h : sm_H) (q : Int32 × sm_H), rec h = some q → RUN L xs d 194 [.ref 55] h (some (.int q.1), q.2)) (hd : 7 + M ≤ d) {res : Option Value × sm_H} {z0 : Int32}  {h : sm_H} {r : (Int32 × sm_H)} (hf : F_211_194 rec z0 h = some r) (hs : (fun (r : Int32 × sm_H) => res = (some (.int r.1), r.2)) r) : Ex (P_G L xs) (RUN L xs d) (sm_lk P_t211) 0 194 [none, none, none, none, none, none] [.int z0] h res := by
  unfold F_211_194 at hf
  obtain rfl := Option.some.inj hf
  exact Ex.iret rfl rfl (fun c0 => by cases c0) hs
def F_211_69B (rec : sm_H → Option (Int32 × sm_H)) (s : (Int32 × Int32 × Int32 × Int32 × sm_H)) : Option ((Int32 × Int32 × Int32 × Int32 × sm_H) ⊕ (Int32 × sm_H)) :=
  if s.2.2.1 ≤ s.2.2.2.1 then ((F_190 (s.2.1 + (2 * s.2.2.1)) 1 s.1 s.2.2.2.2).bind fun q1 =>
  if q1.1 = 0 then (some (.inr ((-1), q1.2)))
  else ((F_184 s.2.2.1 q1.2).bind fun q2 =>
  (F_189 ((s.2.1 + (2 * s.2.2.1)) + 1) q2).bind fun q3 =>
  (F_185 q3.1 s.1 q3.2).bind fun q4 =>
  if q4.1 = (-1) then (some (.inr ((-1), q4.2)))
  else ((F_213 s.2.1 s.2.2.1 q4.2).bind fun q5 =>
  (F_5 18 0 q4.1 0 56 q5).bind fun q6 =>
  if 0 ≤ q6.1 then ((F_211_194 rec  q6.1 q6.2).map fun r => (.inr r))
  else ((F_169 8 s.1 q6.2).bind fun q7 =>
  (F_211_194 rec  q7.1 q7.2).map fun r => (.inr r)))))
  else ((F_189 (s.2.1 + s.2.2.2.1) s.2.2.2.2).bind fun q8 =>
  (F_190 ((s.2.1 + s.2.2.1) + s.2.2.2.1) q8.1 s.1 q8.2).bind fun q9 =>
  if q9.1 = 0 then (some (.inr ((-1), q9.2)))
  else ((some (s.2.2.2.1 + 1 : Int32)).bind fun v10 =>
  some (.inl (s.1, s.2.1, s.2.2.1, v10, q9.2))))
theorem B_211_69B {L : Nat} {xs : Nat → Int32} {d : Nat} {M : Nat} {rec : sm_H → Option (Int32 × sm_H)} (hrec : ∀ d, M ≤ d → ∀ (h : sm_H) (q : Int32 × sm_H), rec h = some q → RUN L xs d 194 [.ref 55] h (some (.int q.1), q.2)) (hd : 7 + M ≤ d) {res : Option Value × sm_H} {S1 : (Int32 × Int32 × Int32 × Int32 × sm_H) → Prop} (hS1 : ∀ s, S1 s → Ex (P_G L xs) (RUN L xs d) (sm_lk P_t211) 0 69 [some (.ref 55), some (.int s.1), some (.int s.2.1), some (.int s.2.2.1), some (.int s.2.2.2.1), none] [] s.2.2.2.2 res) {s : (Int32 × Int32 × Int32 × Int32 × sm_H)}  {r : ((Int32 × Int32 × Int32 × Int32 × sm_H) ⊕ (Int32 × sm_H))} (hf : F_211_69B rec s = some r) (hs : (Sum.elim S1 (fun (r : Int32 × sm_H) => res = (some (.int r.1), r.2))) r) : Ex (P_G L xs) (RUN L xs d) (sm_lk P_t211) 0 69 [some (.ref 55), some (.int s.1), some (.int s.2.1), some (.int s.2.2.1), some (.int s.2.2.2.1), none] [] s.2.2.2.2 res := by
  unfold F_211_69B at hf
  refine Ex.seg 2 (pc' := 72) (lc' := [some (.ref 55), some (.int s.1), some (.int s.2.1), some (.int s.2.2.1), some (.int s.2.2.2.1), none]) (st' := [.int s.2.2.1, .int s.2.2.2.1]) (h' := s.2.2.2.2) (sg1 rfl rfl (sg1 rfl rfl rfl)) ?_
  refine Ex.icmp rfl rfl (fun (c0 : s.2.2.1 ≤ s.2.2.2.1) => ?_) (fun (c0 : ¬ (s.2.2.1 ≤ s.2.2.2.1)) => ?_)
  · rw [if_pos c0] at hf
    refine Ex.seg 8 (pc' := 113) (lc' := [some (.ref 55), some (.int s.1), some (.int s.2.1), some (.int s.2.2.1), some (.int s.2.2.2.1), none]) (st' := [.int s.1, .int 1, .int (s.2.1 + (2 * s.2.2.1)), .ref 55]) (h' := s.2.2.2.2) (sg1 rfl rfl (sg1 rfl rfl (sg1 rfl rfl (sg1 rfl rfl (sg1 rfl rfl (sg1 rfl rfl (sg1 rfl rfl (sg1 rfl rfl rfl)))))))) ?_
    obtain ⟨q1, e_q1, hf⟩ := bnd hf
    refine Ex.callV (a := 55) (As := [.int (s.2.1 + (2 * s.2.2.1)), .int 1, .int s.1]) (r := []) (v := some (.int q1.1)) (h' := q1.2) rfl rfl (by decide) rfl (Nat.le_of_ble_eq_true rfl) rfl (E_190 (by omega) e_q1) rfl ?_
    refine Ex.ifc rfl rfl (fun (c0 : ¬ (q1.1 = 0)) => ?_) (fun (c0 : ¬ ¬ (q1.1 = 0)) => ?_)
    · rw [if_neg c0] at hf
      refine Ex.seg 2 (pc' := 123) (lc' := [some (.ref 55), some (.int s.1), some (.int s.2.1), some (.int s.2.2.1), some (.int s.2.2.2.1), none]) (st' := [.int s.2.2.1, .ref 55]) (h' := q1.2) (sg1 rfl rfl (sg1 rfl rfl rfl)) ?_
      obtain ⟨q2, e_q2, hf⟩ := bnd hf
      refine Ex.callV (a := 55) (As := [.int s.2.2.1]) (r := []) (v := none) (h' := q2) rfl rfl (by decide) rfl (Nat.le_of_ble_eq_true rfl) rfl (E_184 (by omega) e_q2) rfl ?_
      refine Ex.seg 9 (pc' := 135) (lc' := [some (.ref 55), some (.int s.1), some (.int s.2.1), some (.int s.2.2.1), some (.int s.2.2.2.1), none]) (st' := [.int ((s.2.1 + (2 * s.2.2.1)) + 1), .ref 55, .ref 55]) (h' := q2) (sg1 rfl rfl (sg1 rfl rfl (sg1 rfl rfl (sg1 rfl rfl (sg1 rfl rfl (sg1 rfl rfl (sg1 rfl rfl (sg1 rfl rfl (sg1 rfl rfl rfl))))))))) ?_
      obtain ⟨q3, e_q3, hf⟩ := bnd hf
      refine Ex.callV (a := 55) (As := [.int ((s.2.1 + (2 * s.2.2.1)) + 1)]) (r := [.ref 55]) (v := some (.int q3.1)) (h' := q3.2) rfl rfl (by decide) rfl (Nat.le_of_ble_eq_true rfl) rfl (E_189 (by omega) e_q3) rfl ?_
      refine Ex.seg 1 (pc' := 139) (lc' := [some (.ref 55), some (.int s.1), some (.int s.2.1), some (.int s.2.2.1), some (.int s.2.2.2.1), none]) (st' := [.int s.1, .int q3.1, .ref 55]) (h' := q3.2) (sg1 rfl rfl rfl) ?_
      obtain ⟨q4, e_q4, hf⟩ := bnd hf
      refine Ex.callV (a := 55) (As := [.int q3.1, .int s.1]) (r := []) (v := some (.int q4.1)) (h' := q4.2) rfl rfl (by decide) rfl (Nat.le_of_ble_eq_true rfl) rfl (E_185 (by omega) e_q4) rfl ?_
      refine Ex.seg 3 (pc' := 147) (lc' := [some (.ref 55), some (.int s.1), some (.int s.2.1), some (.int s.2.2.1), some (.int q4.1), none]) (st' := [.int (-1), .int q4.1]) (h' := q4.2) (sg1 rfl rfl (sg1 rfl rfl (sg1 rfl rfl rfl))) ?_
      refine Ex.icmp rfl rfl (fun (c0 : ¬ (q4.1 = (-1))) => ?_) (fun (c0 : ¬ ¬ (q4.1 = (-1))) => ?_)
      · rw [if_neg c0] at hf
        refine Ex.seg 3 (pc' := 155) (lc' := [some (.ref 55), some (.int s.1), some (.int s.2.1), some (.int s.2.2.1), some (.int q4.1), none]) (st' := [.int s.2.2.1, .int s.2.1, .ref 55]) (h' := q4.2) (sg1 rfl rfl (sg1 rfl rfl (sg1 rfl rfl rfl))) ?_
        obtain ⟨q5, e_q5, hf⟩ := bnd hf
        refine Ex.callV (a := 55) (As := [.int s.2.1, .int s.2.2.1]) (r := []) (v := none) (h' := q5) rfl rfl (by decide) rfl (Nat.le_of_ble_eq_true rfl) rfl (E_213 (by omega) e_q5) rfl ?_
        refine Ex.seg 8 (pc' := 172) (lc' := [some (.ref 55), some (.int s.1), some (.int s.2.1), some (.int s.2.2.1), some (.int q4.1), none]) (st' := [.ref 56, .long 0, .int q4.1, .int 0, .int 18, .ref 34]) (h' := q5) (sg1 rfl rfl (sg1 rfl rfl (sg1 rfl rfl (sg1 rfl rfl (sg1 rfl rfl (sg1 rfl rfl (sg1 rfl rfl (sg1 rfl rfl rfl)))))))) ?_
        obtain ⟨q6, e_q6, hf⟩ := bnd hf
        refine Ex.callV (a := 34) (As := [.int 18, .int 0, .int q4.1, .long 0, .ref 56]) (r := []) (v := some (.int q6.1)) (h' := q6.2) rfl rfl (by decide) rfl (Nat.le_of_ble_eq_true rfl) rfl (E_5 (by omega) e_q6) rfl ?_
        refine Ex.seg 2 (pc' := 179) (lc' := [some (.ref 55), some (.int s.1), some (.int s.2.1), some (.int s.2.2.1), some (.int q4.1), some (.int q6.1)]) (st' := [.int q6.1]) (h' := q6.2) (sg1 rfl rfl (sg1 rfl rfl rfl)) ?_
        refine Ex.ifc rfl rfl (fun (c0 : 0 ≤ q6.1) => ?_) (fun (c0 : ¬ (0 ≤ q6.1)) => ?_)
        · rw [if_pos c0] at hf
          refine Ex.seg 1 (pc' := 194) (lc' := [some (.ref 55), some (.int s.1), some (.int s.2.1), some (.int s.2.2.1), some (.int q4.1), some (.int q6.1)]) (st' := [.int q6.1]) (h' := q6.2) (sg1 rfl rfl rfl) ?_
          obtain ⟨r0, hf0, rfl⟩ := Option.map_eq_some_iff.mp hf
          exact Ex.weak (sm_le_n (sm_le_n (sm_le_n (sm_le_n (sm_le_n (sm_le_n sm_le_nil)))))) (B_211_194 hrec hd  hf0 hs)
        · rw [if_neg c0] at hf
          refine Ex.seg 3 (pc' := 186) (lc' := [some (.ref 55), some (.int s.1), some (.int s.2.1), some (.int s.2.2.1), some (.int q4.1), some (.int q6.1)]) (st' := [.int s.1, .int 8, .ref 55]) (h' := q6.2) (sg1 rfl rfl (sg1 rfl rfl (sg1 rfl rfl rfl))) ?_
          obtain ⟨q7, e_q7, hf⟩ := bnd hf
          refine Ex.callV (a := 55) (As := [.int 8, .int s.1]) (r := []) (v := some (.int q7.1)) (h' := q7.2) rfl rfl (by decide) rfl (Nat.le_of_ble_eq_true rfl) rfl (E_169 (by omega) e_q7) rfl ?_
          refine Ex.seg 1 (pc' := 194) (lc' := [some (.ref 55), some (.int s.1), some (.int s.2.1), some (.int s.2.2.1), some (.int q4.1), some (.int q6.1)]) (st' := [.int q7.1]) (h' := q7.2) (sg1 rfl rfl rfl) ?_
          obtain ⟨r0, hf0, rfl⟩ := Option.map_eq_some_iff.mp hf
          exact Ex.weak (sm_le_n (sm_le_n (sm_le_n (sm_le_n (sm_le_n (sm_le_n sm_le_nil)))))) (B_211_194 hrec hd  hf0 hs)
      · rw [if_pos (Classical.not_not.mp c0)] at hf
        refine Ex.seg 1 (pc' := 151) (lc' := [some (.ref 55), some (.int s.1), some (.int s.2.1), some (.int s.2.2.1), some (.int q4.1), none]) (st' := [.int (-1)]) (h' := q4.2) (sg1 rfl rfl rfl) ?_
        obtain rfl := Option.some.inj hf
        exact Ex.iret rfl rfl (fun c0 => by cases c0) hs
    · rw [if_pos (Classical.not_not.mp c0)] at hf
      refine Ex.seg 1 (pc' := 120) (lc' := [some (.ref 55), some (.int s.1), some (.int s.2.1), some (.int s.2.2.1), some (.int s.2.2.2.1), none]) (st' := [.int (-1)]) (h' := q1.2) (sg1 rfl rfl rfl) ?_
      obtain rfl := Option.some.inj hf
      exact Ex.iret rfl rfl (fun c0 => by cases c0) hs
  · rw [if_neg c0] at hf
    refine Ex.seg 10 (pc' := 87) (lc' := [some (.ref 55), some (.int s.1), some (.int s.2.1), some (.int s.2.2.1), some (.int s.2.2.2.1), none]) (st' := [.int (s.2.1 + s.2.2.2.1), .ref 55, .int ((s.2.1 + s.2.2.1) + s.2.2.2.1), .ref 55]) (h' := s.2.2.2.2) (sg1 rfl rfl (sg1 rfl rfl (sg1 rfl rfl (sg1 rfl rfl (sg1 rfl rfl (sg1 rfl rfl (sg1 rfl rfl (sg1 rfl rfl (sg1 rfl rfl (sg1 rfl rfl rfl)))))))))) ?_
    obtain ⟨q8, e_q8, hf⟩ := bnd hf
    refine Ex.callV (a := 55) (As := [.int (s.2.1 + s.2.2.2.1)]) (r := [.int ((s.2.1 + s.2.2.1) + s.2.2.2.1), .ref 55]) (v := some (.int q8.1)) (h' := q8.2) rfl rfl (by decide) rfl (Nat.le_of_ble_eq_true rfl) rfl (E_189 (by omega) e_q8) rfl ?_
    refine Ex.seg 1 (pc' := 91) (lc' := [some (.ref 55), some (.int s.1), some (.int s.2.1), some (.int s.2.2.1), some (.int s.2.2.2.1), none]) (st' := [.int s.1, .int q8.1, .int ((s.2.1 + s.2.2.1) + s.2.2.2.1), .ref 55]) (h' := q8.2) (sg1 rfl rfl rfl) ?_
    obtain ⟨q9, e_q9, hf⟩ := bnd hf
    refine Ex.callV (a := 55) (As := [.int ((s.2.1 + s.2.2.1) + s.2.2.2.1), .int q8.1, .int s.1]) (r := []) (v := some (.int q9.1)) (h' := q9.2) rfl rfl (by decide) rfl (Nat.le_of_ble_eq_true rfl) rfl (E_190 (by omega) e_q9) rfl ?_
    refine Ex.ifc rfl rfl (fun (c0 : ¬ (q9.1 = 0)) => ?_) (fun (c0 : ¬ ¬ (q9.1 = 0)) => ?_)
    · rw [if_neg c0] at hf
      refine Ex.seg 1 (pc' := 102) (lc' := [some (.ref 55), some (.int s.1), some (.int s.2.1), some (.int s.2.2.1), some (.int (s.2.2.2.1 + 1)), none]) (st' := []) (h' := q9.2) (sg1 rfl rfl rfl) ?_
      obtain ⟨v10, e_v10, hf⟩ := bnd hf
      rw [Option.some.inj e_v10]
      refine Ex.seg 1 (pc' := 69) (lc' := [some (.ref 55), some (.int s.1), some (.int s.2.1), some (.int s.2.2.1), some (.int v10), none]) (st' := []) (h' := q9.2) (sg1 rfl rfl rfl) ?_
      obtain rfl := Option.some.inj hf
      exact Ex.weak (sm_le_s (sm_le_s (sm_le_s (sm_le_s (sm_le_s (sm_le_s sm_le_nil)))))) (hS1 _ hs)
    · rw [if_pos (Classical.not_not.mp c0)] at hf
      refine Ex.seg 1 (pc' := 98) (lc' := [some (.ref 55), some (.int s.1), some (.int s.2.1), some (.int s.2.2.1), some (.int s.2.2.2.1), none]) (st' := [.int (-1)]) (h' := q9.2) (sg1 rfl rfl rfl) ?_
      obtain rfl := Option.some.inj hf
      exact Ex.iret rfl rfl (fun c0 => by cases c0) hs
def F_211_69 (rec : sm_H → Option (Int32 × sm_H)) (y1 : Int32) (y2 : Int32) (y3 : Int32) (y4 : Int32) (h : sm_H) : Option (Int32 × sm_H) := lp (F_211_69B rec ) 1000000 (y1, y2, y3, y4, h)
theorem B_211_69 {L : Nat} {xs : Nat → Int32} {d : Nat} {M : Nat} {rec : sm_H → Option (Int32 × sm_H)} (hrec : ∀ d, M ≤ d → ∀ (h : sm_H) (q : Int32 × sm_H), rec h = some q → RUN L xs d 194 [.ref 55] h (some (.int q.1), q.2)) (hd : 7 + M ≤ d) {res : Option Value × sm_H} {y1 : Int32} {y2 : Int32} {y3 : Int32} {y4 : Int32}  {h : sm_H} {r : (Int32 × sm_H)} (hf : F_211_69 rec y1 y2 y3 y4 h = some r) (hs : (fun (r : Int32 × sm_H) => res = (some (.int r.1), r.2)) r) : Ex (P_G L xs) (RUN L xs d) (sm_lk P_t211) 0 69 [some (.ref 55), some (.int y1), some (.int y2), some (.int y3), some (.int y4), none] [] h res := by
  unfold F_211_69 at hf
  exact lp_ok (P := fun (s : (Int32 × Int32 × Int32 × Int32 × sm_H)) => Ex (P_G L xs) (RUN L xs d) (sm_lk P_t211) 0 69 [some (.ref 55), some (.int s.1), some (.int s.2.1), some (.int s.2.2.1), some (.int s.2.2.2.1), none] [] s.2.2.2.2 res) (S := (fun (r : Int32 × sm_H) => res = (some (.int r.1), r.2))) (fun s x hx hsx => by
    intros
    exact B_211_69B hrec hd  (fun _ q => q) hx hsx) 1000000 _ r hf hs
def F_211_64 (rec : sm_H → Option (Int32 × sm_H))  (h : sm_H) : Option (Int32 × sm_H) :=
  some ((-1), h)
theorem B_211_64 {L : Nat} {xs : Nat → Int32} {d : Nat} {M : Nat} {rec : sm_H → Option (Int32 × sm_H)} (hrec : ∀ d, M ≤ d → ∀ (h : sm_H) (q : Int32 × sm_H), rec h = some q → RUN L xs d 194 [.ref 55] h (some (.int q.1), q.2)) (hd : 7 + M ≤ d) {res : Option Value × sm_H}   {h : sm_H} {r : (Int32 × sm_H)} (hf : F_211_64 rec  h = some r) (hs : (fun (r : Int32 × sm_H) => res = (some (.int r.1), r.2)) r) : Ex (P_G L xs) (RUN L xs d) (sm_lk P_t211) 0 64 [none, none, none, none, none, none] [] h res := by
  unfold F_211_64 at hf
  refine Ex.seg 1 (pc' := 65) (lc' := [none, none, none, none, none, none]) (st' := [.int (-1)]) (h' := h) (sg1 rfl rfl rfl) ?_
  obtain rfl := Option.some.inj hf
  exact Ex.iret rfl rfl (fun c0 => by cases c0) hs
def F_211_25 (rec : sm_H → Option (Int32 × sm_H))  (h : sm_H) : Option (Int32 × sm_H) :=
  some ((-1), h)
theorem B_211_25 {L : Nat} {xs : Nat → Int32} {d : Nat} {M : Nat} {rec : sm_H → Option (Int32 × sm_H)} (hrec : ∀ d, M ≤ d → ∀ (h : sm_H) (q : Int32 × sm_H), rec h = some q → RUN L xs d 194 [.ref 55] h (some (.int q.1), q.2)) (hd : 7 + M ≤ d) {res : Option Value × sm_H}   {h : sm_H} {r : (Int32 × sm_H)} (hf : F_211_25 rec  h = some r) (hs : (fun (r : Int32 × sm_H) => res = (some (.int r.1), r.2)) r) : Ex (P_G L xs) (RUN L xs d) (sm_lk P_t211) 0 25 [none, none, none, none, none, none] [] h res := by
  unfold F_211_25 at hf
  refine Ex.seg 1 (pc' := 26) (lc' := [none, none, none, none, none, none]) (st' := [.int (-1)]) (h' := h) (sg1 rfl rfl rfl) ?_
  obtain rfl := Option.some.inj hf
  exact Ex.iret rfl rfl (fun c0 => by cases c0) hs
def F_211_0 (rec : sm_H → Option (Int32 × sm_H)) (x1 : Int32) (h : sm_H) : Option (Int32 × sm_H) :=
  (some ((h.1 55 12) : Int32)).bind fun v11 =>
  (F_212 rec x1 h).bind fun q12 =>
  if q12.1 = 0 then (F_211_25 rec  q12.2)
  else ((F_208 v11 q12.1 x1 q12.2).bind fun q13 =>
  if q13.1 = 0 then (F_211_25 rec  q13.2)
  else ((F_174 q13.2).bind fun q14 =>
  if q14.1 = 0 then (F_211_64 rec  q14.2)
  else ((F_199 rec q12.1 q14.2).bind fun q15 =>
  if q15.1 = 0 then (F_211_64 rec  q15.2)
  else ((F_175 q15.2).bind fun q16 =>
  if q16.1 = 0 then (F_211_64 rec  q16.2)
  else ((F_199 rec 2 q16.2).bind fun q17 =>
  if q17.1 = 0 then (F_211_64 rec  q17.2)
  else ((F_175 q17.2).bind fun q18 =>
  if q18.1 = 0 then (F_211_64 rec  q18.2)
  else (F_211_69 rec  x1 v11 q12.1 0 q18.2)))))))
theorem B_211_0 {L : Nat} {xs : Nat → Int32} {d : Nat} {M : Nat} {rec : sm_H → Option (Int32 × sm_H)} (hrec : ∀ d, M ≤ d → ∀ (h : sm_H) (q : Int32 × sm_H), rec h = some q → RUN L xs d 194 [.ref 55] h (some (.int q.1), q.2)) (hd : 7 + M ≤ d) {res : Option Value × sm_H} {x1 : Int32}  {h : sm_H} {r : (Int32 × sm_H)} (hf : F_211_0 rec x1 h = some r) (hs : (fun (r : Int32 × sm_H) => res = (some (.int r.1), r.2)) r) : Ex (P_G L xs) (RUN L xs d) (sm_lk P_t211) 0 0 [some (.ref 55), some (.int x1), none, none, none, none] [] h res := by
  unfold F_211_0 at hf
  refine Ex.seg 3 (pc' := 5) (lc' := [some (.ref 55), some (.int x1), some (.int (h.1 55 12)), none, none, none]) (st' := []) (h' := h) (sg1 rfl rfl (sg1 rfl rfl (sg1 rfl rfl rfl))) ?_
  obtain ⟨v11, e_v11, hf⟩ := bnd hf
  rw [Option.some.inj e_v11]
  refine Ex.seg 2 (pc' := 7) (lc' := [some (.ref 55), some (.int x1), some (.int v11), none, none, none]) (st' := [.int x1, .ref 55]) (h' := h) (sg1 rfl rfl (sg1 rfl rfl rfl)) ?_
  obtain ⟨q12, e_q12, hf⟩ := bnd hf
  refine Ex.callV (a := 55) (As := [.int x1]) (r := []) (v := some (.int q12.1)) (h' := q12.2) rfl rfl (by decide) rfl (Nat.le_of_ble_eq_true rfl) rfl (E_212 hrec (by omega) e_q12) rfl ?_
  refine Ex.seg 2 (pc' := 12) (lc' := [some (.ref 55), some (.int x1), some (.int v11), some (.int q12.1), none, none]) (st' := [.int q12.1]) (h' := q12.2) (sg1 rfl rfl (sg1 rfl rfl rfl)) ?_
  refine Ex.ifc rfl rfl (fun (c0 : q12.1 = 0) => ?_) (fun (c0 : ¬ (q12.1 = 0)) => ?_)
  · rw [if_pos c0] at hf
    exact Ex.weak (sm_le_n (sm_le_n (sm_le_n (sm_le_n (sm_le_s (sm_le_s sm_le_nil)))))) (B_211_25 hrec hd  hf hs)
  · rw [if_neg c0] at hf
    refine Ex.seg 4 (pc' := 19) (lc' := [some (.ref 55), some (.int x1), some (.int v11), some (.int q12.1), none, none]) (st' := [.int x1, .int q12.1, .int v11, .ref 55]) (h' := q12.2) (sg1 rfl rfl (sg1 rfl rfl (sg1 rfl rfl (sg1 rfl rfl rfl)))) ?_
    obtain ⟨q13, e_q13, hf⟩ := bnd hf
    refine Ex.callV (a := 55) (As := [.int v11, .int q12.1, .int x1]) (r := []) (v := some (.int q13.1)) (h' := q13.2) rfl rfl (by decide) rfl (Nat.le_of_ble_eq_true rfl) rfl (E_208 (by omega) e_q13) rfl ?_
    refine Ex.ifc rfl rfl (fun (c0 : ¬ (q13.1 = 0)) => ?_) (fun (c0 : ¬ ¬ (q13.1 = 0)) => ?_)
    · rw [if_neg c0] at hf
      refine Ex.seg 1 (pc' := 28) (lc' := [some (.ref 55), some (.int x1), some (.int v11), some (.int q12.1), none, none]) (st' := [.ref 55]) (h' := q13.2) (sg1 rfl rfl rfl) ?_
      obtain ⟨q14, e_q14, hf⟩ := bnd hf
      refine Ex.callV (a := 55) (As := []) (r := []) (v := some (.int q14.1)) (h' := q14.2) rfl rfl (by decide) rfl (Nat.le_of_ble_eq_true rfl) rfl (E_174 (by omega) e_q14) rfl ?_
      refine Ex.ifc rfl rfl (fun (c0 : q14.1 = 0) => ?_) (fun (c0 : ¬ (q14.1 = 0)) => ?_)
      · rw [if_pos c0] at hf
        exact Ex.weak (sm_le_n (sm_le_n (sm_le_n (sm_le_n (sm_le_s (sm_le_s sm_le_nil)))))) (B_211_64 hrec hd  hf hs)
      · rw [if_neg c0] at hf
        refine Ex.seg 2 (pc' := 36) (lc' := [some (.ref 55), some (.int x1), some (.int v11), some (.int q12.1), none, none]) (st' := [.int q12.1, .ref 55]) (h' := q14.2) (sg1 rfl rfl (sg1 rfl rfl rfl)) ?_
        obtain ⟨q15, e_q15, hf⟩ := bnd hf
        refine Ex.callV (a := 55) (As := [.int q12.1]) (r := []) (v := some (.int q15.1)) (h' := q15.2) rfl rfl (by decide) rfl (Nat.le_of_ble_eq_true rfl) rfl (E_199 hrec (by omega) e_q15) rfl ?_
        refine Ex.ifc rfl rfl (fun (c0 : q15.1 = 0) => ?_) (fun (c0 : ¬ (q15.1 = 0)) => ?_)
        · rw [if_pos c0] at hf
          exact Ex.weak (sm_le_n (sm_le_n (sm_le_n (sm_le_n (sm_le_s (sm_le_s sm_le_nil)))))) (B_211_64 hrec hd  hf hs)
        · rw [if_neg c0] at hf
          refine Ex.seg 1 (pc' := 43) (lc' := [some (.ref 55), some (.int x1), some (.int v11), some (.int q12.1), none, none]) (st' := [.ref 55]) (h' := q15.2) (sg1 rfl rfl rfl) ?_
          obtain ⟨q16, e_q16, hf⟩ := bnd hf
          refine Ex.callV (a := 55) (As := []) (r := []) (v := some (.int q16.1)) (h' := q16.2) rfl rfl (by decide) rfl (Nat.le_of_ble_eq_true rfl) rfl (E_175 (by omega) e_q16) rfl ?_
          refine Ex.ifc rfl rfl (fun (c0 : q16.1 = 0) => ?_) (fun (c0 : ¬ (q16.1 = 0)) => ?_)
          · rw [if_pos c0] at hf
            exact Ex.weak (sm_le_n (sm_le_n (sm_le_n (sm_le_n (sm_le_s (sm_le_s sm_le_nil)))))) (B_211_64 hrec hd  hf hs)
          · rw [if_neg c0] at hf
            refine Ex.seg 2 (pc' := 51) (lc' := [some (.ref 55), some (.int x1), some (.int v11), some (.int q12.1), none, none]) (st' := [.int 2, .ref 55]) (h' := q16.2) (sg1 rfl rfl (sg1 rfl rfl rfl)) ?_
            obtain ⟨q17, e_q17, hf⟩ := bnd hf
            refine Ex.callV (a := 55) (As := [.int 2]) (r := []) (v := some (.int q17.1)) (h' := q17.2) rfl rfl (by decide) rfl (Nat.le_of_ble_eq_true rfl) rfl (E_199 hrec (by omega) e_q17) rfl ?_
            refine Ex.ifc rfl rfl (fun (c0 : q17.1 = 0) => ?_) (fun (c0 : ¬ (q17.1 = 0)) => ?_)
            · rw [if_pos c0] at hf
              exact Ex.weak (sm_le_n (sm_le_n (sm_le_n (sm_le_n (sm_le_s (sm_le_s sm_le_nil)))))) (B_211_64 hrec hd  hf hs)
            · rw [if_neg c0] at hf
              refine Ex.seg 1 (pc' := 58) (lc' := [some (.ref 55), some (.int x1), some (.int v11), some (.int q12.1), none, none]) (st' := [.ref 55]) (h' := q17.2) (sg1 rfl rfl rfl) ?_
              obtain ⟨q18, e_q18, hf⟩ := bnd hf
              refine Ex.callV (a := 55) (As := []) (r := []) (v := some (.int q18.1)) (h' := q18.2) rfl rfl (by decide) rfl (Nat.le_of_ble_eq_true rfl) rfl (E_175 (by omega) e_q18) rfl ?_
              refine Ex.ifc rfl rfl (fun (c0 : ¬ (q18.1 = 0)) => ?_) (fun (c0 : ¬ ¬ (q18.1 = 0)) => ?_)
              · rw [if_neg c0] at hf
                refine Ex.seg 2 (pc' := 69) (lc' := [some (.ref 55), some (.int x1), some (.int v11), some (.int q12.1), some (.int 0), none]) (st' := []) (h' := q18.2) (sg1 rfl rfl (sg1 rfl rfl rfl)) ?_
                exact Ex.weak (sm_le_s (sm_le_s (sm_le_s (sm_le_s (sm_le_s (sm_le_s sm_le_nil)))))) (B_211_69 hrec hd  hf hs)
              · rw [if_pos (Classical.not_not.mp c0)] at hf
                exact Ex.weak (sm_le_n (sm_le_n (sm_le_n (sm_le_n (sm_le_s (sm_le_s sm_le_nil)))))) (B_211_64 hrec hd  hf hs)
    · rw [if_pos (Classical.not_not.mp c0)] at hf
      exact Ex.weak (sm_le_n (sm_le_n (sm_le_n (sm_le_n (sm_le_s (sm_le_s sm_le_nil)))))) (B_211_25 hrec hd  hf hs)
/-- HandleHouse$Texts.loop(I)I -/
abbrev F_211 (rec : sm_H → Option (Int32 × sm_H)) (x1 : Int32) (h : sm_H) : Option (Int32 × sm_H) := F_211_0 rec x1 h
theorem E_211 {L : Nat} {xs : Nat → Int32} {d : Nat} {M : Nat} {rec : sm_H → Option (Int32 × sm_H)} (hrec : ∀ d, M ≤ d → ∀ (h : sm_H) (q : Int32 × sm_H), rec h = some q → RUN L xs d 194 [.ref 55] h (some (.int q.1), q.2)) (hd : 8 + M ≤ d) {x1 : Int32} {h : sm_H} {r : Int32 × sm_H} (hf : F_211 rec x1 h = some r) : RUN L xs d 211 [.ref 55, .int x1] h (some (.int r.1), r.2) := by
  obtain ⟨d, rfl⟩ : ∃ e, d = e + 1 := ⟨d - 1, by omega⟩
  exact ⟨Nat.le_of_ble_eq_true rfl, B_211_0 hrec (by omega) hf rfl⟩
def F_214_133B (rec : sm_H → Option (Int32 × sm_H)) (s : (Int32 × Int32 × Int32 × Int32 × Int32 × sm_H)) : Option ((Int32 × Int32 × Int32 × Int32 × Int32 × sm_H) ⊕ (Int32 × sm_H)) :=
  if s.2.2.2.1 ≤ s.2.2.2.2.1 then ((F_192 s.2.2.1 s.2.1 s.2.2.2.1 s.1 s.2.2.2.2.2).bind fun q1 =>
  some (.inr (q1.1, q1.2)))
  else ((F_46 s.2.2.1 s.2.2.2.2.1 s.2.2.2.2.2).bind fun q2 =>
  (F_190 (s.2.1 + s.2.2.2.2.1) q2.1 s.1 q2.2).bind fun q3 =>
  if q3.1 = 0 then (some (.inr ((-1), q3.2)))
  else ((some (s.2.2.2.2.1 + 1 : Int32)).bind fun v4 =>
  some (.inl (s.1, s.2.1, s.2.2.1, s.2.2.2.1, v4, q3.2))))
theorem B_214_133B {L : Nat} {xs : Nat → Int32} {d : Nat} {M : Nat} {rec : sm_H → Option (Int32 × sm_H)} (hrec : ∀ d, M ≤ d → ∀ (h : sm_H) (q : Int32 × sm_H), rec h = some q → RUN L xs d 194 [.ref 55] h (some (.int q.1), q.2)) (hd : 7 + M ≤ d) {res : Option Value × sm_H} {S1 : (Int32 × Int32 × Int32 × Int32 × Int32 × sm_H) → Prop} (hS1 : ∀ s, S1 s → Ex (P_G L xs) (RUN L xs d) (sm_lk P_t214) 0 133 [some (.ref 55), none, some (.int s.1), some (.int s.2.1), some (.int s.2.2.1), some (.int s.2.2.2.1), none, some (.int s.2.2.2.2.1), none] [] s.2.2.2.2.2 res) {s : (Int32 × Int32 × Int32 × Int32 × Int32 × sm_H)}  {r : ((Int32 × Int32 × Int32 × Int32 × Int32 × sm_H) ⊕ (Int32 × sm_H))} (hf : F_214_133B rec s = some r) (hs : (Sum.elim S1 (fun (r : Int32 × sm_H) => res = (some (.int r.1), r.2))) r) : Ex (P_G L xs) (RUN L xs d) (sm_lk P_t214) 0 133 [some (.ref 55), none, some (.int s.1), some (.int s.2.1), some (.int s.2.2.1), some (.int s.2.2.2.1), none, some (.int s.2.2.2.2.1), none] [] s.2.2.2.2.2 res := by
  unfold F_214_133B at hf
  refine Ex.seg 2 (pc' := 137) (lc' := [some (.ref 55), none, some (.int s.1), some (.int s.2.1), some (.int s.2.2.1), some (.int s.2.2.2.1), none, some (.int s.2.2.2.2.1), none]) (st' := [.int s.2.2.2.1, .int s.2.2.2.2.1]) (h' := s.2.2.2.2.2) (sg1 rfl rfl (sg1 rfl rfl rfl)) ?_
  refine Ex.icmp rfl rfl (fun (c0 : s.2.2.2.1 ≤ s.2.2.2.2.1) => ?_) (fun (c0 : ¬ (s.2.2.2.1 ≤ s.2.2.2.2.1)) => ?_)
  · rw [if_pos c0] at hf
    refine Ex.seg 5 (pc' := 178) (lc' := [some (.ref 55), none, some (.int s.1), some (.int s.2.1), some (.int s.2.2.1), some (.int s.2.2.2.1), none, some (.int s.2.2.2.2.1), none]) (st' := [.int s.1, .int s.2.2.2.1, .int s.2.1, .int s.2.2.1, .ref 55]) (h' := s.2.2.2.2.2) (sg1 rfl rfl (sg1 rfl rfl (sg1 rfl rfl (sg1 rfl rfl (sg1 rfl rfl rfl))))) ?_
    obtain ⟨q1, e_q1, hf⟩ := bnd hf
    refine Ex.callV (a := 55) (As := [.int s.2.2.1, .int s.2.1, .int s.2.2.2.1, .int s.1]) (r := []) (v := some (.int q1.1)) (h' := q1.2) rfl rfl (by decide) rfl (Nat.le_of_ble_eq_true rfl) rfl (E_192 (by omega) e_q1) rfl ?_
    obtain rfl := Option.some.inj hf
    exact Ex.iret rfl rfl (fun c0 => by cases c0) hs
  · rw [if_neg c0] at hf
    refine Ex.seg 8 (pc' := 153) (lc' := [some (.ref 55), none, some (.int s.1), some (.int s.2.1), some (.int s.2.2.1), some (.int s.2.2.2.1), none, some (.int s.2.2.2.2.1), none]) (st' := [.int s.2.2.2.2.1, .int s.2.2.1, .ref 10, .int (s.2.1 + s.2.2.2.2.1), .ref 55]) (h' := s.2.2.2.2.2) (sg1 rfl rfl (sg1 rfl rfl (sg1 rfl rfl (sg1 rfl rfl (sg1 rfl rfl (sg1 rfl rfl (sg1 rfl rfl (sg1 rfl rfl rfl)))))))) ?_
    obtain ⟨q2, e_q2, hf⟩ := bnd hf
    refine Ex.callV (a := 10) (As := [.int s.2.2.1, .int s.2.2.2.2.1]) (r := [.int (s.2.1 + s.2.2.2.2.1), .ref 55]) (v := some (.int q2.1)) (h' := q2.2) rfl rfl (by decide) rfl (Nat.le_of_ble_eq_true rfl) rfl (E_46 (by omega) e_q2) rfl ?_
    refine Ex.seg 1 (pc' := 157) (lc' := [some (.ref 55), none, some (.int s.1), some (.int s.2.1), some (.int s.2.2.1), some (.int s.2.2.2.1), none, some (.int s.2.2.2.2.1), none]) (st' := [.int s.1, .int q2.1, .int (s.2.1 + s.2.2.2.2.1), .ref 55]) (h' := q2.2) (sg1 rfl rfl rfl) ?_
    obtain ⟨q3, e_q3, hf⟩ := bnd hf
    refine Ex.callV (a := 55) (As := [.int (s.2.1 + s.2.2.2.2.1), .int q2.1, .int s.1]) (r := []) (v := some (.int q3.1)) (h' := q3.2) rfl rfl (by decide) rfl (Nat.le_of_ble_eq_true rfl) rfl (E_190 (by omega) e_q3) rfl ?_
    refine Ex.ifc rfl rfl (fun (c0 : ¬ (q3.1 = 0)) => ?_) (fun (c0 : ¬ ¬ (q3.1 = 0)) => ?_)
    · rw [if_neg c0] at hf
      refine Ex.seg 1 (pc' := 168) (lc' := [some (.ref 55), none, some (.int s.1), some (.int s.2.1), some (.int s.2.2.1), some (.int s.2.2.2.1), none, some (.int (s.2.2.2.2.1 + 1)), none]) (st' := []) (h' := q3.2) (sg1 rfl rfl rfl) ?_
      obtain ⟨v4, e_v4, hf⟩ := bnd hf
      rw [Option.some.inj e_v4]
      refine Ex.seg 1 (pc' := 133) (lc' := [some (.ref 55), none, some (.int s.1), some (.int s.2.1), some (.int s.2.2.1), some (.int s.2.2.2.1), none, some (.int v4), none]) (st' := []) (h' := q3.2) (sg1 rfl rfl rfl) ?_
      obtain rfl := Option.some.inj hf
      exact Ex.weak (sm_le_s (sm_le_s (sm_le_s (sm_le_s (sm_le_s (sm_le_s (sm_le_s (sm_le_s (sm_le_s sm_le_nil))))))))) (hS1 _ hs)
    · rw [if_pos (Classical.not_not.mp c0)] at hf
      refine Ex.seg 1 (pc' := 164) (lc' := [some (.ref 55), none, some (.int s.1), some (.int s.2.1), some (.int s.2.2.1), some (.int s.2.2.2.1), none, some (.int s.2.2.2.2.1), none]) (st' := [.int (-1)]) (h' := q3.2) (sg1 rfl rfl rfl) ?_
      obtain rfl := Option.some.inj hf
      exact Ex.iret rfl rfl (fun c0 => by cases c0) hs
def F_214_133 (rec : sm_H → Option (Int32 × sm_H)) (y2 : Int32) (y3 : Int32) (y4 : Int32) (y5 : Int32) (y7 : Int32) (h : sm_H) : Option (Int32 × sm_H) := lp (F_214_133B rec ) 1000000 (y2, y3, y4, y5, y7, h)
theorem B_214_133 {L : Nat} {xs : Nat → Int32} {d : Nat} {M : Nat} {rec : sm_H → Option (Int32 × sm_H)} (hrec : ∀ d, M ≤ d → ∀ (h : sm_H) (q : Int32 × sm_H), rec h = some q → RUN L xs d 194 [.ref 55] h (some (.int q.1), q.2)) (hd : 7 + M ≤ d) {res : Option Value × sm_H} {y2 : Int32} {y3 : Int32} {y4 : Int32} {y5 : Int32} {y7 : Int32}  {h : sm_H} {r : (Int32 × sm_H)} (hf : F_214_133 rec y2 y3 y4 y5 y7 h = some r) (hs : (fun (r : Int32 × sm_H) => res = (some (.int r.1), r.2)) r) : Ex (P_G L xs) (RUN L xs d) (sm_lk P_t214) 0 133 [some (.ref 55), none, some (.int y2), some (.int y3), some (.int y4), some (.int y5), none, some (.int y7), none] [] h res := by
  unfold F_214_133 at hf
  exact lp_ok (P := fun (s : (Int32 × Int32 × Int32 × Int32 × Int32 × sm_H)) => Ex (P_G L xs) (RUN L xs d) (sm_lk P_t214) 0 133 [some (.ref 55), none, some (.int s.1), some (.int s.2.1), some (.int s.2.2.1), some (.int s.2.2.2.1), none, some (.int s.2.2.2.2.1), none] [] s.2.2.2.2.2 res) (S := (fun (r : Int32 × sm_H) => res = (some (.int r.1), r.2))) (fun s x hx hsx => by
    intros
    exact B_214_133B hrec hd  (fun _ q => q) hx hsx) 1000000 _ r hf hs
def F_214_105 (rec : sm_H → Option (Int32 × sm_H)) (y2 : Int32) (y3 : Int32) (y4 : Int32) (y5 : Int32) (y6 : Int32) (h : sm_H) : Option (Int32 × sm_H) :=
  (some (sm_wI h 55 16 ((h.1 55 16) - 1))).bind fun h5 =>
  if y6 = y5 then (F_214_133 rec  y2 y3 y4 y5 0 h5)
  else ((F_169 9 y2 h5).bind fun q6 =>
  some (q6.1, q6.2))
theorem B_214_105 {L : Nat} {xs : Nat → Int32} {d : Nat} {M : Nat} {rec : sm_H → Option (Int32 × sm_H)} (hrec : ∀ d, M ≤ d → ∀ (h : sm_H) (q : Int32 × sm_H), rec h = some q → RUN L xs d 194 [.ref 55] h (some (.int q.1), q.2)) (hd : 7 + M ≤ d) {res : Option Value × sm_H} {y2 : Int32} {y3 : Int32} {y4 : Int32} {y5 : Int32} {y6 : Int32}  {h : sm_H} {r : (Int32 × sm_H)} (hf : F_214_105 rec y2 y3 y4 y5 y6 h = some r) (hs : (fun (r : Int32 × sm_H) => res = (some (.int r.1), r.2)) r) : Ex (P_G L xs) (RUN L xs d) (sm_lk P_t214) 0 105 [some (.ref 55), none, some (.int y2), some (.int y3), some (.int y4), some (.int y5), some (.int y6), none, none] [] h res := by
  unfold F_214_105 at hf
  refine Ex.seg 6 (pc' := 115) (lc' := [some (.ref 55), none, some (.int y2), some (.int y3), some (.int y4), some (.int y5), some (.int y6), none, none]) (st' := []) (h' := (sm_wI h 55 16 ((h.1 55 16) - 1))) (sg1 rfl rfl (sg1 rfl rfl (sg1 rfl rfl (sg1 rfl rfl (sg1 rfl rfl (sg1 rfl rfl rfl)))))) ?_
  obtain ⟨h5, e_h5, hf⟩ := bnd hf
  rw [Option.some.inj e_h5]
  refine Ex.seg 2 (pc' := 119) (lc' := [some (.ref 55), none, some (.int y2), some (.int y3), some (.int y4), some (.int y5), some (.int y6), none, none]) (st' := [.int y5, .int y6]) (h' := h5) (sg1 rfl rfl (sg1 rfl rfl rfl)) ?_
  refine Ex.icmp rfl rfl (fun (c0 : y6 = y5) => ?_) (fun (c0 : ¬ (y6 = y5)) => ?_)
  · rw [if_pos c0] at hf
    refine Ex.seg 2 (pc' := 133) (lc' := [some (.ref 55), none, some (.int y2), some (.int y3), some (.int y4), some (.int y5), some (.int y6), some (.int 0), none]) (st' := []) (h' := h5) (sg1 rfl rfl (sg1 rfl rfl rfl)) ?_
    exact Ex.weak (sm_le_s (sm_le_s (sm_le_s (sm_le_s (sm_le_s (sm_le_s (sm_le_n (sm_le_s (sm_le_s sm_le_nil))))))))) (B_214_133 hrec hd  hf hs)
  · rw [if_neg c0] at hf
    refine Ex.seg 3 (pc' := 126) (lc' := [some (.ref 55), none, some (.int y2), some (.int y3), some (.int y4), some (.int y5), some (.int y6), none, none]) (st' := [.int y2, .int 9, .ref 55]) (h' := h5) (sg1 rfl rfl (sg1 rfl rfl (sg1 rfl rfl rfl))) ?_
    obtain ⟨q6, e_q6, hf⟩ := bnd hf
    refine Ex.callV (a := 55) (As := [.int 9, .int y2]) (r := []) (v := some (.int q6.1)) (h' := q6.2) rfl rfl (by decide) rfl (Nat.le_of_ble_eq_true rfl) rfl (E_169 (by omega) e_q6) rfl ?_
    obtain rfl := Option.some.inj hf
    exact Ex.iret rfl rfl (fun c0 => by cases c0) hs
def F_214_96 (rec : sm_H → Option (Int32 × sm_H)) (y2 : Int32) (y3 : Int32) (y4 : Int32) (y5 : Int32) (y6 : Int32) (y7 : Int32) (h : sm_H) : Option ((Int32 × Int32 × Int32 × Int32 × Int32 × Int32 × sm_H) ⊕ (Int32 × sm_H)) :=
  (some (y6 + 1 : Int32)).bind fun v7 =>
  (some (y7 + 1 : Int32)).bind fun v8 =>
  some (.inl (y2, y3, y4, y5, v7, v8, h))
theorem B_214_96 {L : Nat} {xs : Nat → Int32} {d : Nat} {M : Nat} {rec : sm_H → Option (Int32 × sm_H)} (hrec : ∀ d, M ≤ d → ∀ (h : sm_H) (q : Int32 × sm_H), rec h = some q → RUN L xs d 194 [.ref 55] h (some (.int q.1), q.2)) (hd : 7 + M ≤ d) {res : Option Value × sm_H} {S1 : (Int32 × Int32 × Int32 × Int32 × Int32 × Int32 × sm_H) → Prop} (hS1 : ∀ s, S1 s → Ex (P_G L xs) (RUN L xs d) (sm_lk P_t214) 0 49 [some (.ref 55), none, some (.int s.1), some (.int s.2.1), some (.int s.2.2.1), some (.int s.2.2.2.1), some (.int s.2.2.2.2.1), some (.int s.2.2.2.2.2.1), none] [] s.2.2.2.2.2.2 res) {y2 : Int32} {y3 : Int32} {y4 : Int32} {y5 : Int32} {y6 : Int32} {y7 : Int32}  {h : sm_H} {r : ((Int32 × Int32 × Int32 × Int32 × Int32 × Int32 × sm_H) ⊕ (Int32 × sm_H))} (hf : F_214_96 rec y2 y3 y4 y5 y6 y7 h = some r) (hs : (Sum.elim S1 (fun (r : Int32 × sm_H) => res = (some (.int r.1), r.2))) r) : Ex (P_G L xs) (RUN L xs d) (sm_lk P_t214) 0 96 [some (.ref 55), none, some (.int y2), some (.int y3), some (.int y4), some (.int y5), some (.int y6), some (.int y7), none] [] h res := by
  unfold F_214_96 at hf
  refine Ex.seg 1 (pc' := 99) (lc' := [some (.ref 55), none, some (.int y2), some (.int y3), some (.int y4), some (.int y5), some (.int (y6 + 1)), some (.int y7), none]) (st' := []) (h' := h) (sg1 rfl rfl rfl) ?_
  obtain ⟨v7, e_v7, hf⟩ := bnd hf
  rw [Option.some.inj e_v7]
  refine Ex.seg 1 (pc' := 102) (lc' := [some (.ref 55), none, some (.int y2), some (.int y3), some (.int y4), some (.int y5), some (.int v7), some (.int (y7 + 1)), none]) (st' := []) (h' := h) (sg1 rfl rfl rfl) ?_
  obtain ⟨v8, e_v8, hf⟩ := bnd hf
  rw [Option.some.inj e_v8]
  refine Ex.seg 1 (pc' := 49) (lc' := [some (.ref 55), none, some (.int y2), some (.int y3), some (.int y4), some (.int y5), some (.int v7), some (.int v8), none]) (st' := []) (h' := h) (sg1 rfl rfl rfl) ?_
  obtain rfl := Option.some.inj hf
  exact Ex.weak (sm_le_s (sm_le_s (sm_le_s (sm_le_s (sm_le_s (sm_le_s (sm_le_s (sm_le_s (sm_le_s sm_le_nil))))))))) (hS1 _ hs)
def F_214_94 (rec : sm_H → Option (Int32 × sm_H))  (h : sm_H) : Option (Int32 × sm_H) :=
  some ((-1), h)
theorem B_214_94 {L : Nat} {xs : Nat → Int32} {d : Nat} {M : Nat} {rec : sm_H → Option (Int32 × sm_H)} (hrec : ∀ d, M ≤ d → ∀ (h : sm_H) (q : Int32 × sm_H), rec h = some q → RUN L xs d 194 [.ref 55] h (some (.int q.1), q.2)) (hd : 7 + M ≤ d) {res : Option Value × sm_H}   {h : sm_H} {r : (Int32 × sm_H)} (hf : F_214_94 rec  h = some r) (hs : (fun (r : Int32 × sm_H) => res = (some (.int r.1), r.2)) r) : Ex (P_G L xs) (RUN L xs d) (sm_lk P_t214) 0 94 [none, none, none, none, none, none, none, none, none] [] h res := by
  unfold F_214_94 at hf
  refine Ex.seg 1 (pc' := 95) (lc' := [none, none, none, none, none, none, none, none, none]) (st' := [.int (-1)]) (h' := h) (sg1 rfl rfl rfl) ?_
  obtain rfl := Option.some.inj hf
  exact Ex.iret rfl rfl (fun c0 => by cases c0) hs
def F_214_49B (rec : sm_H → Option (Int32 × sm_H)) (s : (Int32 × Int32 × Int32 × Int32 × Int32 × Int32 × sm_H)) : Option ((Int32 × Int32 × Int32 × Int32 × Int32 × Int32 × sm_H) ⊕ (Int32 × sm_H)) :=
  if 3000 ≤ s.2.2.2.2.2.1 then ((F_214_105 rec  s.1 s.2.1 s.2.2.1 s.2.2.2.1 s.2.2.2.2.1 s.2.2.2.2.2.2).map fun r => (.inr r))
  else ((F_171 s.2.2.2.2.2.2).bind fun q9 =>
  if q9.1 = 2 then ((F_214_105 rec  s.1 s.2.1 s.2.2.1 s.2.2.2.1 s.2.2.2.2.1 q9.2).map fun r => (.inr r))
  else ((rec q9.2).bind fun q10 =>
  if q10.1 = (-1) then ((F_214_94 rec  q10.2).map fun r => (.inr r))
  else (if 6 ≤ s.2.2.2.2.1 then (F_214_96 rec  s.1 s.2.1 s.2.2.1 s.2.2.2.1 s.2.2.2.2.1 s.2.2.2.2.2.1 q10.2)
  else ((F_188 q10.1 0 q10.2).bind fun q11 =>
  if q11.1 = 0 then ((F_214_94 rec  q11.2).map fun r => (.inr r))
  else (F_214_96 rec  s.1 s.2.1 s.2.2.1 s.2.2.2.1 s.2.2.2.2.1 s.2.2.2.2.2.1 q11.2)))))
theorem B_214_49B {L : Nat} {xs : Nat → Int32} {d : Nat} {M : Nat} {rec : sm_H → Option (Int32 × sm_H)} (hrec : ∀ d, M ≤ d → ∀ (h : sm_H) (q : Int32 × sm_H), rec h = some q → RUN L xs d 194 [.ref 55] h (some (.int q.1), q.2)) (hd : 7 + M ≤ d) {res : Option Value × sm_H} {S1 : (Int32 × Int32 × Int32 × Int32 × Int32 × Int32 × sm_H) → Prop} (hS1 : ∀ s, S1 s → Ex (P_G L xs) (RUN L xs d) (sm_lk P_t214) 0 49 [some (.ref 55), none, some (.int s.1), some (.int s.2.1), some (.int s.2.2.1), some (.int s.2.2.2.1), some (.int s.2.2.2.2.1), some (.int s.2.2.2.2.2.1), none] [] s.2.2.2.2.2.2 res) {s : (Int32 × Int32 × Int32 × Int32 × Int32 × Int32 × sm_H)}  {r : ((Int32 × Int32 × Int32 × Int32 × Int32 × Int32 × sm_H) ⊕ (Int32 × sm_H))} (hf : F_214_49B rec s = some r) (hs : (Sum.elim S1 (fun (r : Int32 × sm_H) => res = (some (.int r.1), r.2))) r) : Ex (P_G L xs) (RUN L xs d) (sm_lk P_t214) 0 49 [some (.ref 55), none, some (.int s.1), some (.int s.2.1), some (.int s.2.2.1), some (.int s.2.2.2.1), some (.int s.2.2.2.2.1), some (.int s.2.2.2.2.2.1), none] [] s.2.2.2.2.2.2 res := by
  unfold F_214_49B at hf
  refine Ex.seg 2 (pc' := 54) (lc' := [some (.ref 55), none, some (.int s.1), some (.int s.2.1), some (.int s.2.2.1), some (.int s.2.2.2.1), some (.int s.2.2.2.2.1), some (.int s.2.2.2.2.2.1), none]) (st' := [.int 3000, .int s.2.2.2.2.2.1]) (h' := s.2.2.2.2.2.2) (sg1 rfl rfl (sg1 rfl rfl rfl)) ?_
  refine Ex.icmp rfl rfl (fun (c0 : 3000 ≤ s.2.2.2.2.2.1) => ?_) (fun (c0 : ¬ (3000 ≤ s.2.2.2.2.2.1)) => ?_)
  · rw [if_pos c0] at hf
    obtain ⟨r0, hf0, rfl⟩ := Option.map_eq_some_iff.mp hf
    exact Ex.weak (sm_le_s (sm_le_s (sm_le_s (sm_le_s (sm_le_s (sm_le_s (sm_le_s (sm_le_n (sm_le_s sm_le_nil))))))))) (B_214_105 hrec hd  hf0 hs)
  · rw [if_neg c0] at hf
    refine Ex.seg 1 (pc' := 58) (lc' := [some (.ref 55), none, some (.int s.1), some (.int s.2.1), some (.int s.2.2.1), some (.int s.2.2.2.1), some (.int s.2.2.2.2.1), some (.int s.2.2.2.2.2.1), none]) (st' := [.ref 55]) (h' := s.2.2.2.2.2.2) (sg1 rfl rfl rfl) ?_
    obtain ⟨q9, e_q9, hf⟩ := bnd hf
    refine Ex.callV (a := 55) (As := []) (r := []) (v := some (.int q9.1)) (h' := q9.2) rfl rfl (by decide) rfl (Nat.le_of_ble_eq_true rfl) rfl (E_171 (by omega) e_q9) rfl ?_
    refine Ex.seg 1 (pc' := 62) (lc' := [some (.ref 55), none, some (.int s.1), some (.int s.2.1), some (.int s.2.2.1), some (.int s.2.2.2.1), some (.int s.2.2.2.2.1), some (.int s.2.2.2.2.2.1), none]) (st' := [.int 2, .int q9.1]) (h' := q9.2) (sg1 rfl rfl rfl) ?_
    refine Ex.icmp rfl rfl (fun (c0 : q9.1 = 2) => ?_) (fun (c0 : ¬ (q9.1 = 2)) => ?_)
    · rw [if_pos c0] at hf
      obtain ⟨r0, hf0, rfl⟩ := Option.map_eq_some_iff.mp hf
      exact Ex.weak (sm_le_s (sm_le_s (sm_le_s (sm_le_s (sm_le_s (sm_le_s (sm_le_s (sm_le_n (sm_le_s sm_le_nil))))))))) (B_214_105 hrec hd  hf0 hs)
    · rw [if_neg c0] at hf
      refine Ex.seg 1 (pc' := 66) (lc' := [some (.ref 55), none, some (.int s.1), some (.int s.2.1), some (.int s.2.2.1), some (.int s.2.2.2.1), some (.int s.2.2.2.2.1), some (.int s.2.2.2.2.2.1), none]) (st' := [.ref 55]) (h' := q9.2) (sg1 rfl rfl rfl) ?_
      obtain ⟨q10, e_q10, hf⟩ := bnd hf
      refine Ex.callV (a := 55) (As := []) (r := []) (v := some (.int q10.1)) (h' := q10.2) rfl rfl (by decide) rfl (Nat.le_of_ble_eq_true rfl) rfl (hrec d (by omega)  _ _ e_q10) rfl ?_
      refine Ex.seg 3 (pc' := 74) (lc' := [some (.ref 55), none, some (.int s.1), some (.int s.2.1), some (.int s.2.2.1), some (.int s.2.2.2.1), some (.int s.2.2.2.2.1), some (.int s.2.2.2.2.2.1), some (.int q10.1)]) (st' := [.int (-1), .int q10.1]) (h' := q10.2) (sg1 rfl rfl (sg1 rfl rfl (sg1 rfl rfl rfl))) ?_
      refine Ex.icmp rfl rfl (fun (c0 : q10.1 = (-1)) => ?_) (fun (c0 : ¬ (q10.1 = (-1))) => ?_)
      · rw [if_pos c0] at hf
        obtain ⟨r0, hf0, rfl⟩ := Option.map_eq_some_iff.mp hf
        exact Ex.weak (sm_le_n (sm_le_s (sm_le_n (sm_le_n (sm_le_n (sm_le_n (sm_le_n (sm_le_n (sm_le_n sm_le_nil))))))))) (B_214_94 hrec hd  hf0 hs)
      · rw [if_neg c0] at hf
        refine Ex.seg 2 (pc' := 81) (lc' := [some (.ref 55), none, some (.int s.1), some (.int s.2.1), some (.int s.2.2.1), some (.int s.2.2.2.1), some (.int s.2.2.2.2.1), some (.int s.2.2.2.2.2.1), some (.int q10.1)]) (st' := [.int 6, .int s.2.2.2.2.1]) (h' := q10.2) (sg1 rfl rfl (sg1 rfl rfl rfl)) ?_
        refine Ex.icmp rfl rfl (fun (c0 : 6 ≤ s.2.2.2.2.1) => ?_) (fun (c0 : ¬ (6 ≤ s.2.2.2.2.1)) => ?_)
        · rw [if_pos c0] at hf
          exact Ex.weak (sm_le_s (sm_le_s (sm_le_s (sm_le_s (sm_le_s (sm_le_s (sm_le_s (sm_le_s (sm_le_n sm_le_nil))))))))) (B_214_96 hrec hd hS1 hf hs)
        · rw [if_neg c0] at hf
          refine Ex.seg 3 (pc' := 88) (lc' := [some (.ref 55), none, some (.int s.1), some (.int s.2.1), some (.int s.2.2.1), some (.int s.2.2.2.1), some (.int s.2.2.2.2.1), some (.int s.2.2.2.2.2.1), some (.int q10.1)]) (st' := [.long 0, .int q10.1, .ref 55]) (h' := q10.2) (sg1 rfl rfl (sg1 rfl rfl (sg1 rfl rfl rfl))) ?_
          obtain ⟨q11, e_q11, hf⟩ := bnd hf
          refine Ex.callV (a := 55) (As := [.int q10.1, .long 0]) (r := []) (v := some (.int q11.1)) (h' := q11.2) rfl rfl (by decide) rfl (Nat.le_of_ble_eq_true rfl) rfl (E_188 (by omega) e_q11) rfl ?_
          refine Ex.ifc rfl rfl (fun (c0 : ¬ (q11.1 = 0)) => ?_) (fun (c0 : ¬ ¬ (q11.1 = 0)) => ?_)
          · rw [if_neg c0] at hf
            exact Ex.weak (sm_le_s (sm_le_s (sm_le_s (sm_le_s (sm_le_s (sm_le_s (sm_le_s (sm_le_s (sm_le_n sm_le_nil))))))))) (B_214_96 hrec hd hS1 hf hs)
          · rw [if_pos (Classical.not_not.mp c0)] at hf
            obtain ⟨r0, hf0, rfl⟩ := Option.map_eq_some_iff.mp hf
            exact Ex.weak (sm_le_n (sm_le_s (sm_le_n (sm_le_n (sm_le_n (sm_le_n (sm_le_n (sm_le_n (sm_le_n sm_le_nil))))))))) (B_214_94 hrec hd  hf0 hs)
def F_214_49 (rec : sm_H → Option (Int32 × sm_H)) (y2 : Int32) (y3 : Int32) (y4 : Int32) (y5 : Int32) (y6 : Int32) (y7 : Int32) (h : sm_H) : Option (Int32 × sm_H) := lp (F_214_49B rec ) 1000000 (y2, y3, y4, y5, y6, y7, h)
theorem B_214_49 {L : Nat} {xs : Nat → Int32} {d : Nat} {M : Nat} {rec : sm_H → Option (Int32 × sm_H)} (hrec : ∀ d, M ≤ d → ∀ (h : sm_H) (q : Int32 × sm_H), rec h = some q → RUN L xs d 194 [.ref 55] h (some (.int q.1), q.2)) (hd : 7 + M ≤ d) {res : Option Value × sm_H} {y2 : Int32} {y3 : Int32} {y4 : Int32} {y5 : Int32} {y6 : Int32} {y7 : Int32}  {h : sm_H} {r : (Int32 × sm_H)} (hf : F_214_49 rec y2 y3 y4 y5 y6 y7 h = some r) (hs : (fun (r : Int32 × sm_H) => res = (some (.int r.1), r.2)) r) : Ex (P_G L xs) (RUN L xs d) (sm_lk P_t214) 0 49 [some (.ref 55), none, some (.int y2), some (.int y3), some (.int y4), some (.int y5), some (.int y6), some (.int y7), none] [] h res := by
  unfold F_214_49 at hf
  exact lp_ok (P := fun (s : (Int32 × Int32 × Int32 × Int32 × Int32 × Int32 × sm_H)) => Ex (P_G L xs) (RUN L xs d) (sm_lk P_t214) 0 49 [some (.ref 55), none, some (.int s.1), some (.int s.2.1), some (.int s.2.2.1), some (.int s.2.2.2.1), some (.int s.2.2.2.2.1), some (.int s.2.2.2.2.2.1), none] [] s.2.2.2.2.2.2 res) (S := (fun (r : Int32 × sm_H) => res = (some (.int r.1), r.2))) (fun s x hx hsx => by
    intros
    exact B_214_49B hrec hd  (fun _ q => q) hx hsx) 1000000 _ r hf hs
def F_214_12 (rec : sm_H → Option (Int32 × sm_H))  (h : sm_H) : Option (Int32 × sm_H) :=
  (F_170 6 h).bind fun q12 =>
  some (q12.1, q12.2)
theorem B_214_12 {L : Nat} {xs : Nat → Int32} {d : Nat} {M : Nat} {rec : sm_H → Option (Int32 × sm_H)} (hrec : ∀ d, M ≤ d → ∀ (h : sm_H) (q : Int32 × sm_H), rec h = some q → RUN L xs d 194 [.ref 55] h (some (.int q.1), q.2)) (hd : 7 + M ≤ d) {res : Option Value × sm_H}   {h : sm_H} {r : (Int32 × sm_H)} (hf : F_214_12 rec  h = some r) (hs : (fun (r : Int32 × sm_H) => res = (some (.int r.1), r.2)) r) : Ex (P_G L xs) (RUN L xs d) (sm_lk P_t214) 0 12 [some (.ref 55), none, none, none, none, none, none, none, none] [] h res := by
  unfold F_214_12 at hf
  refine Ex.seg 2 (pc' := 15) (lc' := [some (.ref 55), none, none, none, none, none, none, none, none]) (st' := [.int 6, .ref 55]) (h' := h) (sg1 rfl rfl (sg1 rfl rfl rfl)) ?_
  obtain ⟨q12, e_q12, hf⟩ := bnd hf
  refine Ex.callV (a := 55) (As := [.int 6]) (r := []) (v := some (.int q12.1)) (h' := q12.2) rfl rfl (by decide) rfl (Nat.le_of_ble_eq_true rfl) rfl (E_170 (by omega) e_q12) rfl ?_
  obtain rfl := Option.some.inj hf
  exact Ex.iret rfl rfl (fun c0 => by cases c0) hs
def F_214_0 (rec : sm_H → Option (Int32 × sm_H)) (x1 : Int32) (x2 : Int32) (h : sm_H) : Option (Int32 × sm_H) :=
  if x1 < 0 then (F_214_12 rec  h)
  else (if x1 < (h.1 55 15) then ((some ((h.1 55 12) : Int32)).bind fun v13 =>
  (ldI h 63 60 x1).bind fun v14 =>
  (F_45 v14 h).bind fun q15 =>
  F_214_49 rec  x2 v13 v14 q15.1 0 0 q15.2)
  else (F_214_12 rec  h))
theorem B_214_0 {L : Nat} {xs : Nat → Int32} {d : Nat} {M : Nat} {rec : sm_H → Option (Int32 × sm_H)} (hrec : ∀ d, M ≤ d → ∀ (h : sm_H) (q : Int32 × sm_H), rec h = some q → RUN L xs d 194 [.ref 55] h (some (.int q.1), q.2)) (hd : 7 + M ≤ d) {res : Option Value × sm_H} {x1 : Int32} {x2 : Int32}  {h : sm_H} {r : (Int32 × sm_H)} (hf : F_214_0 rec x1 x2 h = some r) (hs : (fun (r : Int32 × sm_H) => res = (some (.int r.1), r.2)) r) : Ex (P_G L xs) (RUN L xs d) (sm_lk P_t214) 0 0 [some (.ref 55), some (.int x1), some (.int x2), none, none, none, none, none, none] [] h res := by
  unfold F_214_0 at hf
  refine Ex.seg 1 (pc' := 1) (lc' := [some (.ref 55), some (.int x1), some (.int x2), none, none, none, none, none, none]) (st' := [.int x1]) (h' := h) (sg1 rfl rfl rfl) ?_
  refine Ex.ifc rfl rfl (fun (c0 : x1 < 0) => ?_) (fun (c0 : ¬ (x1 < 0)) => ?_)
  · rw [if_pos c0] at hf
    exact Ex.weak (sm_le_s (sm_le_n (sm_le_n (sm_le_s (sm_le_s (sm_le_s (sm_le_s (sm_le_s (sm_le_s sm_le_nil))))))))) (B_214_12 hrec hd  hf hs)
  · rw [if_neg c0] at hf
    refine Ex.seg 3 (pc' := 9) (lc' := [some (.ref 55), some (.int x1), some (.int x2), none, none, none, none, none, none]) (st' := [.int (h.1 55 15), .int x1]) (h' := h) (sg1 rfl rfl (sg1 rfl rfl (sg1 rfl rfl rfl))) ?_
    refine Ex.icmp rfl rfl (fun (c0 : x1 < (h.1 55 15)) => ?_) (fun (c0 : ¬ (x1 < (h.1 55 15))) => ?_)
    · rw [if_pos c0] at hf
      refine Ex.seg 3 (pc' := 24) (lc' := [some (.ref 55), some (.int x1), some (.int x2), some (.int (h.1 55 12)), none, none, none, none, none]) (st' := []) (h' := h) (sg1 rfl rfl (sg1 rfl rfl (sg1 rfl rfl rfl))) ?_
      obtain ⟨v13, e_v13, hf⟩ := bnd hf
      rw [Option.some.inj e_v13]
      refine Ex.seg 3 (pc' := 29) (lc' := [some (.ref 55), some (.int x1), some (.int x2), some (.int v13), none, none, none, none, none]) (st' := [.int x1, .ref 63]) (h' := h) (sg1 rfl rfl (sg1 rfl rfl (sg1 rfl rfl rfl))) ?_
      obtain ⟨v14, e_v14, hf⟩ := bnd hf
      refine Ex.iald e_v14 rfl rfl ?_
      refine Ex.seg 4 (pc' := 38) (lc' := [some (.ref 55), some (.int x1), some (.int x2), some (.int v13), some (.int v14), none, none, none, none]) (st' := [.int v14, .ref 10]) (h' := h) (sg1 rfl rfl (sg1 rfl rfl (sg1 rfl rfl (sg1 rfl rfl rfl)))) ?_
      obtain ⟨q15, e_q15, hf⟩ := bnd hf
      refine Ex.callV (a := 10) (As := [.int v14]) (r := []) (v := some (.int q15.1)) (h' := q15.2) rfl rfl (by decide) rfl (Nat.le_of_ble_eq_true rfl) rfl (E_45 (by omega) e_q15) rfl ?_
      refine Ex.seg 5 (pc' := 49) (lc' := [some (.ref 55), some (.int x1), some (.int x2), some (.int v13), some (.int v14), some (.int q15.1), some (.int 0), some (.int 0), none]) (st' := []) (h' := q15.2) (sg1 rfl rfl (sg1 rfl rfl (sg1 rfl rfl (sg1 rfl rfl (sg1 rfl rfl rfl))))) ?_
      exact Ex.weak (sm_le_s (sm_le_n (sm_le_s (sm_le_s (sm_le_s (sm_le_s (sm_le_s (sm_le_s (sm_le_s sm_le_nil))))))))) (B_214_49 hrec hd  hf hs)
    · rw [if_neg c0] at hf
      exact Ex.weak (sm_le_s (sm_le_n (sm_le_n (sm_le_s (sm_le_s (sm_le_s (sm_le_s (sm_le_s (sm_le_s sm_le_nil))))))))) (B_214_12 hrec hd  hf hs)
/-- HandleHouse$Texts.called(II)I -/
abbrev F_214 (rec : sm_H → Option (Int32 × sm_H)) (x1 : Int32) (x2 : Int32) (h : sm_H) : Option (Int32 × sm_H) := F_214_0 rec x1 x2 h
theorem E_214 {L : Nat} {xs : Nat → Int32} {d : Nat} {M : Nat} {rec : sm_H → Option (Int32 × sm_H)} (hrec : ∀ d, M ≤ d → ∀ (h : sm_H) (q : Int32 × sm_H), rec h = some q → RUN L xs d 194 [.ref 55] h (some (.int q.1), q.2)) (hd : 8 + M ≤ d) {x1 : Int32} {x2 : Int32} {h : sm_H} {r : Int32 × sm_H} (hf : F_214 rec x1 x2 h = some r) : RUN L xs d 214 [.ref 55, .int x1, .int x2] h (some (.int r.1), r.2) := by
  obtain ⟨d, rfl⟩ : ∃ e, d = e + 1 := ⟨d - 1, by omega⟩
  exact ⟨Nat.le_of_ble_eq_true rfl, B_214_0 hrec (by omega) hf rfl⟩
def F_200_119 (rec : sm_H → Option (Int32 × sm_H)) (z0 : Int32) (h : sm_H) : Option (Int32 × sm_H) :=
  some (z0, h)
theorem B_200_119 {L : Nat} {xs : Nat → Int32} {d : Nat} {M : Nat} {rec : sm_H → Option (Int32 × sm_H)} (hrec : ∀ d, M ≤ d → ∀ (h : sm_H) (q : Int32 × sm_H), rec h = some q → RUN L xs d 194 [.ref 55] h (some (.int q.1), q.2)) (hd : 8 + M ≤ d) {res : Option Value × sm_H} {z0 : Int32}  {h : sm_H} {r : (Int32 × sm_H)} (hf : F_200_119 rec z0 h = some r) (hs : (fun (r : Int32 × sm_H) => res = (some (.int r.1), r.2)) r) : Ex (P_G L xs) (RUN L xs d) (sm_lk P_t200) 0 119 [none, none, none, none, none, none] [.int z0] h res := by
  unfold F_200_119 at hf
  obtain rfl := Option.some.inj hf
  exact Ex.iret rfl rfl (fun c0 => by cases c0) hs
def F_200_73 (rec : sm_H → Option (Int32 × sm_H))  (h : sm_H) : Option (Int32 × sm_H) :=
  some ((-1), h)
theorem B_200_73 {L : Nat} {xs : Nat → Int32} {d : Nat} {M : Nat} {rec : sm_H → Option (Int32 × sm_H)} (hrec : ∀ d, M ≤ d → ∀ (h : sm_H) (q : Int32 × sm_H), rec h = some q → RUN L xs d 194 [.ref 55] h (some (.int q.1), q.2)) (hd : 8 + M ≤ d) {res : Option Value × sm_H}   {h : sm_H} {r : (Int32 × sm_H)} (hf : F_200_73 rec  h = some r) (hs : (fun (r : Int32 × sm_H) => res = (some (.int r.1), r.2)) r) : Ex (P_G L xs) (RUN L xs d) (sm_lk P_t200) 0 73 [none, none, none, none, none, none] [] h res := by
  unfold F_200_73 at hf
  refine Ex.seg 1 (pc' := 74) (lc' := [none, none, none, none, none, none]) (st' := [.int (-1)]) (h' := h) (sg1 rfl rfl rfl) ?_
  obtain rfl := Option.some.inj hf
  exact Ex.iret rfl rfl (fun c0 => by cases c0) hs
def F_200_52 (rec : sm_H → Option (Int32 × sm_H))  (h : sm_H) : Option (Int32 × sm_H) :=
  some ((-1), h)
theorem B_200_52 {L : Nat} {xs : Nat → Int32} {d : Nat} {M : Nat} {rec : sm_H → Option (Int32 × sm_H)} (hrec : ∀ d, M ≤ d → ∀ (h : sm_H) (q : Int32 × sm_H), rec h = some q → RUN L xs d 194 [.ref 55] h (some (.int q.1), q.2)) (hd : 8 + M ≤ d) {res : Option Value × sm_H}   {h : sm_H} {r : (Int32 × sm_H)} (hf : F_200_52 rec  h = some r) (hs : (fun (r : Int32 × sm_H) => res = (some (.int r.1), r.2)) r) : Ex (P_G L xs) (RUN L xs d) (sm_lk P_t200) 0 52 [none, none, none, none, none, none] [] h res := by
  unfold F_200_52 at hf
  refine Ex.seg 1 (pc' := 53) (lc' := [none, none, none, none, none, none]) (st' := [.int (-1)]) (h' := h) (sg1 rfl rfl rfl) ?_
  obtain rfl := Option.some.inj hf
  exact Ex.iret rfl rfl (fun c0 => by cases c0) hs
def F_200_34 (rec : sm_H → Option (Int32 × sm_H)) (y1 : Int32) (y3 : Int32) (y4 : Int32) (y5 : Int32) (h : sm_H) : Option (Int32 × sm_H) :=
  if y5 = (-1) then (F_200_52 rec  h)
  else (if y1 < 0 then (F_200_52 rec  h)
  else ((sm_al G0 h 1000003).bind fun v1 =>
  if y1 < v1 then ((sm_ldI G0 h 1000003 y1).bind fun v2 =>
  (F_199 rec v2 h).bind fun q3 =>
  if q3.1 = 0 then (F_200_73 rec  q3.2)
  else ((F_175 q3.2).bind fun q4 =>
  if q4.1 = 0 then (F_200_73 rec  q4.2)
  else ((F_203 y1 y5 y4 q4.2).bind fun q5 =>
  if q5.1 = 0 then ((F_169 7 y3 q5.2).bind fun q8 =>
  some (q8.1, q8.2))
  else (if y1 = 0 then ((F_205 y4 y3 q5.2).bind fun q7 =>
  F_200_119 rec  q7.1 q7.2)
  else ((F_202 y1 y5 y4 y3 q5.2).bind fun q6 =>
  F_200_119 rec  q6.1 q6.2)))))
  else (F_200_52 rec  h)))
theorem B_200_34 {L : Nat} {xs : Nat → Int32} {d : Nat} {M : Nat} {rec : sm_H → Option (Int32 × sm_H)} (hrec : ∀ d, M ≤ d → ∀ (h : sm_H) (q : Int32 × sm_H), rec h = some q → RUN L xs d 194 [.ref 55] h (some (.int q.1), q.2)) (hd : 8 + M ≤ d) {res : Option Value × sm_H} {y1 : Int32} {y3 : Int32} {y4 : Int32} {y5 : Int32}  {h : sm_H} {r : (Int32 × sm_H)} (hf : F_200_34 rec y1 y3 y4 y5 h = some r) (hs : (fun (r : Int32 × sm_H) => res = (some (.int r.1), r.2)) r) : Ex (P_G L xs) (RUN L xs d) (sm_lk P_t200) 0 34 [some (.ref 55), some (.int y1), none, some (.int y3), some (.int y4), some (.int y5)] [] h res := by
  unfold F_200_34 at hf
  refine Ex.seg 2 (pc' := 37) (lc' := [some (.ref 55), some (.int y1), none, some (.int y3), some (.int y4), some (.int y5)]) (st' := [.int (-1), .int y5]) (h' := h) (sg1 rfl rfl (sg1 rfl rfl rfl)) ?_
  refine Ex.icmp rfl rfl (fun (c0 : y5 = (-1)) => ?_) (fun (c0 : ¬ (y5 = (-1))) => ?_)
  · rw [if_pos c0] at hf
    exact Ex.weak (sm_le_n (sm_le_n (sm_le_s (sm_le_n (sm_le_n (sm_le_n sm_le_nil)))))) (B_200_52 hrec hd  hf hs)
  · rw [if_neg c0] at hf
    refine Ex.seg 1 (pc' := 41) (lc' := [some (.ref 55), some (.int y1), none, some (.int y3), some (.int y4), some (.int y5)]) (st' := [.int y1]) (h' := h) (sg1 rfl rfl rfl) ?_
    refine Ex.ifc rfl rfl (fun (c0 : y1 < 0) => ?_) (fun (c0 : ¬ (y1 < 0)) => ?_)
    · rw [if_pos c0] at hf
      exact Ex.weak (sm_le_n (sm_le_n (sm_le_s (sm_le_n (sm_le_n (sm_le_n sm_le_nil)))))) (B_200_52 hrec hd  hf hs)
    · rw [if_neg c0] at hf
      refine Ex.seg 2 (pc' := 48) (lc' := [some (.ref 55), some (.int y1), none, some (.int y3), some (.int y4), some (.int y5)]) (st' := [.ref 1000003, .int y1]) (h' := h) (sg1 rfl rfl (sg1 rfl rfl rfl)) ?_
      obtain ⟨v1, e_v1, hf⟩ := bnd hf
      refine Ex.alen e_v1 rfl rfl ?_
      refine Ex.icmp rfl rfl (fun (c0 : y1 < v1) => ?_) (fun (c0 : ¬ (y1 < v1)) => ?_)
      · rw [if_pos c0] at hf
        refine Ex.seg 3 (pc' := 59) (lc' := [some (.ref 55), some (.int y1), none, some (.int y3), some (.int y4), some (.int y5)]) (st' := [.int y1, .ref 1000003, .ref 55]) (h' := h) (sg1 rfl rfl (sg1 rfl rfl (sg1 rfl rfl rfl))) ?_
        obtain ⟨v2, e_v2, hf⟩ := bnd hf
        refine Ex.iald e_v2 rfl rfl ?_
        obtain ⟨q3, e_q3, hf⟩ := bnd hf
        refine Ex.callV (a := 55) (As := [.int v2]) (r := []) (v := some (.int q3.1)) (h' := q3.2) rfl rfl (by decide) rfl (Nat.le_of_ble_eq_true rfl) rfl (E_199 hrec (by omega) e_q3) rfl ?_
        refine Ex.ifc rfl rfl (fun (c0 : q3.1 = 0) => ?_) (fun (c0 : ¬ (q3.1 = 0)) => ?_)
        · rw [if_pos c0] at hf
          exact Ex.weak (sm_le_n (sm_le_n (sm_le_s (sm_le_n (sm_le_n (sm_le_n sm_le_nil)))))) (B_200_73 hrec hd  hf hs)
        · rw [if_neg c0] at hf
          refine Ex.seg 1 (pc' := 67) (lc' := [some (.ref 55), some (.int y1), none, some (.int y3), some (.int y4), some (.int y5)]) (st' := [.ref 55]) (h' := q3.2) (sg1 rfl rfl rfl) ?_
          obtain ⟨q4, e_q4, hf⟩ := bnd hf
          refine Ex.callV (a := 55) (As := []) (r := []) (v := some (.int q4.1)) (h' := q4.2) rfl rfl (by decide) rfl (Nat.le_of_ble_eq_true rfl) rfl (E_175 (by omega) e_q4) rfl ?_
          refine Ex.ifc rfl rfl (fun (c0 : ¬ (q4.1 = 0)) => ?_) (fun (c0 : ¬ ¬ (q4.1 = 0)) => ?_)
          · rw [if_neg c0] at hf
            refine Ex.seg 4 (pc' := 81) (lc' := [some (.ref 55), some (.int y1), none, some (.int y3), some (.int y4), some (.int y5)]) (st' := [.int y4, .int y5, .int y1, .ref 55]) (h' := q4.2) (sg1 rfl rfl (sg1 rfl rfl (sg1 rfl rfl (sg1 rfl rfl rfl)))) ?_
            obtain ⟨q5, e_q5, hf⟩ := bnd hf
            refine Ex.callV (a := 55) (As := [.int y1, .int y5, .int y4]) (r := []) (v := some (.int q5.1)) (h' := q5.2) rfl rfl (by decide) rfl (Nat.le_of_ble_eq_true rfl) rfl (E_203 (by omega) e_q5) rfl ?_
            refine Ex.ifc rfl rfl (fun (c0 : ¬ (q5.1 = 0)) => ?_) (fun (c0 : ¬ ¬ (q5.1 = 0)) => ?_)
            · rw [if_neg c0] at hf
              refine Ex.seg 1 (pc' := 96) (lc' := [some (.ref 55), some (.int y1), none, some (.int y3), some (.int y4), some (.int y5)]) (st' := [.int y1]) (h' := q5.2) (sg1 rfl rfl rfl) ?_
              refine Ex.ifc rfl rfl (fun (c0 : ¬ (y1 = 0)) => ?_) (fun (c0 : ¬ ¬ (y1 = 0)) => ?_)
              · rw [if_neg c0] at hf
                refine Ex.seg 5 (pc' := 116) (lc' := [some (.ref 55), some (.int y1), none, some (.int y3), some (.int y4), some (.int y5)]) (st' := [.int y3, .int y4, .int y5, .int y1, .ref 55]) (h' := q5.2) (sg1 rfl rfl (sg1 rfl rfl (sg1 rfl rfl (sg1 rfl rfl (sg1 rfl rfl rfl))))) ?_
                obtain ⟨q6, e_q6, hf⟩ := bnd hf
                refine Ex.callV (a := 55) (As := [.int y1, .int y5, .int y4, .int y3]) (r := []) (v := some (.int q6.1)) (h' := q6.2) rfl rfl (by decide) rfl (Nat.le_of_ble_eq_true rfl) rfl (E_202 (by omega) e_q6) rfl ?_
                exact Ex.weak (sm_le_n (sm_le_n (sm_le_s (sm_le_n (sm_le_n (sm_le_n sm_le_nil)))))) (B_200_119 hrec hd  hf hs)
              · rw [if_pos (Classical.not_not.mp c0)] at hf
                refine Ex.seg 3 (pc' := 103) (lc' := [some (.ref 55), some (.int y1), none, some (.int y3), some (.int y4), some (.int y5)]) (st' := [.int y3, .int y4, .ref 55]) (h' := q5.2) (sg1 rfl rfl (sg1 rfl rfl (sg1 rfl rfl rfl))) ?_
                obtain ⟨q7, e_q7, hf⟩ := bnd hf
                refine Ex.callV (a := 55) (As := [.int y4, .int y3]) (r := []) (v := some (.int q7.1)) (h' := q7.2) rfl rfl (by decide) rfl (Nat.le_of_ble_eq_true rfl) rfl (E_205 (by omega) e_q7) rfl ?_
                refine Ex.seg 1 (pc' := 119) (lc' := [some (.ref 55), some (.int y1), none, some (.int y3), some (.int y4), some (.int y5)]) (st' := [.int q7.1]) (h' := q7.2) (sg1 rfl rfl rfl) ?_
                exact Ex.weak (sm_le_n (sm_le_n (sm_le_s (sm_le_n (sm_le_n (sm_le_n sm_le_nil)))))) (B_200_119 hrec hd  hf hs)
            · rw [if_pos (Classical.not_not.mp c0)] at hf
              refine Ex.seg 3 (pc' := 91) (lc' := [some (.ref 55), some (.int y1), none, some (.int y3), some (.int y4), some (.int y5)]) (st' := [.int y3, .int 7, .ref 55]) (h' := q5.2) (sg1 rfl rfl (sg1 rfl rfl (sg1 rfl rfl rfl))) ?_
              obtain ⟨q8, e_q8, hf⟩ := bnd hf
              refine Ex.callV (a := 55) (As := [.int 7, .int y3]) (r := []) (v := some (.int q8.1)) (h' := q8.2) rfl rfl (by decide) rfl (Nat.le_of_ble_eq_true rfl) rfl (E_169 (by omega) e_q8) rfl ?_
              obtain rfl := Option.some.inj hf
              exact Ex.iret rfl rfl (fun c0 => by cases c0) hs
          · rw [if_pos (Classical.not_not.mp c0)] at hf
            exact Ex.weak (sm_le_n (sm_le_n (sm_le_s (sm_le_n (sm_le_n (sm_le_n sm_le_nil)))))) (B_200_73 hrec hd  hf hs)
      · rw [if_neg c0] at hf
        exact Ex.weak (sm_le_n (sm_le_n (sm_le_s (sm_le_n (sm_le_n (sm_le_n sm_le_nil)))))) (B_200_52 hrec hd  hf hs)
def F_200_29 (rec : sm_H → Option (Int32 × sm_H)) (y1 : Int32) (y3 : Int32) (y4 : Int32) (z1 : Int32) (h : sm_H) : Option (Int32 × sm_H) :=
  (F_176 z1 h).bind fun q9 =>
  F_200_34 rec  y1 y3 y4 q9.1 q9.2
theorem B_200_29 {L : Nat} {xs : Nat → Int32} {d : Nat} {M : Nat} {rec : sm_H → Option (Int32 × sm_H)} (hrec : ∀ d, M ≤ d → ∀ (h : sm_H) (q : Int32 × sm_H), rec h = some q → RUN L xs d 194 [.ref 55] h (some (.int q.1), q.2)) (hd : 8 + M ≤ d) {res : Option Value × sm_H} {y1 : Int32} {y3 : Int32} {y4 : Int32} {z1 : Int32}  {h : sm_H} {r : (Int32 × sm_H)} (hf : F_200_29 rec y1 y3 y4 z1 h = some r) (hs : (fun (r : Int32 × sm_H) => res = (some (.int r.1), r.2)) r) : Ex (P_G L xs) (RUN L xs d) (sm_lk P_t200) 0 29 [some (.ref 55), some (.int y1), none, some (.int y3), some (.int y4), none] [.int z1, .ref 55] h res := by
  unfold F_200_29 at hf
  obtain ⟨q9, e_q9, hf⟩ := bnd hf
  refine Ex.callV (a := 55) (As := [.int z1]) (r := []) (v := some (.int q9.1)) (h' := q9.2) rfl rfl (by decide) rfl (Nat.le_of_ble_eq_true rfl) rfl (E_176 (by omega) e_q9) rfl ?_
  refine Ex.seg 1 (pc' := 34) (lc' := [some (.ref 55), some (.int y1), none, some (.int y3), some (.int y4), some (.int q9.1)]) (st' := []) (h' := q9.2) (sg1 rfl rfl rfl) ?_
  exact Ex.weak (sm_le_s (sm_le_s (sm_le_s (sm_le_s (sm_le_s (sm_le_s sm_le_nil)))))) (B_200_34 hrec hd  hf hs)
def F_200_0 (rec : sm_H → Option (Int32 × sm_H)) (x1 : Int32) (x2 : Int32) (x3 : Int32) (h : sm_H) : Option (Int32 × sm_H) :=
  (some ((h.1 55 12) : Int32)).bind fun v10 =>
  (F_201 x1 h).bind fun q11 =>
  if q11.1 = 0 then (F_200_34 rec  x1 x3 v10 x2 q11.2)
  else (if x1 = 14 then (F_200_29 rec  x1 x3 v10 1 q11.2)
  else (F_200_29 rec  x1 x3 v10 0 q11.2))
theorem B_200_0 {L : Nat} {xs : Nat → Int32} {d : Nat} {M : Nat} {rec : sm_H → Option (Int32 × sm_H)} (hrec : ∀ d, M ≤ d → ∀ (h : sm_H) (q : Int32 × sm_H), rec h = some q → RUN L xs d 194 [.ref 55] h (some (.int q.1), q.2)) (hd : 8 + M ≤ d) {res : Option Value × sm_H} {x1 : Int32} {x2 : Int32} {x3 : Int32}  {h : sm_H} {r : (Int32 × sm_H)} (hf : F_200_0 rec x1 x2 x3 h = some r) (hs : (fun (r : Int32 × sm_H) => res = (some (.int r.1), r.2)) r) : Ex (P_G L xs) (RUN L xs d) (sm_lk P_t200) 0 0 [some (.ref 55), some (.int x1), some (.int x2), some (.int x3), none, none] [] h res := by
  unfold F_200_0 at hf
  refine Ex.seg 3 (pc' := 6) (lc' := [some (.ref 55), some (.int x1), some (.int x2), some (.int x3), some (.int (h.1 55 12)), none]) (st' := []) (h' := h) (sg1 rfl rfl (sg1 rfl rfl (sg1 rfl rfl rfl))) ?_
  obtain ⟨v10, e_v10, hf⟩ := bnd hf
  rw [Option.some.inj e_v10]
  refine Ex.seg 4 (pc' := 11) (lc' := [some (.ref 55), some (.int x1), some (.int x2), some (.int x3), some (.int v10), some (.int x2)]) (st' := [.int x1, .ref 55]) (h' := h) (sg1 rfl rfl (sg1 rfl rfl (sg1 rfl rfl (sg1 rfl rfl rfl)))) ?_
  obtain ⟨q11, e_q11, hf⟩ := bnd hf
  refine Ex.callV (a := 55) (As := [.int x1]) (r := []) (v := some (.int q11.1)) (h' := q11.2) rfl rfl (by decide) rfl (Nat.le_of_ble_eq_true rfl) rfl (E_201 (by omega) e_q11) rfl ?_
  refine Ex.ifc rfl rfl (fun (c0 : q11.1 = 0) => ?_) (fun (c0 : ¬ (q11.1 = 0)) => ?_)
  · rw [if_pos c0] at hf
    exact Ex.weak (sm_le_s (sm_le_s (sm_le_n (sm_le_s (sm_le_s (sm_le_s sm_le_nil)))))) (B_200_34 hrec hd  hf hs)
  · rw [if_neg c0] at hf
    refine Ex.seg 3 (pc' := 21) (lc' := [some (.ref 55), some (.int x1), some (.int x2), some (.int x3), some (.int v10), some (.int x2)]) (st' := [.int 14, .int x1, .ref 55]) (h' := q11.2) (sg1 rfl rfl (sg1 rfl rfl (sg1 rfl rfl rfl))) ?_
    refine Ex.icmp rfl rfl (fun (c0 : ¬ (x1 = 14)) => ?_) (fun (c0 : ¬ ¬ (x1 = 14)) => ?_)
    · rw [if_neg c0] at hf
      refine Ex.seg 1 (pc' := 29) (lc' := [some (.ref 55), some (.int x1), some (.int x2), some (.int x3), some (.int v10), some (.int x2)]) (st' := [.int 0, .ref 55]) (h' := q11.2) (sg1 rfl rfl rfl) ?_
      exact Ex.weak (sm_le_s (sm_le_s (sm_le_n (sm_le_s (sm_le_s (sm_le_n sm_le_nil)))))) (B_200_29 hrec hd  hf hs)
    · rw [if_pos (Classical.not_not.mp c0)] at hf
      refine Ex.seg 2 (pc' := 29) (lc' := [some (.ref 55), some (.int x1), some (.int x2), some (.int x3), some (.int v10), some (.int x2)]) (st' := [.int 1, .ref 55]) (h' := q11.2) (sg1 rfl rfl (sg1 rfl rfl rfl)) ?_
      exact Ex.weak (sm_le_s (sm_le_s (sm_le_n (sm_le_s (sm_le_s (sm_le_n sm_le_nil)))))) (B_200_29 hrec hd  hf hs)
/-- HandleHouse$Texts.simple(III)I -/
abbrev F_200 (rec : sm_H → Option (Int32 × sm_H)) (x1 : Int32) (x2 : Int32) (x3 : Int32) (h : sm_H) : Option (Int32 × sm_H) := F_200_0 rec x1 x2 x3 h
theorem E_200 {L : Nat} {xs : Nat → Int32} {d : Nat} {M : Nat} {rec : sm_H → Option (Int32 × sm_H)} (hrec : ∀ d, M ≤ d → ∀ (h : sm_H) (q : Int32 × sm_H), rec h = some q → RUN L xs d 194 [.ref 55] h (some (.int q.1), q.2)) (hd : 9 + M ≤ d) {x1 : Int32} {x2 : Int32} {x3 : Int32} {h : sm_H} {r : Int32 × sm_H} (hf : F_200 rec x1 x2 x3 h = some r) : RUN L xs d 200 [.ref 55, .int x1, .int x2, .int x3] h (some (.int r.1), r.2) := by
  obtain ⟨d, rfl⟩ : ∃ e, d = e + 1 := ⟨d - 1, by omega⟩
  exact ⟨Nat.le_of_ble_eq_true rfl, B_200_0 hrec (by omega) hf rfl⟩
def F_198_75 (rec : sm_H → Option (Int32 × sm_H)) (y1 : Int32) (y2 : Int32) (h : sm_H) : Option (Int32 × sm_H) :=
  (F_200 rec y2 0 y1 h).bind fun q1 =>
  some (q1.1, q1.2)
theorem B_198_75 {L : Nat} {xs : Nat → Int32} {d : Nat} {M : Nat} {rec : sm_H → Option (Int32 × sm_H)} (hrec : ∀ d, M ≤ d → ∀ (h : sm_H) (q : Int32 × sm_H), rec h = some q → RUN L xs d 194 [.ref 55] h (some (.int q.1), q.2)) (hd : 9 + M ≤ d) {res : Option Value × sm_H} {y1 : Int32} {y2 : Int32}  {h : sm_H} {r : (Int32 × sm_H)} (hf : F_198_75 rec y1 y2 h = some r) (hs : (fun (r : Int32 × sm_H) => res = (some (.int r.1), r.2)) r) : Ex (P_G L xs) (RUN L xs d) (sm_lk P_t198) 0 75 [some (.ref 55), some (.int y1), some (.int y2)] [] h res := by
  unfold F_198_75 at hf
  refine Ex.seg 4 (pc' := 79) (lc' := [some (.ref 55), some (.int y1), some (.int y2)]) (st' := [.int y1, .int 0, .int y2, .ref 55]) (h' := h) (sg1 rfl rfl (sg1 rfl rfl (sg1 rfl rfl (sg1 rfl rfl rfl)))) ?_
  obtain ⟨q1, e_q1, hf⟩ := bnd hf
  refine Ex.callV (a := 55) (As := [.int y2, .int 0, .int y1]) (r := []) (v := some (.int q1.1)) (h' := q1.2) rfl rfl (by decide) rfl (Nat.le_of_ble_eq_true rfl) rfl (E_200 hrec (by omega) e_q1) rfl ?_
  obtain rfl := Option.some.inj hf
  exact Ex.iret rfl rfl (fun c0 => by cases c0) hs
def F_198_0 (rec : sm_H → Option (Int32 × sm_H)) (x1 : Int32) (x2 : Int32) (h : sm_H) : Option (Int32 × sm_H) :=
  if x2 = (-1) then ((F_248 h).bind fun q2 =>
  (F_166 q2.1 q2.2).bind fun q3 =>
  (F_214 rec q3.1 x1 q3.2).bind fun q4 =>
  some (q4.1, q4.2))
  else (if x2 = 1 then ((F_209 rec x1 h).bind fun q5 =>
  some (q5.1, q5.2))
  else (if x2 = 3 then ((F_211 rec x1 h).bind fun q6 =>
  some (q6.1, q6.2))
  else (if x2 = 4 then ((F_210 rec x1 h).bind fun q7 =>
  some (q7.1, q7.2))
  else (F_198_75 rec  x1 x2 h))))
theorem B_198_0 {L : Nat} {xs : Nat → Int32} {d : Nat} {M : Nat} {rec : sm_H → Option (Int32 × sm_H)} (hrec : ∀ d, M ≤ d → ∀ (h : sm_H) (q : Int32 × sm_H), rec h = some q → RUN L xs d 194 [.ref 55] h (some (.int q.1), q.2)) (hd : 9 + M ≤ d) {res : Option Value × sm_H} {x1 : Int32} {x2 : Int32}  {h : sm_H} {r : (Int32 × sm_H)} (hf : F_198_0 rec x1 x2 h = some r) (hs : (fun (r : Int32 × sm_H) => res = (some (.int r.1), r.2)) r) : Ex (P_G L xs) (RUN L xs d) (sm_lk P_t198) 0 0 [some (.ref 55), some (.int x1), some (.int x2)] [] h res := by
  unfold F_198_0 at hf
  refine Ex.seg 1 (pc' := 1) (lc' := [some (.ref 55), some (.int x1), some (.int x2)]) (st' := [.int x2]) (h' := h) (sg1 rfl rfl rfl) ?_
  rcases Classical.em (x2 = (-1)) with n1 | n1
  · rw [if_pos n1] at hf
    refine Ex.swt (t := 40) rfl rfl (by rw [n1]; exact Or.inr ⟨by decide, by decide, _, rfl, by decide⟩) ?_
    refine Ex.seg 4 (pc' := 46) (lc' := [some (.ref 55), some (.int x1), some (.int x2)]) (st' := [.ref 52, .ref 55, .ref 55]) (h' := h) (sg1 rfl rfl (sg1 rfl rfl (sg1 rfl rfl (sg1 rfl rfl rfl)))) ?_
    obtain ⟨q2, e_q2, hf⟩ := bnd hf
    refine Ex.callV (a := 52) (As := []) (r := [.ref 55, .ref 55]) (v := some (.long q2.1)) (h' := q2.2) rfl rfl (by decide) rfl (Nat.le_of_ble_eq_true rfl) rfl (E_248 (by omega) e_q2) rfl ?_
    obtain ⟨q3, e_q3, hf⟩ := bnd hf
    refine Ex.callV (a := 55) (As := [.long q2.1]) (r := [.ref 55]) (v := some (.int q3.1)) (h' := q3.2) rfl rfl (by decide) rfl (Nat.le_of_ble_eq_true rfl) rfl (E_166 (by omega) e_q3) rfl ?_
    refine Ex.seg 1 (pc' := 53) (lc' := [some (.ref 55), some (.int x1), some (.int x2)]) (st' := [.int x1, .int q3.1, .ref 55]) (h' := q3.2) (sg1 rfl rfl rfl) ?_
    obtain ⟨q4, e_q4, hf⟩ := bnd hf
    refine Ex.callV (a := 55) (As := [.int q3.1, .int x1]) (r := []) (v := some (.int q4.1)) (h' := q4.2) rfl rfl (by decide) rfl (Nat.le_of_ble_eq_true rfl) rfl (E_214 hrec (by omega) e_q4) rfl ?_
    obtain rfl := Option.some.inj hf
    exact Ex.iret rfl rfl (fun c0 => by cases c0) hs
  rw [if_neg n1] at hf
  rcases Classical.em (x2 = 1) with n2 | n2
  · rw [if_pos n2] at hf
    refine Ex.swt (t := 57) rfl rfl (by rw [n2]; exact Or.inr ⟨by decide, by decide, _, rfl, by decide⟩) ?_
    refine Ex.seg 2 (pc' := 59) (lc' := [some (.ref 55), some (.int x1), some (.int x2)]) (st' := [.int x1, .ref 55]) (h' := h) (sg1 rfl rfl (sg1 rfl rfl rfl)) ?_
    obtain ⟨q5, e_q5, hf⟩ := bnd hf
    refine Ex.callV (a := 55) (As := [.int x1]) (r := []) (v := some (.int q5.1)) (h' := q5.2) rfl rfl (by decide) rfl (Nat.le_of_ble_eq_true rfl) rfl (E_209 hrec (by omega) e_q5) rfl ?_
    obtain rfl := Option.some.inj hf
    exact Ex.iret rfl rfl (fun c0 => by cases c0) hs
  rw [if_neg n2] at hf
  rcases Classical.em (x2 = 3) with n3 | n3
  · rw [if_pos n3] at hf
    refine Ex.swt (t := 63) rfl rfl (by rw [n3]; exact Or.inr ⟨by decide, by decide, _, rfl, by decide⟩) ?_
    refine Ex.seg 2 (pc' := 65) (lc' := [some (.ref 55), some (.int x1), some (.int x2)]) (st' := [.int x1, .ref 55]) (h' := h) (sg1 rfl rfl (sg1 rfl rfl rfl)) ?_
    obtain ⟨q6, e_q6, hf⟩ := bnd hf
    refine Ex.callV (a := 55) (As := [.int x1]) (r := []) (v := some (.int q6.1)) (h' := q6.2) rfl rfl (by decide) rfl (Nat.le_of_ble_eq_true rfl) rfl (E_211 hrec (by omega) e_q6) rfl ?_
    obtain rfl := Option.some.inj hf
    exact Ex.iret rfl rfl (fun c0 => by cases c0) hs
  rw [if_neg n3] at hf
  rcases Classical.em (x2 = 4) with n4 | n4
  · rw [if_pos n4] at hf
    refine Ex.swt (t := 69) rfl rfl (by rw [n4]; exact Or.inr ⟨by decide, by decide, _, rfl, by decide⟩) ?_
    refine Ex.seg 2 (pc' := 71) (lc' := [some (.ref 55), some (.int x1), some (.int x2)]) (st' := [.int x1, .ref 55]) (h' := h) (sg1 rfl rfl (sg1 rfl rfl rfl)) ?_
    obtain ⟨q7, e_q7, hf⟩ := bnd hf
    refine Ex.callV (a := 55) (As := [.int x1]) (r := []) (v := some (.int q7.1)) (h' := q7.2) rfl rfl (by decide) rfl (Nat.le_of_ble_eq_true rfl) rfl (E_210 hrec (by omega) e_q7) rfl ?_
    obtain rfl := Option.some.inj hf
    exact Ex.iret rfl rfl (fun c0 => by cases c0) hs
  rw [if_neg n4] at hf
  refine Ex.swt (t := 75) rfl rfl (sw_dflt (by decide) (by decide) (fun k hk he => ?_)) ?_
  · have hk : k < 6 := hk
    rcases (show k = 0 ∨ k = 1 ∨ k = 2 ∨ k = 3 ∨ k = 4 ∨ k = 5 by omega) with rfl | rfl | rfl | rfl | rfl | rfl
    · exact absurd (Int32.toInt_inj.mp (he.symm.trans (by decide : (_ : Int) = Int32.toInt (-1)))) n1
    · rfl
    · exact absurd (Int32.toInt_inj.mp (he.symm.trans (by decide : (_ : Int) = Int32.toInt 1))) n2
    · rfl
    · exact absurd (Int32.toInt_inj.mp (he.symm.trans (by decide : (_ : Int) = Int32.toInt 3))) n3
    · exact absurd (Int32.toInt_inj.mp (he.symm.trans (by decide : (_ : Int) = Int32.toInt 4))) n4
  exact Ex.weak (sm_le_s (sm_le_s (sm_le_s sm_le_nil))) (B_198_75 hrec hd  hf hs)
/-- HandleHouse$Texts.keyword(II)I -/
abbrev F_198 (rec : sm_H → Option (Int32 × sm_H)) (x1 : Int32) (x2 : Int32) (h : sm_H) : Option (Int32 × sm_H) := F_198_0 rec x1 x2 h
theorem E_198 {L : Nat} {xs : Nat → Int32} {d : Nat} {M : Nat} {rec : sm_H → Option (Int32 × sm_H)} (hrec : ∀ d, M ≤ d → ∀ (h : sm_H) (q : Int32 × sm_H), rec h = some q → RUN L xs d 194 [.ref 55] h (some (.int q.1), q.2)) (hd : 10 + M ≤ d) {x1 : Int32} {x2 : Int32} {h : sm_H} {r : Int32 × sm_H} (hf : F_198 rec x1 x2 h = some r) : RUN L xs d 198 [.ref 55, .int x1, .int x2] h (some (.int r.1), r.2) := by
  obtain ⟨d, rfl⟩ : ∃ e, d = e + 1 := ⟨d - 1, by omega⟩
  exact ⟨Nat.le_of_ble_eq_true rfl, B_198_0 hrec (by omega) hf rfl⟩
