/-! FUNCTIONS of the methods (by program, wip/gen/fgen.py) -/
def F_196_69 (rec : sm_H → Option (Int32 × sm_H)) (y2 : Int32) (y3 : Int32) (h : sm_H) : Option (Int32 × sm_H) :=
  (some (sm_wI h 55 12 y2)).bind fun h1 =>
  some (y3, h1)
theorem B_196_69 {L : Nat} {xs : Nat → Int32} {d : Nat} {M : Nat} {rec : sm_H → Option (Int32 × sm_H)} (hrec : ∀ d, M ≤ d → ∀ (h : sm_H) (q : Int32 × sm_H), rec h = some q → RUN L xs d 194 [.ref 55] h (some (.int q.1), q.2)) (hd : 10 + M ≤ d) {res : Option Value × sm_H} {y2 : Int32} {y3 : Int32}  {h : sm_H} {r : (Int32 × sm_H)} (hf : F_196_69 rec y2 y3 h = some r) (hs : (fun (r : Int32 × sm_H) => res = (some (.int r.1), r.2)) r) : Ex (P_G L xs) (RUN L xs d) (sm_lk P_t196) 0 69 [some (.ref 55), none, some (.int y2), some (.int y3), none] [] h res := by
  unfold F_196_69 at hf
  refine Ex.seg 3 (pc' := 74) (lc' := [some (.ref 55), none, some (.int y2), some (.int y3), none]) (st' := []) (h' := (sm_wI h 55 12 y2)) (sg1 rfl rfl (sg1 rfl rfl (sg1 rfl rfl rfl))) ?_
  obtain ⟨h1, e_h1, hf⟩ := bnd hf
  rw [Option.some.inj e_h1]
  refine Ex.seg 1 (pc' := 75) (lc' := [some (.ref 55), none, some (.int y2), some (.int y3), none]) (st' := [.int y3]) (h' := h1) (sg1 rfl rfl rfl) ?_
  obtain rfl := Option.some.inj hf
  exact Ex.iret rfl rfl (fun c0 => by cases c0) hs
def F_196_0 (rec : sm_H → Option (Int32 × sm_H)) (x1 : Int32) (h : sm_H) : Option (Int32 × sm_H) :=
  (some ((h.1 55 12) : Int32)).bind fun v2 =>
  (F_171 h).bind fun q3 =>
  if q3.1 = 5 then ((F_245 q3.2).bind fun q8 =>
  (F_200 rec 16 q8.1 x1 q8.2).bind fun q9 =>
  F_196_69 rec  v2 q9.1 q9.2)
  else (if q3.1 = 4 then ((F_248 q3.2).bind fun q5 =>
  (F_197 q5.1 q5.2).bind fun q6 =>
  (F_198 rec x1 q6.1 q6.2).bind fun q7 =>
  F_196_69 rec  v2 q7.1 q7.2)
  else ((F_170 4 q3.2).bind fun q4 =>
  F_196_69 rec  v2 (-1) q4.2))
theorem B_196_0 {L : Nat} {xs : Nat → Int32} {d : Nat} {M : Nat} {rec : sm_H → Option (Int32 × sm_H)} (hrec : ∀ d, M ≤ d → ∀ (h : sm_H) (q : Int32 × sm_H), rec h = some q → RUN L xs d 194 [.ref 55] h (some (.int q.1), q.2)) (hd : 10 + M ≤ d) {res : Option Value × sm_H} {x1 : Int32}  {h : sm_H} {r : (Int32 × sm_H)} (hf : F_196_0 rec x1 h = some r) (hs : (fun (r : Int32 × sm_H) => res = (some (.int r.1), r.2)) r) : Ex (P_G L xs) (RUN L xs d) (sm_lk P_t196) 0 0 [some (.ref 55), some (.int x1), none, none, none] [] h res := by
  unfold F_196_0 at hf
  refine Ex.seg 3 (pc' := 5) (lc' := [some (.ref 55), some (.int x1), some (.int (h.1 55 12)), none, none]) (st' := []) (h' := h) (sg1 rfl rfl (sg1 rfl rfl (sg1 rfl rfl rfl))) ?_
  obtain ⟨v2, e_v2, hf⟩ := bnd hf
  rw [Option.some.inj e_v2]
  refine Ex.seg 3 (pc' := 8) (lc' := [some (.ref 55), some (.int x1), some (.int v2), some (.int (-1)), none]) (st' := [.ref 55]) (h' := h) (sg1 rfl rfl (sg1 rfl rfl (sg1 rfl rfl rfl))) ?_
  obtain ⟨q3, e_q3, hf⟩ := bnd hf
  refine Ex.callV (a := 55) (As := []) (r := []) (v := some (.int q3.1)) (h' := q3.2) rfl rfl (by decide) rfl (Nat.le_of_ble_eq_true rfl) rfl (E_171 (by omega) e_q3) rfl ?_
  refine Ex.seg 3 (pc' := 16) (lc' := [some (.ref 55), some (.int x1), some (.int v2), some (.int (-1)), some (.int q3.1)]) (st' := [.int 5, .int q3.1]) (h' := q3.2) (sg1 rfl rfl (sg1 rfl rfl (sg1 rfl rfl rfl))) ?_
  refine Ex.icmp rfl rfl (fun (c0 : ¬ (q3.1 = 5)) => ?_) (fun (c0 : ¬ ¬ (q3.1 = 5)) => ?_)
  · rw [if_neg c0] at hf
    refine Ex.seg 2 (pc' := 40) (lc' := [some (.ref 55), some (.int x1), some (.int v2), some (.int (-1)), some (.int q3.1)]) (st' := [.int 4, .int q3.1]) (h' := q3.2) (sg1 rfl rfl (sg1 rfl rfl rfl)) ?_
    refine Ex.icmp rfl rfl (fun (c0 : ¬ (q3.1 = 4)) => ?_) (fun (c0 : ¬ ¬ (q3.1 = 4)) => ?_)
    · rw [if_neg c0] at hf
      refine Ex.seg 2 (pc' := 65) (lc' := [some (.ref 55), some (.int x1), some (.int v2), some (.int (-1)), some (.int q3.1)]) (st' := [.int 4, .ref 55]) (h' := q3.2) (sg1 rfl rfl (sg1 rfl rfl rfl)) ?_
      obtain ⟨q4, e_q4, hf⟩ := bnd hf
      refine Ex.callV (a := 55) (As := [.int 4]) (r := []) (v := some (.int q4.1)) (h' := q4.2) rfl rfl (by decide) rfl (Nat.le_of_ble_eq_true rfl) rfl (E_170 (by omega) e_q4) rfl ?_
      refine Ex.seg 1 (pc' := 69) (lc' := [some (.ref 55), some (.int x1), some (.int v2), some (.int (-1)), some (.int q3.1)]) (st' := []) (h' := q4.2) (sg1 rfl rfl rfl) ?_
      exact Ex.weak (sm_le_s (sm_le_n (sm_le_s (sm_le_s (sm_le_n sm_le_nil))))) (B_196_69 hrec hd  hf hs)
    · rw [if_pos (Classical.not_not.mp c0)] at hf
      refine Ex.seg 5 (pc' := 50) (lc' := [some (.ref 55), some (.int x1), some (.int v2), some (.int (-1)), some (.int q3.1)]) (st' := [.ref 52, .ref 55, .int x1, .ref 55]) (h' := q3.2) (sg1 rfl rfl (sg1 rfl rfl (sg1 rfl rfl (sg1 rfl rfl (sg1 rfl rfl rfl))))) ?_
      obtain ⟨q5, e_q5, hf⟩ := bnd hf
      refine Ex.callV (a := 52) (As := []) (r := [.ref 55, .int x1, .ref 55]) (v := some (.long q5.1)) (h' := q5.2) rfl rfl (by decide) rfl (Nat.le_of_ble_eq_true rfl) rfl (E_248 (by omega) e_q5) rfl ?_
      obtain ⟨q6, e_q6, hf⟩ := bnd hf
      refine Ex.callV (a := 55) (As := [.long q5.1]) (r := [.int x1, .ref 55]) (v := some (.int q6.1)) (h' := q6.2) rfl rfl (by decide) rfl (Nat.le_of_ble_eq_true rfl) rfl (E_197 (by omega) e_q6) rfl ?_
      obtain ⟨q7, e_q7, hf⟩ := bnd hf
      refine Ex.callV (a := 55) (As := [.int x1, .int q6.1]) (r := []) (v := some (.int q7.1)) (h' := q7.2) rfl rfl (by decide) rfl (Nat.le_of_ble_eq_true rfl) rfl (E_198 hrec (by omega) e_q7) rfl ?_
      refine Ex.seg 2 (pc' := 69) (lc' := [some (.ref 55), some (.int x1), some (.int v2), some (.int q7.1), some (.int q3.1)]) (st' := []) (h' := q7.2) (sg1 rfl rfl (sg1 rfl rfl rfl)) ?_
      exact Ex.weak (sm_le_s (sm_le_n (sm_le_s (sm_le_s (sm_le_n sm_le_nil))))) (B_196_69 hrec hd  hf hs)
  · rw [if_pos (Classical.not_not.mp c0)] at hf
    refine Ex.seg 4 (pc' := 26) (lc' := [some (.ref 55), some (.int x1), some (.int v2), some (.int (-1)), some (.int q3.1)]) (st' := [.ref 52, .int 16, .ref 55]) (h' := q3.2) (sg1 rfl rfl (sg1 rfl rfl (sg1 rfl rfl (sg1 rfl rfl rfl)))) ?_
    obtain ⟨q8, e_q8, hf⟩ := bnd hf
    refine Ex.callV (a := 52) (As := []) (r := [.int 16, .ref 55]) (v := some (.int q8.1)) (h' := q8.2) rfl rfl (by decide) rfl (Nat.le_of_ble_eq_true rfl) rfl (E_245 (by omega) e_q8) rfl ?_
    refine Ex.seg 1 (pc' := 30) (lc' := [some (.ref 55), some (.int x1), some (.int v2), some (.int (-1)), some (.int q3.1)]) (st' := [.int x1, .int q8.1, .int 16, .ref 55]) (h' := q8.2) (sg1 rfl rfl rfl) ?_
    obtain ⟨q9, e_q9, hf⟩ := bnd hf
    refine Ex.callV (a := 55) (As := [.int 16, .int q8.1, .int x1]) (r := []) (v := some (.int q9.1)) (h' := q9.2) rfl rfl (by decide) rfl (Nat.le_of_ble_eq_true rfl) rfl (E_200 hrec (by omega) e_q9) rfl ?_
    refine Ex.seg 2 (pc' := 69) (lc' := [some (.ref 55), some (.int x1), some (.int v2), some (.int q9.1), some (.int q3.1)]) (st' := []) (h' := q9.2) (sg1 rfl rfl (sg1 rfl rfl rfl)) ?_
    exact Ex.weak (sm_le_s (sm_le_n (sm_le_s (sm_le_s (sm_le_n sm_le_nil))))) (B_196_69 hrec hd  hf hs)
/-- HandleHouse$Texts.compound(I)I -/
abbrev F_196 (rec : sm_H → Option (Int32 × sm_H)) (x1 : Int32) (h : sm_H) : Option (Int32 × sm_H) := F_196_0 rec x1 h
theorem E_196 {L : Nat} {xs : Nat → Int32} {d : Nat} {M : Nat} {rec : sm_H → Option (Int32 × sm_H)} (hrec : ∀ d, M ≤ d → ∀ (h : sm_H) (q : Int32 × sm_H), rec h = some q → RUN L xs d 194 [.ref 55] h (some (.int q.1), q.2)) (hd : 11 + M ≤ d) {x1 : Int32} {h : sm_H} {r : Int32 × sm_H} (hf : F_196 rec x1 h = some r) : RUN L xs d 196 [.ref 55, .int x1] h (some (.int r.1), r.2) := by
  obtain ⟨d, rfl⟩ : ∃ e, d = e + 1 := ⟨d - 1, by omega⟩
  exact ⟨Nat.le_of_ble_eq_true rfl, B_196_0 hrec (by omega) hf rfl⟩
def F_194_109 (rec : sm_H → Option (Int32 × sm_H))  (h : sm_H) : Option (Int32 × sm_H) :=
  (F_170 4 h).bind fun q1 =>
  some (q1.1, q1.2)
theorem B_194_109 {L : Nat} {xs : Nat → Int32} {d : Nat} {M : Nat} {rec : sm_H → Option (Int32 × sm_H)} (hrec : ∀ d, M ≤ d → ∀ (h : sm_H) (q : Int32 × sm_H), rec h = some q → RUN L xs d 194 [.ref 55] h (some (.int q.1), q.2)) (hd : 11 + M ≤ d) {res : Option Value × sm_H}   {h : sm_H} {r : (Int32 × sm_H)} (hf : F_194_109 rec  h = some r) (hs : (fun (r : Int32 × sm_H) => res = (some (.int r.1), r.2)) r) : Ex (P_G L xs) (RUN L xs d) (sm_lk P_t194) 0 109 [some (.ref 55), none] [] h res := by
  unfold F_194_109 at hf
  refine Ex.seg 2 (pc' := 111) (lc' := [some (.ref 55), none]) (st' := [.int 4, .ref 55]) (h' := h) (sg1 rfl rfl (sg1 rfl rfl rfl)) ?_
  obtain ⟨q1, e_q1, hf⟩ := bnd hf
  refine Ex.callV (a := 55) (As := [.int 4]) (r := []) (v := some (.int q1.1)) (h' := q1.2) rfl rfl (by decide) rfl (Nat.le_of_ble_eq_true rfl) rfl (E_170 (by omega) e_q1) rfl ?_
  obtain rfl := Option.some.inj hf
  exact Ex.iret rfl rfl (fun c0 => by cases c0) hs
def F_194_108 (rec : sm_H → Option (Int32 × sm_H)) (z0 : Int32) (h : sm_H) : Option (Int32 × sm_H) :=
  some (z0, h)
theorem B_194_108 {L : Nat} {xs : Nat → Int32} {d : Nat} {M : Nat} {rec : sm_H → Option (Int32 × sm_H)} (hrec : ∀ d, M ≤ d → ∀ (h : sm_H) (q : Int32 × sm_H), rec h = some q → RUN L xs d 194 [.ref 55] h (some (.int q.1), q.2)) (hd : 11 + M ≤ d) {res : Option Value × sm_H} {z0 : Int32}  {h : sm_H} {r : (Int32 × sm_H)} (hf : F_194_108 rec z0 h = some r) (hs : (fun (r : Int32 × sm_H) => res = (some (.int r.1), r.2)) r) : Ex (P_G L xs) (RUN L xs d) (sm_lk P_t194) 0 108 [none, none] [.int z0] h res := by
  unfold F_194_108 at hf
  obtain rfl := Option.some.inj hf
  exact Ex.iret rfl rfl (fun c0 => by cases c0) hs
def F_194_0 (rec : sm_H → Option (Int32 × sm_H))  (h : sm_H) : Option (Int32 × sm_H) :=
  (F_243 h).bind fun q2 =>
  (F_242 q2.2).bind fun q3 =>
  if q3.1 = 1 then ((F_173 q3.2).bind fun q4 =>
  if q4.1 = 0 then (F_194_108 rec  (-1) q4.2)
  else ((F_196 rec q2.1 q4.2).bind fun q5 =>
  F_194_108 rec  q5.1 q5.2))
  else (if q3.1 = 3 then ((F_138 56 q3.2).bind fun q6 =>
  (F_247 q6).bind fun q7 =>
  (F_246 q7.2).bind fun q8 =>
  (F_5 0 q7.1 0 q8.1 56 q8.2).bind fun q9 =>
  (F_192 q9.1 0 0 q2.1 q9.2).bind fun q10 =>
  some (q10.1, q10.2))
  else (if q3.1 = 4 then ((F_195 q2.1 q3.2).bind fun q11 =>
  some (q11.1, q11.2))
  else (F_194_109 rec  q3.2)))
theorem B_194_0 {L : Nat} {xs : Nat → Int32} {d : Nat} {M : Nat} {rec : sm_H → Option (Int32 × sm_H)} (hrec : ∀ d, M ≤ d → ∀ (h : sm_H) (q : Int32 × sm_H), rec h = some q → RUN L xs d 194 [.ref 55] h (some (.int q.1), q.2)) (hd : 11 + M ≤ d) {res : Option Value × sm_H}   {h : sm_H} {r : (Int32 × sm_H)} (hf : F_194_0 rec  h = some r) (hs : (fun (r : Int32 × sm_H) => res = (some (.int r.1), r.2)) r) : Ex (P_G L xs) (RUN L xs d) (sm_lk P_t194) 0 0 [some (.ref 55), none] [] h res := by
  unfold F_194_0 at hf
  refine Ex.seg 2 (pc' := 4) (lc' := [some (.ref 55), none]) (st' := [.ref 52]) (h' := h) (sg1 rfl rfl (sg1 rfl rfl rfl)) ?_
  obtain ⟨q2, e_q2, hf⟩ := bnd hf
  refine Ex.callV (a := 52) (As := []) (r := []) (v := some (.int q2.1)) (h' := q2.2) rfl rfl (by decide) rfl (Nat.le_of_ble_eq_true rfl) rfl (E_243 (by omega) e_q2) rfl ?_
  refine Ex.seg 3 (pc' := 12) (lc' := [some (.ref 55), some (.int q2.1)]) (st' := [.ref 52]) (h' := q2.2) (sg1 rfl rfl (sg1 rfl rfl (sg1 rfl rfl rfl))) ?_
  obtain ⟨q3, e_q3, hf⟩ := bnd hf
  refine Ex.callV (a := 52) (As := []) (r := []) (v := some (.int q3.1)) (h' := q3.2) rfl rfl (by decide) rfl (Nat.le_of_ble_eq_true rfl) rfl (E_242 (by omega) e_q3) rfl ?_
  rcases Classical.em (q3.1 = 1) with n1 | n1
  · rw [if_pos n1] at hf
    refine Ex.swt (t := 92) rfl rfl (by rw [n1]; exact Or.inr ⟨by decide, by decide, _, rfl, by decide⟩) ?_
    refine Ex.seg 1 (pc' := 93) (lc' := [some (.ref 55), some (.int q2.1)]) (st' := [.ref 55]) (h' := q3.2) (sg1 rfl rfl rfl) ?_
    obtain ⟨q4, e_q4, hf⟩ := bnd hf
    refine Ex.callV (a := 55) (As := []) (r := []) (v := some (.int q4.1)) (h' := q4.2) rfl rfl (by decide) rfl (Nat.le_of_ble_eq_true rfl) rfl (E_173 (by omega) e_q4) rfl ?_
    refine Ex.ifc rfl rfl (fun (c0 : q4.1 = 0) => ?_) (fun (c0 : ¬ (q4.1 = 0)) => ?_)
    · rw [if_pos c0] at hf
      refine Ex.seg 1 (pc' := 108) (lc' := [some (.ref 55), some (.int q2.1)]) (st' := [.int (-1)]) (h' := q4.2) (sg1 rfl rfl rfl) ?_
      exact Ex.weak (sm_le_n (sm_le_n sm_le_nil)) (B_194_108 hrec hd  hf hs)
    · rw [if_neg c0] at hf
      refine Ex.seg 2 (pc' := 101) (lc' := [some (.ref 55), some (.int q2.1)]) (st' := [.int q2.1, .ref 55]) (h' := q4.2) (sg1 rfl rfl (sg1 rfl rfl rfl)) ?_
      obtain ⟨q5, e_q5, hf⟩ := bnd hf
      refine Ex.callV (a := 55) (As := [.int q2.1]) (r := []) (v := some (.int q5.1)) (h' := q5.2) rfl rfl (by decide) rfl (Nat.le_of_ble_eq_true rfl) rfl (E_196 hrec (by omega) e_q5) rfl ?_
      refine Ex.seg 1 (pc' := 108) (lc' := [some (.ref 55), some (.int q2.1)]) (st' := [.int q5.1]) (h' := q5.2) (sg1 rfl rfl rfl) ?_
      exact Ex.weak (sm_le_n (sm_le_n sm_le_nil)) (B_194_108 hrec hd  hf hs)
  rw [if_neg n1] at hf
  rcases Classical.em (q3.1 = 3) with n2 | n2
  · rw [if_pos n2] at hf
    refine Ex.swt (t := 44) rfl rfl (by rw [n2]; exact Or.inr ⟨by decide, by decide, _, rfl, by decide⟩) ?_
    refine Ex.seg 2 (pc' := 48) (lc' := [some (.ref 55), some (.int q2.1)]) (st' := [.ref 56]) (h' := q3.2) (sg1 rfl rfl (sg1 rfl rfl rfl)) ?_
    obtain ⟨q6, e_q6, hf⟩ := bnd hf
    refine Ex.callV (a := 56) (As := []) (r := []) (v := none) (h' := q6) rfl rfl (by decide) rfl (Nat.le_of_ble_eq_true rfl) rfl (E_138 (by omega) e_q6) rfl ?_
    refine Ex.seg 6 (pc' := 61) (lc' := [some (.ref 55), some (.int q2.1)]) (st' := [.ref 52, .int 0, .ref 34, .ref 55]) (h' := q6) (sg1 rfl rfl (sg1 rfl rfl (sg1 rfl rfl (sg1 rfl rfl (sg1 rfl rfl (sg1 rfl rfl rfl)))))) ?_
    obtain ⟨q7, e_q7, hf⟩ := bnd hf
    refine Ex.callV (a := 52) (As := []) (r := [.int 0, .ref 34, .ref 55]) (v := some (.int q7.1)) (h' := q7.2) rfl rfl (by decide) rfl (Nat.le_of_ble_eq_true rfl) rfl (E_247 (by omega) e_q7) rfl ?_
    refine Ex.seg 3 (pc' := 69) (lc' := [some (.ref 55), some (.int q2.1)]) (st' := [.ref 52, .int 0, .int q7.1, .int 0, .ref 34, .ref 55]) (h' := q7.2) (sg1 rfl rfl (sg1 rfl rfl (sg1 rfl rfl rfl))) ?_
    obtain ⟨q8, e_q8, hf⟩ := bnd hf
    refine Ex.callV (a := 52) (As := []) (r := [.int 0, .int q7.1, .int 0, .ref 34, .ref 55]) (v := some (.long q8.1)) (h' := q8.2) rfl rfl (by decide) rfl (Nat.le_of_ble_eq_true rfl) rfl (E_246 (by omega) e_q8) rfl ?_
    refine Ex.seg 2 (pc' := 76) (lc' := [some (.ref 55), some (.int q2.1)]) (st' := [.ref 56, .long q8.1, .int 0, .int q7.1, .int 0, .ref 34, .ref 55]) (h' := q8.2) (sg1 rfl rfl (sg1 rfl rfl rfl)) ?_
    obtain ⟨q9, e_q9, hf⟩ := bnd hf
    refine Ex.callV (a := 34) (As := [.int 0, .int q7.1, .int 0, .long q8.1, .ref 56]) (r := [.ref 55]) (v := some (.int q9.1)) (h' := q9.2) rfl rfl (by decide) rfl (Nat.le_of_ble_eq_true rfl) rfl (E_5 (by omega) e_q9) rfl ?_
    refine Ex.seg 3 (pc' := 82) (lc' := [some (.ref 55), some (.int q2.1)]) (st' := [.int q2.1, .int 0, .int 0, .int q9.1, .ref 55]) (h' := q9.2) (sg1 rfl rfl (sg1 rfl rfl (sg1 rfl rfl rfl))) ?_
    obtain ⟨q10, e_q10, hf⟩ := bnd hf
    refine Ex.callV (a := 55) (As := [.int q9.1, .int 0, .int 0, .int q2.1]) (r := []) (v := some (.int q10.1)) (h' := q10.2) rfl rfl (by decide) rfl (Nat.le_of_ble_eq_true rfl) rfl (E_192 (by omega) e_q10) rfl ?_
    obtain rfl := Option.some.inj hf
    exact Ex.iret rfl rfl (fun c0 => by cases c0) hs
  rw [if_neg n2] at hf
  rcases Classical.em (q3.1 = 4) with n3 | n3
  · rw [if_pos n3] at hf
    refine Ex.swt (t := 86) rfl rfl (by rw [n3]; exact Or.inr ⟨by decide, by decide, _, rfl, by decide⟩) ?_
    refine Ex.seg 2 (pc' := 88) (lc' := [some (.ref 55), some (.int q2.1)]) (st' := [.int q2.1, .ref 55]) (h' := q3.2) (sg1 rfl rfl (sg1 rfl rfl rfl)) ?_
    obtain ⟨q11, e_q11, hf⟩ := bnd hf
    refine Ex.callV (a := 55) (As := [.int q2.1]) (r := []) (v := some (.int q11.1)) (h' := q11.2) rfl rfl (by decide) rfl (Nat.le_of_ble_eq_true rfl) rfl (E_195 (by omega) e_q11) rfl ?_
    obtain rfl := Option.some.inj hf
    exact Ex.iret rfl rfl (fun c0 => by cases c0) hs
  rw [if_neg n3] at hf
  refine Ex.swt (t := 109) rfl rfl (sw_dflt (by decide) (by decide) (fun k hk he => ?_)) ?_
  · have hk : k < 4 := hk
    rcases (show k = 0 ∨ k = 1 ∨ k = 2 ∨ k = 3 by omega) with rfl | rfl | rfl | rfl
    · exact absurd (Int32.toInt_inj.mp (he.symm.trans (by decide : (_ : Int) = Int32.toInt 1))) n1
    · rfl
    · exact absurd (Int32.toInt_inj.mp (he.symm.trans (by decide : (_ : Int) = Int32.toInt 3))) n2
    · exact absurd (Int32.toInt_inj.mp (he.symm.trans (by decide : (_ : Int) = Int32.toInt 4))) n3
  exact Ex.weak (sm_le_s (sm_le_n sm_le_nil)) (B_194_109 hrec hd  hf hs)
/-- HandleHouse$Texts.expression()I -/
abbrev F_194R (rec : sm_H → Option (Int32 × sm_H))  (h : sm_H) : Option (Int32 × sm_H) := F_194_0 rec  h
theorem E_194R {L : Nat} {xs : Nat → Int32} {d : Nat} {M : Nat} {rec : sm_H → Option (Int32 × sm_H)} (hrec : ∀ d, M ≤ d → ∀ (h : sm_H) (q : Int32 × sm_H), rec h = some q → RUN L xs d 194 [.ref 55] h (some (.int q.1), q.2)) (hd : 12 + M ≤ d)  {h : sm_H} {r : Int32 × sm_H} (hf : F_194R rec  h = some r) : RUN L xs d 194 [.ref 55] h (some (.int r.1), r.2) := by
  obtain ⟨d, rfl⟩ : ∃ e, d = e + 1 := ⟨d - 1, by omega⟩
  exact ⟨Nat.le_of_ble_eq_true rfl, B_194_0 hrec (by omega) hf rfl⟩
/-- the group, closed: at most n calls within one another -/
def K_194 : Nat → sm_H → Option (Int32 × sm_H)
  | 0, _ => none
  | n + 1, h => F_194R (K_194 n)  h
theorem KE_194 {L : Nat} {xs : Nat → Int32} : ∀ (n d : Nat), 12 * n ≤ d → ∀ (h : sm_H) (q : Int32 × sm_H), K_194 n  h = some q → RUN L xs d 194 [.ref 55] h (some (.int q.1), q.2) := by
  intro n
  induction n with
  | zero => intro d _  h q hf; cases hf
  | succ n ih =>
    intro d hd  h q hf
    exact E_194R (M := 12 * n) (rec := K_194 n) (fun d hd => ih d hd) (by omega) hf
def F_167_150  (h : sm_H) : Option (Int32 × sm_H) :=
  (F_241 h).bind fun q1 =>
  some ((q1.1 55 17), q1)
theorem B_167_150 {L : Nat} {xs : Nat → Int32} {d : Nat} (hd : 304 ≤ d) {res : Option Value × sm_H}   {h : sm_H} {r : (Int32 × sm_H)} (hf : F_167_150  h = some r) (hs : (fun (r : Int32 × sm_H) => res = (some (.int r.1), r.2)) r) : Ex (P_G L xs) (RUN L xs d) (sm_lk P_t167) 0 150 [some (.ref 55), none, none, none, none, none] [] h res := by
  unfold F_167_150 at hf
  refine Ex.seg 2 (pc' := 154) (lc' := [some (.ref 55), none, none, none, none, none]) (st' := [.ref 52]) (h' := h) (sg1 rfl rfl (sg1 rfl rfl rfl)) ?_
  obtain ⟨q1, e_q1, hf⟩ := bnd hf
  refine Ex.callV (a := 52) (As := []) (r := []) (v := none) (h' := q1) rfl rfl (by decide) rfl (Nat.le_of_ble_eq_true rfl) rfl (E_241 (Nat.le_trans (by decide) hd) e_q1) rfl ?_
  refine Ex.seg 2 (pc' := 161) (lc' := [some (.ref 55), none, none, none, none, none]) (st' := [.int (q1.1 55 17)]) (h' := q1) (sg1 rfl rfl (sg1 rfl rfl rfl)) ?_
  obtain rfl := Option.some.inj hf
  exact Ex.iret rfl rfl (fun c0 => by cases c0) hs
def F_167_144 (y1 : Int32) (h : sm_H) : Option ((Int32 × sm_H) ⊕ (Int32 × sm_H)) :=
  (some (y1 + 1 : Int32)).bind fun v2 =>
  some (.inl (v2, h))
theorem B_167_144 {L : Nat} {xs : Nat → Int32} {d : Nat} (hd : 304 ≤ d) {res : Option Value × sm_H} {S1 : (Int32 × sm_H) → Prop} (hS1 : ∀ s, S1 s → Ex (P_G L xs) (RUN L xs d) (sm_lk P_t167) 0 29 [some (.ref 55), some (.int s.1), none, none, none, none] [] s.2 res) {y1 : Int32}  {h : sm_H} {r : ((Int32 × sm_H) ⊕ (Int32 × sm_H))} (hf : F_167_144 y1 h = some r) (hs : (Sum.elim S1 (fun (r : Int32 × sm_H) => res = (some (.int r.1), r.2))) r) : Ex (P_G L xs) (RUN L xs d) (sm_lk P_t167) 0 144 [some (.ref 55), some (.int y1), none, none, none, none] [] h res := by
  unfold F_167_144 at hf
  refine Ex.seg 1 (pc' := 147) (lc' := [some (.ref 55), some (.int (y1 + 1)), none, none, none, none]) (st' := []) (h' := h) (sg1 rfl rfl rfl) ?_
  obtain ⟨v2, e_v2, hf⟩ := bnd hf
  rw [Option.some.inj e_v2]
  refine Ex.seg 1 (pc' := 29) (lc' := [some (.ref 55), some (.int v2), none, none, none, none]) (st' := []) (h' := h) (sg1 rfl rfl rfl) ?_
  obtain rfl := Option.some.inj hf
  exact Ex.weak (sm_le_s (sm_le_s (sm_le_s (sm_le_s (sm_le_s (sm_le_s sm_le_nil)))))) (hS1 _ hs)
def F_167_113 (y1 : Int32) (y2 : Int32) (y3 : Int32) (y4 : Int32) (z0 : Int32) (h : sm_H) : Option ((Int32 × sm_H) ⊕ (Int32 × sm_H)) :=
  if z0 = (-1) then (F_167_144  y1 h)
  else ((F_175 h).bind fun q3 =>
  if q3.1 = 0 then (F_167_144  y1 q3.2)
  else ((F_186 12 z0 y3 y2 q3.2).bind fun q4 =>
  (F_168 y4 q4.1 q4.2).bind fun q5 =>
  F_167_144  y1 q5))
theorem B_167_113 {L : Nat} {xs : Nat → Int32} {d : Nat} (hd : 304 ≤ d) {res : Option Value × sm_H} {S1 : (Int32 × sm_H) → Prop} (hS1 : ∀ s, S1 s → Ex (P_G L xs) (RUN L xs d) (sm_lk P_t167) 0 29 [some (.ref 55), some (.int s.1), none, none, none, none] [] s.2 res) {y1 : Int32} {y2 : Int32} {y3 : Int32} {y4 : Int32} {z0 : Int32}  {h : sm_H} {r : ((Int32 × sm_H) ⊕ (Int32 × sm_H))} (hf : F_167_113 y1 y2 y3 y4 z0 h = some r) (hs : (Sum.elim S1 (fun (r : Int32 × sm_H) => res = (some (.int r.1), r.2))) r) : Ex (P_G L xs) (RUN L xs d) (sm_lk P_t167) 0 113 [some (.ref 55), some (.int y1), some (.int y2), some (.int y3), some (.int y4), none] [.int z0] h res := by
  unfold F_167_113 at hf
  refine Ex.seg 3 (pc' := 118) (lc' := [some (.ref 55), some (.int y1), some (.int y2), some (.int y3), some (.int y4), some (.int z0)]) (st' := [.int (-1), .int z0]) (h' := h) (sg1 rfl rfl (sg1 rfl rfl (sg1 rfl rfl rfl))) ?_
  refine Ex.icmp rfl rfl (fun (c0 : z0 = (-1)) => ?_) (fun (c0 : ¬ (z0 = (-1))) => ?_)
  · rw [if_pos c0] at hf
    exact Ex.weak (sm_le_s (sm_le_s (sm_le_n (sm_le_n (sm_le_n (sm_le_n sm_le_nil)))))) (B_167_144 hd hS1 hf hs)
  · rw [if_neg c0] at hf
    refine Ex.seg 1 (pc' := 122) (lc' := [some (.ref 55), some (.int y1), some (.int y2), some (.int y3), some (.int y4), some (.int z0)]) (st' := [.ref 55]) (h' := h) (sg1 rfl rfl rfl) ?_
    obtain ⟨q3, e_q3, hf⟩ := bnd hf
    refine Ex.callV (a := 55) (As := []) (r := []) (v := some (.int q3.1)) (h' := q3.2) rfl rfl (by decide) rfl (Nat.le_of_ble_eq_true rfl) rfl (E_175 (Nat.le_trans (by decide) hd) e_q3) rfl ?_
    refine Ex.ifc rfl rfl (fun (c0 : q3.1 = 0) => ?_) (fun (c0 : ¬ (q3.1 = 0)) => ?_)
    · rw [if_pos c0] at hf
      exact Ex.weak (sm_le_s (sm_le_s (sm_le_n (sm_le_n (sm_le_n (sm_le_n sm_le_nil)))))) (B_167_144 hd hS1 hf hs)
    · rw [if_neg c0] at hf
      refine Ex.seg 7 (pc' := 138) (lc' := [some (.ref 55), some (.int y1), some (.int y2), some (.int y3), some (.int y4), some (.int z0)]) (st' := [.int y2, .int y3, .int z0, .int 12, .ref 55, .int y4, .ref 55]) (h' := q3.2) (sg1 rfl rfl (sg1 rfl rfl (sg1 rfl rfl (sg1 rfl rfl (sg1 rfl rfl (sg1 rfl rfl (sg1 rfl rfl rfl))))))) ?_
      obtain ⟨q4, e_q4, hf⟩ := bnd hf
      refine Ex.callV (a := 55) (As := [.int 12, .int z0, .int y3, .int y2]) (r := [.int y4, .ref 55]) (v := some (.int q4.1)) (h' := q4.2) rfl rfl (by decide) rfl (Nat.le_of_ble_eq_true rfl) rfl (E_186 (Nat.le_trans (by decide) hd) e_q4) rfl ?_
      obtain ⟨q5, e_q5, hf⟩ := bnd hf
      refine Ex.callV (a := 55) (As := [.int y4, .int q4.1]) (r := []) (v := none) (h' := q5) rfl rfl (by decide) rfl (Nat.le_of_ble_eq_true rfl) rfl (E_168 (Nat.le_trans (by decide) hd) e_q5) rfl ?_
      exact Ex.weak (sm_le_s (sm_le_s (sm_le_n (sm_le_n (sm_le_n (sm_le_n sm_le_nil)))))) (B_167_144 hd hS1 hf hs)
def F_167_97 (y1 : Int32) (y2 : Int32) (y3 : Int32) (z0 : Int32) (h : sm_H) : Option ((Int32 × sm_H) ⊕ (Int32 × sm_H)) :=
  if z0 = (-1) then (F_167_113  y1 y2 y3 z0 (-1) h)
  else ((F_193 (K_194 25) h).bind fun q6 =>
  F_167_113  y1 y2 y3 z0 q6.1 q6.2)
theorem B_167_97 {L : Nat} {xs : Nat → Int32} {d : Nat} (hd : 304 ≤ d) {res : Option Value × sm_H} {S1 : (Int32 × sm_H) → Prop} (hS1 : ∀ s, S1 s → Ex (P_G L xs) (RUN L xs d) (sm_lk P_t167) 0 29 [some (.ref 55), some (.int s.1), none, none, none, none] [] s.2 res) {y1 : Int32} {y2 : Int32} {y3 : Int32} {z0 : Int32}  {h : sm_H} {r : ((Int32 × sm_H) ⊕ (Int32 × sm_H))} (hf : F_167_97 y1 y2 y3 z0 h = some r) (hs : (Sum.elim S1 (fun (r : Int32 × sm_H) => res = (some (.int r.1), r.2))) r) : Ex (P_G L xs) (RUN L xs d) (sm_lk P_t167) 0 97 [some (.ref 55), some (.int y1), some (.int y2), some (.int y3), none, none] [.int z0] h res := by
  unfold F_167_97 at hf
  refine Ex.seg 3 (pc' := 102) (lc' := [some (.ref 55), some (.int y1), some (.int y2), some (.int y3), some (.int z0), none]) (st' := [.int (-1), .int z0]) (h' := h) (sg1 rfl rfl (sg1 rfl rfl (sg1 rfl rfl rfl))) ?_
  refine Ex.icmp rfl rfl (fun (c0 : ¬ (z0 = (-1))) => ?_) (fun (c0 : ¬ ¬ (z0 = (-1))) => ?_)
  · rw [if_neg c0] at hf
    refine Ex.seg 1 (pc' := 110) (lc' := [some (.ref 55), some (.int y1), some (.int y2), some (.int y3), some (.int z0), none]) (st' := [.ref 55]) (h' := h) (sg1 rfl rfl rfl) ?_
    obtain ⟨q6, e_q6, hf⟩ := bnd hf
    refine Ex.callV (a := 55) (As := []) (r := []) (v := some (.int q6.1)) (h' := q6.2) rfl rfl (by decide) rfl (Nat.le_of_ble_eq_true rfl) rfl (E_193 (M := 300) (KE_194 25) (Nat.le_trans (by decide) hd) e_q6) rfl ?_
    exact Ex.weak (sm_le_s (sm_le_s (sm_le_s (sm_le_s (sm_le_s (sm_le_s sm_le_nil)))))) (B_167_113 hd hS1 hf hs)
  · rw [if_pos (Classical.not_not.mp c0)] at hf
    refine Ex.seg 2 (pc' := 113) (lc' := [some (.ref 55), some (.int y1), some (.int y2), some (.int y3), some (.int z0), none]) (st' := [.int (-1)]) (h' := h) (sg1 rfl rfl (sg1 rfl rfl rfl)) ?_
    exact Ex.weak (sm_le_s (sm_le_s (sm_le_s (sm_le_s (sm_le_s (sm_le_s sm_le_nil)))))) (B_167_113 hd hS1 hf hs)
def F_167_96 (y1 : Int32) (y2 : Int32) (y3 : Int32) (h : sm_H) : Option ((Int32 × sm_H) ⊕ (Int32 × sm_H)) :=
  F_167_97  y1 y2 y3 (-1) h
theorem B_167_96 {L : Nat} {xs : Nat → Int32} {d : Nat} (hd : 304 ≤ d) {res : Option Value × sm_H} {S1 : (Int32 × sm_H) → Prop} (hS1 : ∀ s, S1 s → Ex (P_G L xs) (RUN L xs d) (sm_lk P_t167) 0 29 [some (.ref 55), some (.int s.1), none, none, none, none] [] s.2 res) {y1 : Int32} {y2 : Int32} {y3 : Int32}  {h : sm_H} {r : ((Int32 × sm_H) ⊕ (Int32 × sm_H))} (hf : F_167_96 y1 y2 y3 h = some r) (hs : (Sum.elim S1 (fun (r : Int32 × sm_H) => res = (some (.int r.1), r.2))) r) : Ex (P_G L xs) (RUN L xs d) (sm_lk P_t167) 0 96 [some (.ref 55), some (.int y1), some (.int y2), some (.int y3), none, none] [] h res := by
  unfold F_167_96 at hf
  refine Ex.seg 1 (pc' := 97) (lc' := [some (.ref 55), some (.int y1), some (.int y2), some (.int y3), none, none]) (st' := [.int (-1)]) (h' := h) (sg1 rfl rfl rfl) ?_
  exact Ex.weak (sm_le_s (sm_le_s (sm_le_s (sm_le_s (sm_le_s (sm_le_s sm_le_nil)))))) (B_167_97 hd hS1 hf hs)
def F_167_74 (y1 : Int32) (y2 : Int32) (z0 : Int32) (h : sm_H) : Option ((Int32 × sm_H) ⊕ (Int32 × sm_H)) :=
  if z0 = (-1) then (F_167_96  y1 y2 z0 h)
  else ((F_178 h).bind fun q7 =>
  if q7.1 = 0 then (F_167_96  y1 y2 z0 q7.2)
  else ((F_180 z0 y2 q7.2).bind fun q8 =>
  F_167_97  y1 y2 z0 q8.1 q8.2))
theorem B_167_74 {L : Nat} {xs : Nat → Int32} {d : Nat} (hd : 304 ≤ d) {res : Option Value × sm_H} {S1 : (Int32 × sm_H) → Prop} (hS1 : ∀ s, S1 s → Ex (P_G L xs) (RUN L xs d) (sm_lk P_t167) 0 29 [some (.ref 55), some (.int s.1), none, none, none, none] [] s.2 res) {y1 : Int32} {y2 : Int32} {z0 : Int32}  {h : sm_H} {r : ((Int32 × sm_H) ⊕ (Int32 × sm_H))} (hf : F_167_74 y1 y2 z0 h = some r) (hs : (Sum.elim S1 (fun (r : Int32 × sm_H) => res = (some (.int r.1), r.2))) r) : Ex (P_G L xs) (RUN L xs d) (sm_lk P_t167) 0 74 [some (.ref 55), some (.int y1), some (.int y2), none, none, none] [.int z0] h res := by
  unfold F_167_74 at hf
  refine Ex.seg 3 (pc' := 77) (lc' := [some (.ref 55), some (.int y1), some (.int y2), some (.int z0), none, none]) (st' := [.int (-1), .int z0]) (h' := h) (sg1 rfl rfl (sg1 rfl rfl (sg1 rfl rfl rfl))) ?_
  refine Ex.icmp rfl rfl (fun (c0 : z0 = (-1)) => ?_) (fun (c0 : ¬ (z0 = (-1))) => ?_)
  · rw [if_pos c0] at hf
    exact Ex.weak (sm_le_s (sm_le_s (sm_le_s (sm_le_s (sm_le_s (sm_le_s sm_le_nil)))))) (B_167_96 hd hS1 hf hs)
  · rw [if_neg c0] at hf
    refine Ex.seg 1 (pc' := 81) (lc' := [some (.ref 55), some (.int y1), some (.int y2), some (.int z0), none, none]) (st' := [.ref 55]) (h' := h) (sg1 rfl rfl rfl) ?_
    obtain ⟨q7, e_q7, hf⟩ := bnd hf
    refine Ex.callV (a := 55) (As := []) (r := []) (v := some (.int q7.1)) (h' := q7.2) rfl rfl (by decide) rfl (Nat.le_of_ble_eq_true rfl) rfl (E_178 (Nat.le_trans (by decide) hd) e_q7) rfl ?_
    refine Ex.ifc rfl rfl (fun (c0 : q7.1 = 0) => ?_) (fun (c0 : ¬ (q7.1 = 0)) => ?_)
    · rw [if_pos c0] at hf
      exact Ex.weak (sm_le_s (sm_le_s (sm_le_s (sm_le_s (sm_le_s (sm_le_s sm_le_nil)))))) (B_167_96 hd hS1 hf hs)
    · rw [if_neg c0] at hf
      refine Ex.seg 3 (pc' := 90) (lc' := [some (.ref 55), some (.int y1), some (.int y2), some (.int z0), none, none]) (st' := [.int y2, .int z0, .ref 55]) (h' := q7.2) (sg1 rfl rfl (sg1 rfl rfl (sg1 rfl rfl rfl))) ?_
      obtain ⟨q8, e_q8, hf⟩ := bnd hf
      refine Ex.callV (a := 55) (As := [.int z0, .int y2]) (r := []) (v := some (.int q8.1)) (h' := q8.2) rfl rfl (by decide) rfl (Nat.le_of_ble_eq_true rfl) rfl (E_180 (Nat.le_trans (by decide) hd) e_q8) rfl ?_
      refine Ex.seg 1 (pc' := 97) (lc' := [some (.ref 55), some (.int y1), some (.int y2), some (.int z0), none, none]) (st' := [.int q8.1]) (h' := q8.2) (sg1 rfl rfl rfl) ?_
      exact Ex.weak (sm_le_s (sm_le_s (sm_le_s (sm_le_s (sm_le_s (sm_le_s sm_le_nil)))))) (B_167_97 hd hS1 hf hs)
def F_167_29B (s : (Int32 × sm_H)) : Option ((Int32 × sm_H) ⊕ (Int32 × sm_H)) :=
  if 3000 ≤ s.1 then ((F_167_150  s.2).map fun r => (.inr r))
  else (if (s.2.1 55 17) = 0 then ((F_171 s.2).bind fun q9 =>
  if q9.1 = 0 then ((F_167_150  q9.2).map fun r => (.inr r))
  else ((F_243 q9.2).bind fun q10 =>
  (F_177 q10.2).bind fun q11 =>
  if q11.1 = 0 then (F_167_74  s.1 q10.1 (-1) q11.2)
  else ((F_176 1 q11.2).bind fun q12 =>
  F_167_74  s.1 q10.1 q12.1 q12.2)))
  else ((F_167_150  s.2).map fun r => (.inr r)))
theorem B_167_29B {L : Nat} {xs : Nat → Int32} {d : Nat} (hd : 304 ≤ d) {res : Option Value × sm_H} {S1 : (Int32 × sm_H) → Prop} (hS1 : ∀ s, S1 s → Ex (P_G L xs) (RUN L xs d) (sm_lk P_t167) 0 29 [some (.ref 55), some (.int s.1), none, none, none, none] [] s.2 res) {s : (Int32 × sm_H)}  {r : ((Int32 × sm_H) ⊕ (Int32 × sm_H))} (hf : F_167_29B s = some r) (hs : (Sum.elim S1 (fun (r : Int32 × sm_H) => res = (some (.int r.1), r.2))) r) : Ex (P_G L xs) (RUN L xs d) (sm_lk P_t167) 0 29 [some (.ref 55), some (.int s.1), none, none, none, none] [] s.2 res := by
  unfold F_167_29B at hf
  refine Ex.seg 2 (pc' := 33) (lc' := [some (.ref 55), some (.int s.1), none, none, none, none]) (st' := [.int 3000, .int s.1]) (h' := s.2) (sg1 rfl rfl (sg1 rfl rfl rfl)) ?_
  refine Ex.icmp rfl rfl (fun (c0 : 3000 ≤ s.1) => ?_) (fun (c0 : ¬ (3000 ≤ s.1)) => ?_)
  · rw [if_pos c0] at hf
    obtain ⟨r0, hf0, rfl⟩ := Option.map_eq_some_iff.mp hf
    exact Ex.weak (sm_le_s (sm_le_n (sm_le_s (sm_le_s (sm_le_s (sm_le_s sm_le_nil)))))) (B_167_150 hd  hf0 hs)
  · rw [if_neg c0] at hf
    refine Ex.seg 2 (pc' := 40) (lc' := [some (.ref 55), some (.int s.1), none, none, none, none]) (st' := [.int (s.2.1 55 17)]) (h' := s.2) (sg1 rfl rfl (sg1 rfl rfl rfl)) ?_
    refine Ex.ifc rfl rfl (fun (c0 : ¬ ((s.2.1 55 17) = 0)) => ?_) (fun (c0 : ¬ ¬ ((s.2.1 55 17) = 0)) => ?_)
    · rw [if_neg c0] at hf
      obtain ⟨r0, hf0, rfl⟩ := Option.map_eq_some_iff.mp hf
      exact Ex.weak (sm_le_s (sm_le_n (sm_le_s (sm_le_s (sm_le_s (sm_le_s sm_le_nil)))))) (B_167_150 hd  hf0 hs)
    · rw [if_pos (Classical.not_not.mp c0)] at hf
      refine Ex.seg 1 (pc' := 44) (lc' := [some (.ref 55), some (.int s.1), none, none, none, none]) (st' := [.ref 55]) (h' := s.2) (sg1 rfl rfl rfl) ?_
      obtain ⟨q9, e_q9, hf⟩ := bnd hf
      refine Ex.callV (a := 55) (As := []) (r := []) (v := some (.int q9.1)) (h' := q9.2) rfl rfl (by decide) rfl (Nat.le_of_ble_eq_true rfl) rfl (E_171 (Nat.le_trans (by decide) hd) e_q9) rfl ?_
      refine Ex.ifc rfl rfl (fun (c0 : q9.1 = 0) => ?_) (fun (c0 : ¬ (q9.1 = 0)) => ?_)
      · rw [if_pos c0] at hf
        obtain ⟨r0, hf0, rfl⟩ := Option.map_eq_some_iff.mp hf
        exact Ex.weak (sm_le_s (sm_le_n (sm_le_s (sm_le_s (sm_le_s (sm_le_s sm_le_nil)))))) (B_167_150 hd  hf0 hs)
      · rw [if_neg c0] at hf
        refine Ex.seg 2 (pc' := 54) (lc' := [some (.ref 55), some (.int s.1), none, none, none, none]) (st' := [.ref 52]) (h' := q9.2) (sg1 rfl rfl (sg1 rfl rfl rfl)) ?_
        obtain ⟨q10, e_q10, hf⟩ := bnd hf
        refine Ex.callV (a := 52) (As := []) (r := []) (v := some (.int q10.1)) (h' := q10.2) rfl rfl (by decide) rfl (Nat.le_of_ble_eq_true rfl) rfl (E_243 (Nat.le_trans (by decide) hd) e_q10) rfl ?_
        refine Ex.seg 2 (pc' := 59) (lc' := [some (.ref 55), some (.int s.1), some (.int q10.1), none, none, none]) (st' := [.ref 55]) (h' := q10.2) (sg1 rfl rfl (sg1 rfl rfl rfl)) ?_
        obtain ⟨q11, e_q11, hf⟩ := bnd hf
        refine Ex.callV (a := 55) (As := []) (r := []) (v := some (.int q11.1)) (h' := q11.2) rfl rfl (by decide) rfl (Nat.le_of_ble_eq_true rfl) rfl (E_177 (Nat.le_trans (by decide) hd) e_q11) rfl ?_
        refine Ex.ifc rfl rfl (fun (c0 : q11.1 = 0) => ?_) (fun (c0 : ¬ (q11.1 = 0)) => ?_)
        · rw [if_pos c0] at hf
          refine Ex.seg 1 (pc' := 74) (lc' := [some (.ref 55), some (.int s.1), some (.int q10.1), none, none, none]) (st' := [.int (-1)]) (h' := q11.2) (sg1 rfl rfl rfl) ?_
          exact Ex.weak (sm_le_s (sm_le_s (sm_le_s (sm_le_s (sm_le_s (sm_le_s sm_le_nil)))))) (B_167_74 hd hS1 hf hs)
        · rw [if_neg c0] at hf
          refine Ex.seg 2 (pc' := 67) (lc' := [some (.ref 55), some (.int s.1), some (.int q10.1), none, none, none]) (st' := [.int 1, .ref 55]) (h' := q11.2) (sg1 rfl rfl (sg1 rfl rfl rfl)) ?_
          obtain ⟨q12, e_q12, hf⟩ := bnd hf
          refine Ex.callV (a := 55) (As := [.int 1]) (r := []) (v := some (.int q12.1)) (h' := q12.2) rfl rfl (by decide) rfl (Nat.le_of_ble_eq_true rfl) rfl (E_176 (Nat.le_trans (by decide) hd) e_q12) rfl ?_
          refine Ex.seg 1 (pc' := 74) (lc' := [some (.ref 55), some (.int s.1), some (.int q10.1), none, none, none]) (st' := [.int q12.1]) (h' := q12.2) (sg1 rfl rfl rfl) ?_
          exact Ex.weak (sm_le_s (sm_le_s (sm_le_s (sm_le_s (sm_le_s (sm_le_s sm_le_nil)))))) (B_167_74 hd hS1 hf hs)
def F_167_29 (y1 : Int32) (h : sm_H) : Option (Int32 × sm_H) := lp (F_167_29B ) 1000000 (y1, h)
theorem B_167_29 {L : Nat} {xs : Nat → Int32} {d : Nat} (hd : 304 ≤ d) {res : Option Value × sm_H} {y1 : Int32}  {h : sm_H} {r : (Int32 × sm_H)} (hf : F_167_29 y1 h = some r) (hs : (fun (r : Int32 × sm_H) => res = (some (.int r.1), r.2)) r) : Ex (P_G L xs) (RUN L xs d) (sm_lk P_t167) 0 29 [some (.ref 55), some (.int y1), none, none, none, none] [] h res := by
  unfold F_167_29 at hf
  exact lp_ok (P := fun (s : (Int32 × sm_H)) => Ex (P_G L xs) (RUN L xs d) (sm_lk P_t167) 0 29 [some (.ref 55), some (.int s.1), none, none, none, none] [] s.2 res) (S := (fun (r : Int32 × sm_H) => res = (some (.int r.1), r.2))) (fun s x hx hsx => by
    intros
    exact B_167_29B hd  (fun _ q => q) hx hsx) 1000000 _ r hf hs
def F_167_0  (h : sm_H) : Option (Int32 × sm_H) :=
  (some (sm_wI h 55 17 0)).bind fun h13 =>
  (some (sm_wI h13 55 18 (-1))).bind fun h14 =>
  (some (sm_wI h14 55 16 0)).bind fun h15 =>
  (some (sm_wI h15 55 12 0)).bind fun h16 =>
  (F_240 h16).bind fun q17 =>
  F_167_29  0 q17
theorem B_167_0 {L : Nat} {xs : Nat → Int32} {d : Nat} (hd : 304 ≤ d) {res : Option Value × sm_H}   {h : sm_H} {r : (Int32 × sm_H)} (hf : F_167_0  h = some r) (hs : (fun (r : Int32 × sm_H) => res = (some (.int r.1), r.2)) r) : Ex (P_G L xs) (RUN L xs d) (sm_lk P_t167) 0 0 [some (.ref 55), none, none, none, none, none] [] h res := by
  unfold F_167_0 at hf
  refine Ex.seg 3 (pc' := 5) (lc' := [some (.ref 55), none, none, none, none, none]) (st' := []) (h' := (sm_wI h 55 17 0)) (sg1 rfl rfl (sg1 rfl rfl (sg1 rfl rfl rfl))) ?_
  obtain ⟨h13, e_h13, hf⟩ := bnd hf
  rw [Option.some.inj e_h13]
  refine Ex.seg 3 (pc' := 10) (lc' := [some (.ref 55), none, none, none, none, none]) (st' := []) (h' := (sm_wI h13 55 18 (-1))) (sg1 rfl rfl (sg1 rfl rfl (sg1 rfl rfl rfl))) ?_
  obtain ⟨h14, e_h14, hf⟩ := bnd hf
  rw [Option.some.inj e_h14]
  refine Ex.seg 3 (pc' := 15) (lc' := [some (.ref 55), none, none, none, none, none]) (st' := []) (h' := (sm_wI h14 55 16 0)) (sg1 rfl rfl (sg1 rfl rfl (sg1 rfl rfl rfl))) ?_
  obtain ⟨h15, e_h15, hf⟩ := bnd hf
  rw [Option.some.inj e_h15]
  refine Ex.seg 3 (pc' := 20) (lc' := [some (.ref 55), none, none, none, none, none]) (st' := []) (h' := (sm_wI h15 55 12 0)) (sg1 rfl rfl (sg1 rfl rfl (sg1 rfl rfl rfl))) ?_
  obtain ⟨h16, e_h16, hf⟩ := bnd hf
  rw [Option.some.inj e_h16]
  refine Ex.seg 2 (pc' := 24) (lc' := [some (.ref 55), none, none, none, none, none]) (st' := [.ref 52]) (h' := h16) (sg1 rfl rfl (sg1 rfl rfl rfl)) ?_
  obtain ⟨q17, e_q17, hf⟩ := bnd hf
  refine Ex.callV (a := 52) (As := []) (r := []) (v := none) (h' := q17) rfl rfl (by decide) rfl (Nat.le_of_ble_eq_true rfl) rfl (E_240 (Nat.le_trans (by decide) hd) e_q17) rfl ?_
  refine Ex.seg 2 (pc' := 29) (lc' := [some (.ref 55), some (.int 0), none, none, none, none]) (st' := []) (h' := q17) (sg1 rfl rfl (sg1 rfl rfl rfl)) ?_
  exact Ex.weak (sm_le_s (sm_le_s (sm_le_s (sm_le_s (sm_le_s (sm_le_s sm_le_nil)))))) (B_167_29 hd  hf hs)
/-- HandleHouse$Texts.readAll()I -/
abbrev F_167  (h : sm_H) : Option (Int32 × sm_H) := F_167_0  h
theorem E_167 {L : Nat} {xs : Nat → Int32} {d : Nat} (hd : 305 ≤ d)  {h : sm_H} {r : Int32 × sm_H} (hf : F_167  h = some r) : RUN L xs d 167 [.ref 55] h (some (.int r.1), r.2) := by
  obtain ⟨d, rfl⟩ : ∃ e, d = e + 1 := ⟨d - 1, by omega⟩
  exact ⟨Nat.le_of_ble_eq_true rfl, B_167_0 (by omega) hf rfl⟩
def F_284_0  (h : sm_H) : Option (Int32 × sm_H) :=
  (F_167 h).bind fun q1 =>
  some (q1.1, q1.2)
theorem B_284_0 {L : Nat} {xs : Nat → Int32} {d : Nat} (hd : 305 ≤ d) {res : Option Value × sm_H}   {h : sm_H} {r : (Int32 × sm_H)} (hf : F_284_0  h = some r) (hs : (fun (r : Int32 × sm_H) => res = (some (.int r.1), r.2)) r) : Ex (P_G L xs) (RUN L xs d) (sm_lk P_t284) 0 0 [some (.ref 0)] [] h res := by
  unfold F_284_0 at hf
  refine Ex.seg 2 (pc' := 4) (lc' := [some (.ref 0)]) (st' := [.ref 55]) (h' := h) (sg1 rfl rfl (sg1 rfl rfl rfl)) ?_
  obtain ⟨q1, e_q1, hf⟩ := bnd hf
  refine Ex.callV (a := 55) (As := []) (r := []) (v := some (.int q1.1)) (h' := q1.2) rfl rfl (by decide) rfl (Nat.le_of_ble_eq_true rfl) rfl (E_167 (Nat.le_trans (by decide) hd) e_q1) rfl ?_
  obtain rfl := Option.some.inj hf
  exact Ex.iret rfl rfl (fun c0 => by cases c0) hs
/-- HandleHouse.read()I -/
abbrev F_284  (h : sm_H) : Option (Int32 × sm_H) := F_284_0  h
theorem E_284 {L : Nat} {xs : Nat → Int32} {d : Nat} (hd : 306 ≤ d)  {h : sm_H} {r : Int32 × sm_H} (hf : F_284  h = some r) : RUN L xs d 284 [.ref 0] h (some (.int r.1), r.2) := by
  obtain ⟨d, rfl⟩ : ∃ e, d = e + 1 := ⟨d - 1, by omega⟩
  exact ⟨Nat.le_of_ble_eq_true rfl, B_284_0 (by omega) hf rfl⟩
