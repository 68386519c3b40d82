theorem B_209_54 {L : Nat} {xs : Nat → Int32} {d : Nat} {M : Nat} {rec : sm_H → Option (Int32 × sm_H)} (hrec : ∀ d, M ≤ d → ∀ (h : sm_H) (q : Int32 × sm_H), rec h = some q → RUN L xs d 194 [.ref 55] h (some (.int q.1), q.2)) (hd : 6 + M ≤ d) {res : Option Value × sm_H}   {h : sm_H} {r : (Int32 × sm_H)} (hf : F_209_54 rec  h = some r) (hs : (fun (r : Int32 × sm_H) => res = (some (.int r.1), r.2)) r) : Ex (P_G L xs) (RUN L xs d) (sm_lk P_t209) 0 54 [none, none, none, none] [] h res := by
  unfold F_209_54 at hf
  refine Ex.seg 1 (pc' := 55) (lc' := [none, none, none, none]) (st' := [.int (-1)]) (h' := h) (sg1 rfl rfl rfl) ?_
  obtain rfl := Option.some.inj hf
  exact Ex.iret rfl rfl (fun c0 => by cases c0) hs
theorem B_209_30 {L : Nat} {xs : Nat → Int32} {d : Nat} {M : Nat} {rec : sm_H → Option (Int32 × sm_H)} (hrec : ∀ d, M ≤ d → ∀ (h : sm_H) (q : Int32 × sm_H), rec h = some q → RUN L xs d 194 [.ref 55] h (some (.int q.1), q.2)) (hd : 6 + M ≤ d) {res : Option Value × sm_H}   {h : sm_H} {r : (Int32 × sm_H)} (hf : F_209_30 rec  h = some r) (hs : (fun (r : Int32 × sm_H) => res = (some (.int r.1), r.2)) r) : Ex (P_G L xs) (RUN L xs d) (sm_lk P_t209) 0 30 [none, none, none, none] [] h res := by
  unfold F_209_30 at hf
  refine Ex.seg 1 (pc' := 31) (lc' := [none, none, none, none]) (st' := [.int (-1)]) (h' := h) (sg1 rfl rfl rfl) ?_
  obtain rfl := Option.some.inj hf
  exact Ex.iret rfl rfl (fun c0 => by cases c0) hs
theorem B_209_0 {L : Nat} {xs : Nat → Int32} {d : Nat} {M : Nat} {rec : sm_H → Option (Int32 × sm_H)} (hrec : ∀ d, M ≤ d → ∀ (h : sm_H) (q : Int32 × sm_H), rec h = some q → RUN L xs d 194 [.ref 55] h (some (.int q.1), q.2)) (hd : 6 + M ≤ d) {res : Option Value × sm_H} {x1 : Int32}  {h : sm_H} {r : (Int32 × sm_H)} (hf : F_209_0 rec x1 h = some r) (hs : (fun (r : Int32 × sm_H) => res = (some (.int r.1), r.2)) r) : Ex (P_G L xs) (RUN L xs d) (sm_lk P_t209) 0 0 [some (.ref 55), some (.int x1), none, none] [] h res := by
  unfold F_209_0 at hf
  refine Ex.seg 3 (pc' := 5) (lc' := [some (.ref 55), some (.int x1), some (.int (h.1 55 12)), none]) (st' := []) (h' := h) (sg1 rfl rfl (sg1 rfl rfl (sg1 rfl rfl rfl))) ?_
  obtain ⟨v1, e_v1, hf⟩ := bnd hf
  rw [Option.some.inj e_v1]
  refine Ex.seg 1 (pc' := 6) (lc' := [some (.ref 55), some (.int x1), some (.int v1), none]) (st' := [.ref 55]) (h' := h) (sg1 rfl rfl rfl) ?_
  obtain ⟨q2, e_q2, hf⟩ := bnd hf
  refine Ex.callV (a := 55) (As := []) (r := []) (v := some (.int q2.1)) (h' := q2.2) rfl rfl (by decide) rfl (Nat.le_of_ble_eq_true rfl) rfl (E_174 (by omega) e_q2) rfl ?_
  refine Ex.ifc rfl rfl (fun (c0 : q2.1 = 0) => ?_) (fun (c0 : ¬ (q2.1 = 0)) => ?_)
  · rw [if_pos c0] at hf
    exact Ex.weak (sm_le_n (sm_le_n (sm_le_n (sm_le_s sm_le_nil)))) (B_209_30 hrec hd  hf hs)
  · rw [if_neg c0] at hf
    refine Ex.seg 2 (pc' := 14) (lc' := [some (.ref 55), some (.int x1), some (.int v1), none]) (st' := [.int x1, .ref 55]) (h' := q2.2) (sg1 rfl rfl (sg1 rfl rfl rfl)) ?_
    obtain ⟨q3, e_q3, hf⟩ := bnd hf
    refine Ex.callV (a := 55) (As := [.int x1]) (r := []) (v := some (.int q3.1)) (h' := q3.2) rfl rfl (by decide) rfl (Nat.le_of_ble_eq_true rfl) rfl (E_207 hrec (by omega) e_q3) rfl ?_
    refine Ex.ifc rfl rfl (fun (c0 : q3.1 = 0) => ?_) (fun (c0 : ¬ (q3.1 = 0)) => ?_)
    · rw [if_pos c0] at hf
      exact Ex.weak (sm_le_n (sm_le_n (sm_le_n (sm_le_s sm_le_nil)))) (B_209_30 hrec hd  hf hs)
    · rw [if_neg c0] at hf
      refine Ex.seg 4 (pc' := 24) (lc' := [some (.ref 55), some (.int x1), some (.int v1), none]) (st' := [.int x1, .int 1, .int v1, .ref 55]) (h' := q3.2) (sg1 rfl rfl (sg1 rfl rfl (sg1 rfl rfl (sg1 rfl rfl rfl)))) ?_
      obtain ⟨q4, e_q4, hf⟩ := bnd hf
      refine Ex.callV (a := 55) (As := [.int v1, .int 1, .int x1]) (r := []) (v := some (.int q4.1)) (h' := q4.2) rfl rfl (by decide) rfl (Nat.le_of_ble_eq_true rfl) rfl (E_208 (by omega) e_q4) rfl ?_
      refine Ex.ifc rfl rfl (fun (c0 : ¬ (q4.1 = 0)) => ?_) (fun (c0 : ¬ ¬ (q4.1 = 0)) => ?_)
      · rw [if_neg c0] at hf
        refine Ex.seg 1 (pc' := 33) (lc' := [some (.ref 55), some (.int x1), some (.int v1), none]) (st' := [.ref 55]) (h' := q4.2) (sg1 rfl rfl rfl) ?_
        obtain ⟨q5, e_q5, hf⟩ := bnd hf
        refine Ex.callV (a := 55) (As := []) (r := []) (v := some (.int q5.1)) (h' := q5.2) rfl rfl (by decide) rfl (Nat.le_of_ble_eq_true rfl) rfl (E_193 hrec (by omega) e_q5) rfl ?_
        refine Ex.seg 3 (pc' := 39) (lc' := [some (.ref 55), some (.int x1), some (.int v1), some (.int q5.1)]) (st' := [.int 1, .ref 55]) (h' := q5.2) (sg1 rfl rfl (sg1 rfl rfl (sg1 rfl rfl rfl))) ?_
        obtain ⟨q6, e_q6, hf⟩ := bnd hf
        refine Ex.callV (a := 55) (As := [.int 1]) (r := []) (v := none) (h' := q6) rfl rfl (by decide) rfl (Nat.le_of_ble_eq_true rfl) rfl (E_184 (by omega) e_q6) rfl ?_
        refine Ex.seg 2 (pc' := 44) (lc' := [some (.ref 55), some (.int x1), some (.int v1), some (.int q5.1)]) (st' := [.int (-1), .int q5.1]) (h' := q6) (sg1 rfl rfl (sg1 rfl rfl rfl)) ?_
        refine Ex.icmp rfl rfl (fun (c0 : q5.1 = (-1)) => ?_) (fun (c0 : ¬ (q5.1 = (-1))) => ?_)
        · rw [if_pos c0] at hf
          exact Ex.weak (sm_le_n (sm_le_n (sm_le_n (sm_le_n sm_le_nil)))) (B_209_54 hrec hd  hf hs)
        · rw [if_neg c0] at hf
          refine Ex.seg 1 (pc' := 48) (lc' := [some (.ref 55), some (.int x1), some (.int v1), some (.int q5.1)]) (st' := [.ref 55]) (h' := q6) (sg1 rfl rfl rfl) ?_
          obtain ⟨q7, e_q7, hf⟩ := bnd hf
          refine Ex.callV (a := 55) (As := []) (r := []) (v := some (.int q7.1)) (h' := q7.2) rfl rfl (by decide) rfl (Nat.le_of_ble_eq_true rfl) rfl (E_175 (by omega) e_q7) rfl ?_
          refine Ex.ifc rfl rfl (fun (c0 : ¬ (q7.1 = 0)) => ?_) (fun (c0 : ¬ ¬ (q7.1 = 0)) => ?_)
          · rw [if_neg c0] at hf
            refine Ex.seg 4 (pc' := 60) (lc' := [some (.ref 55), some (.int x1), some (.int v1), some (.int q5.1)]) (st' := [.int v1, .ref 55, .int q5.1, .ref 55]) (h' := q7.2) (sg1 rfl rfl (sg1 rfl rfl (sg1 rfl rfl (sg1 rfl rfl rfl)))) ?_
            obtain ⟨q8, e_q8, hf⟩ := bnd hf
            refine Ex.callV (a := 55) (As := [.int v1]) (r := [.int q5.1, .ref 55]) (v := some (.int q8.1)) (h' := q8.2) rfl rfl (by decide) rfl (Nat.le_of_ble_eq_true rfl) rfl (E_187 (by omega) e_q8) rfl ?_
            refine Ex.seg 1 (pc' := 64) (lc' := [some (.ref 55), some (.int x1), some (.int v1), some (.int q5.1)]) (st' := [.int x1, .int q8.1, .int q5.1, .ref 55]) (h' := q8.2) (sg1 rfl rfl rfl) ?_
            obtain ⟨q9, e_q9, hf⟩ := bnd hf
            refine Ex.callV (a := 55) (As := [.int q5.1, .int q8.1, .int x1]) (r := []) (v := some (.int q9.1)) (h' := q9.2) rfl rfl (by decide) rfl (Nat.le_of_ble_eq_true rfl) rfl (E_206 (by omega) e_q9) rfl ?_
            obtain rfl := Option.some.inj hf
            exact Ex.iret rfl rfl (fun c0 => by cases c0) hs
          · rw [if_pos (Classical.not_not.mp c0)] at hf
            exact Ex.weak (sm_le_n (sm_le_n (sm_le_n (sm_le_n sm_le_nil)))) (B_209_54 hrec hd  hf hs)
      · rw [if_pos (Classical.not_not.mp c0)] at hf
        exact Ex.weak (sm_le_n (sm_le_n (sm_le_n (sm_le_s sm_le_nil)))) (B_209_30 hrec hd  hf hs)
theorem E_209 {L : Nat} {xs : Nat → Int32} {d : Nat} {M : Nat} {rec : sm_H → Option (Int32 × sm_H)} (hrec : ∀ d, M ≤ d → ∀ (h : sm_H) (q : Int32 × sm_H), rec h = some q → RUN L xs d 194 [.ref 55] h (some (.int q.1), q.2)) (hd : 7 + M ≤ d) {x1 : Int32} {h : sm_H} {r : Int32 × sm_H} (hf : F_209 rec x1 h = some r) : RUN L xs d 209 [.ref 55, .int x1] h (some (.int r.1), r.2) := by
  obtain ⟨d, rfl⟩ : ∃ e, d = e + 1 := ⟨d - 1, by omega⟩
  exact ⟨Nat.le_of_ble_eq_true rfl, B_209_0 hrec (by omega) hf rfl⟩
theorem B_210_153 {L : Nat} {xs : Nat → Int32} {d : Nat} {M : Nat} {rec : sm_H → Option (Int32 × sm_H)} (hrec : ∀ d, M ≤ d → ∀ (h : sm_H) (q : Int32 × sm_H), rec h = some q → RUN L xs d 194 [.ref 55] h (some (.int q.1), q.2)) (hd : 7 + M ≤ d) {res : Option Value × sm_H} {z0 : Int32}  {h : sm_H} {r : (Int32 × sm_H)} (hf : F_210_153 rec z0 h = some r) (hs : (fun (r : Int32 × sm_H) => res = (some (.int r.1), r.2)) r) : Ex (P_G L xs) (RUN L xs d) (sm_lk P_t210) 0 153 [none, none, none, none, none, none] [.int z0] h res := by
  unfold F_210_153 at hf
  obtain rfl := Option.some.inj hf
  exact Ex.iret rfl rfl (fun c0 => by cases c0) hs
theorem B_210_95 {L : Nat} {xs : Nat → Int32} {d : Nat} {M : Nat} {rec : sm_H → Option (Int32 × sm_H)} (hrec : ∀ d, M ≤ d → ∀ (h : sm_H) (q : Int32 × sm_H), rec h = some q → RUN L xs d 194 [.ref 55] h (some (.int q.1), q.2)) (hd : 7 + M ≤ d) {res : Option Value × sm_H}   {h : sm_H} {r : (Int32 × sm_H)} (hf : F_210_95 rec  h = some r) (hs : (fun (r : Int32 × sm_H) => res = (some (.int r.1), r.2)) r) : Ex (P_G L xs) (RUN L xs d) (sm_lk P_t210) 0 95 [none, none, none, none, none, none] [] h res := by
  unfold F_210_95 at hf
  refine Ex.seg 1 (pc' := 96) (lc' := [none, none, none, none, none, none]) (st' := [.int (-1)]) (h' := h) (sg1 rfl rfl rfl) ?_
  obtain rfl := Option.some.inj hf
  exact Ex.iret rfl rfl (fun c0 => by cases c0) hs
theorem B_210_54 {L : Nat} {xs : Nat → Int32} {d : Nat} {M : Nat} {rec : sm_H → Option (Int32 × sm_H)} (hrec : ∀ d, M ≤ d → ∀ (h : sm_H) (q : Int32 × sm_H), rec h = some q → RUN L xs d 194 [.ref 55] h (some (.int q.1), q.2)) (hd : 7 + M ≤ d) {res : Option Value × sm_H}   {h : sm_H} {r : (Int32 × sm_H)} (hf : F_210_54 rec  h = some r) (hs : (fun (r : Int32 × sm_H) => res = (some (.int r.1), r.2)) r) : Ex (P_G L xs) (RUN L xs d) (sm_lk P_t210) 0 54 [none, none, none, none, none, none] [] h res := by
  unfold F_210_54 at hf
  refine Ex.seg 1 (pc' := 55) (lc' := [none, none, none, none, none, none]) (st' := [.int (-1)]) (h' := h) (sg1 rfl rfl rfl) ?_
  obtain rfl := Option.some.inj hf
  exact Ex.iret rfl rfl (fun c0 => by cases c0) hs
theorem B_210_28 {L : Nat} {xs : Nat → Int32} {d : Nat} {M : Nat} {rec : sm_H → Option (Int32 × sm_H)} (hrec : ∀ d, M ≤ d → ∀ (h : sm_H) (q : Int32 × sm_H), rec h = some q → RUN L xs d 194 [.ref 55] h (some (.int q.1), q.2)) (hd : 7 + M ≤ d) {res : Option Value × sm_H}   {h : sm_H} {r : (Int32 × sm_H)} (hf : F_210_28 rec  h = some r) (hs : (fun (r : Int32 × sm_H) => res = (some (.int r.1), r.2)) r) : Ex (P_G L xs) (RUN L xs d) (sm_lk P_t210) 0 28 [none, none, none, none, none, none] [] h res := by
  unfold F_210_28 at hf
  refine Ex.seg 1 (pc' := 29) (lc' := [none, none, none, none, none, none]) (st' := [.int (-1)]) (h' := h) (sg1 rfl rfl rfl) ?_
  obtain rfl := Option.some.inj hf
  exact Ex.iret rfl rfl (fun c0 => by cases c0) hs
theorem B_210_0 {L : Nat} {xs : Nat → Int32} {d : Nat} {M : Nat} {rec : sm_H → Option (Int32 × sm_H)} (hrec : ∀ d, M ≤ d → ∀ (h : sm_H) (q : Int32 × sm_H), rec h = some q → RUN L xs d 194 [.ref 55] h (some (.int q.1), q.2)) (hd : 7 + M ≤ d) {res : Option Value × sm_H} {x1 : Int32}  {h : sm_H} {r : (Int32 × sm_H)} (hf : F_210_0 rec x1 h = some r) (hs : (fun (r : Int32 × sm_H) => res = (some (.int r.1), r.2)) r) : Ex (P_G L xs) (RUN L xs d) (sm_lk P_t210) 0 0 [some (.ref 55), some (.int x1), none, none, none, none] [] h res := by
  unfold F_210_0 at hf
  refine Ex.seg 3 (pc' := 5) (lc' := [some (.ref 55), some (.int x1), some (.int (h.1 55 12)), none, none, none]) (st' := []) (h' := h) (sg1 rfl rfl (sg1 rfl rfl (sg1 rfl rfl rfl))) ?_
  obtain ⟨v1, e_v1, hf⟩ := bnd hf
  rw [Option.some.inj e_v1]
  refine Ex.seg 2 (pc' := 7) (lc' := [some (.ref 55), some (.int x1), some (.int v1), none, none, none]) (st' := [.int 1, .ref 55]) (h' := h) (sg1 rfl rfl (sg1 rfl rfl rfl)) ?_
  obtain ⟨q2, e_q2, hf⟩ := bnd hf
  refine Ex.callV (a := 55) (As := [.int 1]) (r := []) (v := some (.int q2.1)) (h' := q2.2) rfl rfl (by decide) rfl (Nat.le_of_ble_eq_true rfl) rfl (E_199 hrec (by omega) e_q2) rfl ?_
  refine Ex.ifc rfl rfl (fun (c0 : q2.1 = 0) => ?_) (fun (c0 : ¬ (q2.1 = 0)) => ?_)
  · rw [if_pos c0] at hf
    exact Ex.weak (sm_le_n (sm_le_n (sm_le_n (sm_le_s (sm_le_s (sm_le_s sm_le_nil)))))) (B_210_28 hrec hd  hf hs)
  · rw [if_neg c0] at hf
    refine Ex.seg 1 (pc' := 14) (lc' := [some (.ref 55), some (.int x1), some (.int v1), none, none, none]) (st' := [.ref 55]) (h' := q2.2) (sg1 rfl rfl rfl) ?_
    obtain ⟨q3, e_q3, hf⟩ := bnd hf
    refine Ex.callV (a := 55) (As := []) (r := []) (v := some (.int q3.1)) (h' := q3.2) rfl rfl (by decide) rfl (Nat.le_of_ble_eq_true rfl) rfl (E_174 (by omega) e_q3) rfl ?_
    refine Ex.ifc rfl rfl (fun (c0 : q3.1 = 0) => ?_) (fun (c0 : ¬ (q3.1 = 0)) => ?_)
    · rw [if_pos c0] at hf
      exact Ex.weak (sm_le_n (sm_le_n (sm_le_n (sm_le_s (sm_le_s (sm_le_s sm_le_nil)))))) (B_210_28 hrec hd  hf hs)
    · rw [if_neg c0] at hf
      refine Ex.seg 2 (pc' := 22) (lc' := [some (.ref 55), some (.int x1), some (.int v1), none, none, none]) (st' := [.int 4, .ref 55]) (h' := q3.2) (sg1 rfl rfl (sg1 rfl rfl rfl)) ?_
      obtain ⟨q4, e_q4, hf⟩ := bnd hf
      refine Ex.callV (a := 55) (As := [.int 4]) (r := []) (v := some (.int q4.1)) (h' := q4.2) rfl rfl (by decide) rfl (Nat.le_of_ble_eq_true rfl) rfl (E_172 (by omega) e_q4) rfl ?_
      refine Ex.ifc rfl rfl (fun (c0 : ¬ (q4.1 = 0)) => ?_) (fun (c0 : ¬ ¬ (q4.1 = 0)) => ?_)
      · rw [if_neg c0] at hf
        refine Ex.seg 2 (pc' := 34) (lc' := [some (.ref 55), some (.int x1), some (.int v1), none, none, none]) (st' := [.ref 52]) (h' := q4.2) (sg1 rfl rfl (sg1 rfl rfl rfl)) ?_
        obtain ⟨q5, e_q5, hf⟩ := bnd hf
        refine Ex.callV (a := 52) (As := []) (r := []) (v := some (.long q5.1)) (h' := q5.2) rfl rfl (by decide) rfl (Nat.le_of_ble_eq_true rfl) rfl (E_248 (by omega) e_q5) rfl ?_
        refine Ex.seg 2 (pc' := 39) (lc' := [some (.ref 55), some (.int x1), some (.int v1), some (.long q5.1), none, none]) (st' := [.ref 55]) (h' := q5.2) (sg1 rfl rfl (sg1 rfl rfl rfl)) ?_
        obtain ⟨q6, e_q6, hf⟩ := bnd hf
        refine Ex.callV (a := 55) (As := []) (r := []) (v := some (.int q6.1)) (h' := q6.2) rfl rfl (by decide) rfl (Nat.le_of_ble_eq_true rfl) rfl (E_175 (by omega) e_q6) rfl ?_
        refine Ex.ifc rfl rfl (fun (c0 : q6.1 = 0) => ?_) (fun (c0 : ¬ (q6.1 = 0)) => ?_)
        · rw [if_pos c0] at hf
          exact Ex.weak (sm_le_n (sm_le_n (sm_le_n (sm_le_n (sm_le_s (sm_le_s sm_le_nil)))))) (B_210_54 hrec hd  hf hs)
        · rw [if_neg c0] at hf
          refine Ex.seg 3 (pc' := 48) (lc' := [some (.ref 55), some (.int x1), some (.int v1), some (.long q5.1), none, none]) (st' := [.int x1, .int 1, .ref 55]) (h' := q6.2) (sg1 rfl rfl (sg1 rfl rfl (sg1 rfl rfl rfl))) ?_
          obtain ⟨q7, e_q7, hf⟩ := bnd hf
          refine Ex.callV (a := 55) (As := [.int 1, .int x1]) (r := []) (v := some (.int q7.1)) (h' := q7.2) rfl rfl (by decide) rfl (Nat.le_of_ble_eq_true rfl) rfl (E_182 (by omega) e_q7) rfl ?_
          refine Ex.ifc rfl rfl (fun (c0 : ¬ (q7.1 = 0)) => ?_) (fun (c0 : ¬ ¬ (q7.1 = 0)) => ?_)
          · rw [if_neg c0] at hf
            refine Ex.seg 4 (pc' := 61) (lc' := [some (.ref 55), some (.int x1), some (.int v1), some (.long q5.1), none, none]) (st' := [.int 19, .long q5.1, .int 0, .ref 55]) (h' := q7.2) (sg1 rfl rfl (sg1 rfl rfl (sg1 rfl rfl (sg1 rfl rfl rfl)))) ?_
            obtain ⟨q8, e_q8, hf⟩ := bnd hf
            refine Ex.callV (a := 55) (As := [.int 0, .long q5.1, .int 19]) (r := []) (v := none) (h' := q8) rfl rfl (by decide) rfl (Nat.le_of_ble_eq_true rfl) rfl (E_183 (by omega) e_q8) rfl ?_
            refine Ex.seg 2 (pc' := 66) (lc' := [some (.ref 55), some (.int x1), some (.int v1), some (.long q5.1), none, none]) (st' := [.int 1, .ref 55]) (h' := q8) (sg1 rfl rfl (sg1 rfl rfl rfl)) ?_
            obtain ⟨q9, e_q9, hf⟩ := bnd hf
            refine Ex.callV (a := 55) (As := [.int 1]) (r := []) (v := some (.int q9.1)) (h' := q9.2) rfl rfl (by decide) rfl (Nat.le_of_ble_eq_true rfl) rfl (E_199 hrec (by omega) e_q9) rfl ?_
            refine Ex.ifc rfl rfl (fun (c0 : q9.1 = 0) => ?_) (fun (c0 : ¬ (q9.1 = 0)) => ?_)
            · rw [if_pos c0] at hf
              exact Ex.weak (sm_le_n (sm_le_n (sm_le_n (sm_le_n (sm_le_s (sm_le_s sm_le_nil)))))) (B_210_95 hrec hd  hf hs)
            · rw [if_neg c0] at hf
              refine Ex.seg 1 (pc' := 73) (lc' := [some (.ref 55), some (.int x1), some (.int v1), some (.long q5.1), none, none]) (st' := [.ref 55]) (h' := q9.2) (sg1 rfl rfl rfl) ?_
              obtain ⟨q10, e_q10, hf⟩ := bnd hf
              refine Ex.callV (a := 55) (As := []) (r := []) (v := some (.int q10.1)) (h' := q10.2) rfl rfl (by decide) rfl (Nat.le_of_ble_eq_true rfl) rfl (E_175 (by omega) e_q10) rfl ?_
              refine Ex.ifc rfl rfl (fun (c0 : q10.1 = 0) => ?_) (fun (c0 : ¬ (q10.1 = 0)) => ?_)
              · rw [if_pos c0] at hf
                exact Ex.weak (sm_le_n (sm_le_n (sm_le_n (sm_le_n (sm_le_s (sm_le_s sm_le_nil)))))) (B_210_95 hrec hd  hf hs)
              · rw [if_neg c0] at hf
                refine Ex.seg 6 (pc' := 85) (lc' := [some (.ref 55), some (.int x1), some (.int v1), some (.long q5.1), none, none]) (st' := [.int v1, .ref 55, .int (v1 + 1), .ref 55]) (h' := q10.2) (sg1 rfl rfl (sg1 rfl rfl (sg1 rfl rfl (sg1 rfl rfl (sg1 rfl rfl (sg1 rfl rfl rfl)))))) ?_
                obtain ⟨q11, e_q11, hf⟩ := bnd hf
                refine Ex.callV (a := 55) (As := [.int v1]) (r := [.int (v1 + 1), .ref 55]) (v := some (.int q11.1)) (h' := q11.2) rfl rfl (by decide) rfl (Nat.le_of_ble_eq_true rfl) rfl (E_189 (by omega) e_q11) rfl ?_
                refine Ex.seg 1 (pc' := 89) (lc' := [some (.ref 55), some (.int x1), some (.int v1), some (.long q5.1), none, none]) (st' := [.int x1, .int q11.1, .int (v1 + 1), .ref 55]) (h' := q11.2) (sg1 rfl rfl rfl) ?_
                obtain ⟨q12, e_q12, hf⟩ := bnd hf
                refine Ex.callV (a := 55) (As := [.int (v1 + 1), .int q11.1, .int x1]) (r := []) (v := some (.int q12.1)) (h' := q12.2) rfl rfl (by decide) rfl (Nat.le_of_ble_eq_true rfl) rfl (E_190 (by omega) e_q12) rfl ?_
                refine Ex.ifc rfl rfl (fun (c0 : ¬ (q12.1 = 0)) => ?_) (fun (c0 : ¬ ¬ (q12.1 = 0)) => ?_)
                · rw [if_neg c0] at hf
                  refine Ex.seg 2 (pc' := 99) (lc' := [some (.ref 55), some (.int x1), some (.int v1), some (.long q5.1), none, none]) (st' := [.int 1, .ref 55]) (h' := q12.2) (sg1 rfl rfl (sg1 rfl rfl rfl)) ?_
                  obtain ⟨q13, e_q13, hf⟩ := bnd hf
                  refine Ex.callV (a := 55) (As := [.int 1]) (r := []) (v := none) (h' := q13) rfl rfl (by decide) rfl (Nat.le_of_ble_eq_true rfl) rfl (E_184 (by omega) e_q13) rfl ?_
                  refine Ex.seg 10 (pc' := 118) (lc' := [some (.ref 55), some (.int x1), some (.int v1), some (.long q5.1), none, none]) (st' := [.int v1, .ref 55, .ref 56, .long 0, .int 0, .int 19, .int 15, .ref 34]) (h' := q13) (sg1 rfl rfl (sg1 rfl rfl (sg1 rfl rfl (sg1 rfl rfl (sg1 rfl rfl (sg1 rfl rfl (sg1 rfl rfl (sg1 rfl rfl (sg1 rfl rfl (sg1 rfl rfl rfl)))))))))) ?_
                  obtain ⟨q14, e_q14, hf⟩ := bnd hf
                  refine Ex.callV (a := 55) (As := [.int v1]) (r := [.ref 56, .long 0, .int 0, .int 19, .int 15, .ref 34]) (v := some (.int q14.1)) (h' := q14.2) rfl rfl (by decide) rfl (Nat.le_of_ble_eq_true rfl) rfl (E_187 (by omega) e_q14) rfl ?_
                  refine Ex.seg 4 (pc' := 125) (lc' := [some (.ref 55), some (.int x1), some (.int v1), some (.long q5.1), none, none]) (st' := [.int (v1 + 1), .ref 55, .int q14.1, .ref 56, .long 0, .int 0, .int 19, .int 15, .ref 34]) (h' := q14.2) (sg1 rfl rfl (sg1 rfl rfl (sg1 rfl rfl (sg1 rfl rfl rfl)))) ?_
                  obtain ⟨q15, e_q15, hf⟩ := bnd hf
                  refine Ex.callV (a := 55) (As := [.int (v1 + 1)]) (r := [.int q14.1, .ref 56, .long 0, .int 0, .int 19, .int 15, .ref 34]) (v := some (.int q15.1)) (h' := q15.2) rfl rfl (by decide) rfl (Nat.le_of_ble_eq_true rfl) rfl (E_187 (by omega) e_q15) rfl ?_
                  obtain ⟨q16, e_q16, hf⟩ := bnd hf
                  refine Ex.callV (a := 56) (As := [.int q14.1, .int q15.1]) (r := [.long 0, .int 0, .int 19, .int 15, .ref 34]) (v := some (.ref q16.1)) (h' := q16.2) rfl rfl (by decide) rfl (Nat.le_of_ble_eq_true rfl) rfl (E_141 (by omega) e_q16) rfl ?_
                  obtain ⟨q17, e_q17, hf⟩ := bnd hf
                  refine Ex.callV (a := 34) (As := [.int 15, .int 19, .int 0, .long 0, .ref q16.1]) (r := []) (v := some (.int q17.1)) (h' := q17.2) rfl rfl (by decide) rfl (Nat.le_of_ble_eq_true rfl) rfl (E_5 (by omega) e_q17) rfl ?_
                  refine Ex.seg 2 (pc' := 138) (lc' := [some (.ref 55), some (.int x1), some (.int v1), some (.long q5.1), none, some (.int q17.1)]) (st' := [.int q17.1]) (h' := q17.2) (sg1 rfl rfl (sg1 rfl rfl rfl)) ?_
                  refine Ex.ifc rfl rfl (fun (c0 : 0 ≤ q17.1) => ?_) (fun (c0 : ¬ (0 ≤ q17.1)) => ?_)
                  · rw [if_pos c0] at hf
                    refine Ex.seg 1 (pc' := 153) (lc' := [some (.ref 55), some (.int x1), some (.int v1), some (.long q5.1), none, some (.int q17.1)]) (st' := [.int q17.1]) (h' := q17.2) (sg1 rfl rfl rfl) ?_
                    exact Ex.weak (sm_le_n (sm_le_n (sm_le_n (sm_le_n (sm_le_s (sm_le_n sm_le_nil)))))) (B_210_153 hrec hd  hf hs)
                  · rw [if_neg c0] at hf
                    refine Ex.seg 3 (pc' := 145) (lc' := [some (.ref 55), some (.int x1), some (.int v1), some (.long q5.1), none, some (.int q17.1)]) (st' := [.int x1, .int 8, .ref 55]) (h' := q17.2) (sg1 rfl rfl (sg1 rfl rfl (sg1 rfl rfl rfl))) ?_
                    obtain ⟨q18, e_q18, hf⟩ := bnd hf
                    refine Ex.callV (a := 55) (As := [.int 8, .int x1]) (r := []) (v := some (.int q18.1)) (h' := q18.2) rfl rfl (by decide) rfl (Nat.le_of_ble_eq_true rfl) rfl (E_169 (by omega) e_q18) rfl ?_
                    refine Ex.seg 1 (pc' := 153) (lc' := [some (.ref 55), some (.int x1), some (.int v1), some (.long q5.1), none, some (.int q17.1)]) (st' := [.int q18.1]) (h' := q18.2) (sg1 rfl rfl rfl) ?_
                    exact Ex.weak (sm_le_n (sm_le_n (sm_le_n (sm_le_n (sm_le_s (sm_le_n sm_le_nil)))))) (B_210_153 hrec hd  hf hs)
                · rw [if_pos (Classical.not_not.mp c0)] at hf
                  exact Ex.weak (sm_le_n (sm_le_n (sm_le_n (sm_le_n (sm_le_s (sm_le_s sm_le_nil)))))) (B_210_95 hrec hd  hf hs)
          · rw [if_pos (Classical.not_not.mp c0)] at hf
            exact Ex.weak (sm_le_n (sm_le_n (sm_le_n (sm_le_n (sm_le_s (sm_le_s sm_le_nil)))))) (B_210_54 hrec hd  hf hs)
      · rw [if_pos (Classical.not_not.mp c0)] at hf
        exact Ex.weak (sm_le_n (sm_le_n (sm_le_n (sm_le_s (sm_le_s (sm_le_s sm_le_nil)))))) (B_210_28 hrec hd  hf hs)
theorem E_210 {L : Nat} {xs : Nat → Int32} {d : Nat} {M : Nat} {rec : sm_H → Option (Int32 × sm_H)} (hrec : ∀ d, M ≤ d → ∀ (h : sm_H) (q : Int32 × sm_H), rec h = some q → RUN L xs d 194 [.ref 55] h (some (.int q.1), q.2)) (hd : 8 + M ≤ d) {x1 : Int32} {h : sm_H} {r : Int32 × sm_H} (hf : F_210 rec x1 h = some r) : RUN L xs d 210 [.ref 55, .int x1] h (some (.int r.1), r.2) := by
  obtain ⟨d, rfl⟩ : ∃ e, d = e + 1 := ⟨d - 1, by omega⟩
  exact ⟨Nat.le_of_ble_eq_true rfl, B_210_0 hrec (by omega) hf rfl⟩
theorem B_211_194 {L : Nat} {xs : Nat → Int32} {d : Nat} {M : Nat} {rec : sm_H → Option (Int32 × sm_H)} (hrec : ∀ d, M ≤ d → ∀ (h : sm_H) (q : Int32 × sm_H), rec h = some q → RUN L xs d 194 [.ref 55] h (some (.int q.1), q.2)) (hd : 7 + M ≤ d) {res : Option Value × sm_H} {z0 : Int32}  {h : sm_H} {r : (Int32 × sm_H)} (hf : F_211_194 rec z0 h = some r) (hs : (fun (r : Int32 × sm_H) => res = (some (.int r.1), r.2)) r) : Ex (P_G L xs) (RUN L xs d) (sm_lk P_t211) 0 194 [none, none, none, none, none, none] [.int z0] h res := by
  unfold F_211_194 at hf
  obtain rfl := Option.some.inj hf
  exact Ex.iret rfl rfl (fun c0 => by cases c0) hs
theorem B_211_69B {L : Nat} {xs : Nat → Int32} {d : Nat} {M : Nat} {rec : sm_H → Option (Int32 × sm_H)} (hrec : ∀ d, M ≤ d → ∀ (h : sm_H) (q : Int32 × sm_H), rec h = some q → RUN L xs d 194 [.ref 55] h (some (.int q.1), q.2)) (hd : 7 + M ≤ d) {res : Option Value × sm_H} {S1 : (Int32 × Int32 × Int32 × Int32 × sm_H) → Prop} (hS1 : ∀ s, S1 s → Ex (P_G L xs) (RUN L xs d) (sm_lk P_t211) 0 69 [some (.ref 55), some (.int s.1), some (.int s.2.1), some (.int s.2.2.1), some (.int s.2.2.2.1), none] [] s.2.2.2.2 res) {s : (Int32 × Int32 × Int32 × Int32 × sm_H)}  {r : ((Int32 × Int32 × Int32 × Int32 × sm_H) ⊕ (Int32 × sm_H))} (hf : F_211_69B rec s = some r) (hs : (Sum.elim S1 (fun (r : Int32 × sm_H) => res = (some (.int r.1), r.2))) r) : Ex (P_G L xs) (RUN L xs d) (sm_lk P_t211) 0 69 [some (.ref 55), some (.int s.1), some (.int s.2.1), some (.int s.2.2.1), some (.int s.2.2.2.1), none] [] s.2.2.2.2 res := by
  unfold F_211_69B at hf
  refine Ex.seg 2 (pc' := 72) (lc' := [some (.ref 55), some (.int s.1), some (.int s.2.1), some (.int s.2.2.1), some (.int s.2.2.2.1), none]) (st' := [.int s.2.2.1, .int s.2.2.2.1]) (h' := s.2.2.2.2) (sg1 rfl rfl (sg1 rfl rfl rfl)) ?_
  refine Ex.icmp rfl rfl (fun (c0 : s.2.2.1 ≤ s.2.2.2.1) => ?_) (fun (c0 : ¬ (s.2.2.1 ≤ s.2.2.2.1)) => ?_)
  · rw [if_pos c0] at hf
    refine Ex.seg 8 (pc' := 113) (lc' := [some (.ref 55), some (.int s.1), some (.int s.2.1), some (.int s.2.2.1), some (.int s.2.2.2.1), none]) (st' := [.int s.1, .int 1, .int (s.2.1 + (2 * s.2.2.1)), .ref 55]) (h' := s.2.2.2.2) (sg1 rfl rfl (sg1 rfl rfl (sg1 rfl rfl (sg1 rfl rfl (sg1 rfl rfl (sg1 rfl rfl (sg1 rfl rfl (sg1 rfl rfl rfl)))))))) ?_
    obtain ⟨q1, e_q1, hf⟩ := bnd hf
    refine Ex.callV (a := 55) (As := [.int (s.2.1 + (2 * s.2.2.1)), .int 1, .int s.1]) (r := []) (v := some (.int q1.1)) (h' := q1.2) rfl rfl (by decide) rfl (Nat.le_of_ble_eq_true rfl) rfl (E_190 (by omega) e_q1) rfl ?_
    refine Ex.ifc rfl rfl (fun (c0 : ¬ (q1.1 = 0)) => ?_) (fun (c0 : ¬ ¬ (q1.1 = 0)) => ?_)
    · rw [if_neg c0] at hf
      refine Ex.seg 2 (pc' := 123) (lc' := [some (.ref 55), some (.int s.1), some (.int s.2.1), some (.int s.2.2.1), some (.int s.2.2.2.1), none]) (st' := [.int s.2.2.1, .ref 55]) (h' := q1.2) (sg1 rfl rfl (sg1 rfl rfl rfl)) ?_
      obtain ⟨q2, e_q2, hf⟩ := bnd hf
      refine Ex.callV (a := 55) (As := [.int s.2.2.1]) (r := []) (v := none) (h' := q2) rfl rfl (by decide) rfl (Nat.le_of_ble_eq_true rfl) rfl (E_184 (by omega) e_q2) rfl ?_
      refine Ex.seg 9 (pc' := 135) (lc' := [some (.ref 55), some (.int s.1), some (.int s.2.1), some (.int s.2.2.1), some (.int s.2.2.2.1), none]) (st' := [.int ((s.2.1 + (2 * s.2.2.1)) + 1), .ref 55, .ref 55]) (h' := q2) (sg1 rfl rfl (sg1 rfl rfl (sg1 rfl rfl (sg1 rfl rfl (sg1 rfl rfl (sg1 rfl rfl (sg1 rfl rfl (sg1 rfl rfl (sg1 rfl rfl rfl))))))))) ?_
      obtain ⟨q3, e_q3, hf⟩ := bnd hf
      refine Ex.callV (a := 55) (As := [.int ((s.2.1 + (2 * s.2.2.1)) + 1)]) (r := [.ref 55]) (v := some (.int q3.1)) (h' := q3.2) rfl rfl (by decide) rfl (Nat.le_of_ble_eq_true rfl) rfl (E_189 (by omega) e_q3) rfl ?_
      refine Ex.seg 1 (pc' := 139) (lc' := [some (.ref 55), some (.int s.1), some (.int s.2.1), some (.int s.2.2.1), some (.int s.2.2.2.1), none]) (st' := [.int s.1, .int q3.1, .ref 55]) (h' := q3.2) (sg1 rfl rfl rfl) ?_
      obtain ⟨q4, e_q4, hf⟩ := bnd hf
      refine Ex.callV (a := 55) (As := [.int q3.1, .int s.1]) (r := []) (v := some (.int q4.1)) (h' := q4.2) rfl rfl (by decide) rfl (Nat.le_of_ble_eq_true rfl) rfl (E_185 (by omega) e_q4) rfl ?_
      refine Ex.seg 3 (pc' := 147) (lc' := [some (.ref 55), some (.int s.1), some (.int s.2.1), some (.int s.2.2.1), some (.int q4.1), none]) (st' := [.int (-1), .int q4.1]) (h' := q4.2) (sg1 rfl rfl (sg1 rfl rfl (sg1 rfl rfl rfl))) ?_
      refine Ex.icmp rfl rfl (fun (c0 : ¬ (q4.1 = (-1))) => ?_) (fun (c0 : ¬ ¬ (q4.1 = (-1))) => ?_)
      · rw [if_neg c0] at hf
        refine Ex.seg 3 (pc' := 155) (lc' := [some (.ref 55), some (.int s.1), some (.int s.2.1), some (.int s.2.2.1), some (.int q4.1), none]) (st' := [.int s.2.2.1, .int s.2.1, .ref 55]) (h' := q4.2) (sg1 rfl rfl (sg1 rfl rfl (sg1 rfl rfl rfl))) ?_
        obtain ⟨q5, e_q5, hf⟩ := bnd hf
        refine Ex.callV (a := 55) (As := [.int s.2.1, .int s.2.2.1]) (r := []) (v := none) (h' := q5) rfl rfl (by decide) rfl (Nat.le_of_ble_eq_true rfl) rfl (E_213 (by omega) e_q5) rfl ?_
        refine Ex.seg 8 (pc' := 172) (lc' := [some (.ref 55), some (.int s.1), some (.int s.2.1), some (.int s.2.2.1), some (.int q4.1), none]) (st' := [.ref 56, .long 0, .int q4.1, .int 0, .int 18, .ref 34]) (h' := q5) (sg1 rfl rfl (sg1 rfl rfl (sg1 rfl rfl (sg1 rfl rfl (sg1 rfl rfl (sg1 rfl rfl (sg1 rfl rfl (sg1 rfl rfl rfl)))))))) ?_
        obtain ⟨q6, e_q6, hf⟩ := bnd hf
        refine Ex.callV (a := 34) (As := [.int 18, .int 0, .int q4.1, .long 0, .ref 56]) (r := []) (v := some (.int q6.1)) (h' := q6.2) rfl rfl (by decide) rfl (Nat.le_of_ble_eq_true rfl) rfl (E_5 (by omega) e_q6) rfl ?_
        refine Ex.seg 2 (pc' := 179) (lc' := [some (.ref 55), some (.int s.1), some (.int s.2.1), some (.int s.2.2.1), some (.int q4.1), some (.int q6.1)]) (st' := [.int q6.1]) (h' := q6.2) (sg1 rfl rfl (sg1 rfl rfl rfl)) ?_
        refine Ex.ifc rfl rfl (fun (c0 : 0 ≤ q6.1) => ?_) (fun (c0 : ¬ (0 ≤ q6.1)) => ?_)
        · rw [if_pos c0] at hf
          refine Ex.seg 1 (pc' := 194) (lc' := [some (.ref 55), some (.int s.1), some (.int s.2.1), some (.int s.2.2.1), some (.int q4.1), some (.int q6.1)]) (st' := [.int q6.1]) (h' := q6.2) (sg1 rfl rfl rfl) ?_
          obtain ⟨r0, hf0, rfl⟩ := Option.map_eq_some_iff.mp hf
          exact Ex.weak (sm_le_n (sm_le_n (sm_le_n (sm_le_n (sm_le_n (sm_le_n sm_le_nil)))))) (B_211_194 hrec hd  hf0 hs)
        · rw [if_neg c0] at hf
          refine Ex.seg 3 (pc' := 186) (lc' := [some (.ref 55), some (.int s.1), some (.int s.2.1), some (.int s.2.2.1), some (.int q4.1), some (.int q6.1)]) (st' := [.int s.1, .int 8, .ref 55]) (h' := q6.2) (sg1 rfl rfl (sg1 rfl rfl (sg1 rfl rfl rfl))) ?_
          obtain ⟨q7, e_q7, hf⟩ := bnd hf
          refine Ex.callV (a := 55) (As := [.int 8, .int s.1]) (r := []) (v := some (.int q7.1)) (h' := q7.2) rfl rfl (by decide) rfl (Nat.le_of_ble_eq_true rfl) rfl (E_169 (by omega) e_q7) rfl ?_
          refine Ex.seg 1 (pc' := 194) (lc' := [some (.ref 55), some (.int s.1), some (.int s.2.1), some (.int s.2.2.1), some (.int q4.1), some (.int q6.1)]) (st' := [.int q7.1]) (h' := q7.2) (sg1 rfl rfl rfl) ?_
          obtain ⟨r0, hf0, rfl⟩ := Option.map_eq_some_iff.mp hf
          exact Ex.weak (sm_le_n (sm_le_n (sm_le_n (sm_le_n (sm_le_n (sm_le_n sm_le_nil)))))) (B_211_194 hrec hd  hf0 hs)
      · rw [if_pos (Classical.not_not.mp c0)] at hf
        refine Ex.seg 1 (pc' := 151) (lc' := [some (.ref 55), some (.int s.1), some (.int s.2.1), some (.int s.2.2.1), some (.int q4.1), none]) (st' := [.int (-1)]) (h' := q4.2) (sg1 rfl rfl rfl) ?_
        obtain rfl := Option.some.inj hf
        exact Ex.iret rfl rfl (fun c0 => by cases c0) hs
    · rw [if_pos (Classical.not_not.mp c0)] at hf
      refine Ex.seg 1 (pc' := 120) (lc' := [some (.ref 55), some (.int s.1), some (.int s.2.1), some (.int s.2.2.1), some (.int s.2.2.2.1), none]) (st' := [.int (-1)]) (h' := q1.2) (sg1 rfl rfl rfl) ?_
      obtain rfl := Option.some.inj hf
      exact Ex.iret rfl rfl (fun c0 => by cases c0) hs
  · rw [if_neg c0] at hf
    refine Ex.seg 10 (pc' := 87) (lc' := [some (.ref 55), some (.int s.1), some (.int s.2.1), some (.int s.2.2.1), some (.int s.2.2.2.1), none]) (st' := [.int (s.2.1 + s.2.2.2.1), .ref 55, .int ((s.2.1 + s.2.2.1) + s.2.2.2.1), .ref 55]) (h' := s.2.2.2.2) (sg1 rfl rfl (sg1 rfl rfl (sg1 rfl rfl (sg1 rfl rfl (sg1 rfl rfl (sg1 rfl rfl (sg1 rfl rfl (sg1 rfl rfl (sg1 rfl rfl (sg1 rfl rfl rfl)))))))))) ?_
    obtain ⟨q8, e_q8, hf⟩ := bnd hf
    refine Ex.callV (a := 55) (As := [.int (s.2.1 + s.2.2.2.1)]) (r := [.int ((s.2.1 + s.2.2.1) + s.2.2.2.1), .ref 55]) (v := some (.int q8.1)) (h' := q8.2) rfl rfl (by decide) rfl (Nat.le_of_ble_eq_true rfl) rfl (E_189 (by omega) e_q8) rfl ?_
    refine Ex.seg 1 (pc' := 91) (lc' := [some (.ref 55), some (.int s.1), some (.int s.2.1), some (.int s.2.2.1), some (.int s.2.2.2.1), none]) (st' := [.int s.1, .int q8.1, .int ((s.2.1 + s.2.2.1) + s.2.2.2.1), .ref 55]) (h' := q8.2) (sg1 rfl rfl rfl) ?_
    obtain ⟨q9, e_q9, hf⟩ := bnd hf
    refine Ex.callV (a := 55) (As := [.int ((s.2.1 + s.2.2.1) + s.2.2.2.1), .int q8.1, .int s.1]) (r := []) (v := some (.int q9.1)) (h' := q9.2) rfl rfl (by decide) rfl (Nat.le_of_ble_eq_true rfl) rfl (E_190 (by omega) e_q9) rfl ?_
    refine Ex.ifc rfl rfl (fun (c0 : ¬ (q9.1 = 0)) => ?_) (fun (c0 : ¬ ¬ (q9.1 = 0)) => ?_)
    · rw [if_neg c0] at hf
      refine Ex.seg 1 (pc' := 102) (lc' := [some (.ref 55), some (.int s.1), some (.int s.2.1), some (.int s.2.2.1), some (.int (s.2.2.2.1 + 1)), none]) (st' := []) (h' := q9.2) (sg1 rfl rfl rfl) ?_
      obtain ⟨v10, e_v10, hf⟩ := bnd hf
      rw [Option.some.inj e_v10]
      refine Ex.seg 1 (pc' := 69) (lc' := [some (.ref 55), some (.int s.1), some (.int s.2.1), some (.int s.2.2.1), some (.int v10), none]) (st' := []) (h' := q9.2) (sg1 rfl rfl rfl) ?_
      obtain rfl := Option.some.inj hf
      exact Ex.weak (sm_le_s (sm_le_s (sm_le_s (sm_le_s (sm_le_s (sm_le_s sm_le_nil)))))) (hS1 _ hs)
    · rw [if_pos (Classical.not_not.mp c0)] at hf
      refine Ex.seg 1 (pc' := 98) (lc' := [some (.ref 55), some (.int s.1), some (.int s.2.1), some (.int s.2.2.1), some (.int s.2.2.2.1), none]) (st' := [.int (-1)]) (h' := q9.2) (sg1 rfl rfl rfl) ?_
      obtain rfl := Option.some.inj hf
      exact Ex.iret rfl rfl (fun c0 => by cases c0) hs
theorem B_211_69 {L : Nat} {xs : Nat → Int32} {d : Nat} {M : Nat} {rec : sm_H → Option (Int32 × sm_H)} (hrec : ∀ d, M ≤ d → ∀ (h : sm_H) (q : Int32 × sm_H), rec h = some q → RUN L xs d 194 [.ref 55] h (some (.int q.1), q.2)) (hd : 7 + M ≤ d) {res : Option Value × sm_H} {y1 : Int32} {y2 : Int32} {y3 : Int32} {y4 : Int32}  {h : sm_H} {r : (Int32 × sm_H)} (hf : F_211_69 rec y1 y2 y3 y4 h = some r) (hs : (fun (r : Int32 × sm_H) => res = (some (.int r.1), r.2)) r) : Ex (P_G L xs) (RUN L xs d) (sm_lk P_t211) 0 69 [some (.ref 55), some (.int y1), some (.int y2), some (.int y3), some (.int y4), none] [] h res := by
  unfold F_211_69 at hf
  exact lp_ok (P := fun (s : (Int32 × Int32 × Int32 × Int32 × sm_H)) => Ex (P_G L xs) (RUN L xs d) (sm_lk P_t211) 0 69 [some (.ref 55), some (.int s.1), some (.int s.2.1), some (.int s.2.2.1), some (.int s.2.2.2.1), none] [] s.2.2.2.2 res) (S := (fun (r : Int32 × sm_H) => res = (some (.int r.1), r.2))) (fun s x hx hsx => by
    intros
    exact B_211_69B hrec hd  (fun _ q => q) hx hsx) 1000000 _ r hf hs
theorem B_211_64 {L : Nat} {xs : Nat → Int32} {d : Nat} {M : Nat} {rec : sm_H → Option (Int32 × sm_H)} (hrec : ∀ d, M ≤ d → ∀ (h : sm_H) (q : Int32 × sm_H), rec h = some q → RUN L xs d 194 [.ref 55] h (some (.int q.1), q.2)) (hd : 7 + M ≤ d) {res : Option Value × sm_H}   {h : sm_H} {r : (Int32 × sm_H)} (hf : F_211_64 rec  h = some r) (hs : (fun (r : Int32 × sm_H) => res = (some (.int r.1), r.2)) r) : Ex (P_G L xs) (RUN L xs d) (sm_lk P_t211) 0 64 [none, none, none, none, none, none] [] h res := by
  unfold F_211_64 at hf
  refine Ex.seg 1 (pc' := 65) (lc' := [none, none, none, none, none, none]) (st' := [.int (-1)]) (h' := h) (sg1 rfl rfl rfl) ?_
  obtain rfl := Option.some.inj hf
  exact Ex.iret rfl rfl (fun c0 => by cases c0) hs
theorem B_211_25 {L : Nat} {xs : Nat → Int32} {d : Nat} {M : Nat} {rec : sm_H → Option (Int32 × sm_H)} (hrec : ∀ d, M ≤ d → ∀ (h : sm_H) (q : Int32 × sm_H), rec h = some q → RUN L xs d 194 [.ref 55] h (some (.int q.1), q.2)) (hd : 7 + M ≤ d) {res : Option Value × sm_H}   {h : sm_H} {r : (Int32 × sm_H)} (hf : F_211_25 rec  h = some r) (hs : (fun (r : Int32 × sm_H) => res = (some (.int r.1), r.2)) r) : Ex (P_G L xs) (RUN L xs d) (sm_lk P_t211) 0 25 [none, none, none, none, none, none] [] h res := by
  unfold F_211_25 at hf
  refine Ex.seg 1 (pc' := 26) (lc' := [none, none, none, none, none, none]) (st' := [.int (-1)]) (h' := h) (sg1 rfl rfl rfl) ?_
  obtain rfl := Option.some.inj hf
  exact Ex.iret rfl rfl (fun c0 => by cases c0) hs
theorem B_211_0 {L : Nat} {xs : Nat → Int32} {d : Nat} {M : Nat} {rec : sm_H → Option (Int32 × sm_H)} (hrec : ∀ d, M ≤ d → ∀ (h : sm_H) (q : Int32 × sm_H), rec h = some q → RUN L xs d 194 [.ref 55] h (some (.int q.1), q.2)) (hd : 7 + M ≤ d) {res : Option Value × sm_H} {x1 : Int32}  {h : sm_H} {r : (Int32 × sm_H)} (hf : F_211_0 rec x1 h = some r) (hs : (fun (r : Int32 × sm_H) => res = (some (.int r.1), r.2)) r) : Ex (P_G L xs) (RUN L xs d) (sm_lk P_t211) 0 0 [some (.ref 55), some (.int x1), none, none, none, none] [] h res := by
  unfold F_211_0 at hf
  refine Ex.seg 3 (pc' := 5) (lc' := [some (.ref 55), some (.int x1), some (.int (h.1 55 12)), none, none, none]) (st' := []) (h' := h) (sg1 rfl rfl (sg1 rfl rfl (sg1 rfl rfl rfl))) ?_
  obtain ⟨v11, e_v11, hf⟩ := bnd hf
  rw [Option.some.inj e_v11]
  refine Ex.seg 2 (pc' := 7) (lc' := [some (.ref 55), some (.int x1), some (.int v11), none, none, none]) (st' := [.int x1, .ref 55]) (h' := h) (sg1 rfl rfl (sg1 rfl rfl rfl)) ?_
  obtain ⟨q12, e_q12, hf⟩ := bnd hf
  refine Ex.callV (a := 55) (As := [.int x1]) (r := []) (v := some (.int q12.1)) (h' := q12.2) rfl rfl (by decide) rfl (Nat.le_of_ble_eq_true rfl) rfl (E_212 hrec (by omega) e_q12) rfl ?_
  refine Ex.seg 2 (pc' := 12) (lc' := [some (.ref 55), some (.int x1), some (.int v11), some (.int q12.1), none, none]) (st' := [.int q12.1]) (h' := q12.2) (sg1 rfl rfl (sg1 rfl rfl rfl)) ?_
  refine Ex.ifc rfl rfl (fun (c0 : q12.1 = 0) => ?_) (fun (c0 : ¬ (q12.1 = 0)) => ?_)
  · rw [if_pos c0] at hf
    exact Ex.weak (sm_le_n (sm_le_n (sm_le_n (sm_le_n (sm_le_s (sm_le_s sm_le_nil)))))) (B_211_25 hrec hd  hf hs)
  · rw [if_neg c0] at hf
    refine Ex.seg 4 (pc' := 19) (lc' := [some (.ref 55), some (.int x1), some (.int v11), some (.int q12.1), none, none]) (st' := [.int x1, .int q12.1, .int v11, .ref 55]) (h' := q12.2) (sg1 rfl rfl (sg1 rfl rfl (sg1 rfl rfl (sg1 rfl rfl rfl)))) ?_
    obtain ⟨q13, e_q13, hf⟩ := bnd hf
    refine Ex.callV (a := 55) (As := [.int v11, .int q12.1, .int x1]) (r := []) (v := some (.int q13.1)) (h' := q13.2) rfl rfl (by decide) rfl (Nat.le_of_ble_eq_true rfl) rfl (E_208 (by omega) e_q13) rfl ?_
    refine Ex.ifc rfl rfl (fun (c0 : ¬ (q13.1 = 0)) => ?_) (fun (c0 : ¬ ¬ (q13.1 = 0)) => ?_)
    · rw [if_neg c0] at hf
      refine Ex.seg 1 (pc' := 28) (lc' := [some (.ref 55), some (.int x1), some (.int v11), some (.int q12.1), none, none]) (st' := [.ref 55]) (h' := q13.2) (sg1 rfl rfl rfl) ?_
      obtain ⟨q14, e_q14, hf⟩ := bnd hf
      refine Ex.callV (a := 55) (As := []) (r := []) (v := some (.int q14.1)) (h' := q14.2) rfl rfl (by decide) rfl (Nat.le_of_ble_eq_true rfl) rfl (E_174 (by omega) e_q14) rfl ?_
      refine Ex.ifc rfl rfl (fun (c0 : q14.1 = 0) => ?_) (fun (c0 : ¬ (q14.1 = 0)) => ?_)
      · rw [if_pos c0] at hf
        exact Ex.weak (sm_le_n (sm_le_n (sm_le_n (sm_le_n (sm_le_s (sm_le_s sm_le_nil)))))) (B_211_64 hrec hd  hf hs)
      · rw [if_neg c0] at hf
        refine Ex.seg 2 (pc' := 36) (lc' := [some (.ref 55), some (.int x1), some (.int v11), some (.int q12.1), none, none]) (st' := [.int q12.1, .ref 55]) (h' := q14.2) (sg1 rfl rfl (sg1 rfl rfl rfl)) ?_
        obtain ⟨q15, e_q15, hf⟩ := bnd hf
        refine Ex.callV (a := 55) (As := [.int q12.1]) (r := []) (v := some (.int q15.1)) (h' := q15.2) rfl rfl (by decide) rfl (Nat.le_of_ble_eq_true rfl) rfl (E_199 hrec (by omega) e_q15) rfl ?_
        refine Ex.ifc rfl rfl (fun (c0 : q15.1 = 0) => ?_) (fun (c0 : ¬ (q15.1 = 0)) => ?_)
        · rw [if_pos c0] at hf
          exact Ex.weak (sm_le_n (sm_le_n (sm_le_n (sm_le_n (sm_le_s (sm_le_s sm_le_nil)))))) (B_211_64 hrec hd  hf hs)
        · rw [if_neg c0] at hf
          refine Ex.seg 1 (pc' := 43) (lc' := [some (.ref 55), some (.int x1), some (.int v11), some (.int q12.1), none, none]) (st' := [.ref 55]) (h' := q15.2) (sg1 rfl rfl rfl) ?_
          obtain ⟨q16, e_q16, hf⟩ := bnd hf
          refine Ex.callV (a := 55) (As := []) (r := []) (v := some (.int q16.1)) (h' := q16.2) rfl rfl (by decide) rfl (Nat.le_of_ble_eq_true rfl) rfl (E_175 (by omega) e_q16) rfl ?_
          refine Ex.ifc rfl rfl (fun (c0 : q16.1 = 0) => ?_) (fun (c0 : ¬ (q16.1 = 0)) => ?_)
          · rw [if_pos c0] at hf
            exact Ex.weak (sm_le_n (sm_le_n (sm_le_n (sm_le_n (sm_le_s (sm_le_s sm_le_nil)))))) (B_211_64 hrec hd  hf hs)
          · rw [if_neg c0] at hf
            refine Ex.seg 2 (pc' := 51) (lc' := [some (.ref 55), some (.int x1), some (.int v11), some (.int q12.1), none, none]) (st' := [.int 2, .ref 55]) (h' := q16.2) (sg1 rfl rfl (sg1 rfl rfl rfl)) ?_
            obtain ⟨q17, e_q17, hf⟩ := bnd hf
            refine Ex.callV (a := 55) (As := [.int 2]) (r := []) (v := some (.int q17.1)) (h' := q17.2) rfl rfl (by decide) rfl (Nat.le_of_ble_eq_true rfl) rfl (E_199 hrec (by omega) e_q17) rfl ?_
            refine Ex.ifc rfl rfl (fun (c0 : q17.1 = 0) => ?_) (fun (c0 : ¬ (q17.1 = 0)) => ?_)
            · rw [if_pos c0] at hf
              exact Ex.weak (sm_le_n (sm_le_n (sm_le_n (sm_le_n (sm_le_s (sm_le_s sm_le_nil)))))) (B_211_64 hrec hd  hf hs)
            · rw [if_neg c0] at hf
              refine Ex.seg 1 (pc' := 58) (lc' := [some (.ref 55), some (.int x1), some (.int v11), some (.int q12.1), none, none]) (st' := [.ref 55]) (h' := q17.2) (sg1 rfl rfl rfl) ?_
              obtain ⟨q18, e_q18, hf⟩ := bnd hf
              refine Ex.callV (a := 55) (As := []) (r := []) (v := some (.int q18.1)) (h' := q18.2) rfl rfl (by decide) rfl (Nat.le_of_ble_eq_true rfl) rfl (E_175 (by omega) e_q18) rfl ?_
              refine Ex.ifc rfl rfl (fun (c0 : ¬ (q18.1 = 0)) => ?_) (fun (c0 : ¬ ¬ (q18.1 = 0)) => ?_)
              · rw [if_neg c0] at hf
                refine Ex.seg 2 (pc' := 69) (lc' := [some (.ref 55), some (.int x1), some (.int v11), some (.int q12.1), some (.int 0), none]) (st' := []) (h' := q18.2) (sg1 rfl rfl (sg1 rfl rfl rfl)) ?_
                exact Ex.weak (sm_le_s (sm_le_s (sm_le_s (sm_le_s (sm_le_s (sm_le_s sm_le_nil)))))) (B_211_69 hrec hd  hf hs)
              · rw [if_pos (Classical.not_not.mp c0)] at hf
                exact Ex.weak (sm_le_n (sm_le_n (sm_le_n (sm_le_n (sm_le_s (sm_le_s sm_le_nil)))))) (B_211_64 hrec hd  hf hs)
    · rw [if_pos (Classical.not_not.mp c0)] at hf
      exact Ex.weak (sm_le_n (sm_le_n (sm_le_n (sm_le_n (sm_le_s (sm_le_s sm_le_nil)))))) (B_211_25 hrec hd  hf hs)
theorem E_211 {L : Nat} {xs : Nat → Int32} {d : Nat} {M : Nat} {rec : sm_H → Option (Int32 × sm_H)} (hrec : ∀ d, M ≤ d → ∀ (h : sm_H) (q : Int32 × sm_H), rec h = some q → RUN L xs d 194 [.ref 55] h (some (.int q.1), q.2)) (hd : 8 + M ≤ d) {x1 : Int32} {h : sm_H} {r : Int32 × sm_H} (hf : F_211 rec x1 h = some r) : RUN L xs d 211 [.ref 55, .int x1] h (some (.int r.1), r.2) := by
  obtain ⟨d, rfl⟩ : ∃ e, d = e + 1 := ⟨d - 1, by omega⟩
  exact ⟨Nat.le_of_ble_eq_true rfl, B_211_0 hrec (by omega) hf rfl⟩
theorem B_214_133B {L : Nat} {xs : Nat → Int32} {d : Nat} {M : Nat} {rec : sm_H → Option (Int32 × sm_H)} (hrec : ∀ d, M ≤ d → ∀ (h : sm_H) (q : Int32 × sm_H), rec h = some q → RUN L xs d 194 [.ref 55] h (some (.int q.1), q.2)) (hd : 7 + M ≤ d) {res : Option Value × sm_H} {S1 : (Int32 × Int32 × Int32 × Int32 × Int32 × sm_H) → Prop} (hS1 : ∀ s, S1 s → Ex (P_G L xs) (RUN L xs d) (sm_lk P_t214) 0 133 [some (.ref 55), none, some (.int s.1), some (.int s.2.1), some (.int s.2.2.1), some (.int s.2.2.2.1), none, some (.int s.2.2.2.2.1), none] [] s.2.2.2.2.2 res) {s : (Int32 × Int32 × Int32 × Int32 × Int32 × sm_H)}  {r : ((Int32 × Int32 × Int32 × Int32 × Int32 × sm_H) ⊕ (Int32 × sm_H))} (hf : F_214_133B rec s = some r) (hs : (Sum.elim S1 (fun (r : Int32 × sm_H) => res = (some (.int r.1), r.2))) r) : Ex (P_G L xs) (RUN L xs d) (sm_lk P_t214) 0 133 [some (.ref 55), none, some (.int s.1), some (.int s.2.1), some (.int s.2.2.1), some (.int s.2.2.2.1), none, some (.int s.2.2.2.2.1), none] [] s.2.2.2.2.2 res := by
  unfold F_214_133B at hf
  refine Ex.seg 2 (pc' := 137) (lc' := [some (.ref 55), none, some (.int s.1), some (.int s.2.1), some (.int s.2.2.1), some (.int s.2.2.2.1), none, some (.int s.2.2.2.2.1), none]) (st' := [.int s.2.2.2.1, .int s.2.2.2.2.1]) (h' := s.2.2.2.2.2) (sg1 rfl rfl (sg1 rfl rfl rfl)) ?_
  refine Ex.icmp rfl rfl (fun (c0 : s.2.2.2.1 ≤ s.2.2.2.2.1) => ?_) (fun (c0 : ¬ (s.2.2.2.1 ≤ s.2.2.2.2.1)) => ?_)
  · rw [if_pos c0] at hf
    refine Ex.seg 5 (pc' := 178) (lc' := [some (.ref 55), none, some (.int s.1), some (.int s.2.1), some (.int s.2.2.1), some (.int s.2.2.2.1), none, some (.int s.2.2.2.2.1), none]) (st' := [.int s.1, .int s.2.2.2.1, .int s.2.1, .int s.2.2.1, .ref 55]) (h' := s.2.2.2.2.2) (sg1 rfl rfl (sg1 rfl rfl (sg1 rfl rfl (sg1 rfl rfl (sg1 rfl rfl rfl))))) ?_
    obtain ⟨q1, e_q1, hf⟩ := bnd hf
    refine Ex.callV (a := 55) (As := [.int s.2.2.1, .int s.2.1, .int s.2.2.2.1, .int s.1]) (r := []) (v := some (.int q1.1)) (h' := q1.2) rfl rfl (by decide) rfl (Nat.le_of_ble_eq_true rfl) rfl (E_192 (by omega) e_q1) rfl ?_
    obtain rfl := Option.some.inj hf
    exact Ex.iret rfl rfl (fun c0 => by cases c0) hs
  · rw [if_neg c0] at hf
    refine Ex.seg 8 (pc' := 153) (lc' := [some (.ref 55), none, some (.int s.1), some (.int s.2.1), some (.int s.2.2.1), some (.int s.2.2.2.1), none, some (.int s.2.2.2.2.1), none]) (st' := [.int s.2.2.2.2.1, .int s.2.2.1, .ref 10, .int (s.2.1 + s.2.2.2.2.1), .ref 55]) (h' := s.2.2.2.2.2) (sg1 rfl rfl (sg1 rfl rfl (sg1 rfl rfl (sg1 rfl rfl (sg1 rfl rfl (sg1 rfl rfl (sg1 rfl rfl (sg1 rfl rfl rfl)))))))) ?_
    obtain ⟨q2, e_q2, hf⟩ := bnd hf
    refine Ex.callV (a := 10) (As := [.int s.2.2.1, .int s.2.2.2.2.1]) (r := [.int (s.2.1 + s.2.2.2.2.1), .ref 55]) (v := some (.int q2.1)) (h' := q2.2) rfl rfl (by decide) rfl (Nat.le_of_ble_eq_true rfl) rfl (E_46 (by omega) e_q2) rfl ?_
    refine Ex.seg 1 (pc' := 157) (lc' := [some (.ref 55), none, some (.int s.1), some (.int s.2.1), some (.int s.2.2.1), some (.int s.2.2.2.1), none, some (.int s.2.2.2.2.1), none]) (st' := [.int s.1, .int q2.1, .int (s.2.1 + s.2.2.2.2.1), .ref 55]) (h' := q2.2) (sg1 rfl rfl rfl) ?_
    obtain ⟨q3, e_q3, hf⟩ := bnd hf
    refine Ex.callV (a := 55) (As := [.int (s.2.1 + s.2.2.2.2.1), .int q2.1, .int s.1]) (r := []) (v := some (.int q3.1)) (h' := q3.2) rfl rfl (by decide) rfl (Nat.le_of_ble_eq_true rfl) rfl (E_190 (by omega) e_q3) rfl ?_
    refine Ex.ifc rfl rfl (fun (c0 : ¬ (q3.1 = 0)) => ?_) (fun (c0 : ¬ ¬ (q3.1 = 0)) => ?_)
    · rw [if_neg c0] at hf
      refine Ex.seg 1 (pc' := 168) (lc' := [some (.ref 55), none, some (.int s.1), some (.int s.2.1), some (.int s.2.2.1), some (.int s.2.2.2.1), none, some (.int (s.2.2.2.2.1 + 1)), none]) (st' := []) (h' := q3.2) (sg1 rfl rfl rfl) ?_
      obtain ⟨v4, e_v4, hf⟩ := bnd hf
      rw [Option.some.inj e_v4]
      refine Ex.seg 1 (pc' := 133) (lc' := [some (.ref 55), none, some (.int s.1), some (.int s.2.1), some (.int s.2.2.1), some (.int s.2.2.2.1), none, some (.int v4), none]) (st' := []) (h' := q3.2) (sg1 rfl rfl rfl) ?_
      obtain rfl := Option.some.inj hf
      exact Ex.weak (sm_le_s (sm_le_s (sm_le_s (sm_le_s (sm_le_s (sm_le_s (sm_le_s (sm_le_s (sm_le_s sm_le_nil))))))))) (hS1 _ hs)
    · rw [if_pos (Classical.not_not.mp c0)] at hf
      refine Ex.seg 1 (pc' := 164) (lc' := [some (.ref 55), none, some (.int s.1), some (.int s.2.1), some (.int s.2.2.1), some (.int s.2.2.2.1), none, some (.int s.2.2.2.2.1), none]) (st' := [.int (-1)]) (h' := q3.2) (sg1 rfl rfl rfl) ?_
      obtain rfl := Option.some.inj hf
      exact Ex.iret rfl rfl (fun c0 => by cases c0) hs
theorem B_214_133 {L : Nat} {xs : Nat → Int32} {d : Nat} {M : Nat} {rec : sm_H → Option (Int32 × sm_H)} (hrec : ∀ d, M ≤ d → ∀ (h : sm_H) (q : Int32 × sm_H), rec h = some q → RUN L xs d 194 [.ref 55] h (some (.int q.1), q.2)) (hd : 7 + M ≤ d) {res : Option Value × sm_H} {y2 : Int32} {y3 : Int32} {y4 : Int32} {y5 : Int32} {y7 : Int32}  {h : sm_H} {r : (Int32 × sm_H)} (hf : F_214_133 rec y2 y3 y4 y5 y7 h = some r) (hs : (fun (r : Int32 × sm_H) => res = (some (.int r.1), r.2)) r) : Ex (P_G L xs) (RUN L xs d) (sm_lk P_t214) 0 133 [some (.ref 55), none, some (.int y2), some (.int y3), some (.int y4), some (.int y5), none, some (.int y7), none] [] h res := by
  unfold F_214_133 at hf
  exact lp_ok (P := fun (s : (Int32 × Int32 × Int32 × Int32 × Int32 × sm_H)) => Ex (P_G L xs) (RUN L xs d) (sm_lk P_t214) 0 133 [some (.ref 55), none, some (.int s.1), some (.int s.2.1), some (.int s.2.2.1), some (.int s.2.2.2.1), none, some (.int s.2.2.2.2.1), none] [] s.2.2.2.2.2 res) (S := (fun (r : Int32 × sm_H) => res = (some (.int r.1), r.2))) (fun s x hx hsx => by
    intros
    exact B_214_133B hrec hd  (fun _ q => q) hx hsx) 1000000 _ r hf hs
theorem B_214_105 {L : Nat} {xs : Nat → Int32} {d : Nat} {M : Nat} {rec : sm_H → Option (Int32 × sm_H)} (hrec : ∀ d, M ≤ d → ∀ (h : sm_H) (q : Int32 × sm_H), rec h = some q → RUN L xs d 194 [.ref 55] h (some (.int q.1), q.2)) (hd : 7 + M ≤ d) {res : Option Value × sm_H} {y2 : Int32} {y3 : Int32} {y4 : Int32} {y5 : Int32} {y6 : Int32}  {h : sm_H} {r : (Int32 × sm_H)} (hf : F_214_105 rec y2 y3 y4 y5 y6 h = some r) (hs : (fun (r : Int32 × sm_H) => res = (some (.int r.1), r.2)) r) : Ex (P_G L xs) (RUN L xs d) (sm_lk P_t214) 0 105 [some (.ref 55), none, some (.int y2), some (.int y3), some (.int y4), some (.int y5), some (.int y6), none, none] [] h res := by
  unfold F_214_105 at hf
  refine Ex.seg 6 (pc' := 115) (lc' := [some (.ref 55), none, some (.int y2), some (.int y3), some (.int y4), some (.int y5), some (.int y6), none, none]) (st' := []) (h' := (sm_wI h 55 16 ((h.1 55 16) - 1))) (sg1 rfl rfl (sg1 rfl rfl (sg1 rfl rfl (sg1 rfl rfl (sg1 rfl rfl (sg1 rfl rfl rfl)))))) ?_
  obtain ⟨h5, e_h5, hf⟩ := bnd hf
  rw [Option.some.inj e_h5]
  refine Ex.seg 2 (pc' := 119) (lc' := [some (.ref 55), none, some (.int y2), some (.int y3), some (.int y4), some (.int y5), some (.int y6), none, none]) (st' := [.int y5, .int y6]) (h' := h5) (sg1 rfl rfl (sg1 rfl rfl rfl)) ?_
  refine Ex.icmp rfl rfl (fun (c0 : y6 = y5) => ?_) (fun (c0 : ¬ (y6 = y5)) => ?_)
  · rw [if_pos c0] at hf
    refine Ex.seg 2 (pc' := 133) (lc' := [some (.ref 55), none, some (.int y2), some (.int y3), some (.int y4), some (.int y5), some (.int y6), some (.int 0), none]) (st' := []) (h' := h5) (sg1 rfl rfl (sg1 rfl rfl rfl)) ?_
    exact Ex.weak (sm_le_s (sm_le_s (sm_le_s (sm_le_s (sm_le_s (sm_le_s (sm_le_n (sm_le_s (sm_le_s sm_le_nil))))))))) (B_214_133 hrec hd  hf hs)
  · rw [if_neg c0] at hf
    refine Ex.seg 3 (pc' := 126) (lc' := [some (.ref 55), none, some (.int y2), some (.int y3), some (.int y4), some (.int y5), some (.int y6), none, none]) (st' := [.int y2, .int 9, .ref 55]) (h' := h5) (sg1 rfl rfl (sg1 rfl rfl (sg1 rfl rfl rfl))) ?_
    obtain ⟨q6, e_q6, hf⟩ := bnd hf
    refine Ex.callV (a := 55) (As := [.int 9, .int y2]) (r := []) (v := some (.int q6.1)) (h' := q6.2) rfl rfl (by decide) rfl (Nat.le_of_ble_eq_true rfl) rfl (E_169 (by omega) e_q6) rfl ?_
    obtain rfl := Option.some.inj hf
    exact Ex.iret rfl rfl (fun c0 => by cases c0) hs
theorem B_214_96 {L : Nat} {xs : Nat → Int32} {d : Nat} {M : Nat} {rec : sm_H → Option (Int32 × sm_H)} (hrec : ∀ d, M ≤ d → ∀ (h : sm_H) (q : Int32 × sm_H), rec h = some q → RUN L xs d 194 [.ref 55] h (some (.int q.1), q.2)) (hd : 7 + M ≤ d) {res : Option Value × sm_H} {S1 : (Int32 × Int32 × Int32 × Int32 × Int32 × Int32 × sm_H) → Prop} (hS1 : ∀ s, S1 s → Ex (P_G L xs) (RUN L xs d) (sm_lk P_t214) 0 49 [some (.ref 55), none, some (.int s.1), some (.int s.2.1), some (.int s.2.2.1), some (.int s.2.2.2.1), some (.int s.2.2.2.2.1), some (.int s.2.2.2.2.2.1), none] [] s.2.2.2.2.2.2 res) {y2 : Int32} {y3 : Int32} {y4 : Int32} {y5 : Int32} {y6 : Int32} {y7 : Int32}  {h : sm_H} {r : ((Int32 × Int32 × Int32 × Int32 × Int32 × Int32 × sm_H) ⊕ (Int32 × sm_H))} (hf : F_214_96 rec y2 y3 y4 y5 y6 y7 h = some r) (hs : (Sum.elim S1 (fun (r : Int32 × sm_H) => res = (some (.int r.1), r.2))) r) : Ex (P_G L xs) (RUN L xs d) (sm_lk P_t214) 0 96 [some (.ref 55), none, some (.int y2), some (.int y3), some (.int y4), some (.int y5), some (.int y6), some (.int y7), none] [] h res := by
  unfold F_214_96 at hf
  refine Ex.seg 1 (pc' := 99) (lc' := [some (.ref 55), none, some (.int y2), some (.int y3), some (.int y4), some (.int y5), some (.int (y6 + 1)), some (.int y7), none]) (st' := []) (h' := h) (sg1 rfl rfl rfl) ?_
  obtain ⟨v7, e_v7, hf⟩ := bnd hf
  rw [Option.some.inj e_v7]
  refine Ex.seg 1 (pc' := 102) (lc' := [some (.ref 55), none, some (.int y2), some (.int y3), some (.int y4), some (.int y5), some (.int v7), some (.int (y7 + 1)), none]) (st' := []) (h' := h) (sg1 rfl rfl rfl) ?_
  obtain ⟨v8, e_v8, hf⟩ := bnd hf
  rw [Option.some.inj e_v8]
  refine Ex.seg 1 (pc' := 49) (lc' := [some (.ref 55), none, some (.int y2), some (.int y3), some (.int y4), some (.int y5), some (.int v7), some (.int v8), none]) (st' := []) (h' := h) (sg1 rfl rfl rfl) ?_
  obtain rfl := Option.some.inj hf
  exact Ex.weak (sm_le_s (sm_le_s (sm_le_s (sm_le_s (sm_le_s (sm_le_s (sm_le_s (sm_le_s (sm_le_s sm_le_nil))))))))) (hS1 _ hs)
theorem B_214_94 {L : Nat} {xs : Nat → Int32} {d : Nat} {M : Nat} {rec : sm_H → Option (Int32 × sm_H)} (hrec : ∀ d, M ≤ d → ∀ (h : sm_H) (q : Int32 × sm_H), rec h = some q → RUN L xs d 194 [.ref 55] h (some (.int q.1), q.2)) (hd : 7 + M ≤ d) {res : Option Value × sm_H}   {h : sm_H} {r : (Int32 × sm_H)} (hf : F_214_94 rec  h = some r) (hs : (fun (r : Int32 × sm_H) => res = (some (.int r.1), r.2)) r) : Ex (P_G L xs) (RUN L xs d) (sm_lk P_t214) 0 94 [none, none, none, none, none, none, none, none, none] [] h res := by
  unfold F_214_94 at hf
  refine Ex.seg 1 (pc' := 95) (lc' := [none, none, none, none, none, none, none, none, none]) (st' := [.int (-1)]) (h' := h) (sg1 rfl rfl rfl) ?_
  obtain rfl := Option.some.inj hf
  exact Ex.iret rfl rfl (fun c0 => by cases c0) hs
theorem B_214_49B {L : Nat} {xs : Nat → Int32} {d : Nat} {M : Nat} {rec : sm_H → Option (Int32 × sm_H)} (hrec : ∀ d, M ≤ d → ∀ (h : sm_H) (q : Int32 × sm_H), rec h = some q → RUN L xs d 194 [.ref 55] h (some (.int q.1), q.2)) (hd : 7 + M ≤ d) {res : Option Value × sm_H} {S1 : (Int32 × Int32 × Int32 × Int32 × Int32 × Int32 × sm_H) → Prop} (hS1 : ∀ s, S1 s → Ex (P_G L xs) (RUN L xs d) (sm_lk P_t214) 0 49 [some (.ref 55), none, some (.int s.1), some (.int s.2.1), some (.int s.2.2.1), some (.int s.2.2.2.1), some (.int s.2.2.2.2.1), some (.int s.2.2.2.2.2.1), none] [] s.2.2.2.2.2.2 res) {s : (Int32 × Int32 × Int32 × Int32 × Int32 × Int32 × sm_H)}  {r : ((Int32 × Int32 × Int32 × Int32 × Int32 × Int32 × sm_H) ⊕ (Int32 × sm_H))} (hf : F_214_49B rec s = some r) (hs : (Sum.elim S1 (fun (r : Int32 × sm_H) => res = (some (.int r.1), r.2))) r) : Ex (P_G L xs) (RUN L xs d) (sm_lk P_t214) 0 49 [some (.ref 55), none, some (.int s.1), some (.int s.2.1), some (.int s.2.2.1), some (.int s.2.2.2.1), some (.int s.2.2.2.2.1), some (.int s.2.2.2.2.2.1), none] [] s.2.2.2.2.2.2 res := by
  unfold F_214_49B at hf
  refine Ex.seg 2 (pc' := 54) (lc' := [some (.ref 55), none, some (.int s.1), some (.int s.2.1), some (.int s.2.2.1), some (.int s.2.2.2.1), some (.int s.2.2.2.2.1), some (.int s.2.2.2.2.2.1), none]) (st' := [.int 3000, .int s.2.2.2.2.2.1]) (h' := s.2.2.2.2.2.2) (sg1 rfl rfl (sg1 rfl rfl rfl)) ?_
  refine Ex.icmp rfl rfl (fun (c0 : 3000 ≤ s.2.2.2.2.2.1) => ?_) (fun (c0 : ¬ (3000 ≤ s.2.2.2.2.2.1)) => ?_)
  · rw [if_pos c0] at hf
    obtain ⟨r0, hf0, rfl⟩ := Option.map_eq_some_iff.mp hf
    exact Ex.weak (sm_le_s (sm_le_s (sm_le_s (sm_le_s (sm_le_s (sm_le_s (sm_le_s (sm_le_n (sm_le_s sm_le_nil))))))))) (B_214_105 hrec hd  hf0 hs)
  · rw [if_neg c0] at hf
    refine Ex.seg 1 (pc' := 58) (lc' := [some (.ref 55), none, some (.int s.1), some (.int s.2.1), some (.int s.2.2.1), some (.int s.2.2.2.1), some (.int s.2.2.2.2.1), some (.int s.2.2.2.2.2.1), none]) (st' := [.ref 55]) (h' := s.2.2.2.2.2.2) (sg1 rfl rfl rfl) ?_
    obtain ⟨q9, e_q9, hf⟩ := bnd hf
    refine Ex.callV (a := 55) (As := []) (r := []) (v := some (.int q9.1)) (h' := q9.2) rfl rfl (by decide) rfl (Nat.le_of_ble_eq_true rfl) rfl (E_171 (by omega) e_q9) rfl ?_
    refine Ex.seg 1 (pc' := 62) (lc' := [some (.ref 55), none, some (.int s.1), some (.int s.2.1), some (.int s.2.2.1), some (.int s.2.2.2.1), some (.int s.2.2.2.2.1), some (.int s.2.2.2.2.2.1), none]) (st' := [.int 2, .int q9.1]) (h' := q9.2) (sg1 rfl rfl rfl) ?_
    refine Ex.icmp rfl rfl (fun (c0 : q9.1 = 2) => ?_) (fun (c0 : ¬ (q9.1 = 2)) => ?_)
    · rw [if_pos c0] at hf
      obtain ⟨r0, hf0, rfl⟩ := Option.map_eq_some_iff.mp hf
      exact Ex.weak (sm_le_s (sm_le_s (sm_le_s (sm_le_s (sm_le_s (sm_le_s (sm_le_s (sm_le_n (sm_le_s sm_le_nil))))))))) (B_214_105 hrec hd  hf0 hs)
    · rw [if_neg c0] at hf
      refine Ex.seg 1 (pc' := 66) (lc' := [some (.ref 55), none, some (.int s.1), some (.int s.2.1), some (.int s.2.2.1), some (.int s.2.2.2.1), some (.int s.2.2.2.2.1), some (.int s.2.2.2.2.2.1), none]) (st' := [.ref 55]) (h' := q9.2) (sg1 rfl rfl rfl) ?_
      obtain ⟨q10, e_q10, hf⟩ := bnd hf
      refine Ex.callV (a := 55) (As := []) (r := []) (v := some (.int q10.1)) (h' := q10.2) rfl rfl (by decide) rfl (Nat.le_of_ble_eq_true rfl) rfl (hrec d (by omega)  _ _ e_q10) rfl ?_
      refine Ex.seg 3 (pc' := 74) (lc' := [some (.ref 55), none, some (.int s.1), some (.int s.2.1), some (.int s.2.2.1), some (.int s.2.2.2.1), some (.int s.2.2.2.2.1), some (.int s.2.2.2.2.2.1), some (.int q10.1)]) (st' := [.int (-1), .int q10.1]) (h' := q10.2) (sg1 rfl rfl (sg1 rfl rfl (sg1 rfl rfl rfl))) ?_
      refine Ex.icmp rfl rfl (fun (c0 : q10.1 = (-1)) => ?_) (fun (c0 : ¬ (q10.1 = (-1))) => ?_)
      · rw [if_pos c0] at hf
        obtain ⟨r0, hf0, rfl⟩ := Option.map_eq_some_iff.mp hf
        exact Ex.weak (sm_le_n (sm_le_s (sm_le_n (sm_le_n (sm_le_n (sm_le_n (sm_le_n (sm_le_n (sm_le_n sm_le_nil))))))))) (B_214_94 hrec hd  hf0 hs)
      · rw [if_neg c0] at hf
        refine Ex.seg 2 (pc' := 81) (lc' := [some (.ref 55), none, some (.int s.1), some (.int s.2.1), some (.int s.2.2.1), some (.int s.2.2.2.1), some (.int s.2.2.2.2.1), some (.int s.2.2.2.2.2.1), some (.int q10.1)]) (st' := [.int 6, .int s.2.2.2.2.1]) (h' := q10.2) (sg1 rfl rfl (sg1 rfl rfl rfl)) ?_
        refine Ex.icmp rfl rfl (fun (c0 : 6 ≤ s.2.2.2.2.1) => ?_) (fun (c0 : ¬ (6 ≤ s.2.2.2.2.1)) => ?_)
        · rw [if_pos c0] at hf
          exact Ex.weak (sm_le_s (sm_le_s (sm_le_s (sm_le_s (sm_le_s (sm_le_s (sm_le_s (sm_le_s (sm_le_n sm_le_nil))))))))) (B_214_96 hrec hd hS1 hf hs)
        · rw [if_neg c0] at hf
          refine Ex.seg 3 (pc' := 88) (lc' := [some (.ref 55), none, some (.int s.1), some (.int s.2.1), some (.int s.2.2.1), some (.int s.2.2.2.1), some (.int s.2.2.2.2.1), some (.int s.2.2.2.2.2.1), some (.int q10.1)]) (st' := [.long 0, .int q10.1, .ref 55]) (h' := q10.2) (sg1 rfl rfl (sg1 rfl rfl (sg1 rfl rfl rfl))) ?_
          obtain ⟨q11, e_q11, hf⟩ := bnd hf
          refine Ex.callV (a := 55) (As := [.int q10.1, .long 0]) (r := []) (v := some (.int q11.1)) (h' := q11.2) rfl rfl (by decide) rfl (Nat.le_of_ble_eq_true rfl) rfl (E_188 (by omega) e_q11) rfl ?_
          refine Ex.ifc rfl rfl (fun (c0 : ¬ (q11.1 = 0)) => ?_) (fun (c0 : ¬ ¬ (q11.1 = 0)) => ?_)
          · rw [if_neg c0] at hf
            exact Ex.weak (sm_le_s (sm_le_s (sm_le_s (sm_le_s (sm_le_s (sm_le_s (sm_le_s (sm_le_s (sm_le_n sm_le_nil))))))))) (B_214_96 hrec hd hS1 hf hs)
          · rw [if_pos (Classical.not_not.mp c0)] at hf
            obtain ⟨r0, hf0, rfl⟩ := Option.map_eq_some_iff.mp hf
            exact Ex.weak (sm_le_n (sm_le_s (sm_le_n (sm_le_n (sm_le_n (sm_le_n (sm_le_n (sm_le_n (sm_le_n sm_le_nil))))))))) (B_214_94 hrec hd  hf0 hs)
theorem B_214_49 {L : Nat} {xs : Nat → Int32} {d : Nat} {M : Nat} {rec : sm_H → Option (Int32 × sm_H)} (hrec : ∀ d, M ≤ d → ∀ (h : sm_H) (q : Int32 × sm_H), rec h = some q → RUN L xs d 194 [.ref 55] h (some (.int q.1), q.2)) (hd : 7 + M ≤ d) {res : Option Value × sm_H} {y2 : Int32} {y3 : Int32} {y4 : Int32} {y5 : Int32} {y6 : Int32} {y7 : Int32}  {h : sm_H} {r : (Int32 × sm_H)} (hf : F_214_49 rec y2 y3 y4 y5 y6 y7 h = some r) (hs : (fun (r : Int32 × sm_H) => res = (some (.int r.1), r.2)) r) : Ex (P_G L xs) (RUN L xs d) (sm_lk P_t214) 0 49 [some (.ref 55), none, some (.int y2), some (.int y3), some (.int y4), some (.int y5), some (.int y6), some (.int y7), none] [] h res := by
  unfold F_214_49 at hf
  exact lp_ok (P := fun (s : (Int32 × Int32 × Int32 × Int32 × Int32 × Int32 × sm_H)) => Ex (P_G L xs) (RUN L xs d) (sm_lk P_t214) 0 49 [some (.ref 55), none, some (.int s.1), some (.int s.2.1), some (.int s.2.2.1), some (.int s.2.2.2.1), some (.int s.2.2.2.2.1), some (.int s.2.2.2.2.2.1), none] [] s.2.2.2.2.2.2 res) (S := (fun (r : Int32 × sm_H) => res = (some (.int r.1), r.2))) (fun s x hx hsx => by
    intros
    exact B_214_49B hrec hd  (fun _ q => q) hx hsx) 1000000 _ r hf hs
theorem B_214_12 {L : Nat} {xs : Nat → Int32} {d : Nat} {M : Nat} {rec : sm_H → Option (Int32 × sm_H)} (hrec : ∀ d, M ≤ d → ∀ (h : sm_H) (q : Int32 × sm_H), rec h = some q → RUN L xs d 194 [.ref 55] h (some (.int q.1), q.2)) (hd : 7 + M ≤ d) {res : Option Value × sm_H}   {h : sm_H} {r : (Int32 × sm_H)} (hf : F_214_12 rec  h = some r) (hs : (fun (r : Int32 × sm_H) => res = (some (.int r.1), r.2)) r) : Ex (P_G L xs) (RUN L xs d) (sm_lk P_t214) 0 12 [some (.ref 55), none, none, none, none, none, none, none, none] [] h res := by
  unfold F_214_12 at hf
  refine Ex.seg 2 (pc' := 15) (lc' := [some (.ref 55), none, none, none, none, none, none, none, none]) (st' := [.int 6, .ref 55]) (h' := h) (sg1 rfl rfl (sg1 rfl rfl rfl)) ?_
  obtain ⟨q12, e_q12, hf⟩ := bnd hf
  refine Ex.callV (a := 55) (As := [.int 6]) (r := []) (v := some (.int q12.1)) (h' := q12.2) rfl rfl (by decide) rfl (Nat.le_of_ble_eq_true rfl) rfl (E_170 (by omega) e_q12) rfl ?_
  obtain rfl := Option.some.inj hf
  exact Ex.iret rfl rfl (fun c0 => by cases c0) hs
theorem B_214_0 {L : Nat} {xs : Nat → Int32} {d : Nat} {M : Nat} {rec : sm_H → Option (Int32 × sm_H)} (hrec : ∀ d, M ≤ d → ∀ (h : sm_H) (q : Int32 × sm_H), rec h = some q → RUN L xs d 194 [.ref 55] h (some (.int q.1), q.2)) (hd : 7 + M ≤ d) {res : Option Value × sm_H} {x1 : Int32} {x2 : Int32}  {h : sm_H} {r : (Int32 × sm_H)} (hf : F_214_0 rec x1 x2 h = some r) (hs : (fun (r : Int32 × sm_H) => res = (some (.int r.1), r.2)) r) : Ex (P_G L xs) (RUN L xs d) (sm_lk P_t214) 0 0 [some (.ref 55), some (.int x1), some (.int x2), none, none, none, none, none, none] [] h res := by
  unfold F_214_0 at hf
  refine Ex.seg 1 (pc' := 1) (lc' := [some (.ref 55), some (.int x1), some (.int x2), none, none, none, none, none, none]) (st' := [.int x1]) (h' := h) (sg1 rfl rfl rfl) ?_
  refine Ex.ifc rfl rfl (fun (c0 : x1 < 0) => ?_) (fun (c0 : ¬ (x1 < 0)) => ?_)
  · rw [if_pos c0] at hf
    exact Ex.weak (sm_le_s (sm_le_n (sm_le_n (sm_le_s (sm_le_s (sm_le_s (sm_le_s (sm_le_s (sm_le_s sm_le_nil))))))))) (B_214_12 hrec hd  hf hs)
  · rw [if_neg c0] at hf
    refine Ex.seg 3 (pc' := 9) (lc' := [some (.ref 55), some (.int x1), some (.int x2), none, none, none, none, none, none]) (st' := [.int (h.1 55 15), .int x1]) (h' := h) (sg1 rfl rfl (sg1 rfl rfl (sg1 rfl rfl rfl))) ?_
    refine Ex.icmp rfl rfl (fun (c0 : x1 < (h.1 55 15)) => ?_) (fun (c0 : ¬ (x1 < (h.1 55 15))) => ?_)
    · rw [if_pos c0] at hf
      refine Ex.seg 3 (pc' := 24) (lc' := [some (.ref 55), some (.int x1), some (.int x2), some (.int (h.1 55 12)), none, none, none, none, none]) (st' := []) (h' := h) (sg1 rfl rfl (sg1 rfl rfl (sg1 rfl rfl rfl))) ?_
      obtain ⟨v13, e_v13, hf⟩ := bnd hf
      rw [Option.some.inj e_v13]
      refine Ex.seg 3 (pc' := 29) (lc' := [some (.ref 55), some (.int x1), some (.int x2), some (.int v13), none, none, none, none, none]) (st' := [.int x1, .ref 63]) (h' := h) (sg1 rfl rfl (sg1 rfl rfl (sg1 rfl rfl rfl))) ?_
      obtain ⟨v14, e_v14, hf⟩ := bnd hf
      refine Ex.iald e_v14 rfl rfl ?_
      refine Ex.seg 4 (pc' := 38) (lc' := [some (.ref 55), some (.int x1), some (.int x2), some (.int v13), some (.int v14), none, none, none, none]) (st' := [.int v14, .ref 10]) (h' := h) (sg1 rfl rfl (sg1 rfl rfl (sg1 rfl rfl (sg1 rfl rfl rfl)))) ?_
      obtain ⟨q15, e_q15, hf⟩ := bnd hf
      refine Ex.callV (a := 10) (As := [.int v14]) (r := []) (v := some (.int q15.1)) (h' := q15.2) rfl rfl (by decide) rfl (Nat.le_of_ble_eq_true rfl) rfl (E_45 (by omega) e_q15) rfl ?_
      refine Ex.seg 5 (pc' := 49) (lc' := [some (.ref 55), some (.int x1), some (.int x2), some (.int v13), some (.int v14), some (.int q15.1), some (.int 0), some (.int 0), none]) (st' := []) (h' := q15.2) (sg1 rfl rfl (sg1 rfl rfl (sg1 rfl rfl (sg1 rfl rfl (sg1 rfl rfl rfl))))) ?_
      exact Ex.weak (sm_le_s (sm_le_n (sm_le_s (sm_le_s (sm_le_s (sm_le_s (sm_le_s (sm_le_s (sm_le_s sm_le_nil))))))))) (B_214_49 hrec hd  hf hs)
    · rw [if_neg c0] at hf
      exact Ex.weak (sm_le_s (sm_le_n (sm_le_n (sm_le_s (sm_le_s (sm_le_s (sm_le_s (sm_le_s (sm_le_s sm_le_nil))))))))) (B_214_12 hrec hd  hf hs)
theorem E_214 {L : Nat} {xs : Nat → Int32} {d : Nat} {M : Nat} {rec : sm_H → Option (Int32 × sm_H)} (hrec : ∀ d, M ≤ d → ∀ (h : sm_H) (q : Int32 × sm_H), rec h = some q → RUN L xs d 194 [.ref 55] h (some (.int q.1), q.2)) (hd : 8 + M ≤ d) {x1 : Int32} {x2 : Int32} {h : sm_H} {r : Int32 × sm_H} (hf : F_214 rec x1 x2 h = some r) : RUN L xs d 214 [.ref 55, .int x1, .int x2] h (some (.int r.1), r.2) := by
  obtain ⟨d, rfl⟩ : ∃ e, d = e + 1 := ⟨d - 1, by omega⟩
  exact ⟨Nat.le_of_ble_eq_true rfl, B_214_0 hrec (by omega) hf rfl⟩
theorem B_74_78 {L : Nat} {xs : Nat → Int32} {d : Nat} (hd : 714 ≤ d) {res : Option Value × sm_H}   {h : sm_H} {r : (Int32 × sm_H)} (hf : F_74_78  h = some r) (hs : (fun (r : Int32 × sm_H) => res = (some (.int r.1), r.2)) r) : Ex (P_G L xs) (RUN L xs d) (sm_lk P_t74) 0 78 [some (.ref 49), none, none] [] h res := by
  unfold F_74_78 at hf
  refine Ex.seg 2 (pc' := 82) (lc' := [some (.ref 49), none, none]) (st' := [.int (h.1 49 11)]) (h' := h) (sg1 rfl rfl (sg1 rfl rfl rfl)) ?_
  obtain rfl := Option.some.inj hf
  exact Ex.iret rfl rfl (fun c0 => by cases c0) hs
theorem B_74_53 {L : Nat} {xs : Nat → Int32} {d : Nat} (hd : 714 ≤ d) {res : Option Value × sm_H} {z1 : Int32}  {h : sm_H} {r : (Int32 × sm_H)} (hf : F_74_53 z1 h = some r) (hs : (fun (r : Int32 × sm_H) => res = (some (.int r.1), r.2)) r) : Ex (P_G L xs) (RUN L xs d) (sm_lk P_t74) 0 53 [some (.ref 49), none, none] [.int z1, .ref 49] h res := by
  unfold F_74_53 at hf
  refine Ex.seg 1 (pc' := 56) (lc' := [some (.ref 49), none, none]) (st' := []) (h' := (sm_wI h 49 12 z1)) (sg1 rfl rfl rfl) ?_
  obtain ⟨h1, e_h1, hf⟩ := bnd hf
  rw [Option.some.inj e_h1]
  refine Ex.seg 2 (pc' := 60) (lc' := [some (.ref 49), none, none]) (st' := [.int (h1.1 49 11)]) (h' := h1) (sg1 rfl rfl (sg1 rfl rfl rfl)) ?_
  refine Ex.ifc rfl rfl (fun (c0 : (h1.1 49 11) = 0) => ?_) (fun (c0 : ¬ ((h1.1 49 11) = 0)) => ?_)
  · rw [if_pos c0] at hf
    exact Ex.weak (sm_le_s (sm_le_s (sm_le_s sm_le_nil))) (B_74_78 hd  hf hs)
  · rw [if_neg c0] at hf
    refine Ex.seg 3 (pc' := 68) (lc' := [some (.ref 49), none, none]) (st' := [.int 1, .int (h1.1 49 11)]) (h' := h1) (sg1 rfl rfl (sg1 rfl rfl (sg1 rfl rfl rfl))) ?_
    refine Ex.icmp rfl rfl (fun (c0 : (h1.1 49 11) = 1) => ?_) (fun (c0 : ¬ ((h1.1 49 11) = 1)) => ?_)
    · rw [if_pos c0] at hf
      exact Ex.weak (sm_le_s (sm_le_s (sm_le_s sm_le_nil))) (B_74_78 hd  hf hs)
    · rw [if_neg c0] at hf
      refine Ex.seg 3 (pc' := 74) (lc' := [some (.ref 49), none, none]) (st' := [.int 0, .long 0, .ref 49]) (h' := h1) (sg1 rfl rfl (sg1 rfl rfl (sg1 rfl rfl rfl))) ?_
      obtain ⟨q2, e_q2, hf⟩ := bnd hf
      refine Ex.callV (a := 49) (As := [.long 0, .int 0]) (r := []) (v := some (.int q2.1)) (h' := q2.2) rfl rfl (by decide) rfl (Nat.le_of_ble_eq_true rfl) rfl (E_75 (Nat.le_trans (by decide) hd) e_q2) rfl ?_
      refine Ex.seg 1 (pc' := 78) (lc' := [some (.ref 49), none, none]) (st' := []) (h' := q2.2) (sg1 rfl rfl rfl) ?_
      exact Ex.weak (sm_le_s (sm_le_s (sm_le_s sm_le_nil))) (B_74_78 hd  hf hs)
theorem B_74_0 {L : Nat} {xs : Nat → Int32} {d : Nat} (hd : 714 ≤ d) {res : Option Value × sm_H} {x1 : Int32} {x2 : Int32}  {h : sm_H} {r : (Int32 × sm_H)} (hf : F_74_0 x1 x2 h = some r) (hs : (fun (r : Int32 × sm_H) => res = (some (.int r.1), r.2)) r) : Ex (P_G L xs) (RUN L xs d) (sm_lk P_t74) 0 0 [some (.ref 49), some (.int x1), some (.int x2)] [] h res := by
  unfold F_74_0 at hf
  refine Ex.seg 3 (pc' := 5) (lc' := [some (.ref 49), some (.int x1), some (.int x2)]) (st' := []) (h' := (sm_wI h 49 7 x2)) (sg1 rfl rfl (sg1 rfl rfl (sg1 rfl rfl rfl))) ?_
  obtain ⟨h3, e_h3, hf⟩ := bnd hf
  rw [Option.some.inj e_h3]
  refine Ex.seg 3 (pc' := 10) (lc' := [some (.ref 49), some (.int x1), some (.int x2)]) (st' := []) (h' := (sm_wI h3 49 8 0)) (sg1 rfl rfl (sg1 rfl rfl (sg1 rfl rfl rfl))) ?_
  obtain ⟨h4, e_h4, hf⟩ := bnd hf
  rw [Option.some.inj e_h4]
  refine Ex.seg 4 (pc' := 14) (lc' := [some (.ref 49), some (.int x1), some (.int x2)]) (st' := [.int 0, .int x1, .ref 49, .ref 49]) (h' := h4) (sg1 rfl rfl (sg1 rfl rfl (sg1 rfl rfl (sg1 rfl rfl rfl)))) ?_
  obtain ⟨q5, e_q5, hf⟩ := bnd hf
  refine Ex.callV (a := 49) (As := [.int x1, .int 0]) (r := [.ref 49]) (v := some (.int q5.1)) (h' := q5.2) rfl rfl (by decide) rfl (Nat.le_of_ble_eq_true rfl) rfl (KE_82 102 d (Nat.le_trans (by decide) hd) _ _ _ _ e_q5) rfl ?_
  refine Ex.seg 1 (pc' := 20) (lc' := [some (.ref 49), some (.int x1), some (.int x2)]) (st' := []) (h' := (sm_wI q5.2 49 11 q5.1)) (sg1 rfl rfl rfl) ?_
  obtain ⟨h6, e_h6, hf⟩ := bnd hf
  rw [Option.some.inj e_h6]
  refine Ex.seg 3 (pc' := 25) (lc' := [some (.ref 49), some (.int x1), some (.int x2)]) (st' := [.int (h6.1 49 11), .ref 49]) (h' := h6) (sg1 rfl rfl (sg1 rfl rfl (sg1 rfl rfl rfl))) ?_
  refine Ex.ifc rfl rfl (fun (c0 : ¬ ((h6.1 49 11) = 0)) => ?_) (fun (c0 : ¬ ¬ ((h6.1 49 11) = 0)) => ?_)
  · rw [if_neg c0] at hf
    refine Ex.seg 3 (pc' := 44) (lc' := [some (.ref 49), some (.int x1), some (.int x2)]) (st' := [.int 1, .int (h6.1 49 11), .ref 49]) (h' := h6) (sg1 rfl rfl (sg1 rfl rfl (sg1 rfl rfl rfl))) ?_
    refine Ex.icmp rfl rfl (fun (c0 : ¬ ((h6.1 49 11) = 1)) => ?_) (fun (c0 : ¬ ¬ ((h6.1 49 11) = 1)) => ?_)
    · rw [if_neg c0] at hf
      refine Ex.seg 1 (pc' := 53) (lc' := [some (.ref 49), some (.int x1), some (.int x2)]) (st' := [.int 0, .ref 49]) (h' := h6) (sg1 rfl rfl rfl) ?_
      exact Ex.weak (sm_le_s (sm_le_n (sm_le_n sm_le_nil))) (B_74_53 hd  hf hs)
    · rw [if_pos (Classical.not_not.mp c0)] at hf
      refine Ex.seg 2 (pc' := 53) (lc' := [some (.ref 49), some (.int x1), some (.int x2)]) (st' := [.int 19, .ref 49]) (h' := h6) (sg1 rfl rfl (sg1 rfl rfl rfl)) ?_
      exact Ex.weak (sm_le_s (sm_le_n (sm_le_n sm_le_nil))) (B_74_53 hd  hf hs)
  · rw [if_pos (Classical.not_not.mp c0)] at hf
    refine Ex.seg 3 (pc' := 33) (lc' := [some (.ref 49), some (.int x1), some (.int x2)]) (st' := [.int x1, .ref 10, .ref 49]) (h' := h6) (sg1 rfl rfl (sg1 rfl rfl (sg1 rfl rfl rfl))) ?_
    obtain ⟨q7, e_q7, hf⟩ := bnd hf
    refine Ex.callV (a := 10) (As := [.int x1]) (r := [.ref 49]) (v := some (.int q7.1)) (h' := q7.2) rfl rfl (by decide) rfl (Nat.le_of_ble_eq_true rfl) rfl (E_44 (Nat.le_trans (by decide) hd) e_q7) rfl ?_
    refine Ex.seg 1 (pc' := 53) (lc' := [some (.ref 49), some (.int x1), some (.int x2)]) (st' := [.int q7.1, .ref 49]) (h' := q7.2) (sg1 rfl rfl rfl) ?_
    exact Ex.weak (sm_le_s (sm_le_n (sm_le_n sm_le_nil))) (B_74_53 hd  hf hs)
theorem E_74 {L : Nat} {xs : Nat → Int32} {d : Nat} (hd : 715 ≤ d) {x1 : Int32} {x2 : Int32} {h : sm_H} {r : Int32 × sm_H} (hf : F_74 x1 x2 h = some r) : RUN L xs d 74 [.ref 49, .int x1, .int x2] h (some (.int r.1), r.2) := by
  obtain ⟨d, rfl⟩ : ∃ e, d = e + 1 := ⟨d - 1, by omega⟩
  exact ⟨Nat.le_of_ble_eq_true rfl, B_74_0 (by omega) hf rfl⟩
theorem B_276_146 {L : Nat} {xs : Nat → Int32} {d : Nat} (hd : 715 ≤ d) {res : Option Value × sm_H} {y1 : Int32} {y2 : Int32}  {h : sm_H} {r : (Int32 × sm_H)} (hf : F_276_146 y1 y2 h = some r) (hs : (fun (r : Int32 × sm_H) => res = (some (.int r.1), r.2)) r) : Ex (P_G L xs) (RUN L xs d) (sm_lk P_t276) 0 146 [some (.ref 0), some (.int y1), some (.int y2), none, none] [] h res := by
  unfold F_276_146 at hf
  refine Ex.seg 4 (pc' := 152) (lc' := [some (.ref 0), some (.int y1), some (.int y2), none, none]) (st' := [.int y2, .int y1, .ref 49]) (h' := h) (sg1 rfl rfl (sg1 rfl rfl (sg1 rfl rfl (sg1 rfl rfl rfl)))) ?_
  obtain ⟨q1, e_q1, hf⟩ := bnd hf
  refine Ex.callV (a := 49) (As := [.int y1, .int y2]) (r := []) (v := some (.int q1.1)) (h' := q1.2) rfl rfl (by decide) rfl (Nat.le_of_ble_eq_true rfl) rfl (E_74 (Nat.le_trans (by decide) hd) e_q1) rfl ?_
  obtain rfl := Option.some.inj hf
  exact Ex.iret rfl rfl (fun c0 => by cases c0) hs
theorem B_276_101B {L : Nat} {xs : Nat → Int32} {d : Nat} (hd : 715 ≤ d) {res : Option Value × sm_H} {S1 : (Int32 × Int32 × Int32 × Int32 × sm_H) → Prop} (hS1 : ∀ s, S1 s → Ex (P_G L xs) (RUN L xs d) (sm_lk P_t276) 0 101 [some (.ref 0), some (.int s.1), some (.int s.2.1), some (.int s.2.2.1), some (.int s.2.2.2.1)] [] s.2.2.2.2 res) {s : (Int32 × Int32 × Int32 × Int32 × sm_H)}  {r : ((Int32 × Int32 × Int32 × Int32 × sm_H) ⊕ (Int32 × sm_H))} (hf : F_276_101B s = some r) (hs : (Sum.elim S1 (fun (r : Int32 × sm_H) => res = (some (.int r.1), r.2))) r) : Ex (P_G L xs) (RUN L xs d) (sm_lk P_t276) 0 101 [some (.ref 0), some (.int s.1), some (.int s.2.1), some (.int s.2.2.1), some (.int s.2.2.2.1)] [] s.2.2.2.2 res := by
  unfold F_276_101B at hf
  refine Ex.seg 2 (pc' := 104) (lc' := [some (.ref 0), some (.int s.1), some (.int s.2.1), some (.int s.2.2.1), some (.int s.2.2.2.1)]) (st' := [.int s.2.2.1, .int s.2.2.2.1]) (h' := s.2.2.2.2) (sg1 rfl rfl (sg1 rfl rfl rfl)) ?_
  refine Ex.icmp rfl rfl (fun (c0 : s.2.2.1 ≤ s.2.2.2.1) => ?_) (fun (c0 : ¬ (s.2.2.1 ≤ s.2.2.2.1)) => ?_)
  · rw [if_pos c0] at hf
    obtain ⟨r0, hf0, rfl⟩ := Option.map_eq_some_iff.mp hf
    exact Ex.weak (sm_le_s (sm_le_s (sm_le_s (sm_le_n (sm_le_n sm_le_nil))))) (B_276_146 hd  hf0 hs)
  · rw [if_neg c0] at hf
    refine Ex.seg 2 (pc' := 111) (lc' := [some (.ref 0), some (.int s.1), some (.int s.2.1), some (.int s.2.2.1), some (.int s.2.2.2.1)]) (st' := [.int 10, .int s.2.2.2.1]) (h' := s.2.2.2.2) (sg1 rfl rfl (sg1 rfl rfl rfl)) ?_
    refine Ex.icmp rfl rfl (fun (c0 : 10 ≤ s.2.2.2.1) => ?_) (fun (c0 : ¬ (10 ≤ s.2.2.2.1)) => ?_)
    · rw [if_pos c0] at hf
      obtain ⟨r0, hf0, rfl⟩ := Option.map_eq_some_iff.mp hf
      exact Ex.weak (sm_le_s (sm_le_s (sm_le_s (sm_le_n (sm_le_n sm_le_nil))))) (B_276_146 hd  hf0 hs)
    · rw [if_neg c0] at hf
      refine Ex.seg 7 (pc' := 127) (lc' := [some (.ref 0), some (.int s.1), some (.int s.2.1), some (.int s.2.2.1), some (.int s.2.2.2.1)]) (st' := [.int s.2.2.2.1, .int s.1, .ref 10, .int s.2.2.2.1, .ref 49]) (h' := s.2.2.2.2) (sg1 rfl rfl (sg1 rfl rfl (sg1 rfl rfl (sg1 rfl rfl (sg1 rfl rfl (sg1 rfl rfl (sg1 rfl rfl rfl))))))) ?_
      obtain ⟨q2, e_q2, hf⟩ := bnd hf
      refine Ex.callV (a := 10) (As := [.int s.1, .int s.2.2.2.1]) (r := [.int s.2.2.2.1, .ref 49]) (v := some (.int q2.1)) (h' := q2.2) rfl rfl (by decide) rfl (Nat.le_of_ble_eq_true rfl) rfl (E_46 (Nat.le_trans (by decide) hd) e_q2) rfl ?_
      refine Ex.seg 3 (pc' := 136) (lc' := [some (.ref 0), some (.int s.1), some (.int s.2.1), some (.int s.2.2.1), some (.int s.2.2.2.1)]) (st' := [.int s.2.2.2.1, .ref 66, .int q2.1, .int s.2.2.2.1, .ref 49]) (h' := q2.2) (sg1 rfl rfl (sg1 rfl rfl (sg1 rfl rfl rfl))) ?_
      obtain ⟨v3, e_v3, hf⟩ := bnd hf
      refine Ex.lald e_v3 rfl rfl ?_
      obtain ⟨q4, e_q4, hf⟩ := bnd hf
      refine Ex.callV (a := 49) (As := [.int s.2.2.2.1, .int q2.1, .long v3]) (r := []) (v := none) (h' := q4) rfl rfl (by decide) rfl (Nat.le_of_ble_eq_true rfl) rfl (E_73 (Nat.le_trans (by decide) hd) e_q4) rfl ?_
      refine Ex.seg 1 (pc' := 143) (lc' := [some (.ref 0), some (.int s.1), some (.int s.2.1), some (.int s.2.2.1), some (.int (s.2.2.2.1 + 1))]) (st' := []) (h' := q4) (sg1 rfl rfl rfl) ?_
      obtain ⟨v5, e_v5, hf⟩ := bnd hf
      rw [Option.some.inj e_v5]
      refine Ex.seg 1 (pc' := 101) (lc' := [some (.ref 0), some (.int s.1), some (.int s.2.1), some (.int s.2.2.1), some (.int v5)]) (st' := []) (h' := q4) (sg1 rfl rfl rfl) ?_
      obtain rfl := Option.some.inj hf
      exact Ex.weak (sm_le_s (sm_le_s (sm_le_s (sm_le_s (sm_le_s sm_le_nil))))) (hS1 _ hs)
theorem B_276_101 {L : Nat} {xs : Nat → Int32} {d : Nat} (hd : 715 ≤ d) {res : Option Value × sm_H} {y1 : Int32} {y2 : Int32} {y3 : Int32} {y4 : Int32}  {h : sm_H} {r : (Int32 × sm_H)} (hf : F_276_101 y1 y2 y3 y4 h = some r) (hs : (fun (r : Int32 × sm_H) => res = (some (.int r.1), r.2)) r) : Ex (P_G L xs) (RUN L xs d) (sm_lk P_t276) 0 101 [some (.ref 0), some (.int y1), some (.int y2), some (.int y3), some (.int y4)] [] h res := by
  unfold F_276_101 at hf
  exact lp_ok (P := fun (s : (Int32 × Int32 × Int32 × Int32 × sm_H)) => Ex (P_G L xs) (RUN L xs d) (sm_lk P_t276) 0 101 [some (.ref 0), some (.int s.1), some (.int s.2.1), some (.int s.2.2.1), some (.int s.2.2.2.1)] [] s.2.2.2.2 res) (S := (fun (r : Int32 × sm_H) => res = (some (.int r.1), r.2))) (fun s x hx hsx => by
    intros
    exact B_276_101B hd  (fun _ q => q) hx hsx) 1000000 _ r hf hs
theorem B_276_98 {L : Nat} {xs : Nat → Int32} {d : Nat} (hd : 715 ≤ d) {res : Option Value × sm_H} {y1 : Int32} {y2 : Int32} {y3 : Int32}  {h : sm_H} {r : (Int32 × sm_H)} (hf : F_276_98 y1 y2 y3 h = some r) (hs : (fun (r : Int32 × sm_H) => res = (some (.int r.1), r.2)) r) : Ex (P_G L xs) (RUN L xs d) (sm_lk P_t276) 0 98 [some (.ref 0), some (.int y1), some (.int y2), some (.int y3), none] [] h res := by
  unfold F_276_98 at hf
  refine Ex.seg 2 (pc' := 101) (lc' := [some (.ref 0), some (.int y1), some (.int y2), some (.int y3), some (.int 0)]) (st' := []) (h' := h) (sg1 rfl rfl (sg1 rfl rfl rfl)) ?_
  exact Ex.weak (sm_le_s (sm_le_s (sm_le_s (sm_le_s (sm_le_s sm_le_nil))))) (B_276_101 hd  hf hs)
theorem B_276_50B {L : Nat} {xs : Nat → Int32} {d : Nat} (hd : 715 ≤ d) {res : Option Value × sm_H} {S1 : (Int32 × Int32 × Int32 × Int32 × sm_H) → Prop} (hS1 : ∀ s, S1 s → Ex (P_G L xs) (RUN L xs d) (sm_lk P_t276) 0 50 [some (.ref 0), some (.int s.1), some (.int s.2.1), some (.int s.2.2.1), some (.int s.2.2.2.1)] [] s.2.2.2.2 res) {s : (Int32 × Int32 × Int32 × Int32 × sm_H)}  {r : ((Int32 × Int32 × Int32 × Int32 × sm_H) ⊕ (Int32 × sm_H))} (hf : F_276_50B s = some r) (hs : (Sum.elim S1 (fun (r : Int32 × sm_H) => res = (some (.int r.1), r.2))) r) : Ex (P_G L xs) (RUN L xs d) (sm_lk P_t276) 0 50 [some (.ref 0), some (.int s.1), some (.int s.2.1), some (.int s.2.2.1), some (.int s.2.2.2.1)] [] s.2.2.2.2 res := by
  unfold F_276_50B at hf
  refine Ex.seg 2 (pc' := 53) (lc' := [some (.ref 0), some (.int s.1), some (.int s.2.1), some (.int s.2.2.1), some (.int s.2.2.2.1)]) (st' := [.int s.2.2.1, .int s.2.2.2.1]) (h' := s.2.2.2.2) (sg1 rfl rfl (sg1 rfl rfl rfl)) ?_
  refine Ex.icmp rfl rfl (fun (c0 : s.2.2.1 ≤ s.2.2.2.1) => ?_) (fun (c0 : ¬ (s.2.2.1 ≤ s.2.2.2.1)) => ?_)
  · rw [if_pos c0] at hf
    obtain ⟨r0, hf0, rfl⟩ := Option.map_eq_some_iff.mp hf
    exact Ex.weak (sm_le_s (sm_le_s (sm_le_s (sm_le_s (sm_le_n sm_le_nil))))) (B_276_98 hd  hf0 hs)
  · rw [if_neg c0] at hf
    refine Ex.seg 2 (pc' := 60) (lc' := [some (.ref 0), some (.int s.1), some (.int s.2.1), some (.int s.2.2.1), some (.int s.2.2.2.1)]) (st' := [.int 10, .int s.2.2.2.1]) (h' := s.2.2.2.2) (sg1 rfl rfl (sg1 rfl rfl rfl)) ?_
    refine Ex.icmp rfl rfl (fun (c0 : 10 ≤ s.2.2.2.1) => ?_) (fun (c0 : ¬ (10 ≤ s.2.2.2.1)) => ?_)
    · rw [if_pos c0] at hf
      obtain ⟨r0, hf0, rfl⟩ := Option.map_eq_some_iff.mp hf
      exact Ex.weak (sm_le_s (sm_le_s (sm_le_s (sm_le_s (sm_le_n sm_le_nil))))) (B_276_98 hd  hf0 hs)
    · rw [if_neg c0] at hf
      refine Ex.seg 6 (pc' := 74) (lc' := [some (.ref 0), some (.int s.1), some (.int s.2.1), some (.int s.2.2.1), some (.int s.2.2.2.1)]) (st' := [.int s.2.2.2.1, .int s.1, .ref 10, .ref 21]) (h' := s.2.2.2.2) (sg1 rfl rfl (sg1 rfl rfl (sg1 rfl rfl (sg1 rfl rfl (sg1 rfl rfl (sg1 rfl rfl rfl)))))) ?_
      obtain ⟨q6, e_q6, hf⟩ := bnd hf
      refine Ex.callV (a := 10) (As := [.int s.1, .int s.2.2.2.1]) (r := [.ref 21]) (v := some (.int q6.1)) (h' := q6.2) rfl rfl (by decide) rfl (Nat.le_of_ble_eq_true rfl) rfl (E_46 (Nat.le_trans (by decide) hd) e_q6) rfl ?_
      refine Ex.seg 3 (pc' := 83) (lc' := [some (.ref 0), some (.int s.1), some (.int s.2.1), some (.int s.2.2.1), some (.int s.2.2.2.1)]) (st' := [.int s.2.2.2.1, .ref 66, .int q6.1, .ref 21]) (h' := q6.2) (sg1 rfl rfl (sg1 rfl rfl (sg1 rfl rfl rfl))) ?_
      obtain ⟨v7, e_v7, hf⟩ := bnd hf
      refine Ex.lald e_v7 rfl rfl ?_
      obtain ⟨q8, e_q8, hf⟩ := bnd hf
      refine Ex.callV (a := 21) (As := [.int q6.1, .long v7]) (r := []) (v := some (.int q8.1)) (h' := q8.2) rfl rfl (by decide) rfl (Nat.le_of_ble_eq_true rfl) rfl (E_152 (Nat.le_trans (by decide) hd) e_q8) rfl ?_
      refine Ex.ifc rfl rfl (fun (c0 : q8.1 = 0) => ?_) (fun (c0 : ¬ (q8.1 = 0)) => ?_)
      · rw [if_pos c0] at hf
        refine Ex.seg 1 (pc' := 95) (lc' := [some (.ref 0), some (.int s.1), some (.int s.2.1), some (.int s.2.2.1), some (.int (s.2.2.2.1 + 1))]) (st' := []) (h' := q8.2) (sg1 rfl rfl rfl) ?_
        obtain ⟨v9, e_v9, hf⟩ := bnd hf
        rw [Option.some.inj e_v9]
        refine Ex.seg 1 (pc' := 50) (lc' := [some (.ref 0), some (.int s.1), some (.int s.2.1), some (.int s.2.2.1), some (.int v9)]) (st' := []) (h' := q8.2) (sg1 rfl rfl rfl) ?_
        obtain rfl := Option.some.inj hf
        exact Ex.weak (sm_le_s (sm_le_s (sm_le_s (sm_le_s (sm_le_s sm_le_nil))))) (hS1 _ hs)
      · rw [if_neg c0] at hf
        refine Ex.seg 1 (pc' := 91) (lc' := [some (.ref 0), some (.int s.1), some (.int s.2.1), some (.int s.2.2.1), some (.int s.2.2.2.1)]) (st' := [.int (-1)]) (h' := q8.2) (sg1 rfl rfl rfl) ?_
        obtain rfl := Option.some.inj hf
        exact Ex.iret rfl rfl (fun c0 => by cases c0) hs
theorem B_276_50 {L : Nat} {xs : Nat → Int32} {d : Nat} (hd : 715 ≤ d) {res : Option Value × sm_H} {y1 : Int32} {y2 : Int32} {y3 : Int32} {y4 : Int32}  {h : sm_H} {r : (Int32 × sm_H)} (hf : F_276_50 y1 y2 y3 y4 h = some r) (hs : (fun (r : Int32 × sm_H) => res = (some (.int r.1), r.2)) r) : Ex (P_G L xs) (RUN L xs d) (sm_lk P_t276) 0 50 [some (.ref 0), some (.int y1), some (.int y2), some (.int y3), some (.int y4)] [] h res := by
  unfold F_276_50 at hf
  exact lp_ok (P := fun (s : (Int32 × Int32 × Int32 × Int32 × sm_H)) => Ex (P_G L xs) (RUN L xs d) (sm_lk P_t276) 0 50 [some (.ref 0), some (.int s.1), some (.int s.2.1), some (.int s.2.2.1), some (.int s.2.2.2.1)] [] s.2.2.2.2 res) (S := (fun (r : Int32 × sm_H) => res = (some (.int r.1), r.2))) (fun s x hx hsx => by
    intros
    exact B_276_50B hd  (fun _ q => q) hx hsx) 1000000 _ r hf hs
theorem B_276_45 {L : Nat} {xs : Nat → Int32} {d : Nat} (hd : 715 ≤ d) {res : Option Value × sm_H}   {h : sm_H} {r : (Int32 × sm_H)} (hf : F_276_45  h = some r) (hs : (fun (r : Int32 × sm_H) => res = (some (.int r.1), r.2)) r) : Ex (P_G L xs) (RUN L xs d) (sm_lk P_t276) 0 45 [none, none, none, none, none] [] h res := by
  unfold F_276_45 at hf
  refine Ex.seg 1 (pc' := 46) (lc' := [none, none, none, none, none]) (st' := [.int (-1)]) (h' := h) (sg1 rfl rfl rfl) ?_
  obtain rfl := Option.some.inj hf
  exact Ex.iret rfl rfl (fun c0 => by cases c0) hs
theorem B_276_0 {L : Nat} {xs : Nat → Int32} {d : Nat} (hd : 715 ≤ d) {res : Option Value × sm_H} {x1 : Int32} {x2 : Int32}  {h : sm_H} {r : (Int32 × sm_H)} (hf : F_276_0 x1 x2 h = some r) (hs : (fun (r : Int32 × sm_H) => res = (some (.int r.1), r.2)) r) : Ex (P_G L xs) (RUN L xs d) (sm_lk P_t276) 0 0 [some (.ref 0), some (.int x1), some (.int x2), none, none] [] h res := by
  unfold F_276_0 at hf
  refine Ex.seg 3 (pc' := 5) (lc' := [some (.ref 0), some (.int x1), some (.int x2), some (.int (h.1 0 11)), none]) (st' := []) (h' := h) (sg1 rfl rfl (sg1 rfl rfl (sg1 rfl rfl rfl))) ?_
  obtain ⟨v10, e_v10, hf⟩ := bnd hf
  rw [Option.some.inj e_v10]
  refine Ex.seg 3 (pc' := 10) (lc' := [some (.ref 0), some (.int x1), some (.int x2), some (.int v10), none]) (st' := []) (h' := (sm_wI h 0 11 0)) (sg1 rfl rfl (sg1 rfl rfl (sg1 rfl rfl rfl))) ?_
  obtain ⟨h11, e_h11, hf⟩ := bnd hf
  rw [Option.some.inj e_h11]
  refine Ex.seg 3 (pc' := 15) (lc' := [some (.ref 0), some (.int x1), some (.int x2), some (.int v10), none]) (st' := [.int x1, .ref 10]) (h' := h11) (sg1 rfl rfl (sg1 rfl rfl (sg1 rfl rfl rfl))) ?_
  obtain ⟨q12, e_q12, hf⟩ := bnd hf
  refine Ex.callV (a := 10) (As := [.int x1]) (r := []) (v := some (.int q12.1)) (h' := q12.2) rfl rfl (by decide) rfl (Nat.le_of_ble_eq_true rfl) rfl (E_36 (Nat.le_trans (by decide) hd) e_q12) rfl ?_
  refine Ex.ifc rfl rfl (fun (c0 : q12.1 = 0) => ?_) (fun (c0 : ¬ (q12.1 = 0)) => ?_)
  · rw [if_pos c0] at hf
    exact Ex.weak (sm_le_n (sm_le_n (sm_le_n (sm_le_n (sm_le_s sm_le_nil))))) (B_276_45 hd  hf hs)
  · rw [if_neg c0] at hf
    refine Ex.seg 2 (pc' := 23) (lc' := [some (.ref 0), some (.int x1), some (.int x2), some (.int v10), none]) (st' := [.int 1, .int x2]) (h' := q12.2) (sg1 rfl rfl (sg1 rfl rfl rfl)) ?_
    refine Ex.icmp rfl rfl (fun (c0 : x2 < 1) => ?_) (fun (c0 : ¬ (x2 < 1)) => ?_)
    · rw [if_pos c0] at hf
      exact Ex.weak (sm_le_n (sm_le_n (sm_le_n (sm_le_n (sm_le_s sm_le_nil))))) (B_276_45 hd  hf hs)
    · rw [if_neg c0] at hf
      refine Ex.seg 2 (pc' := 30) (lc' := [some (.ref 0), some (.int x1), some (.int x2), some (.int v10), none]) (st' := [.int 10000, .int x2]) (h' := q12.2) (sg1 rfl rfl (sg1 rfl rfl rfl)) ?_
      refine Ex.icmp rfl rfl (fun (c0 : 10000 < x2) => ?_) (fun (c0 : ¬ (10000 < x2)) => ?_)
      · rw [if_pos c0] at hf
        exact Ex.weak (sm_le_n (sm_le_n (sm_le_n (sm_le_n (sm_le_s sm_le_nil))))) (B_276_45 hd  hf hs)
      · rw [if_neg c0] at hf
        refine Ex.seg 3 (pc' := 38) (lc' := [some (.ref 0), some (.int x1), some (.int x2), some (.int v10), none]) (st' := [.int x1, .ref 10]) (h' := q12.2) (sg1 rfl rfl (sg1 rfl rfl (sg1 rfl rfl rfl))) ?_
        obtain ⟨q13, e_q13, hf⟩ := bnd hf
        refine Ex.callV (a := 10) (As := [.int x1]) (r := []) (v := some (.int q13.1)) (h' := q13.2) rfl rfl (by decide) rfl (Nat.le_of_ble_eq_true rfl) rfl (E_45 (Nat.le_trans (by decide) hd) e_q13) rfl ?_
        refine Ex.seg 1 (pc' := 42) (lc' := [some (.ref 0), some (.int x1), some (.int x2), some (.int v10), none]) (st' := [.int v10, .int q13.1]) (h' := q13.2) (sg1 rfl rfl rfl) ?_
        refine Ex.icmp rfl rfl (fun (c0 : q13.1 = v10) => ?_) (fun (c0 : ¬ (q13.1 = v10)) => ?_)
        · rw [if_pos c0] at hf
          refine Ex.seg 2 (pc' := 50) (lc' := [some (.ref 0), some (.int x1), some (.int x2), some (.int v10), some (.int 0)]) (st' := []) (h' := q13.2) (sg1 rfl rfl (sg1 rfl rfl rfl)) ?_
          exact Ex.weak (sm_le_s (sm_le_s (sm_le_s (sm_le_s (sm_le_s sm_le_nil))))) (B_276_50 hd  hf hs)
        · rw [if_neg c0] at hf
          exact Ex.weak (sm_le_n (sm_le_n (sm_le_n (sm_le_n (sm_le_s sm_le_nil))))) (B_276_45 hd  hf hs)
theorem E_276 {L : Nat} {xs : Nat → Int32} {d : Nat} (hd : 716 ≤ d) {x1 : Int32} {x2 : Int32} {h : sm_H} {r : Int32 × sm_H} (hf : F_276 x1 x2 h = some r) : RUN L xs d 276 [.ref 0, .int x1, .int x2] h (some (.int r.1), r.2) := by
  obtain ⟨d, rfl⟩ : ∃ e, d = e + 1 := ⟨d - 1, by omega⟩
  exact ⟨Nat.le_of_ble_eq_true rfl, B_276_0 (by omega) hf rfl⟩
theorem B_200_119 {L : Nat} {xs : Nat → Int32} {d : Nat} {M : Nat} {rec : sm_H → Option (Int32 × sm_H)} (hrec : ∀ d, M ≤ d → ∀ (h : sm_H) (q : Int32 × sm_H), rec h = some q → RUN L xs d 194 [.ref 55] h (some (.int q.1), q.2)) (hd : 8 + M ≤ d) {res : Option Value × sm_H} {z0 : Int32}  {h : sm_H} {r : (Int32 × sm_H)} (hf : F_200_119 rec z0 h = some r) (hs : (fun (r : Int32 × sm_H) => res = (some (.int r.1), r.2)) r) : Ex (P_G L xs) (RUN L xs d) (sm_lk P_t200) 0 119 [none, none, none, none, none, none] [.int z0] h res := by
  unfold F_200_119 at hf
  obtain rfl := Option.some.inj hf
  exact Ex.iret rfl rfl (fun c0 => by cases c0) hs
theorem B_200_73 {L : Nat} {xs : Nat → Int32} {d : Nat} {M : Nat} {rec : sm_H → Option (Int32 × sm_H)} (hrec : ∀ d, M ≤ d → ∀ (h : sm_H) (q : Int32 × sm_H), rec h = some q → RUN L xs d 194 [.ref 55] h (some (.int q.1), q.2)) (hd : 8 + M ≤ d) {res : Option Value × sm_H}   {h : sm_H} {r : (Int32 × sm_H)} (hf : F_200_73 rec  h = some r) (hs : (fun (r : Int32 × sm_H) => res = (some (.int r.1), r.2)) r) : Ex (P_G L xs) (RUN L xs d) (sm_lk P_t200) 0 73 [none, none, none, none, none, none] [] h res := by
  unfold F_200_73 at hf
  refine Ex.seg 1 (pc' := 74) (lc' := [none, none, none, none, none, none]) (st' := [.int (-1)]) (h' := h) (sg1 rfl rfl rfl) ?_
  obtain rfl := Option.some.inj hf
  exact Ex.iret rfl rfl (fun c0 => by cases c0) hs
theorem B_200_52 {L : Nat} {xs : Nat → Int32} {d : Nat} {M : Nat} {rec : sm_H → Option (Int32 × sm_H)} (hrec : ∀ d, M ≤ d → ∀ (h : sm_H) (q : Int32 × sm_H), rec h = some q → RUN L xs d 194 [.ref 55] h (some (.int q.1), q.2)) (hd : 8 + M ≤ d) {res : Option Value × sm_H}   {h : sm_H} {r : (Int32 × sm_H)} (hf : F_200_52 rec  h = some r) (hs : (fun (r : Int32 × sm_H) => res = (some (.int r.1), r.2)) r) : Ex (P_G L xs) (RUN L xs d) (sm_lk P_t200) 0 52 [none, none, none, none, none, none] [] h res := by
  unfold F_200_52 at hf
  refine Ex.seg 1 (pc' := 53) (lc' := [none, none, none, none, none, none]) (st' := [.int (-1)]) (h' := h) (sg1 rfl rfl rfl) ?_
  obtain rfl := Option.some.inj hf
  exact Ex.iret rfl rfl (fun c0 => by cases c0) hs
theorem B_200_34 {L : Nat} {xs : Nat → Int32} {d : Nat} {M : Nat} {rec : sm_H → Option (Int32 × sm_H)} (hrec : ∀ d, M ≤ d → ∀ (h : sm_H) (q : Int32 × sm_H), rec h = some q → RUN L xs d 194 [.ref 55] h (some (.int q.1), q.2)) (hd : 8 + M ≤ d) {res : Option Value × sm_H} {y1 : Int32} {y3 : Int32} {y4 : Int32} {y5 : Int32}  {h : sm_H} {r : (Int32 × sm_H)} (hf : F_200_34 rec y1 y3 y4 y5 h = some r) (hs : (fun (r : Int32 × sm_H) => res = (some (.int r.1), r.2)) r) : Ex (P_G L xs) (RUN L xs d) (sm_lk P_t200) 0 34 [some (.ref 55), some (.int y1), none, some (.int y3), some (.int y4), some (.int y5)] [] h res := by
  unfold F_200_34 at hf
  refine Ex.seg 2 (pc' := 37) (lc' := [some (.ref 55), some (.int y1), none, some (.int y3), some (.int y4), some (.int y5)]) (st' := [.int (-1), .int y5]) (h' := h) (sg1 rfl rfl (sg1 rfl rfl rfl)) ?_
  refine Ex.icmp rfl rfl (fun (c0 : y5 = (-1)) => ?_) (fun (c0 : ¬ (y5 = (-1))) => ?_)
  · rw [if_pos c0] at hf
    exact Ex.weak (sm_le_n (sm_le_n (sm_le_s (sm_le_n (sm_le_n (sm_le_n sm_le_nil)))))) (B_200_52 hrec hd  hf hs)
  · rw [if_neg c0] at hf
    refine Ex.seg 1 (pc' := 41) (lc' := [some (.ref 55), some (.int y1), none, some (.int y3), some (.int y4), some (.int y5)]) (st' := [.int y1]) (h' := h) (sg1 rfl rfl rfl) ?_
    refine Ex.ifc rfl rfl (fun (c0 : y1 < 0) => ?_) (fun (c0 : ¬ (y1 < 0)) => ?_)
    · rw [if_pos c0] at hf
      exact Ex.weak (sm_le_n (sm_le_n (sm_le_s (sm_le_n (sm_le_n (sm_le_n sm_le_nil)))))) (B_200_52 hrec hd  hf hs)
    · rw [if_neg c0] at hf
      refine Ex.seg 2 (pc' := 48) (lc' := [some (.ref 55), some (.int y1), none, some (.int y3), some (.int y4), some (.int y5)]) (st' := [.ref 1000003, .int y1]) (h' := h) (sg1 rfl rfl (sg1 rfl rfl rfl)) ?_
      obtain ⟨v1, e_v1, hf⟩ := bnd hf
      refine Ex.alen e_v1 rfl rfl ?_
      refine Ex.icmp rfl rfl (fun (c0 : y1 < v1) => ?_) (fun (c0 : ¬ (y1 < v1)) => ?_)
      · rw [if_pos c0] at hf
        refine Ex.seg 3 (pc' := 59) (lc' := [some (.ref 55), some (.int y1), none, some (.int y3), some (.int y4), some (.int y5)]) (st' := [.int y1, .ref 1000003, .ref 55]) (h' := h) (sg1 rfl rfl (sg1 rfl rfl (sg1 rfl rfl rfl))) ?_
        obtain ⟨v2, e_v2, hf⟩ := bnd hf
        refine Ex.iald e_v2 rfl rfl ?_
        obtain ⟨q3, e_q3, hf⟩ := bnd hf
        refine Ex.callV (a := 55) (As := [.int v2]) (r := []) (v := some (.int q3.1)) (h' := q3.2) rfl rfl (by decide) rfl (Nat.le_of_ble_eq_true rfl) rfl (E_199 hrec (by omega) e_q3) rfl ?_
        refine Ex.ifc rfl rfl (fun (c0 : q3.1 = 0) => ?_) (fun (c0 : ¬ (q3.1 = 0)) => ?_)
        · rw [if_pos c0] at hf
          exact Ex.weak (sm_le_n (sm_le_n (sm_le_s (sm_le_n (sm_le_n (sm_le_n sm_le_nil)))))) (B_200_73 hrec hd  hf hs)
        · rw [if_neg c0] at hf
          refine Ex.seg 1 (pc' := 67) (lc' := [some (.ref 55), some (.int y1), none, some (.int y3), some (.int y4), some (.int y5)]) (st' := [.ref 55]) (h' := q3.2) (sg1 rfl rfl rfl) ?_
          obtain ⟨q4, e_q4, hf⟩ := bnd hf
          refine Ex.callV (a := 55) (As := []) (r := []) (v := some (.int q4.1)) (h' := q4.2) rfl rfl (by decide) rfl (Nat.le_of_ble_eq_true rfl) rfl (E_175 (by omega) e_q4) rfl ?_
          refine Ex.ifc rfl rfl (fun (c0 : ¬ (q4.1 = 0)) => ?_) (fun (c0 : ¬ ¬ (q4.1 = 0)) => ?_)
          · rw [if_neg c0] at hf
            refine Ex.seg 4 (pc' := 81) (lc' := [some (.ref 55), some (.int y1), none, some (.int y3), some (.int y4), some (.int y5)]) (st' := [.int y4, .int y5, .int y1, .ref 55]) (h' := q4.2) (sg1 rfl rfl (sg1 rfl rfl (sg1 rfl rfl (sg1 rfl rfl rfl)))) ?_
            obtain ⟨q5, e_q5, hf⟩ := bnd hf
            refine Ex.callV (a := 55) (As := [.int y1, .int y5, .int y4]) (r := []) (v := some (.int q5.1)) (h' := q5.2) rfl rfl (by decide) rfl (Nat.le_of_ble_eq_true rfl) rfl (E_203 (by omega) e_q5) rfl ?_
            refine Ex.ifc rfl rfl (fun (c0 : ¬ (q5.1 = 0)) => ?_) (fun (c0 : ¬ ¬ (q5.1 = 0)) => ?_)
            · rw [if_neg c0] at hf
              refine Ex.seg 1 (pc' := 96) (lc' := [some (.ref 55), some (.int y1), none, some (.int y3), some (.int y4), some (.int y5)]) (st' := [.int y1]) (h' := q5.2) (sg1 rfl rfl rfl) ?_
              refine Ex.ifc rfl rfl (fun (c0 : ¬ (y1 = 0)) => ?_) (fun (c0 : ¬ ¬ (y1 = 0)) => ?_)
              · rw [if_neg c0] at hf
                refine Ex.seg 5 (pc' := 116) (lc' := [some (.ref 55), some (.int y1), none, some (.int y3), some (.int y4), some (.int y5)]) (st' := [.int y3, .int y4, .int y5, .int y1, .ref 55]) (h' := q5.2) (sg1 rfl rfl (sg1 rfl rfl (sg1 rfl rfl (sg1 rfl rfl (sg1 rfl rfl rfl))))) ?_
                obtain ⟨q6, e_q6, hf⟩ := bnd hf
                refine Ex.callV (a := 55) (As := [.int y1, .int y5, .int y4, .int y3]) (r := []) (v := some (.int q6.1)) (h' := q6.2) rfl rfl (by decide) rfl (Nat.le_of_ble_eq_true rfl) rfl (E_202 (by omega) e_q6) rfl ?_
                exact Ex.weak (sm_le_n (sm_le_n (sm_le_s (sm_le_n (sm_le_n (sm_le_n sm_le_nil)))))) (B_200_119 hrec hd  hf hs)
              · rw [if_pos (Classical.not_not.mp c0)] at hf
                refine Ex.seg 3 (pc' := 103) (lc' := [some (.ref 55), some (.int y1), none, some (.int y3), some (.int y4), some (.int y5)]) (st' := [.int y3, .int y4, .ref 55]) (h' := q5.2) (sg1 rfl rfl (sg1 rfl rfl (sg1 rfl rfl rfl))) ?_
                obtain ⟨q7, e_q7, hf⟩ := bnd hf
                refine Ex.callV (a := 55) (As := [.int y4, .int y3]) (r := []) (v := some (.int q7.1)) (h' := q7.2) rfl rfl (by decide) rfl (Nat.le_of_ble_eq_true rfl) rfl (E_205 (by omega) e_q7) rfl ?_
                refine Ex.seg 1 (pc' := 119) (lc' := [some (.ref 55), some (.int y1), none, some (.int y3), some (.int y4), some (.int y5)]) (st' := [.int q7.1]) (h' := q7.2) (sg1 rfl rfl rfl) ?_
                exact Ex.weak (sm_le_n (sm_le_n (sm_le_s (sm_le_n (sm_le_n (sm_le_n sm_le_nil)))))) (B_200_119 hrec hd  hf hs)
            · rw [if_pos (Classical.not_not.mp c0)] at hf
              refine Ex.seg 3 (pc' := 91) (lc' := [some (.ref 55), some (.int y1), none, some (.int y3), some (.int y4), some (.int y5)]) (st' := [.int y3, .int 7, .ref 55]) (h' := q5.2) (sg1 rfl rfl (sg1 rfl rfl (sg1 rfl rfl rfl))) ?_
              obtain ⟨q8, e_q8, hf⟩ := bnd hf
              refine Ex.callV (a := 55) (As := [.int 7, .int y3]) (r := []) (v := some (.int q8.1)) (h' := q8.2) rfl rfl (by decide) rfl (Nat.le_of_ble_eq_true rfl) rfl (E_169 (by omega) e_q8) rfl ?_
              obtain rfl := Option.some.inj hf
              exact Ex.iret rfl rfl (fun c0 => by cases c0) hs
          · rw [if_pos (Classical.not_not.mp c0)] at hf
            exact Ex.weak (sm_le_n (sm_le_n (sm_le_s (sm_le_n (sm_le_n (sm_le_n sm_le_nil)))))) (B_200_73 hrec hd  hf hs)
      · rw [if_neg c0] at hf
        exact Ex.weak (sm_le_n (sm_le_n (sm_le_s (sm_le_n (sm_le_n (sm_le_n sm_le_nil)))))) (B_200_52 hrec hd  hf hs)
theorem B_200_29 {L : Nat} {xs : Nat → Int32} {d : Nat} {M : Nat} {rec : sm_H → Option (Int32 × sm_H)} (hrec : ∀ d, M ≤ d → ∀ (h : sm_H) (q : Int32 × sm_H), rec h = some q → RUN L xs d 194 [.ref 55] h (some (.int q.1), q.2)) (hd : 8 + M ≤ d) {res : Option Value × sm_H} {y1 : Int32} {y3 : Int32} {y4 : Int32} {z1 : Int32}  {h : sm_H} {r : (Int32 × sm_H)} (hf : F_200_29 rec y1 y3 y4 z1 h = some r) (hs : (fun (r : Int32 × sm_H) => res = (some (.int r.1), r.2)) r) : Ex (P_G L xs) (RUN L xs d) (sm_lk P_t200) 0 29 [some (.ref 55), some (.int y1), none, some (.int y3), some (.int y4), none] [.int z1, .ref 55] h res := by
  unfold F_200_29 at hf
  obtain ⟨q9, e_q9, hf⟩ := bnd hf
  refine Ex.callV (a := 55) (As := [.int z1]) (r := []) (v := some (.int q9.1)) (h' := q9.2) rfl rfl (by decide) rfl (Nat.le_of_ble_eq_true rfl) rfl (E_176 (by omega) e_q9) rfl ?_
  refine Ex.seg 1 (pc' := 34) (lc' := [some (.ref 55), some (.int y1), none, some (.int y3), some (.int y4), some (.int q9.1)]) (st' := []) (h' := q9.2) (sg1 rfl rfl rfl) ?_
  exact Ex.weak (sm_le_s (sm_le_s (sm_le_s (sm_le_s (sm_le_s (sm_le_s sm_le_nil)))))) (B_200_34 hrec hd  hf hs)
theorem B_200_0 {L : Nat} {xs : Nat → Int32} {d : Nat} {M : Nat} {rec : sm_H → Option (Int32 × sm_H)} (hrec : ∀ d, M ≤ d → ∀ (h : sm_H) (q : Int32 × sm_H), rec h = some q → RUN L xs d 194 [.ref 55] h (some (.int q.1), q.2)) (hd : 8 + M ≤ d) {res : Option Value × sm_H} {x1 : Int32} {x2 : Int32} {x3 : Int32}  {h : sm_H} {r : (Int32 × sm_H)} (hf : F_200_0 rec x1 x2 x3 h = some r) (hs : (fun (r : Int32 × sm_H) => res = (some (.int r.1), r.2)) r) : Ex (P_G L xs) (RUN L xs d) (sm_lk P_t200) 0 0 [some (.ref 55), some (.int x1), some (.int x2), some (.int x3), none, none] [] h res := by
  unfold F_200_0 at hf
  refine Ex.seg 3 (pc' := 6) (lc' := [some (.ref 55), some (.int x1), some (.int x2), some (.int x3), some (.int (h.1 55 12)), none]) (st' := []) (h' := h) (sg1 rfl rfl (sg1 rfl rfl (sg1 rfl rfl rfl))) ?_
  obtain ⟨v10, e_v10, hf⟩ := bnd hf
  rw [Option.some.inj e_v10]
  refine Ex.seg 4 (pc' := 11) (lc' := [some (.ref 55), some (.int x1), some (.int x2), some (.int x3), some (.int v10), some (.int x2)]) (st' := [.int x1, .ref 55]) (h' := h) (sg1 rfl rfl (sg1 rfl rfl (sg1 rfl rfl (sg1 rfl rfl rfl)))) ?_
  obtain ⟨q11, e_q11, hf⟩ := bnd hf
  refine Ex.callV (a := 55) (As := [.int x1]) (r := []) (v := some (.int q11.1)) (h' := q11.2) rfl rfl (by decide) rfl (Nat.le_of_ble_eq_true rfl) rfl (E_201 (by omega) e_q11) rfl ?_
  refine Ex.ifc rfl rfl (fun (c0 : q11.1 = 0) => ?_) (fun (c0 : ¬ (q11.1 = 0)) => ?_)
  · rw [if_pos c0] at hf
    exact Ex.weak (sm_le_s (sm_le_s (sm_le_n (sm_le_s (sm_le_s (sm_le_s sm_le_nil)))))) (B_200_34 hrec hd  hf hs)
  · rw [if_neg c0] at hf
    refine Ex.seg 3 (pc' := 21) (lc' := [some (.ref 55), some (.int x1), some (.int x2), some (.int x3), some (.int v10), some (.int x2)]) (st' := [.int 14, .int x1, .ref 55]) (h' := q11.2) (sg1 rfl rfl (sg1 rfl rfl (sg1 rfl rfl rfl))) ?_
    refine Ex.icmp rfl rfl (fun (c0 : ¬ (x1 = 14)) => ?_) (fun (c0 : ¬ ¬ (x1 = 14)) => ?_)
    · rw [if_neg c0] at hf
      refine Ex.seg 1 (pc' := 29) (lc' := [some (.ref 55), some (.int x1), some (.int x2), some (.int x3), some (.int v10), some (.int x2)]) (st' := [.int 0, .ref 55]) (h' := q11.2) (sg1 rfl rfl rfl) ?_
      exact Ex.weak (sm_le_s (sm_le_s (sm_le_n (sm_le_s (sm_le_s (sm_le_n sm_le_nil)))))) (B_200_29 hrec hd  hf hs)
    · rw [if_pos (Classical.not_not.mp c0)] at hf
      refine Ex.seg 2 (pc' := 29) (lc' := [some (.ref 55), some (.int x1), some (.int x2), some (.int x3), some (.int v10), some (.int x2)]) (st' := [.int 1, .ref 55]) (h' := q11.2) (sg1 rfl rfl (sg1 rfl rfl rfl)) ?_
      exact Ex.weak (sm_le_s (sm_le_s (sm_le_n (sm_le_s (sm_le_s (sm_le_n sm_le_nil)))))) (B_200_29 hrec hd  hf hs)
theorem E_200 {L : Nat} {xs : Nat → Int32} {d : Nat} {M : Nat} {rec : sm_H → Option (Int32 × sm_H)} (hrec : ∀ d, M ≤ d → ∀ (h : sm_H) (q : Int32 × sm_H), rec h = some q → RUN L xs d 194 [.ref 55] h (some (.int q.1), q.2)) (hd : 9 + M ≤ d) {x1 : Int32} {x2 : Int32} {x3 : Int32} {h : sm_H} {r : Int32 × sm_H} (hf : F_200 rec x1 x2 x3 h = some r) : RUN L xs d 200 [.ref 55, .int x1, .int x2, .int x3] h (some (.int r.1), r.2) := by
  obtain ⟨d, rfl⟩ : ∃ e, d = e + 1 := ⟨d - 1, by omega⟩
  exact ⟨Nat.le_of_ble_eq_true rfl, B_200_0 hrec (by omega) hf rfl⟩
theorem B_198_75 {L : Nat} {xs : Nat → Int32} {d : Nat} {M : Nat} {rec : sm_H → Option (Int32 × sm_H)} (hrec : ∀ d, M ≤ d → ∀ (h : sm_H) (q : Int32 × sm_H), rec h = some q → RUN L xs d 194 [.ref 55] h (some (.int q.1), q.2)) (hd : 9 + M ≤ d) {res : Option Value × sm_H} {y1 : Int32} {y2 : Int32}  {h : sm_H} {r : (Int32 × sm_H)} (hf : F_198_75 rec y1 y2 h = some r) (hs : (fun (r : Int32 × sm_H) => res = (some (.int r.1), r.2)) r) : Ex (P_G L xs) (RUN L xs d) (sm_lk P_t198) 0 75 [some (.ref 55), some (.int y1), some (.int y2)] [] h res := by
  unfold F_198_75 at hf
  refine Ex.seg 4 (pc' := 79) (lc' := [some (.ref 55), some (.int y1), some (.int y2)]) (st' := [.int y1, .int 0, .int y2, .ref 55]) (h' := h) (sg1 rfl rfl (sg1 rfl rfl (sg1 rfl rfl (sg1 rfl rfl rfl)))) ?_
  obtain ⟨q1, e_q1, hf⟩ := bnd hf
  refine Ex.callV (a := 55) (As := [.int y2, .int 0, .int y1]) (r := []) (v := some (.int q1.1)) (h' := q1.2) rfl rfl (by decide) rfl (Nat.le_of_ble_eq_true rfl) rfl (E_200 hrec (by omega) e_q1) rfl ?_
  obtain rfl := Option.some.inj hf
  exact Ex.iret rfl rfl (fun c0 => by cases c0) hs
theorem B_198_0 {L : Nat} {xs : Nat → Int32} {d : Nat} {M : Nat} {rec : sm_H → Option (Int32 × sm_H)} (hrec : ∀ d, M ≤ d → ∀ (h : sm_H) (q : Int32 × sm_H), rec h = some q → RUN L xs d 194 [.ref 55] h (some (.int q.1), q.2)) (hd : 9 + M ≤ d) {res : Option Value × sm_H} {x1 : Int32} {x2 : Int32}  {h : sm_H} {r : (Int32 × sm_H)} (hf : F_198_0 rec x1 x2 h = some r) (hs : (fun (r : Int32 × sm_H) => res = (some (.int r.1), r.2)) r) : Ex (P_G L xs) (RUN L xs d) (sm_lk P_t198) 0 0 [some (.ref 55), some (.int x1), some (.int x2)] [] h res := by
  unfold F_198_0 at hf
  refine Ex.seg 1 (pc' := 1) (lc' := [some (.ref 55), some (.int x1), some (.int x2)]) (st' := [.int x2]) (h' := h) (sg1 rfl rfl rfl) ?_
  rcases Classical.em (x2 = (-1)) with n1 | n1
  · rw [if_pos n1] at hf
    refine Ex.swt (t := 40) rfl rfl (by rw [n1]; exact Or.inr ⟨by decide, by decide, _, rfl, by decide⟩) ?_
    refine Ex.seg 4 (pc' := 46) (lc' := [some (.ref 55), some (.int x1), some (.int x2)]) (st' := [.ref 52, .ref 55, .ref 55]) (h' := h) (sg1 rfl rfl (sg1 rfl rfl (sg1 rfl rfl (sg1 rfl rfl rfl)))) ?_
    obtain ⟨q2, e_q2, hf⟩ := bnd hf
    refine Ex.callV (a := 52) (As := []) (r := [.ref 55, .ref 55]) (v := some (.long q2.1)) (h' := q2.2) rfl rfl (by decide) rfl (Nat.le_of_ble_eq_true rfl) rfl (E_248 (by omega) e_q2) rfl ?_
    obtain ⟨q3, e_q3, hf⟩ := bnd hf
    refine Ex.callV (a := 55) (As := [.long q2.1]) (r := [.ref 55]) (v := some (.int q3.1)) (h' := q3.2) rfl rfl (by decide) rfl (Nat.le_of_ble_eq_true rfl) rfl (E_166 (by omega) e_q3) rfl ?_
    refine Ex.seg 1 (pc' := 53) (lc' := [some (.ref 55), some (.int x1), some (.int x2)]) (st' := [.int x1, .int q3.1, .ref 55]) (h' := q3.2) (sg1 rfl rfl rfl) ?_
    obtain ⟨q4, e_q4, hf⟩ := bnd hf
    refine Ex.callV (a := 55) (As := [.int q3.1, .int x1]) (r := []) (v := some (.int q4.1)) (h' := q4.2) rfl rfl (by decide) rfl (Nat.le_of_ble_eq_true rfl) rfl (E_214 hrec (by omega) e_q4) rfl ?_
    obtain rfl := Option.some.inj hf
    exact Ex.iret rfl rfl (fun c0 => by cases c0) hs
  rw [if_neg n1] at hf
  rcases Classical.em (x2 = 1) with n2 | n2
  · rw [if_pos n2] at hf
    refine Ex.swt (t := 57) rfl rfl (by rw [n2]; exact Or.inr ⟨by decide, by decide, _, rfl, by decide⟩) ?_
    refine Ex.seg 2 (pc' := 59) (lc' := [some (.ref 55), some (.int x1), some (.int x2)]) (st' := [.int x1, .ref 55]) (h' := h) (sg1 rfl rfl (sg1 rfl rfl rfl)) ?_
    obtain ⟨q5, e_q5, hf⟩ := bnd hf
    refine Ex.callV (a := 55) (As := [.int x1]) (r := []) (v := some (.int q5.1)) (h' := q5.2) rfl rfl (by decide) rfl (Nat.le_of_ble_eq_true rfl) rfl (E_209 hrec (by omega) e_q5) rfl ?_
    obtain rfl := Option.some.inj hf
    exact Ex.iret rfl rfl (fun c0 => by cases c0) hs
  rw [if_neg n2] at hf
  rcases Classical.em (x2 = 3) with n3 | n3
  · rw [if_pos n3] at hf
    refine Ex.swt (t := 63) rfl rfl (by rw [n3]; exact Or.inr ⟨by decide, by decide, _, rfl, by decide⟩) ?_
    refine Ex.seg 2 (pc' := 65) (lc' := [some (.ref 55), some (.int x1), some (.int x2)]) (st' := [.int x1, .ref 55]) (h' := h) (sg1 rfl rfl (sg1 rfl rfl rfl)) ?_
    obtain ⟨q6, e_q6, hf⟩ := bnd hf
    refine Ex.callV (a := 55) (As := [.int x1]) (r := []) (v := some (.int q6.1)) (h' := q6.2) rfl rfl (by decide) rfl (Nat.le_of_ble_eq_true rfl) rfl (E_211 hrec (by omega) e_q6) rfl ?_
    obtain rfl := Option.some.inj hf
    exact Ex.iret rfl rfl (fun c0 => by cases c0) hs
  rw [if_neg n3] at hf
  rcases Classical.em (x2 = 4) with n4 | n4
  · rw [if_pos n4] at hf
    refine Ex.swt (t := 69) rfl rfl (by rw [n4]; exact Or.inr ⟨by decide, by decide, _, rfl, by decide⟩) ?_
    refine Ex.seg 2 (pc' := 71) (lc' := [some (.ref 55), some (.int x1), some (.int x2)]) (st' := [.int x1, .ref 55]) (h' := h) (sg1 rfl rfl (sg1 rfl rfl rfl)) ?_
    obtain ⟨q7, e_q7, hf⟩ := bnd hf
    refine Ex.callV (a := 55) (As := [.int x1]) (r := []) (v := some (.int q7.1)) (h' := q7.2) rfl rfl (by decide) rfl (Nat.le_of_ble_eq_true rfl) rfl (E_210 hrec (by omega) e_q7) rfl ?_
    obtain rfl := Option.some.inj hf
    exact Ex.iret rfl rfl (fun c0 => by cases c0) hs
  rw [if_neg n4] at hf
  refine Ex.swt (t := 75) rfl rfl (sw_dflt (by decide) (by decide) (fun k hk he => ?_)) ?_
  · have hk : k < 6 := hk
    rcases (show k = 0 ∨ k = 1 ∨ k = 2 ∨ k = 3 ∨ k = 4 ∨ k = 5 by omega) with rfl | rfl | rfl | rfl | rfl | rfl
    · exact absurd (Int32.toInt_inj.mp (he.symm.trans (by decide : (_ : Int) = Int32.toInt (-1)))) n1
    · rfl
    · exact absurd (Int32.toInt_inj.mp (he.symm.trans (by decide : (_ : Int) = Int32.toInt 1))) n2
    · rfl
    · exact absurd (Int32.toInt_inj.mp (he.symm.trans (by decide : (_ : Int) = Int32.toInt 3))) n3
    · exact absurd (Int32.toInt_inj.mp (he.symm.trans (by decide : (_ : Int) = Int32.toInt 4))) n4
  exact Ex.weak (sm_le_s (sm_le_s (sm_le_s sm_le_nil))) (B_198_75 hrec hd  hf hs)
theorem E_198 {L : Nat} {xs : Nat → Int32} {d : Nat} {M : Nat} {rec : sm_H → Option (Int32 × sm_H)} (hrec : ∀ d, M ≤ d → ∀ (h : sm_H) (q : Int32 × sm_H), rec h = some q → RUN L xs d 194 [.ref 55] h (some (.int q.1), q.2)) (hd : 10 + M ≤ d) {x1 : Int32} {x2 : Int32} {h : sm_H} {r : Int32 × sm_H} (hf : F_198 rec x1 x2 h = some r) : RUN L xs d 198 [.ref 55, .int x1, .int x2] h (some (.int r.1), r.2) := by
  obtain ⟨d, rfl⟩ : ∃ e, d = e + 1 := ⟨d - 1, by omega⟩
  exact ⟨Nat.le_of_ble_eq_true rfl, B_198_0 hrec (by omega) hf rfl⟩
theorem B_196_69 {L : Nat} {xs : Nat → Int32} {d : Nat} {M : Nat} {rec : sm_H → Option (Int32 × sm_H)} (hrec : ∀ d, M ≤ d → ∀ (h : sm_H) (q : Int32 × sm_H), rec h = some q → RUN L xs d 194 [.ref 55] h (some (.int q.1), q.2)) (hd : 10 + M ≤ d) {res : Option Value × sm_H} {y2 : Int32} {y3 : Int32}  {h : sm_H} {r : (Int32 × sm_H)} (hf : F_196_69 rec y2 y3 h = some r) (hs : (fun (r : Int32 × sm_H) => res = (some (.int r.1), r.2)) r) : Ex (P_G L xs) (RUN L xs d) (sm_lk P_t196) 0 69 [some (.ref 55), none, some (.int y2), some (.int y3), none] [] h res := by
  unfold F_196_69 at hf
  refine Ex.seg 3 (pc' := 74) (lc' := [some (.ref 55), none, some (.int y2), some (.int y3), none]) (st' := []) (h' := (sm_wI h 55 12 y2)) (sg1 rfl rfl (sg1 rfl rfl (sg1 rfl rfl rfl))) ?_
  obtain ⟨h1, e_h1, hf⟩ := bnd hf
  rw [Option.some.inj e_h1]
  refine Ex.seg 1 (pc' := 75) (lc' := [some (.ref 55), none, some (.int y2), some (.int y3), none]) (st' := [.int y3]) (h' := h1) (sg1 rfl rfl rfl) ?_
  obtain rfl := Option.some.inj hf
  exact Ex.iret rfl rfl (fun c0 => by cases c0) hs
theorem B_196_0 {L : Nat} {xs : Nat → Int32} {d : Nat} {M : Nat} {rec : sm_H → Option (Int32 × sm_H)} (hrec : ∀ d, M ≤ d → ∀ (h : sm_H) (q : Int32 × sm_H), rec h = some q → RUN L xs d 194 [.ref 55] h (some (.int q.1), q.2)) (hd : 10 + M ≤ d) {res : Option Value × sm_H} {x1 : Int32}  {h : sm_H} {r : (Int32 × sm_H)} (hf : F_196_0 rec x1 h = some r) (hs : (fun (r : Int32 × sm_H) => res = (some (.int r.1), r.2)) r) : Ex (P_G L xs) (RUN L xs d) (sm_lk P_t196) 0 0 [some (.ref 55), some (.int x1), none, none, none] [] h res := by
  unfold F_196_0 at hf
  refine Ex.seg 3 (pc' := 5) (lc' := [some (.ref 55), some (.int x1), some (.int (h.1 55 12)), none, none]) (st' := []) (h' := h) (sg1 rfl rfl (sg1 rfl rfl (sg1 rfl rfl rfl))) ?_
  obtain ⟨v2, e_v2, hf⟩ := bnd hf
  rw [Option.some.inj e_v2]
  refine Ex.seg 3 (pc' := 8) (lc' := [some (.ref 55), some (.int x1), some (.int v2), some (.int (-1)), none]) (st' := [.ref 55]) (h' := h) (sg1 rfl rfl (sg1 rfl rfl (sg1 rfl rfl rfl))) ?_
  obtain ⟨q3, e_q3, hf⟩ := bnd hf
  refine Ex.callV (a := 55) (As := []) (r := []) (v := some (.int q3.1)) (h' := q3.2) rfl rfl (by decide) rfl (Nat.le_of_ble_eq_true rfl) rfl (E_171 (by omega) e_q3) rfl ?_
  refine Ex.seg 3 (pc' := 16) (lc' := [some (.ref 55), some (.int x1), some (.int v2), some (.int (-1)), some (.int q3.1)]) (st' := [.int 5, .int q3.1]) (h' := q3.2) (sg1 rfl rfl (sg1 rfl rfl (sg1 rfl rfl rfl))) ?_
  refine Ex.icmp rfl rfl (fun (c0 : ¬ (q3.1 = 5)) => ?_) (fun (c0 : ¬ ¬ (q3.1 = 5)) => ?_)
  · rw [if_neg c0] at hf
    refine Ex.seg 2 (pc' := 40) (lc' := [some (.ref 55), some (.int x1), some (.int v2), some (.int (-1)), some (.int q3.1)]) (st' := [.int 4, .int q3.1]) (h' := q3.2) (sg1 rfl rfl (sg1 rfl rfl rfl)) ?_
    refine Ex.icmp rfl rfl (fun (c0 : ¬ (q3.1 = 4)) => ?_) (fun (c0 : ¬ ¬ (q3.1 = 4)) => ?_)
    · rw [if_neg c0] at hf
      refine Ex.seg 2 (pc' := 65) (lc' := [some (.ref 55), some (.int x1), some (.int v2), some (.int (-1)), some (.int q3.1)]) (st' := [.int 4, .ref 55]) (h' := q3.2) (sg1 rfl rfl (sg1 rfl rfl rfl)) ?_
      obtain ⟨q4, e_q4, hf⟩ := bnd hf
      refine Ex.callV (a := 55) (As := [.int 4]) (r := []) (v := some (.int q4.1)) (h' := q4.2) rfl rfl (by decide) rfl (Nat.le_of_ble_eq_true rfl) rfl (E_170 (by omega) e_q4) rfl ?_
      refine Ex.seg 1 (pc' := 69) (lc' := [some (.ref 55), some (.int x1), some (.int v2), some (.int (-1)), some (.int q3.1)]) (st' := []) (h' := q4.2) (sg1 rfl rfl rfl) ?_
      exact Ex.weak (sm_le_s (sm_le_n (sm_le_s (sm_le_s (sm_le_n sm_le_nil))))) (B_196_69 hrec hd  hf hs)
    · rw [if_pos (Classical.not_not.mp c0)] at hf
      refine Ex.seg 5 (pc' := 50) (lc' := [some (.ref 55), some (.int x1), some (.int v2), some (.int (-1)), some (.int q3.1)]) (st' := [.ref 52, .ref 55, .int x1, .ref 55]) (h' := q3.2) (sg1 rfl rfl (sg1 rfl rfl (sg1 rfl rfl (sg1 rfl rfl (sg1 rfl rfl rfl))))) ?_
      obtain ⟨q5, e_q5, hf⟩ := bnd hf
      refine Ex.callV (a := 52) (As := []) (r := [.ref 55, .int x1, .ref 55]) (v := some (.long q5.1)) (h' := q5.2) rfl rfl (by decide) rfl (Nat.le_of_ble_eq_true rfl) rfl (E_248 (by omega) e_q5) rfl ?_
      obtain ⟨q6, e_q6, hf⟩ := bnd hf
      refine Ex.callV (a := 55) (As := [.long q5.1]) (r := [.int x1, .ref 55]) (v := some (.int q6.1)) (h' := q6.2) rfl rfl (by decide) rfl (Nat.le_of_ble_eq_true rfl) rfl (E_197 (by omega) e_q6) rfl ?_
      obtain ⟨q7, e_q7, hf⟩ := bnd hf
      refine Ex.callV (a := 55) (As := [.int x1, .int q6.1]) (r := []) (v := some (.int q7.1)) (h' := q7.2) rfl rfl (by decide) rfl (Nat.le_of_ble_eq_true rfl) rfl (E_198 hrec (by omega) e_q7) rfl ?_
      refine Ex.seg 2 (pc' := 69) (lc' := [some (.ref 55), some (.int x1), some (.int v2), some (.int q7.1), some (.int q3.1)]) (st' := []) (h' := q7.2) (sg1 rfl rfl (sg1 rfl rfl rfl)) ?_
      exact Ex.weak (sm_le_s (sm_le_n (sm_le_s (sm_le_s (sm_le_n sm_le_nil))))) (B_196_69 hrec hd  hf hs)
  · rw [if_pos (Classical.not_not.mp c0)] at hf
    refine Ex.seg 4 (pc' := 26) (lc' := [some (.ref 55), some (.int x1), some (.int v2), some (.int (-1)), some (.int q3.1)]) (st' := [.ref 52, .int 16, .ref 55]) (h' := q3.2) (sg1 rfl rfl (sg1 rfl rfl (sg1 rfl rfl (sg1 rfl rfl rfl)))) ?_
    obtain ⟨q8, e_q8, hf⟩ := bnd hf
    refine Ex.callV (a := 52) (As := []) (r := [.int 16, .ref 55]) (v := some (.int q8.1)) (h' := q8.2) rfl rfl (by decide) rfl (Nat.le_of_ble_eq_true rfl) rfl (E_245 (by omega) e_q8) rfl ?_
    refine Ex.seg 1 (pc' := 30) (lc' := [some (.ref 55), some (.int x1), some (.int v2), some (.int (-1)), some (.int q3.1)]) (st' := [.int x1, .int q8.1, .int 16, .ref 55]) (h' := q8.2) (sg1 rfl rfl rfl) ?_
    obtain ⟨q9, e_q9, hf⟩ := bnd hf
    refine Ex.callV (a := 55) (As := [.int 16, .int q8.1, .int x1]) (r := []) (v := some (.int q9.1)) (h' := q9.2) rfl rfl (by decide) rfl (Nat.le_of_ble_eq_true rfl) rfl (E_200 hrec (by omega) e_q9) rfl ?_
    refine Ex.seg 2 (pc' := 69) (lc' := [some (.ref 55), some (.int x1), some (.int v2), some (.int q9.1), some (.int q3.1)]) (st' := []) (h' := q9.2) (sg1 rfl rfl (sg1 rfl rfl rfl)) ?_
    exact Ex.weak (sm_le_s (sm_le_n (sm_le_s (sm_le_s (sm_le_n sm_le_nil))))) (B_196_69 hrec hd  hf hs)
theorem E_196 {L : Nat} {xs : Nat → Int32} {d : Nat} {M : Nat} {rec : sm_H → Option (Int32 × sm_H)} (hrec : ∀ d, M ≤ d → ∀ (h : sm_H) (q : Int32 × sm_H), rec h = some q → RUN L xs d 194 [.ref 55] h (some (.int q.1), q.2)) (hd : 11 + M ≤ d) {x1 : Int32} {h : sm_H} {r : Int32 × sm_H} (hf : F_196 rec x1 h = some r) : RUN L xs d 196 [.ref 55, .int x1] h (some (.int r.1), r.2) := by
  obtain ⟨d, rfl⟩ : ∃ e, d = e + 1 := ⟨d - 1, by omega⟩
  exact ⟨Nat.le_of_ble_eq_true rfl, B_196_0 hrec (by omega) hf rfl⟩
theorem B_194_109 {L : Nat} {xs : Nat → Int32} {d : Nat} {M : Nat} {rec : sm_H → Option (Int32 × sm_H)} (hrec : ∀ d, M ≤ d → ∀ (h : sm_H) (q : Int32 × sm_H), rec h = some q → RUN L xs d 194 [.ref 55] h (some (.int q.1), q.2)) (hd : 11 + M ≤ d) {res : Option Value × sm_H}   {h : sm_H} {r : (Int32 × sm_H)} (hf : F_194_109 rec  h = some r) (hs : (fun (r : Int32 × sm_H) => res = (some (.int r.1), r.2)) r) : Ex (P_G L xs) (RUN L xs d) (sm_lk P_t194) 0 109 [some (.ref 55), none] [] h res := by
  unfold F_194_109 at hf
  refine Ex.seg 2 (pc' := 111) (lc' := [some (.ref 55), none]) (st' := [.int 4, .ref 55]) (h' := h) (sg1 rfl rfl (sg1 rfl rfl rfl)) ?_
  obtain ⟨q1, e_q1, hf⟩ := bnd hf
  refine Ex.callV (a := 55) (As := [.int 4]) (r := []) (v := some (.int q1.1)) (h' := q1.2) rfl rfl (by decide) rfl (Nat.le_of_ble_eq_true rfl) rfl (E_170 (by omega) e_q1) rfl ?_
  obtain rfl := Option.some.inj hf
  exact Ex.iret rfl rfl (fun c0 => by cases c0) hs
theorem B_194_108 {L : Nat} {xs : Nat → Int32} {d : Nat} {M : Nat} {rec : sm_H → Option (Int32 × sm_H)} (hrec : ∀ d, M ≤ d → ∀ (h : sm_H) (q : Int32 × sm_H), rec h = some q → RUN L xs d 194 [.ref 55] h (some (.int q.1), q.2)) (hd : 11 + M ≤ d) {res : Option Value × sm_H} {z0 : Int32}  {h : sm_H} {r : (Int32 × sm_H)} (hf : F_194_108 rec z0 h = some r) (hs : (fun (r : Int32 × sm_H) => res = (some (.int r.1), r.2)) r) : Ex (P_G L xs) (RUN L xs d) (sm_lk P_t194) 0 108 [none, none] [.int z0] h res := by
  unfold F_194_108 at hf
  obtain rfl := Option.some.inj hf
  exact Ex.iret rfl rfl (fun c0 => by cases c0) hs
theorem B_194_0 {L : Nat} {xs : Nat → Int32} {d : Nat} {M : Nat} {rec : sm_H → Option (Int32 × sm_H)} (hrec : ∀ d, M ≤ d → ∀ (h : sm_H) (q : Int32 × sm_H), rec h = some q → RUN L xs d 194 [.ref 55] h (some (.int q.1), q.2)) (hd : 11 + M ≤ d) {res : Option Value × sm_H}   {h : sm_H} {r : (Int32 × sm_H)} (hf : F_194_0 rec  h = some r) (hs : (fun (r : Int32 × sm_H) => res = (some (.int r.1), r.2)) r) : Ex (P_G L xs) (RUN L xs d) (sm_lk P_t194) 0 0 [some (.ref 55), none] [] h res := by
  unfold F_194_0 at hf
  refine Ex.seg 2 (pc' := 4) (lc' := [some (.ref 55), none]) (st' := [.ref 52]) (h' := h) (sg1 rfl rfl (sg1 rfl rfl rfl)) ?_
  obtain ⟨q2, e_q2, hf⟩ := bnd hf
  refine Ex.callV (a := 52) (As := []) (r := []) (v := some (.int q2.1)) (h' := q2.2) rfl rfl (by decide) rfl (Nat.le_of_ble_eq_true rfl) rfl (E_243 (by omega) e_q2) rfl ?_
  refine Ex.seg 3 (pc' := 12) (lc' := [some (.ref 55), some (.int q2.1)]) (st' := [.ref 52]) (h' := q2.2) (sg1 rfl rfl (sg1 rfl rfl (sg1 rfl rfl rfl))) ?_
  obtain ⟨q3, e_q3, hf⟩ := bnd hf
  refine Ex.callV (a := 52) (As := []) (r := []) (v := some (.int q3.1)) (h' := q3.2) rfl rfl (by decide) rfl (Nat.le_of_ble_eq_true rfl) rfl (E_242 (by omega) e_q3) rfl ?_
  rcases Classical.em (q3.1 = 1) with n1 | n1
  · rw [if_pos n1] at hf
    refine Ex.swt (t := 92) rfl rfl (by rw [n1]; exact Or.inr ⟨by decide, by decide, _, rfl, by decide⟩) ?_
    refine Ex.seg 1 (pc' := 93) (lc' := [some (.ref 55), some (.int q2.1)]) (st' := [.ref 55]) (h' := q3.2) (sg1 rfl rfl rfl) ?_
    obtain ⟨q4, e_q4, hf⟩ := bnd hf
    refine Ex.callV (a := 55) (As := []) (r := []) (v := some (.int q4.1)) (h' := q4.2) rfl rfl (by decide) rfl (Nat.le_of_ble_eq_true rfl) rfl (E_173 (by omega) e_q4) rfl ?_
    refine Ex.ifc rfl rfl (fun (c0 : q4.1 = 0) => ?_) (fun (c0 : ¬ (q4.1 = 0)) => ?_)
    · rw [if_pos c0] at hf
      refine Ex.seg 1 (pc' := 108) (lc' := [some (.ref 55), some (.int q2.1)]) (st' := [.int (-1)]) (h' := q4.2) (sg1 rfl rfl rfl) ?_
      exact Ex.weak (sm_le_n (sm_le_n sm_le_nil)) (B_194_108 hrec hd  hf hs)
    · rw [if_neg c0] at hf
      refine Ex.seg 2 (pc' := 101) (lc' := [some (.ref 55), some (.int q2.1)]) (st' := [.int q2.1, .ref 55]) (h' := q4.2) (sg1 rfl rfl (sg1 rfl rfl rfl)) ?_
      obtain ⟨q5, e_q5, hf⟩ := bnd hf
      refine Ex.callV (a := 55) (As := [.int q2.1]) (r := []) (v := some (.int q5.1)) (h' := q5.2) rfl rfl (by decide) rfl (Nat.le_of_ble_eq_true rfl) rfl (E_196 hrec (by omega) e_q5) rfl ?_
      refine Ex.seg 1 (pc' := 108) (lc' := [some (.ref 55), some (.int q2.1)]) (st' := [.int q5.1]) (h' := q5.2) (sg1 rfl rfl rfl) ?_
      exact Ex.weak (sm_le_n (sm_le_n sm_le_nil)) (B_194_108 hrec hd  hf hs)
  rw [if_neg n1] at hf
  rcases Classical.em (q3.1 = 3) with n2 | n2
  · rw [if_pos n2] at hf
    refine Ex.swt (t := 44) rfl rfl (by rw [n2]; exact Or.inr ⟨by decide, by decide, _, rfl, by decide⟩) ?_
    refine Ex.seg 2 (pc' := 48) (lc' := [some (.ref 55), some (.int q2.1)]) (st' := [.ref 56]) (h' := q3.2) (sg1 rfl rfl (sg1 rfl rfl rfl)) ?_
    obtain ⟨q6, e_q6, hf⟩ := bnd hf
    refine Ex.callV (a := 56) (As := []) (r := []) (v := none) (h' := q6) rfl rfl (by decide) rfl (Nat.le_of_ble_eq_true rfl) rfl (E_138 (by omega) e_q6) rfl ?_
    refine Ex.seg 6 (pc' := 61) (lc' := [some (.ref 55), some (.int q2.1)]) (st' := [.ref 52, .int 0, .ref 34, .ref 55]) (h' := q6) (sg1 rfl rfl (sg1 rfl rfl (sg1 rfl rfl (sg1 rfl rfl (sg1 rfl rfl (sg1 rfl rfl rfl)))))) ?_
    obtain ⟨q7, e_q7, hf⟩ := bnd hf
    refine Ex.callV (a := 52) (As := []) (r := [.int 0, .ref 34, .ref 55]) (v := some (.int q7.1)) (h' := q7.2) rfl rfl (by decide) rfl (Nat.le_of_ble_eq_true rfl) rfl (E_247 (by omega) e_q7) rfl ?_
    refine Ex.seg 3 (pc' := 69) (lc' := [some (.ref 55), some (.int q2.1)]) (st' := [.ref 52, .int 0, .int q7.1, .int 0, .ref 34, .ref 55]) (h' := q7.2) (sg1 rfl rfl (sg1 rfl rfl (sg1 rfl rfl rfl))) ?_
    obtain ⟨q8, e_q8, hf⟩ := bnd hf
    refine Ex.callV (a := 52) (As := []) (r := [.int 0, .int q7.1, .int 0, .ref 34, .ref 55]) (v := some (.long q8.1)) (h' := q8.2) rfl rfl (by decide) rfl (Nat.le_of_ble_eq_true rfl) rfl (E_246 (by omega) e_q8) rfl ?_
    refine Ex.seg 2 (pc' := 76) (lc' := [some (.ref 55), some (.int q2.1)]) (st' := [.ref 56, .long q8.1, .int 0, .int q7.1, .int 0, .ref 34, .ref 55]) (h' := q8.2) (sg1 rfl rfl (sg1 rfl rfl rfl)) ?_
    obtain ⟨q9, e_q9, hf⟩ := bnd hf
    refine Ex.callV (a := 34) (As := [.int 0, .int q7.1, .int 0, .long q8.1, .ref 56]) (r := [.ref 55]) (v := some (.int q9.1)) (h' := q9.2) rfl rfl (by decide) rfl (Nat.le_of_ble_eq_true rfl) rfl (E_5 (by omega) e_q9) rfl ?_
    refine Ex.seg 3 (pc' := 82) (lc' := [some (.ref 55), some (.int q2.1)]) (st' := [.int q2.1, .int 0, .int 0, .int q9.1, .ref 55]) (h' := q9.2) (sg1 rfl rfl (sg1 rfl rfl (sg1 rfl rfl rfl))) ?_
    obtain ⟨q10, e_q10, hf⟩ := bnd hf
    refine Ex.callV (a := 55) (As := [.int q9.1, .int 0, .int 0, .int q2.1]) (r := []) (v := some (.int q10.1)) (h' := q10.2) rfl rfl (by decide) rfl (Nat.le_of_ble_eq_true rfl) rfl (E_192 (by omega) e_q10) rfl ?_
    obtain rfl := Option.some.inj hf
    exact Ex.iret rfl rfl (fun c0 => by cases c0) hs
  rw [if_neg n2] at hf
  rcases Classical.em (q3.1 = 4) with n3 | n3
  · rw [if_pos n3] at hf
    refine Ex.swt (t := 86) rfl rfl (by rw [n3]; exact Or.inr ⟨by decide, by decide, _, rfl, by decide⟩) ?_
    refine Ex.seg 2 (pc' := 88) (lc' := [some (.ref 55), some (.int q2.1)]) (st' := [.int q2.1, .ref 55]) (h' := q3.2) (sg1 rfl rfl (sg1 rfl rfl rfl)) ?_
    obtain ⟨q11, e_q11, hf⟩ := bnd hf
    refine Ex.callV (a := 55) (As := [.int q2.1]) (r := []) (v := some (.int q11.1)) (h' := q11.2) rfl rfl (by decide) rfl (Nat.le_of_ble_eq_true rfl) rfl (E_195 (by omega) e_q11) rfl ?_
    obtain rfl := Option.some.inj hf
    exact Ex.iret rfl rfl (fun c0 => by cases c0) hs
  rw [if_neg n3] at hf
  refine Ex.swt (t := 109) rfl rfl (sw_dflt (by decide) (by decide) (fun k hk he => ?_)) ?_
  · have hk : k < 4 := hk
    rcases (show k = 0 ∨ k = 1 ∨ k = 2 ∨ k = 3 by omega) with rfl | rfl | rfl | rfl
    · exact absurd (Int32.toInt_inj.mp (he.symm.trans (by decide : (_ : Int) = Int32.toInt 1))) n1
    · rfl
    · exact absurd (Int32.toInt_inj.mp (he.symm.trans (by decide : (_ : Int) = Int32.toInt 3))) n2
    · exact absurd (Int32.toInt_inj.mp (he.symm.trans (by decide : (_ : Int) = Int32.toInt 4))) n3
  exact Ex.weak (sm_le_s (sm_le_n sm_le_nil)) (B_194_109 hrec hd  hf hs)
theorem E_194R {L : Nat} {xs : Nat → Int32} {d : Nat} {M : Nat} {rec : sm_H → Option (Int32 × sm_H)} (hrec : ∀ d, M ≤ d → ∀ (h : sm_H) (q : Int32 × sm_H), rec h = some q → RUN L xs d 194 [.ref 55] h (some (.int q.1), q.2)) (hd : 12 + M ≤ d)  {h : sm_H} {r : Int32 × sm_H} (hf : F_194R rec  h = some r) : RUN L xs d 194 [.ref 55] h (some (.int r.1), r.2) := by
  obtain ⟨d, rfl⟩ : ∃ e, d = e + 1 := ⟨d - 1, by omega⟩
  exact ⟨Nat.le_of_ble_eq_true rfl, B_194_0 hrec (by omega) hf rfl⟩
theorem KE_194 {L : Nat} {xs : Nat → Int32} : ∀ (n d : Nat), 12 * n ≤ d → ∀ (h : sm_H) (q : Int32 × sm_H), K_194 n  h = some q → RUN L xs d 194 [.ref 55] h (some (.int q.1), q.2) := by
  intro n
  induction n with
  | zero => intro d _  h q hf; cases hf
  | succ n ih =>
    intro d hd  h q hf
    exact E_194R (M := 12 * n) (rec := K_194 n) (fun d hd => ih d hd) (by omega) hf
theorem B_167_150 {L : Nat} {xs : Nat → Int32} {d : Nat} (hd : 304 ≤ d) {res : Option Value × sm_H}   {h : sm_H} {r : (Int32 × sm_H)} (hf : F_167_150  h = some r) (hs : (fun (r : Int32 × sm_H) => res = (some (.int r.1), r.2)) r) : Ex (P_G L xs) (RUN L xs d) (sm_lk P_t167) 0 150 [some (.ref 55), none, none, none, none, none] [] h res := by
  unfold F_167_150 at hf
  refine Ex.seg 2 (pc' := 154) (lc' := [some (.ref 55), none, none, none, none, none]) (st' := [.ref 52]) (h' := h) (sg1 rfl rfl (sg1 rfl rfl rfl)) ?_
  obtain ⟨q1, e_q1, hf⟩ := bnd hf
  refine Ex.callV (a := 52) (As := []) (r := []) (v := none) (h' := q1) rfl rfl (by decide) rfl (Nat.le_of_ble_eq_true rfl) rfl (E_241 (Nat.le_trans (by decide) hd) e_q1) rfl ?_
  refine Ex.seg 2 (pc' := 161) (lc' := [some (.ref 55), none, none, none, none, none]) (st' := [.int (q1.1 55 17)]) (h' := q1) (sg1 rfl rfl (sg1 rfl rfl rfl)) ?_
  obtain rfl := Option.some.inj hf
  exact Ex.iret rfl rfl (fun c0 => by cases c0) hs
theorem B_167_144 {L : Nat} {xs : Nat → Int32} {d : Nat} (hd : 304 ≤ d) {res : Option Value × sm_H} {S1 : (Int32 × sm_H) → Prop} (hS1 : ∀ s, S1 s → Ex (P_G L xs) (RUN L xs d) (sm_lk P_t167) 0 29 [some (.ref 55), some (.int s.1), none, none, none, none] [] s.2 res) {y1 : Int32}  {h : sm_H} {r : ((Int32 × sm_H) ⊕ (Int32 × sm_H))} (hf : F_167_144 y1 h = some r) (hs : (Sum.elim S1 (fun (r : Int32 × sm_H) => res = (some (.int r.1), r.2))) r) : Ex (P_G L xs) (RUN L xs d) (sm_lk P_t167) 0 144 [some (.ref 55), some (.int y1), none, none, none, none] [] h res := by
  unfold F_167_144 at hf
  refine Ex.seg 1 (pc' := 147) (lc' := [some (.ref 55), some (.int (y1 + 1)), none, none, none, none]) (st' := []) (h' := h) (sg1 rfl rfl rfl) ?_
  obtain ⟨v2, e_v2, hf⟩ := bnd hf
  rw [Option.some.inj e_v2]
  refine Ex.seg 1 (pc' := 29) (lc' := [some (.ref 55), some (.int v2), none, none, none, none]) (st' := []) (h' := h) (sg1 rfl rfl rfl) ?_
  obtain rfl := Option.some.inj hf
  exact Ex.weak (sm_le_s (sm_le_s (sm_le_s (sm_le_s (sm_le_s (sm_le_s sm_le_nil)))))) (hS1 _ hs)
theorem B_167_113 {L : Nat} {xs : Nat → Int32} {d : Nat} (hd : 304 ≤ d) {res : Option Value × sm_H} {S1 : (Int32 × sm_H) → Prop} (hS1 : ∀ s, S1 s → Ex (P_G L xs) (RUN L xs d) (sm_lk P_t167) 0 29 [some (.ref 55), some (.int s.1), none, none, none, none] [] s.2 res) {y1 : Int32} {y2 : Int32} {y3 : Int32} {y4 : Int32} {z0 : Int32}  {h : sm_H} {r : ((Int32 × sm_H) ⊕ (Int32 × sm_H))} (hf : F_167_113 y1 y2 y3 y4 z0 h = some r) (hs : (Sum.elim S1 (fun (r : Int32 × sm_H) => res = (some (.int r.1), r.2))) r) : Ex (P_G L xs) (RUN L xs d) (sm_lk P_t167) 0 113 [some (.ref 55), some (.int y1), some (.int y2), some (.int y3), some (.int y4), none] [.int z0] h res := by
  unfold F_167_113 at hf
  refine Ex.seg 3 (pc' := 118) (lc' := [some (.ref 55), some (.int y1), some (.int y2), some (.int y3), some (.int y4), some (.int z0)]) (st' := [.int (-1), .int z0]) (h' := h) (sg1 rfl rfl (sg1 rfl rfl (sg1 rfl rfl rfl))) ?_
  refine Ex.icmp rfl rfl (fun (c0 : z0 = (-1)) => ?_) (fun (c0 : ¬ (z0 = (-1))) => ?_)
  · rw [if_pos c0] at hf
    exact Ex.weak (sm_le_s (sm_le_s (sm_le_n (sm_le_n (sm_le_n (sm_le_n sm_le_nil)))))) (B_167_144 hd hS1 hf hs)
  · rw [if_neg c0] at hf
    refine Ex.seg 1 (pc' := 122) (lc' := [some (.ref 55), some (.int y1), some (.int y2), some (.int y3), some (.int y4), some (.int z0)]) (st' := [.ref 55]) (h' := h) (sg1 rfl rfl rfl) ?_
    obtain ⟨q3, e_q3, hf⟩ := bnd hf
    refine Ex.callV (a := 55) (As := []) (r := []) (v := some (.int q3.1)) (h' := q3.2) rfl rfl (by decide) rfl (Nat.le_of_ble_eq_true rfl) rfl (E_175 (Nat.le_trans (by decide) hd) e_q3) rfl ?_
    refine Ex.ifc rfl rfl (fun (c0 : q3.1 = 0) => ?_) (fun (c0 : ¬ (q3.1 = 0)) => ?_)
    · rw [if_pos c0] at hf
      exact Ex.weak (sm_le_s (sm_le_s (sm_le_n (sm_le_n (sm_le_n (sm_le_n sm_le_nil)))))) (B_167_144 hd hS1 hf hs)
    · rw [if_neg c0] at hf
      refine Ex.seg 7 (pc' := 138) (lc' := [some (.ref 55), some (.int y1), some (.int y2), some (.int y3), some (.int y4), some (.int z0)]) (st' := [.int y2, .int y3, .int z0, .int 12, .ref 55, .int y4, .ref 55]) (h' := q3.2) (sg1 rfl rfl (sg1 rfl rfl (sg1 rfl rfl (sg1 rfl rfl (sg1 rfl rfl (sg1 rfl rfl (sg1 rfl rfl rfl))))))) ?_
      obtain ⟨q4, e_q4, hf⟩ := bnd hf
      refine Ex.callV (a := 55) (As := [.int 12, .int z0, .int y3, .int y2]) (r := [.int y4, .ref 55]) (v := some (.int q4.1)) (h' := q4.2) rfl rfl (by decide) rfl (Nat.le_of_ble_eq_true rfl) rfl (E_186 (Nat.le_trans (by decide) hd) e_q4) rfl ?_
      obtain ⟨q5, e_q5, hf⟩ := bnd hf
      refine Ex.callV (a := 55) (As := [.int y4, .int q4.1]) (r := []) (v := none) (h' := q5) rfl rfl (by decide) rfl (Nat.le_of_ble_eq_true rfl) rfl (E_168 (Nat.le_trans (by decide) hd) e_q5) rfl ?_
      exact Ex.weak (sm_le_s (sm_le_s (sm_le_n (sm_le_n (sm_le_n (sm_le_n sm_le_nil)))))) (B_167_144 hd hS1 hf hs)
theorem B_167_97 {L : Nat} {xs : Nat → Int32} {d : Nat} (hd : 304 ≤ d) {res : Option Value × sm_H} {S1 : (Int32 × sm_H) → Prop} (hS1 : ∀ s, S1 s → Ex (P_G L xs) (RUN L xs d) (sm_lk P_t167) 0 29 [some (.ref 55), some (.int s.1), none, none, none, none] [] s.2 res) {y1 : Int32} {y2 : Int32} {y3 : Int32} {z0 : Int32}  {h : sm_H} {r : ((Int32 × sm_H) ⊕ (Int32 × sm_H))} (hf : F_167_97 y1 y2 y3 z0 h = some r) (hs : (Sum.elim S1 (fun (r : Int32 × sm_H) => res = (some (.int r.1), r.2))) r) : Ex (P_G L xs) (RUN L xs d) (sm_lk P_t167) 0 97 [some (.ref 55), some (.int y1), some (.int y2), some (.int y3), none, none] [.int z0] h res := by
  unfold F_167_97 at hf
  refine Ex.seg 3 (pc' := 102) (lc' := [some (.ref 55), some (.int y1), some (.int y2), some (.int y3), some (.int z0), none]) (st' := [.int (-1), .int z0]) (h' := h) (sg1 rfl rfl (sg1 rfl rfl (sg1 rfl rfl rfl))) ?_
  refine Ex.icmp rfl rfl (fun (c0 : ¬ (z0 = (-1))) => ?_) (fun (c0 : ¬ ¬ (z0 = (-1))) => ?_)
  · rw [if_neg c0] at hf
    refine Ex.seg 1 (pc' := 110) (lc' := [some (.ref 55), some (.int y1), some (.int y2), some (.int y3), some (.int z0), none]) (st' := [.ref 55]) (h' := h) (sg1 rfl rfl rfl) ?_
    obtain ⟨q6, e_q6, hf⟩ := bnd hf
    refine Ex.callV (a := 55) (As := []) (r := []) (v := some (.int q6.1)) (h' := q6.2) rfl rfl (by decide) rfl (Nat.le_of_ble_eq_true rfl) rfl (E_193 (M := 300) (KE_194 25) (Nat.le_trans (by decide) hd) e_q6) rfl ?_
    exact Ex.weak (sm_le_s (sm_le_s (sm_le_s (sm_le_s (sm_le_s (sm_le_s sm_le_nil)))))) (B_167_113 hd hS1 hf hs)
  · rw [if_pos (Classical.not_not.mp c0)] at hf
    refine Ex.seg 2 (pc' := 113) (lc' := [some (.ref 55), some (.int y1), some (.int y2), some (.int y3), some (.int z0), none]) (st' := [.int (-1)]) (h' := h) (sg1 rfl rfl (sg1 rfl rfl rfl)) ?_
    exact Ex.weak (sm_le_s (sm_le_s (sm_le_s (sm_le_s (sm_le_s (sm_le_s sm_le_nil)))))) (B_167_113 hd hS1 hf hs)
theorem B_167_96 {L : Nat} {xs : Nat → Int32} {d : Nat} (hd : 304 ≤ d) {res : Option Value × sm_H} {S1 : (Int32 × sm_H) → Prop} (hS1 : ∀ s, S1 s → Ex (P_G L xs) (RUN L xs d) (sm_lk P_t167) 0 29 [some (.ref 55), some (.int s.1), none, none, none, none] [] s.2 res) {y1 : Int32} {y2 : Int32} {y3 : Int32}  {h : sm_H} {r : ((Int32 × sm_H) ⊕ (Int32 × sm_H))} (hf : F_167_96 y1 y2 y3 h = some r) (hs : (Sum.elim S1 (fun (r : Int32 × sm_H) => res = (some (.int r.1), r.2))) r) : Ex (P_G L xs) (RUN L xs d) (sm_lk P_t167) 0 96 [some (.ref 55), some (.int y1), some (.int y2), some (.int y3), none, none] [] h res := by
  unfold F_167_96 at hf
  refine Ex.seg 1 (pc' := 97) (lc' := [some (.ref 55), some (.int y1), some (.int y2), some (.int y3), none, none]) (st' := [.int (-1)]) (h' := h) (sg1 rfl rfl rfl) ?_
  exact Ex.weak (sm_le_s (sm_le_s (sm_le_s (sm_le_s (sm_le_s (sm_le_s sm_le_nil)))))) (B_167_97 hd hS1 hf hs)
theorem B_167_74 {L : Nat} {xs : Nat → Int32} {d : Nat} (hd : 304 ≤ d) {res : Option Value × sm_H} {S1 : (Int32 × sm_H) → Prop} (hS1 : ∀ s, S1 s → Ex (P_G L xs) (RUN L xs d) (sm_lk P_t167) 0 29 [some (.ref 55), some (.int s.1), none, none, none, none] [] s.2 res) {y1 : Int32} {y2 : Int32} {z0 : Int32}  {h : sm_H} {r : ((Int32 × sm_H) ⊕ (Int32 × sm_H))} (hf : F_167_74 y1 y2 z0 h = some r) (hs : (Sum.elim S1 (fun (r : Int32 × sm_H) => res = (some (.int r.1), r.2))) r) : Ex (P_G L xs) (RUN L xs d) (sm_lk P_t167) 0 74 [some (.ref 55), some (.int y1), some (.int y2), none, none, none] [.int z0] h res := by
  unfold F_167_74 at hf
  refine Ex.seg 3 (pc' := 77) (lc' := [some (.ref 55), some (.int y1), some (.int y2), some (.int z0), none, none]) (st' := [.int (-1), .int z0]) (h' := h) (sg1 rfl rfl (sg1 rfl rfl (sg1 rfl rfl rfl))) ?_
  refine Ex.icmp rfl rfl (fun (c0 : z0 = (-1)) => ?_) (fun (c0 : ¬ (z0 = (-1))) => ?_)
  · rw [if_pos c0] at hf
    exact Ex.weak (sm_le_s (sm_le_s (sm_le_s (sm_le_s (sm_le_s (sm_le_s sm_le_nil)))))) (B_167_96 hd hS1 hf hs)
  · rw [if_neg c0] at hf
    refine Ex.seg 1 (pc' := 81) (lc' := [some (.ref 55), some (.int y1), some (.int y2), some (.int z0), none, none]) (st' := [.ref 55]) (h' := h) (sg1 rfl rfl rfl) ?_
    obtain ⟨q7, e_q7, hf⟩ := bnd hf
    refine Ex.callV (a := 55) (As := []) (r := []) (v := some (.int q7.1)) (h' := q7.2) rfl rfl (by decide) rfl (Nat.le_of_ble_eq_true rfl) rfl (E_178 (Nat.le_trans (by decide) hd) e_q7) rfl ?_
    refine Ex.ifc rfl rfl (fun (c0 : q7.1 = 0) => ?_) (fun (c0 : ¬ (q7.1 = 0)) => ?_)
    · rw [if_pos c0] at hf
      exact Ex.weak (sm_le_s (sm_le_s (sm_le_s (sm_le_s (sm_le_s (sm_le_s sm_le_nil)))))) (B_167_96 hd hS1 hf hs)
    · rw [if_neg c0] at hf
      refine Ex.seg 3 (pc' := 90) (lc' := [some (.ref 55), some (.int y1), some (.int y2), some (.int z0), none, none]) (st' := [.int y2, .int z0, .ref 55]) (h' := q7.2) (sg1 rfl rfl (sg1 rfl rfl (sg1 rfl rfl rfl))) ?_
      obtain ⟨q8, e_q8, hf⟩ := bnd hf
      refine Ex.callV (a := 55) (As := [.int z0, .int y2]) (r := []) (v := some (.int q8.1)) (h' := q8.2) rfl rfl (by decide) rfl (Nat.le_of_ble_eq_true rfl) rfl (E_180 (Nat.le_trans (by decide) hd) e_q8) rfl ?_
      refine Ex.seg 1 (pc' := 97) (lc' := [some (.ref 55), some (.int y1), some (.int y2), some (.int z0), none, none]) (st' := [.int q8.1]) (h' := q8.2) (sg1 rfl rfl rfl) ?_
      exact Ex.weak (sm_le_s (sm_le_s (sm_le_s (sm_le_s (sm_le_s (sm_le_s sm_le_nil)))))) (B_167_97 hd hS1 hf hs)
theorem B_167_29B {L : Nat} {xs : Nat → Int32} {d : Nat} (hd : 304 ≤ d) {res : Option Value × sm_H} {S1 : (Int32 × sm_H) → Prop} (hS1 : ∀ s, S1 s → Ex (P_G L xs) (RUN L xs d) (sm_lk P_t167) 0 29 [some (.ref 55), some (.int s.1), none, none, none, none] [] s.2 res) {s : (Int32 × sm_H)}  {r : ((Int32 × sm_H) ⊕ (Int32 × sm_H))} (hf : F_167_29B s = some r) (hs : (Sum.elim S1 (fun (r : Int32 × sm_H) => res = (some (.int r.1), r.2))) r) : Ex (P_G L xs) (RUN L xs d) (sm_lk P_t167) 0 29 [some (.ref 55), some (.int s.1), none, none, none, none] [] s.2 res := by
  unfold F_167_29B at hf
  refine Ex.seg 2 (pc' := 33) (lc' := [some (.ref 55), some (.int s.1), none, none, none, none]) (st' := [.int 3000, .int s.1]) (h' := s.2) (sg1 rfl rfl (sg1 rfl rfl rfl)) ?_
  refine Ex.icmp rfl rfl (fun (c0 : 3000 ≤ s.1) => ?_) (fun (c0 : ¬ (3000 ≤ s.1)) => ?_)
  · rw [if_pos c0] at hf
    obtain ⟨r0, hf0, rfl⟩ := Option.map_eq_some_iff.mp hf
    exact Ex.weak (sm_le_s (sm_le_n (sm_le_s (sm_le_s (sm_le_s (sm_le_s sm_le_nil)))))) (B_167_150 hd  hf0 hs)
  · rw [if_neg c0] at hf
    refine Ex.seg 2 (pc' := 40) (lc' := [some (.ref 55), some (.int s.1), none, none, none, none]) (st' := [.int (s.2.1 55 17)]) (h' := s.2) (sg1 rfl rfl (sg1 rfl rfl rfl)) ?_
    refine Ex.ifc rfl rfl (fun (c0 : ¬ ((s.2.1 55 17) = 0)) => ?_) (fun (c0 : ¬ ¬ ((s.2.1 55 17) = 0)) => ?_)
    · rw [if_neg c0] at hf
      obtain ⟨r0, hf0, rfl⟩ := Option.map_eq_some_iff.mp hf
      exact Ex.weak (sm_le_s (sm_le_n (sm_le_s (sm_le_s (sm_le_s (sm_le_s sm_le_nil)))))) (B_167_150 hd  hf0 hs)
    · rw [if_pos (Classical.not_not.mp c0)] at hf
      refine Ex.seg 1 (pc' := 44) (lc' := [some (.ref 55), some (.int s.1), none, none, none, none]) (st' := [.ref 55]) (h' := s.2) (sg1 rfl rfl rfl) ?_
      obtain ⟨q9, e_q9, hf⟩ := bnd hf
      refine Ex.callV (a := 55) (As := []) (r := []) (v := some (.int q9.1)) (h' := q9.2) rfl rfl (by decide) rfl (Nat.le_of_ble_eq_true rfl) rfl (E_171 (Nat.le_trans (by decide) hd) e_q9) rfl ?_
      refine Ex.ifc rfl rfl (fun (c0 : q9.1 = 0) => ?_) (fun (c0 : ¬ (q9.1 = 0)) => ?_)
      · rw [if_pos c0] at hf
        obtain ⟨r0, hf0, rfl⟩ := Option.map_eq_some_iff.mp hf
        exact Ex.weak (sm_le_s (sm_le_n (sm_le_s (sm_le_s (sm_le_s (sm_le_s sm_le_nil)))))) (B_167_150 hd  hf0 hs)
      · rw [if_neg c0] at hf
        refine Ex.seg 2 (pc' := 54) (lc' := [some (.ref 55), some (.int s.1), none, none, none, none]) (st' := [.ref 52]) (h' := q9.2) (sg1 rfl rfl (sg1 rfl rfl rfl)) ?_
        obtain ⟨q10, e_q10, hf⟩ := bnd hf
        refine Ex.callV (a := 52) (As := []) (r := []) (v := some (.int q10.1)) (h' := q10.2) rfl rfl (by decide) rfl (Nat.le_of_ble_eq_true rfl) rfl (E_243 (Nat.le_trans (by decide) hd) e_q10) rfl ?_
        refine Ex.seg 2 (pc' := 59) (lc' := [some (.ref 55), some (.int s.1), some (.int q10.1), none, none, none]) (st' := [.ref 55]) (h' := q10.2) (sg1 rfl rfl (sg1 rfl rfl rfl)) ?_
        obtain ⟨q11, e_q11, hf⟩ := bnd hf
        refine Ex.callV (a := 55) (As := []) (r := []) (v := some (.int q11.1)) (h' := q11.2) rfl rfl (by decide) rfl (Nat.le_of_ble_eq_true rfl) rfl (E_177 (Nat.le_trans (by decide) hd) e_q11) rfl ?_
        refine Ex.ifc rfl rfl (fun (c0 : q11.1 = 0) => ?_) (fun (c0 : ¬ (q11.1 = 0)) => ?_)
        · rw [if_pos c0] at hf
          refine Ex.seg 1 (pc' := 74) (lc' := [some (.ref 55), some (.int s.1), some (.int q10.1), none, none, none]) (st' := [.int (-1)]) (h' := q11.2) (sg1 rfl rfl rfl) ?_
          exact Ex.weak (sm_le_s (sm_le_s (sm_le_s (sm_le_s (sm_le_s (sm_le_s sm_le_nil)))))) (B_167_74 hd hS1 hf hs)
        · rw [if_neg c0] at hf
          refine Ex.seg 2 (pc' := 67) (lc' := [some (.ref 55), some (.int s.1), some (.int q10.1), none, none, none]) (st' := [.int 1, .ref 55]) (h' := q11.2) (sg1 rfl rfl (sg1 rfl rfl rfl)) ?_
          obtain ⟨q12, e_q12, hf⟩ := bnd hf
          refine Ex.callV (a := 55) (As := [.int 1]) (r := []) (v := some (.int q12.1)) (h' := q12.2) rfl rfl (by decide) rfl (Nat.le_of_ble_eq_true rfl) rfl (E_176 (Nat.le_trans (by decide) hd) e_q12) rfl ?_
          refine Ex.seg 1 (pc' := 74) (lc' := [some (.ref 55), some (.int s.1), some (.int q10.1), none, none, none]) (st' := [.int q12.1]) (h' := q12.2) (sg1 rfl rfl rfl) ?_
          exact Ex.weak (sm_le_s (sm_le_s (sm_le_s (sm_le_s (sm_le_s (sm_le_s sm_le_nil)))))) (B_167_74 hd hS1 hf hs)
theorem B_167_29 {L : Nat} {xs : Nat → Int32} {d : Nat} (hd : 304 ≤ d) {res : Option Value × sm_H} {y1 : Int32}  {h : sm_H} {r : (Int32 × sm_H)} (hf : F_167_29 y1 h = some r) (hs : (fun (r : Int32 × sm_H) => res = (some (.int r.1), r.2)) r) : Ex (P_G L xs) (RUN L xs d) (sm_lk P_t167) 0 29 [some (.ref 55), some (.int y1), none, none, none, none] [] h res := by
  unfold F_167_29 at hf
  exact lp_ok (P := fun (s : (Int32 × sm_H)) => Ex (P_G L xs) (RUN L xs d) (sm_lk P_t167) 0 29 [some (.ref 55), some (.int s.1), none, none, none, none] [] s.2 res) (S := (fun (r : Int32 × sm_H) => res = (some (.int r.1), r.2))) (fun s x hx hsx => by
    intros
    exact B_167_29B hd  (fun _ q => q) hx hsx) 1000000 _ r hf hs
theorem B_167_0 {L : Nat} {xs : Nat → Int32} {d : Nat} (hd : 304 ≤ d) {res : Option Value × sm_H}   {h : sm_H} {r : (Int32 × sm_H)} (hf : F_167_0  h = some r) (hs : (fun (r : Int32 × sm_H) => res = (some (.int r.1), r.2)) r) : Ex (P_G L xs) (RUN L xs d) (sm_lk P_t167) 0 0 [some (.ref 55), none, none, none, none, none] [] h res := by
  unfold F_167_0 at hf
  refine Ex.seg 3 (pc' := 5) (lc' := [some (.ref 55), none, none, none, none, none]) (st' := []) (h' := (sm_wI h 55 17 0)) (sg1 rfl rfl (sg1 rfl rfl (sg1 rfl rfl rfl))) ?_
  obtain ⟨h13, e_h13, hf⟩ := bnd hf
  rw [Option.some.inj e_h13]
  refine Ex.seg 3 (pc' := 10) (lc' := [some (.ref 55), none, none, none, none, none]) (st' := []) (h' := (sm_wI h13 55 18 (-1))) (sg1 rfl rfl (sg1 rfl rfl (sg1 rfl rfl rfl))) ?_
  obtain ⟨h14, e_h14, hf⟩ := bnd hf
  rw [Option.some.inj e_h14]
  refine Ex.seg 3 (pc' := 15) (lc' := [some (.ref 55), none, none, none, none, none]) (st' := []) (h' := (sm_wI h14 55 16 0)) (sg1 rfl rfl (sg1 rfl rfl (sg1 rfl rfl rfl))) ?_
  obtain ⟨h15, e_h15, hf⟩ := bnd hf
  rw [Option.some.inj e_h15]
  refine Ex.seg 3 (pc' := 20) (lc' := [some (.ref 55), none, none, none, none, none]) (st' := []) (h' := (sm_wI h15 55 12 0)) (sg1 rfl rfl (sg1 rfl rfl (sg1 rfl rfl rfl))) ?_
  obtain ⟨h16, e_h16, hf⟩ := bnd hf
  rw [Option.some.inj e_h16]
  refine Ex.seg 2 (pc' := 24) (lc' := [some (.ref 55), none, none, none, none, none]) (st' := [.ref 52]) (h' := h16) (sg1 rfl rfl (sg1 rfl rfl rfl)) ?_
  obtain ⟨q17, e_q17, hf⟩ := bnd hf
  refine Ex.callV (a := 52) (As := []) (r := []) (v := none) (h' := q17) rfl rfl (by decide) rfl (Nat.le_of_ble_eq_true rfl) rfl (E_240 (Nat.le_trans (by decide) hd) e_q17) rfl ?_
  refine Ex.seg 2 (pc' := 29) (lc' := [some (.ref 55), some (.int 0), none, none, none, none]) (st' := []) (h' := q17) (sg1 rfl rfl (sg1 rfl rfl rfl)) ?_
  exact Ex.weak (sm_le_s (sm_le_s (sm_le_s (sm_le_s (sm_le_s (sm_le_s sm_le_nil)))))) (B_167_29 hd  hf hs)
theorem E_167 {L : Nat} {xs : Nat → Int32} {d : Nat} (hd : 305 ≤ d)  {h : sm_H} {r : Int32 × sm_H} (hf : F_167  h = some r) : RUN L xs d 167 [.ref 55] h (some (.int r.1), r.2) := by
  obtain ⟨d, rfl⟩ : ∃ e, d = e + 1 := ⟨d - 1, by omega⟩
  exact ⟨Nat.le_of_ble_eq_true rfl, B_167_0 (by omega) hf rfl⟩
