/-! FUNCTIONS of the methods (by program, wip/gen/fgen.py) -/
def F_251_17 (z0 : Int32) (h : sm_H) : Option (Int32 × sm_H) :=
  if z0 = 0 ∨ z0 = 1 then some (z0, h) else none
theorem B_251_17 {L : Nat} {xs : Nat → Int32} {d : Nat} (hd : 0 ≤ d) {res : Option Value × sm_H} {z0 : Int32}  {h : sm_H} {r : (Int32 × sm_H)} (hf : F_251_17 z0 h = some r) (hs : (fun (r : Int32 × sm_H) => res = (some (.int r.1), r.2)) r) : Ex (P_G L xs) (RUN L xs d) (sm_lk P_t251) 3 17 [none, none] [.int z0] h res := by
  unfold F_251_17 at hf
  rcases Classical.em (z0 = 0 ∨ z0 = 1) with c0 | c0
  · rw [if_pos c0] at hf
    obtain rfl := Option.some.inj hf
    exact Ex.iret rfl rfl (fun _ => c0) hs
  · rw [if_neg c0] at hf
    cases hf
def F_251_16  (h : sm_H) : Option (Int32 × sm_H) :=
  F_251_17 0 h
theorem B_251_16 {L : Nat} {xs : Nat → Int32} {d : Nat} (hd : 0 ≤ d) {res : Option Value × sm_H}   {h : sm_H} {r : (Int32 × sm_H)} (hf : F_251_16  h = some r) (hs : (fun (r : Int32 × sm_H) => res = (some (.int r.1), r.2)) r) : Ex (P_G L xs) (RUN L xs d) (sm_lk P_t251) 3 16 [none, none] [] h res := by
  unfold F_251_16 at hf
  refine Ex.seg 1 (pc' := 17) (lc' := [none, none]) (st' := [.int 0]) (h' := h) (sg1 rfl rfl rfl) ?_
  exact Ex.weak (sm_le_s (sm_le_s sm_le_nil)) (B_251_17 hd  hf hs)
def F_251_0 (x1 : Int32) (h : sm_H) : Option (Int32 × sm_H) :=
  if x1 < 48 then (F_251_16 h)
  else (if 57 < x1 then (F_251_16 h)
  else (F_251_17 1 h))
theorem B_251_0 {L : Nat} {xs : Nat → Int32} {d : Nat} (hd : 0 ≤ d) {res : Option Value × sm_H} {x1 : Int32}  {h : sm_H} {r : (Int32 × sm_H)} (hf : F_251_0 x1 h = some r) (hs : (fun (r : Int32 × sm_H) => res = (some (.int r.1), r.2)) r) : Ex (P_G L xs) (RUN L xs d) (sm_lk P_t251) 3 0 [some (.ref 52), some (.int x1)] [] h res := by
  unfold F_251_0 at hf
  refine Ex.seg 2 (pc' := 3) (lc' := [some (.ref 52), some (.int x1)]) (st' := [.int 48, .int x1]) (h' := h) (sg1 rfl rfl (sg1 rfl rfl rfl)) ?_
  refine Ex.icmp rfl rfl (fun (c0 : x1 < 48) => ?_) (fun (c0 : ¬ (x1 < 48)) => ?_)
  · rw [if_pos c0] at hf
    exact Ex.weak (sm_le_n (sm_le_n sm_le_nil)) (B_251_16 hd  hf hs)
  · rw [if_neg c0] at hf
    refine Ex.seg 2 (pc' := 9) (lc' := [some (.ref 52), some (.int x1)]) (st' := [.int 57, .int x1]) (h' := h) (sg1 rfl rfl (sg1 rfl rfl rfl)) ?_
    refine Ex.icmp rfl rfl (fun (c0 : 57 < x1) => ?_) (fun (c0 : ¬ (57 < x1)) => ?_)
    · rw [if_pos c0] at hf
      exact Ex.weak (sm_le_n (sm_le_n sm_le_nil)) (B_251_16 hd  hf hs)
    · rw [if_neg c0] at hf
      refine Ex.seg 2 (pc' := 17) (lc' := [some (.ref 52), some (.int x1)]) (st' := [.int 1]) (h' := h) (sg1 rfl rfl (sg1 rfl rfl rfl)) ?_
      exact Ex.weak (sm_le_n (sm_le_n sm_le_nil)) (B_251_17 hd  hf hs)
/-- HandleHouse$Words.isDigit(I)Z -/
abbrev F_251 (x1 : Int32) (h : sm_H) : Option (Int32 × sm_H) := F_251_0 x1 h
theorem E_251 {L : Nat} {xs : Nat → Int32} {d : Nat} (hd : 1 ≤ d) {x1 : Int32} {h : sm_H} {r : Int32 × sm_H} (hf : F_251 x1 h = some r) : RUN L xs d 251 [.ref 52, .int x1] h (some (.int r.1), r.2) := by
  obtain ⟨d, rfl⟩ : ∃ e, d = e + 1 := ⟨d - 1, by omega⟩
  exact ⟨Nat.le_of_ble_eq_true rfl, B_251_0 (by omega) hf rfl⟩
def F_252_17 (z0 : Int32) (h : sm_H) : Option (Int32 × sm_H) :=
  if z0 = 0 ∨ z0 = 1 then some (z0, h) else none
theorem B_252_17 {L : Nat} {xs : Nat → Int32} {d : Nat} (hd : 0 ≤ d) {res : Option Value × sm_H} {z0 : Int32}  {h : sm_H} {r : (Int32 × sm_H)} (hf : F_252_17 z0 h = some r) (hs : (fun (r : Int32 × sm_H) => res = (some (.int r.1), r.2)) r) : Ex (P_G L xs) (RUN L xs d) (sm_lk P_t252) 3 17 [none, none] [.int z0] h res := by
  unfold F_252_17 at hf
  rcases Classical.em (z0 = 0 ∨ z0 = 1) with c0 | c0
  · rw [if_pos c0] at hf
    obtain rfl := Option.some.inj hf
    exact Ex.iret rfl rfl (fun _ => c0) hs
  · rw [if_neg c0] at hf
    cases hf
def F_252_16  (h : sm_H) : Option (Int32 × sm_H) :=
  F_252_17 0 h
theorem B_252_16 {L : Nat} {xs : Nat → Int32} {d : Nat} (hd : 0 ≤ d) {res : Option Value × sm_H}   {h : sm_H} {r : (Int32 × sm_H)} (hf : F_252_16  h = some r) (hs : (fun (r : Int32 × sm_H) => res = (some (.int r.1), r.2)) r) : Ex (P_G L xs) (RUN L xs d) (sm_lk P_t252) 3 16 [none, none] [] h res := by
  unfold F_252_16 at hf
  refine Ex.seg 1 (pc' := 17) (lc' := [none, none]) (st' := [.int 0]) (h' := h) (sg1 rfl rfl rfl) ?_
  exact Ex.weak (sm_le_s (sm_le_s sm_le_nil)) (B_252_17 hd  hf hs)
def F_252_0 (x1 : Int32) (h : sm_H) : Option (Int32 × sm_H) :=
  if x1 < 97 then (F_252_16 h)
  else (if 122 < x1 then (F_252_16 h)
  else (F_252_17 1 h))
theorem B_252_0 {L : Nat} {xs : Nat → Int32} {d : Nat} (hd : 0 ≤ d) {res : Option Value × sm_H} {x1 : Int32}  {h : sm_H} {r : (Int32 × sm_H)} (hf : F_252_0 x1 h = some r) (hs : (fun (r : Int32 × sm_H) => res = (some (.int r.1), r.2)) r) : Ex (P_G L xs) (RUN L xs d) (sm_lk P_t252) 3 0 [some (.ref 52), some (.int x1)] [] h res := by
  unfold F_252_0 at hf
  refine Ex.seg 2 (pc' := 3) (lc' := [some (.ref 52), some (.int x1)]) (st' := [.int 97, .int x1]) (h' := h) (sg1 rfl rfl (sg1 rfl rfl rfl)) ?_
  refine Ex.icmp rfl rfl (fun (c0 : x1 < 97) => ?_) (fun (c0 : ¬ (x1 < 97)) => ?_)
  · rw [if_pos c0] at hf
    exact Ex.weak (sm_le_n (sm_le_n sm_le_nil)) (B_252_16 hd  hf hs)
  · rw [if_neg c0] at hf
    refine Ex.seg 2 (pc' := 9) (lc' := [some (.ref 52), some (.int x1)]) (st' := [.int 122, .int x1]) (h' := h) (sg1 rfl rfl (sg1 rfl rfl rfl)) ?_
    refine Ex.icmp rfl rfl (fun (c0 : 122 < x1) => ?_) (fun (c0 : ¬ (122 < x1)) => ?_)
    · rw [if_pos c0] at hf
      exact Ex.weak (sm_le_n (sm_le_n sm_le_nil)) (B_252_16 hd  hf hs)
    · rw [if_neg c0] at hf
      refine Ex.seg 2 (pc' := 17) (lc' := [some (.ref 52), some (.int x1)]) (st' := [.int 1]) (h' := h) (sg1 rfl rfl (sg1 rfl rfl rfl)) ?_
      exact Ex.weak (sm_le_n (sm_le_n sm_le_nil)) (B_252_17 hd  hf hs)
/-- HandleHouse$Words.isLetter(I)Z -/
abbrev F_252 (x1 : Int32) (h : sm_H) : Option (Int32 × sm_H) := F_252_0 x1 h
theorem E_252 {L : Nat} {xs : Nat → Int32} {d : Nat} (hd : 1 ≤ d) {x1 : Int32} {h : sm_H} {r : Int32 × sm_H} (hf : F_252 x1 h = some r) : RUN L xs d 252 [.ref 52, .int x1] h (some (.int r.1), r.2) := by
  obtain ⟨d, rfl⟩ : ∃ e, d = e + 1 := ⟨d - 1, by omega⟩
  exact ⟨Nat.le_of_ble_eq_true rfl, B_252_0 (by omega) hf rfl⟩
def F_253_52  (h : sm_H) : Option (sm_H) :=
  some h
theorem B_253_52 {L : Nat} {xs : Nat → Int32} {d : Nat} (hd : 0 ≤ d) {res : Option Value × sm_H}   {h : sm_H} {r : (sm_H)} (hf : F_253_52  h = some r) (hs : (fun (r : sm_H) => res = (none, r)) r) : Ex (P_G L xs) (RUN L xs d) (sm_lk P_t253) 0 52 [none] [] h res := by
  unfold F_253_52 at hf
  obtain rfl := Option.some.inj hf
  exact Ex.vret rfl rfl hs
def F_253_39  (h : sm_H) : Option ((sm_H) ⊕ (sm_H)) :=
  (some (sm_wI h 52 3 ((h.1 52 3) + 1))).bind fun h1 =>
  some (.inl (h1))
theorem B_253_39 {L : Nat} {xs : Nat → Int32} {d : Nat} (hd : 0 ≤ d) {res : Option Value × sm_H} {S1 : (sm_H) → Prop} (hS1 : ∀ s, S1 s → Ex (P_G L xs) (RUN L xs d) (sm_lk P_t253) 0 0 [some (.ref 52)] [] s res)   {h : sm_H} {r : ((sm_H) ⊕ (sm_H))} (hf : F_253_39  h = some r) (hs : (Sum.elim S1 (fun (r : sm_H) => res = (none, r))) r) : Ex (P_G L xs) (RUN L xs d) (sm_lk P_t253) 0 39 [some (.ref 52)] [] h res := by
  unfold F_253_39 at hf
  refine Ex.seg 6 (pc' := 49) (lc' := [some (.ref 52)]) (st' := []) (h' := (sm_wI h 52 3 ((h.1 52 3) + 1))) (sg1 rfl rfl (sg1 rfl rfl (sg1 rfl rfl (sg1 rfl rfl (sg1 rfl rfl (sg1 rfl rfl rfl)))))) ?_
  obtain ⟨h1, e_h1, hf⟩ := bnd hf
  rw [Option.some.inj e_h1]
  refine Ex.seg 1 (pc' := 0) (lc' := [some (.ref 52)]) (st' := []) (h' := h1) (sg1 rfl rfl rfl) ?_
  obtain rfl := Option.some.inj hf
  exact Ex.weak (sm_le_s sm_le_nil) (hS1 _ hs)
def F_253_0B (s : (sm_H)) : Option ((sm_H) ⊕ (sm_H)) :=
  if (s.1 52 1) ≤ (s.1 52 3) then ((F_253_52 s).map fun r => (.inr r))
  else ((ldI s 53 3000 (s.1 52 3)).bind fun v2 =>
  if v2 = 32 then (F_253_39 s)
  else ((ldI s 53 3000 (s.1 52 3)).bind fun v3 =>
  if v3 = 10 then (F_253_39 s)
  else ((F_253_52 s).map fun r => (.inr r))))
theorem B_253_0B {L : Nat} {xs : Nat → Int32} {d : Nat} (hd : 0 ≤ d) {res : Option Value × sm_H} {S1 : (sm_H) → Prop} (hS1 : ∀ s, S1 s → Ex (P_G L xs) (RUN L xs d) (sm_lk P_t253) 0 0 [some (.ref 52)] [] s res) {s : (sm_H)}  {r : ((sm_H) ⊕ (sm_H))} (hf : F_253_0B s = some r) (hs : (Sum.elim S1 (fun (r : sm_H) => res = (none, r))) r) : Ex (P_G L xs) (RUN L xs d) (sm_lk P_t253) 0 0 [some (.ref 52)] [] s res := by
  unfold F_253_0B at hf
  refine Ex.seg 4 (pc' := 8) (lc' := [some (.ref 52)]) (st' := [.int (s.1 52 1), .int (s.1 52 3)]) (h' := s) (sg1 rfl rfl (sg1 rfl rfl (sg1 rfl rfl (sg1 rfl rfl rfl)))) ?_
  refine Ex.icmp rfl rfl (fun (c0 : (s.1 52 1) ≤ (s.1 52 3)) => ?_) (fun (c0 : ¬ ((s.1 52 1) ≤ (s.1 52 3))) => ?_)
  · rw [if_pos c0] at hf
    obtain ⟨r0, hf0, rfl⟩ := Option.map_eq_some_iff.mp hf
    exact Ex.weak (sm_le_n sm_le_nil) (B_253_52 hd  hf0 hs)
  · rw [if_neg c0] at hf
    refine Ex.seg 4 (pc' := 19) (lc' := [some (.ref 52)]) (st' := [.int (s.1 52 3), .ref 53]) (h' := s) (sg1 rfl rfl (sg1 rfl rfl (sg1 rfl rfl (sg1 rfl rfl rfl)))) ?_
    obtain ⟨v2, e_v2, hf⟩ := bnd hf
    refine Ex.iald e_v2 rfl rfl ?_
    refine Ex.seg 1 (pc' := 22) (lc' := [some (.ref 52)]) (st' := [.int 32, .int v2]) (h' := s) (sg1 rfl rfl rfl) ?_
    refine Ex.icmp rfl rfl (fun (c0 : v2 = 32) => ?_) (fun (c0 : ¬ (v2 = 32)) => ?_)
    · rw [if_pos c0] at hf
      exact Ex.weak (sm_le_s sm_le_nil) (B_253_39 hd hS1 hf hs)
    · rw [if_neg c0] at hf
      refine Ex.seg 4 (pc' := 33) (lc' := [some (.ref 52)]) (st' := [.int (s.1 52 3), .ref 53]) (h' := s) (sg1 rfl rfl (sg1 rfl rfl (sg1 rfl rfl (sg1 rfl rfl rfl)))) ?_
      obtain ⟨v3, e_v3, hf⟩ := bnd hf
      refine Ex.iald e_v3 rfl rfl ?_
      refine Ex.seg 1 (pc' := 36) (lc' := [some (.ref 52)]) (st' := [.int 10, .int v3]) (h' := s) (sg1 rfl rfl rfl) ?_
      refine Ex.icmp rfl rfl (fun (c0 : ¬ (v3 = 10)) => ?_) (fun (c0 : ¬ ¬ (v3 = 10)) => ?_)
      · rw [if_neg c0] at hf
        obtain ⟨r0, hf0, rfl⟩ := Option.map_eq_some_iff.mp hf
        exact Ex.weak (sm_le_n sm_le_nil) (B_253_52 hd  hf0 hs)
      · rw [if_pos (Classical.not_not.mp c0)] at hf
        exact Ex.weak (sm_le_s sm_le_nil) (B_253_39 hd hS1 hf hs)
def F_253_0  (h : sm_H) : Option (sm_H) := lp F_253_0B 1000000 (h)
theorem B_253_0 {L : Nat} {xs : Nat → Int32} {d : Nat} (hd : 0 ≤ d) {res : Option Value × sm_H}   {h : sm_H} {r : (sm_H)} (hf : F_253_0  h = some r) (hs : (fun (r : sm_H) => res = (none, r)) r) : Ex (P_G L xs) (RUN L xs d) (sm_lk P_t253) 0 0 [some (.ref 52)] [] h res := by
  unfold F_253_0 at hf
  exact lp_ok (P := fun (s : (sm_H)) => Ex (P_G L xs) (RUN L xs d) (sm_lk P_t253) 0 0 [some (.ref 52)] [] s res) (S := (fun (r : sm_H) => res = (none, r))) (fun s x hx hsx => by
    intros
    exact B_253_0B hd  (fun _ q => q) hx hsx) 1000000 _ r hf hs
/-- HandleHouse$Words.skipBlanks()V -/
abbrev F_253  (h : sm_H) : Option (sm_H) := F_253_0  h
theorem E_253 {L : Nat} {xs : Nat → Int32} {d : Nat} (hd : 1 ≤ d)  {h : sm_H} {r : sm_H} (hf : F_253  h = some r) : RUN L xs d 253 [.ref 52] h (none, r) := by
  obtain ⟨d, rfl⟩ : ∃ e, d = e + 1 := ⟨d - 1, by omega⟩
  exact ⟨Nat.le_of_ble_eq_true rfl, Ex.weak (sm_le_s sm_le_nil) (B_253_0 (by omega) hf rfl)⟩
def F_255_129 (z0 : Int32) (h : sm_H) : Option (Int32 × sm_H) :=
  some (z0, h)
theorem B_255_129 {L : Nat} {xs : Nat → Int32} {d : Nat} (hd : 0 ≤ d) {res : Option Value × sm_H} {z0 : Int32}  {h : sm_H} {r : (Int32 × sm_H)} (hf : F_255_129 z0 h = some r) (hs : (fun (r : Int32 × sm_H) => res = (some (.int r.1), r.2)) r) : Ex (P_G L xs) (RUN L xs d) (sm_lk P_t255) 0 129 [none, none] [.int z0] h res := by
  unfold F_255_129 at hf
  obtain rfl := Option.some.inj hf
  exact Ex.iret rfl rfl (fun c0 => by cases c0) hs
def F_255_112 (y1 : Int32) (h : sm_H) : Option (Int32 × sm_H) :=
  (some (sm_wI h 52 6 2)).bind fun h1 =>
  if y1 ≤ 8 then (F_255_129 4 h1)
  else (F_255_129 6 h1)
theorem B_255_112 {L : Nat} {xs : Nat → Int32} {d : Nat} (hd : 0 ≤ d) {res : Option Value × sm_H} {y1 : Int32}  {h : sm_H} {r : (Int32 × sm_H)} (hf : F_255_112 y1 h = some r) (hs : (fun (r : Int32 × sm_H) => res = (some (.int r.1), r.2)) r) : Ex (P_G L xs) (RUN L xs d) (sm_lk P_t255) 0 112 [some (.ref 52), some (.int y1)] [] h res := by
  unfold F_255_112 at hf
  refine Ex.seg 3 (pc' := 117) (lc' := [some (.ref 52), some (.int y1)]) (st' := []) (h' := (sm_wI h 52 6 2)) (sg1 rfl rfl (sg1 rfl rfl (sg1 rfl rfl rfl))) ?_
  obtain ⟨h1, e_h1, hf⟩ := bnd hf
  rw [Option.some.inj e_h1]
  refine Ex.seg 2 (pc' := 120) (lc' := [some (.ref 52), some (.int y1)]) (st' := [.int 8, .int y1]) (h' := h1) (sg1 rfl rfl (sg1 rfl rfl rfl)) ?_
  refine Ex.icmp rfl rfl (fun (c0 : y1 ≤ 8) => ?_) (fun (c0 : ¬ (y1 ≤ 8)) => ?_)
  · rw [if_pos c0] at hf
    refine Ex.seg 1 (pc' := 129) (lc' := [some (.ref 52), some (.int y1)]) (st' := [.int 4]) (h' := h1) (sg1 rfl rfl rfl) ?_
    exact Ex.weak (sm_le_n (sm_le_n sm_le_nil)) (B_255_129 hd  hf hs)
  · rw [if_neg c0] at hf
    refine Ex.seg 2 (pc' := 129) (lc' := [some (.ref 52), some (.int y1)]) (st' := [.int 6]) (h' := h1) (sg1 rfl rfl (sg1 rfl rfl rfl)) ?_
    exact Ex.weak (sm_le_n (sm_le_n sm_le_nil)) (B_255_129 hd  hf hs)
def F_255_74 (y1 : Int32) (h : sm_H) : Option ((Int32 × sm_H) ⊕ (Int32 × sm_H)) :=
  (ldI h 53 3000 (h.1 52 3)).bind fun v2 =>
  (some (sm_wJ h 52 10 (((h.2.1 52 10) <<< (Int32.toInt64 8 &&& 63)) ||| (Int32.toInt64 v2)))).bind fun h3 =>
  (some (y1 + 1 : Int32)).bind fun v4 =>
  (some (sm_wI h3 52 3 ((h3.1 52 3) + 1))).bind fun h5 =>
  some (.inl (v4, h5))
theorem B_255_74 {L : Nat} {xs : Nat → Int32} {d : Nat} (hd : 0 ≤ d) {res : Option Value × sm_H} {S1 : (Int32 × sm_H) → Prop} (hS1 : ∀ s, S1 s → Ex (P_G L xs) (RUN L xs d) (sm_lk P_t255) 0 7 [some (.ref 52), some (.int s.1)] [] s.2 res) {y1 : Int32}  {h : sm_H} {r : ((Int32 × sm_H) ⊕ (Int32 × sm_H))} (hf : F_255_74 y1 h = some r) (hs : (Sum.elim S1 (fun (r : Int32 × sm_H) => res = (some (.int r.1), r.2))) r) : Ex (P_G L xs) (RUN L xs d) (sm_lk P_t255) 0 74 [some (.ref 52), some (.int y1)] [] h res := by
  unfold F_255_74 at hf
  refine Ex.seg 9 (pc' := 90) (lc' := [some (.ref 52), some (.int y1)]) (st' := [.int (h.1 52 3), .ref 53, .long ((h.2.1 52 10) <<< (Int32.toInt64 8 &&& 63)), .ref 52]) (h' := h) (sg1 rfl rfl (sg1 rfl rfl (sg1 rfl rfl (sg1 rfl rfl (sg1 rfl rfl (sg1 rfl rfl (sg1 rfl rfl (sg1 rfl rfl (sg1 rfl rfl rfl))))))))) ?_
  obtain ⟨v2, e_v2, hf⟩ := bnd hf
  refine Ex.iald e_v2 rfl rfl ?_
  refine Ex.seg 3 (pc' := 96) (lc' := [some (.ref 52), some (.int y1)]) (st' := []) (h' := (sm_wJ h 52 10 (((h.2.1 52 10) <<< (Int32.toInt64 8 &&& 63)) ||| (Int32.toInt64 v2)))) (sg1 rfl rfl (sg1 rfl rfl (sg1 rfl rfl rfl))) ?_
  obtain ⟨h3, e_h3, hf⟩ := bnd hf
  rw [Option.some.inj e_h3]
  refine Ex.seg 1 (pc' := 99) (lc' := [some (.ref 52), some (.int (y1 + 1))]) (st' := []) (h' := h3) (sg1 rfl rfl rfl) ?_
  obtain ⟨v4, e_v4, hf⟩ := bnd hf
  rw [Option.some.inj e_v4]
  refine Ex.seg 6 (pc' := 109) (lc' := [some (.ref 52), some (.int v4)]) (st' := []) (h' := (sm_wI h3 52 3 ((h3.1 52 3) + 1))) (sg1 rfl rfl (sg1 rfl rfl (sg1 rfl rfl (sg1 rfl rfl (sg1 rfl rfl (sg1 rfl rfl rfl)))))) ?_
  obtain ⟨h5, e_h5, hf⟩ := bnd hf
  rw [Option.some.inj e_h5]
  refine Ex.seg 1 (pc' := 7) (lc' := [some (.ref 52), some (.int v4)]) (st' := []) (h' := h5) (sg1 rfl rfl rfl) ?_
  obtain rfl := Option.some.inj hf
  exact Ex.weak (sm_le_s (sm_le_s sm_le_nil)) (hS1 _ hs)
def F_255_46 (y1 : Int32) (h : sm_H) : Option ((Int32 × sm_H) ⊕ (Int32 × sm_H)) :=
  (ldI h 53 3000 (h.1 52 3)).bind fun v6 =>
  if v6 < 48 then ((F_255_112 y1 h).map fun r => (.inr r))
  else ((ldI h 53 3000 (h.1 52 3)).bind fun v7 =>
  if 57 < v7 then ((F_255_112 y1 h).map fun r => (.inr r))
  else (F_255_74 y1 h))
theorem B_255_46 {L : Nat} {xs : Nat → Int32} {d : Nat} (hd : 0 ≤ d) {res : Option Value × sm_H} {S1 : (Int32 × sm_H) → Prop} (hS1 : ∀ s, S1 s → Ex (P_G L xs) (RUN L xs d) (sm_lk P_t255) 0 7 [some (.ref 52), some (.int s.1)] [] s.2 res) {y1 : Int32}  {h : sm_H} {r : ((Int32 × sm_H) ⊕ (Int32 × sm_H))} (hf : F_255_46 y1 h = some r) (hs : (Sum.elim S1 (fun (r : Int32 × sm_H) => res = (some (.int r.1), r.2))) r) : Ex (P_G L xs) (RUN L xs d) (sm_lk P_t255) 0 46 [some (.ref 52), some (.int y1)] [] h res := by
  unfold F_255_46 at hf
  refine Ex.seg 4 (pc' := 54) (lc' := [some (.ref 52), some (.int y1)]) (st' := [.int (h.1 52 3), .ref 53]) (h' := h) (sg1 rfl rfl (sg1 rfl rfl (sg1 rfl rfl (sg1 rfl rfl rfl)))) ?_
  obtain ⟨v6, e_v6, hf⟩ := bnd hf
  refine Ex.iald e_v6 rfl rfl ?_
  refine Ex.seg 1 (pc' := 57) (lc' := [some (.ref 52), some (.int y1)]) (st' := [.int 48, .int v6]) (h' := h) (sg1 rfl rfl rfl) ?_
  refine Ex.icmp rfl rfl (fun (c0 : v6 < 48) => ?_) (fun (c0 : ¬ (v6 < 48)) => ?_)
  · rw [if_pos c0] at hf
    obtain ⟨r0, hf0, rfl⟩ := Option.map_eq_some_iff.mp hf
    exact Ex.weak (sm_le_s (sm_le_s sm_le_nil)) (B_255_112 hd  hf0 hs)
  · rw [if_neg c0] at hf
    refine Ex.seg 4 (pc' := 68) (lc' := [some (.ref 52), some (.int y1)]) (st' := [.int (h.1 52 3), .ref 53]) (h' := h) (sg1 rfl rfl (sg1 rfl rfl (sg1 rfl rfl (sg1 rfl rfl rfl)))) ?_
    obtain ⟨v7, e_v7, hf⟩ := bnd hf
    refine Ex.iald e_v7 rfl rfl ?_
    refine Ex.seg 1 (pc' := 71) (lc' := [some (.ref 52), some (.int y1)]) (st' := [.int 57, .int v7]) (h' := h) (sg1 rfl rfl rfl) ?_
    refine Ex.icmp rfl rfl (fun (c0 : 57 < v7) => ?_) (fun (c0 : ¬ (57 < v7)) => ?_)
    · rw [if_pos c0] at hf
      obtain ⟨r0, hf0, rfl⟩ := Option.map_eq_some_iff.mp hf
      exact Ex.weak (sm_le_s (sm_le_s sm_le_nil)) (B_255_112 hd  hf0 hs)
    · rw [if_neg c0] at hf
      exact Ex.weak (sm_le_s (sm_le_s sm_le_nil)) (B_255_74 hd hS1 hf hs)
def F_255_7B (s : (Int32 × sm_H)) : Option ((Int32 × sm_H) ⊕ (Int32 × sm_H)) :=
  if (s.2.1 52 1) ≤ (s.2.1 52 3) then ((F_255_112 s.1 s.2).map fun r => (.inr r))
  else ((ldI s.2 53 3000 (s.2.1 52 3)).bind fun v8 =>
  if v8 < 97 then (F_255_46 s.1 s.2)
  else ((ldI s.2 53 3000 (s.2.1 52 3)).bind fun v9 =>
  if v9 ≤ 122 then (F_255_74 s.1 s.2)
  else (F_255_46 s.1 s.2)))
theorem B_255_7B {L : Nat} {xs : Nat → Int32} {d : Nat} (hd : 0 ≤ d) {res : Option Value × sm_H} {S1 : (Int32 × sm_H) → Prop} (hS1 : ∀ s, S1 s → Ex (P_G L xs) (RUN L xs d) (sm_lk P_t255) 0 7 [some (.ref 52), some (.int s.1)] [] s.2 res) {s : (Int32 × sm_H)}  {r : ((Int32 × sm_H) ⊕ (Int32 × sm_H))} (hf : F_255_7B s = some r) (hs : (Sum.elim S1 (fun (r : Int32 × sm_H) => res = (some (.int r.1), r.2))) r) : Ex (P_G L xs) (RUN L xs d) (sm_lk P_t255) 0 7 [some (.ref 52), some (.int s.1)] [] s.2 res := by
  unfold F_255_7B at hf
  refine Ex.seg 4 (pc' := 15) (lc' := [some (.ref 52), some (.int s.1)]) (st' := [.int (s.2.1 52 1), .int (s.2.1 52 3)]) (h' := s.2) (sg1 rfl rfl (sg1 rfl rfl (sg1 rfl rfl (sg1 rfl rfl rfl)))) ?_
  refine Ex.icmp rfl rfl (fun (c0 : (s.2.1 52 1) ≤ (s.2.1 52 3)) => ?_) (fun (c0 : ¬ ((s.2.1 52 1) ≤ (s.2.1 52 3))) => ?_)
  · rw [if_pos c0] at hf
    obtain ⟨r0, hf0, rfl⟩ := Option.map_eq_some_iff.mp hf
    exact Ex.weak (sm_le_s (sm_le_s sm_le_nil)) (B_255_112 hd  hf0 hs)
  · rw [if_neg c0] at hf
    refine Ex.seg 4 (pc' := 26) (lc' := [some (.ref 52), some (.int s.1)]) (st' := [.int (s.2.1 52 3), .ref 53]) (h' := s.2) (sg1 rfl rfl (sg1 rfl rfl (sg1 rfl rfl (sg1 rfl rfl rfl)))) ?_
    obtain ⟨v8, e_v8, hf⟩ := bnd hf
    refine Ex.iald e_v8 rfl rfl ?_
    refine Ex.seg 1 (pc' := 29) (lc' := [some (.ref 52), some (.int s.1)]) (st' := [.int 97, .int v8]) (h' := s.2) (sg1 rfl rfl rfl) ?_
    refine Ex.icmp rfl rfl (fun (c0 : v8 < 97) => ?_) (fun (c0 : ¬ (v8 < 97)) => ?_)
    · rw [if_pos c0] at hf
      exact Ex.weak (sm_le_s (sm_le_s sm_le_nil)) (B_255_46 hd hS1 hf hs)
    · rw [if_neg c0] at hf
      refine Ex.seg 4 (pc' := 40) (lc' := [some (.ref 52), some (.int s.1)]) (st' := [.int (s.2.1 52 3), .ref 53]) (h' := s.2) (sg1 rfl rfl (sg1 rfl rfl (sg1 rfl rfl (sg1 rfl rfl rfl)))) ?_
      obtain ⟨v9, e_v9, hf⟩ := bnd hf
      refine Ex.iald e_v9 rfl rfl ?_
      refine Ex.seg 1 (pc' := 43) (lc' := [some (.ref 52), some (.int s.1)]) (st' := [.int 122, .int v9]) (h' := s.2) (sg1 rfl rfl rfl) ?_
      refine Ex.icmp rfl rfl (fun (c0 : v9 ≤ 122) => ?_) (fun (c0 : ¬ (v9 ≤ 122)) => ?_)
      · rw [if_pos c0] at hf
        exact Ex.weak (sm_le_s (sm_le_s sm_le_nil)) (B_255_74 hd hS1 hf hs)
      · rw [if_neg c0] at hf
        exact Ex.weak (sm_le_s (sm_le_s sm_le_nil)) (B_255_46 hd hS1 hf hs)
def F_255_7 (y1 : Int32) (h : sm_H) : Option (Int32 × sm_H) := lp F_255_7B 1000000 (y1, h)
theorem B_255_7 {L : Nat} {xs : Nat → Int32} {d : Nat} (hd : 0 ≤ d) {res : Option Value × sm_H} {y1 : Int32}  {h : sm_H} {r : (Int32 × sm_H)} (hf : F_255_7 y1 h = some r) (hs : (fun (r : Int32 × sm_H) => res = (some (.int r.1), r.2)) r) : Ex (P_G L xs) (RUN L xs d) (sm_lk P_t255) 0 7 [some (.ref 52), some (.int y1)] [] h res := by
  unfold F_255_7 at hf
  exact lp_ok (P := fun (s : (Int32 × sm_H)) => Ex (P_G L xs) (RUN L xs d) (sm_lk P_t255) 0 7 [some (.ref 52), some (.int s.1)] [] s.2 res) (S := (fun (r : Int32 × sm_H) => res = (some (.int r.1), r.2))) (fun s x hx hsx => by
    intros
    exact B_255_7B hd  (fun _ q => q) hx hsx) 1000000 _ r hf hs
def F_255_0  (h : sm_H) : Option (Int32 × sm_H) :=
  (some (sm_wJ h 52 10 0)).bind fun h10 =>
  F_255_7 0 h10
theorem B_255_0 {L : Nat} {xs : Nat → Int32} {d : Nat} (hd : 0 ≤ d) {res : Option Value × sm_H}   {h : sm_H} {r : (Int32 × sm_H)} (hf : F_255_0  h = some r) (hs : (fun (r : Int32 × sm_H) => res = (some (.int r.1), r.2)) r) : Ex (P_G L xs) (RUN L xs d) (sm_lk P_t255) 0 0 [some (.ref 52), none] [] h res := by
  unfold F_255_0 at hf
  refine Ex.seg 5 (pc' := 7) (lc' := [some (.ref 52), some (.int 0)]) (st' := []) (h' := (sm_wJ h 52 10 0)) (sg1 rfl rfl (sg1 rfl rfl (sg1 rfl rfl (sg1 rfl rfl (sg1 rfl rfl rfl))))) ?_
  obtain ⟨h10, e_h10, hf⟩ := bnd hf
  rw [Option.some.inj e_h10]
  exact Ex.weak (sm_le_s (sm_le_s sm_le_nil)) (B_255_7 hd  hf hs)
/-- HandleHouse$Words.stepName()I -/
abbrev F_255  (h : sm_H) : Option (Int32 × sm_H) := F_255_0  h
theorem E_255 {L : Nat} {xs : Nat → Int32} {d : Nat} (hd : 1 ≤ d)  {h : sm_H} {r : Int32 × sm_H} (hf : F_255  h = some r) : RUN L xs d 255 [.ref 52] h (some (.int r.1), r.2) := by
  obtain ⟨d, rfl⟩ : ∃ e, d = e + 1 := ⟨d - 1, by omega⟩
  exact ⟨Nat.le_of_ble_eq_true rfl, B_255_0 (by omega) hf rfl⟩
def F_256_244 (z0 : Int32) (h : sm_H) : Option (Int32 × sm_H) :=
  some (z0, h)
theorem B_256_244 {L : Nat} {xs : Nat → Int32} {d : Nat} (hd : 0 ≤ d) {res : Option Value × sm_H} {z0 : Int32}  {h : sm_H} {r : (Int32 × sm_H)} (hf : F_256_244 z0 h = some r) (hs : (fun (r : Int32 × sm_H) => res = (some (.int r.1), r.2)) r) : Ex (P_G L xs) (RUN L xs d) (sm_lk P_t256) 0 244 [none, none, none, none, none, none] [.int z0] h res := by
  unfold F_256_244 at hf
  obtain rfl := Option.some.inj hf
  exact Ex.iret rfl rfl (fun c0 => by cases c0) hs
def F_256_229 (y2 : Int32) (h : sm_H) : Option (Int32 × sm_H) :=
  (some (sm_wI h 52 6 3)).bind fun h1 =>
  if y2 = 0 then (F_256_244 6 h1)
  else (F_256_244 3 h1)
theorem B_256_229 {L : Nat} {xs : Nat → Int32} {d : Nat} (hd : 0 ≤ d) {res : Option Value × sm_H} {y2 : Int32}  {h : sm_H} {r : (Int32 × sm_H)} (hf : F_256_229 y2 h = some r) (hs : (fun (r : Int32 × sm_H) => res = (some (.int r.1), r.2)) r) : Ex (P_G L xs) (RUN L xs d) (sm_lk P_t256) 0 229 [some (.ref 52), none, some (.int y2), none, none, none] [] h res := by
  unfold F_256_229 at hf
  refine Ex.seg 3 (pc' := 234) (lc' := [some (.ref 52), none, some (.int y2), none, none, none]) (st' := []) (h' := (sm_wI h 52 6 3)) (sg1 rfl rfl (sg1 rfl rfl (sg1 rfl rfl rfl))) ?_
  obtain ⟨h1, e_h1, hf⟩ := bnd hf
  rw [Option.some.inj e_h1]
  refine Ex.seg 1 (pc' := 235) (lc' := [some (.ref 52), none, some (.int y2), none, none, none]) (st' := [.int y2]) (h' := h1) (sg1 rfl rfl rfl) ?_
  refine Ex.ifc rfl rfl (fun (c0 : y2 = 0) => ?_) (fun (c0 : ¬ (y2 = 0)) => ?_)
  · rw [if_pos c0] at hf
    refine Ex.seg 1 (pc' := 244) (lc' := [some (.ref 52), none, some (.int y2), none, none, none]) (st' := [.int 6]) (h' := h1) (sg1 rfl rfl rfl) ?_
    exact Ex.weak (sm_le_n (sm_le_s (sm_le_n (sm_le_s (sm_le_s (sm_le_s sm_le_nil)))))) (B_256_244 hd  hf hs)
  · rw [if_neg c0] at hf
    refine Ex.seg 2 (pc' := 244) (lc' := [some (.ref 52), none, some (.int y2), none, none, none]) (st' := [.int 3]) (h' := h1) (sg1 rfl rfl (sg1 rfl rfl rfl)) ?_
    exact Ex.weak (sm_le_n (sm_le_s (sm_le_n (sm_le_s (sm_le_s (sm_le_s sm_le_nil)))))) (B_256_244 hd  hf hs)
def F_256_228 (z0 : Int32) (h : sm_H) : Option (Int32 × sm_H) :=
  F_256_229 z0 h
theorem B_256_228 {L : Nat} {xs : Nat → Int32} {d : Nat} (hd : 0 ≤ d) {res : Option Value × sm_H} {z0 : Int32}  {h : sm_H} {r : (Int32 × sm_H)} (hf : F_256_228 z0 h = some r) (hs : (fun (r : Int32 × sm_H) => res = (some (.int r.1), r.2)) r) : Ex (P_G L xs) (RUN L xs d) (sm_lk P_t256) 0 228 [some (.ref 52), none, none, none, none, none] [.int z0] h res := by
  unfold F_256_228 at hf
  refine Ex.seg 1 (pc' := 229) (lc' := [some (.ref 52), none, some (.int z0), none, none, none]) (st' := []) (h' := h) (sg1 rfl rfl rfl) ?_
  exact Ex.weak (sm_le_s (sm_le_s (sm_le_s (sm_le_s (sm_le_s (sm_le_s sm_le_nil)))))) (B_256_229 hd  hf hs)
def F_256_227  (h : sm_H) : Option (Int32 × sm_H) :=
  F_256_228 0 h
theorem B_256_227 {L : Nat} {xs : Nat → Int32} {d : Nat} (hd : 0 ≤ d) {res : Option Value × sm_H}   {h : sm_H} {r : (Int32 × sm_H)} (hf : F_256_227  h = some r) (hs : (fun (r : Int32 × sm_H) => res = (some (.int r.1), r.2)) r) : Ex (P_G L xs) (RUN L xs d) (sm_lk P_t256) 0 227 [some (.ref 52), none, none, none, none, none] [] h res := by
  unfold F_256_227 at hf
  refine Ex.seg 1 (pc' := 228) (lc' := [some (.ref 52), none, none, none, none, none]) (st' := [.int 0]) (h' := h) (sg1 rfl rfl rfl) ?_
  exact Ex.weak (sm_le_s (sm_le_s (sm_le_s (sm_le_s (sm_le_s (sm_le_s sm_le_nil)))))) (B_256_228 hd  hf hs)
def F_256_205 (y2 : Int32) (h : sm_H) : Option (Int32 × sm_H) :=
  if y2 = 0 then (F_256_227 h)
  else (if (lg_cmp (h.2.1 52 8) (Int32.toInt64 (Int64.toInt32 (h.2.1 52 8)))) = 0 then (F_256_228 1 h)
  else (F_256_227 h))
theorem B_256_205 {L : Nat} {xs : Nat → Int32} {d : Nat} (hd : 0 ≤ d) {res : Option Value × sm_H} {y2 : Int32}  {h : sm_H} {r : (Int32 × sm_H)} (hf : F_256_205 y2 h = some r) (hs : (fun (r : Int32 × sm_H) => res = (some (.int r.1), r.2)) r) : Ex (P_G L xs) (RUN L xs d) (sm_lk P_t256) 0 205 [some (.ref 52), none, some (.int y2), none, none, none] [] h res := by
  unfold F_256_205 at hf
  refine Ex.seg 1 (pc' := 206) (lc' := [some (.ref 52), none, some (.int y2), none, none, none]) (st' := [.int y2]) (h' := h) (sg1 rfl rfl rfl) ?_
  refine Ex.ifc rfl rfl (fun (c0 : y2 = 0) => ?_) (fun (c0 : ¬ (y2 = 0)) => ?_)
  · rw [if_pos c0] at hf
    exact Ex.weak (sm_le_s (sm_le_s (sm_le_n (sm_le_s (sm_le_s (sm_le_s sm_le_nil)))))) (B_256_227 hd  hf hs)
  · rw [if_neg c0] at hf
    refine Ex.seg 7 (pc' := 220) (lc' := [some (.ref 52), none, some (.int y2), none, none, none]) (st' := [.int (lg_cmp (h.2.1 52 8) (Int32.toInt64 (Int64.toInt32 (h.2.1 52 8))))]) (h' := h) (sg1 rfl rfl (sg1 rfl rfl (sg1 rfl rfl (sg1 rfl rfl (sg1 rfl rfl (sg1 rfl rfl (sg1 rfl rfl rfl))))))) ?_
    refine Ex.ifc rfl rfl (fun (c0 : ¬ ((lg_cmp (h.2.1 52 8) (Int32.toInt64 (Int64.toInt32 (h.2.1 52 8)))) = 0)) => ?_) (fun (c0 : ¬ ¬ ((lg_cmp (h.2.1 52 8) (Int32.toInt64 (Int64.toInt32 (h.2.1 52 8)))) = 0)) => ?_)
    · rw [if_neg c0] at hf
      exact Ex.weak (sm_le_s (sm_le_s (sm_le_n (sm_le_s (sm_le_s (sm_le_s sm_le_nil)))))) (B_256_227 hd  hf hs)
    · rw [if_pos (Classical.not_not.mp c0)] at hf
      refine Ex.seg 2 (pc' := 228) (lc' := [some (.ref 52), none, some (.int y2), none, none, none]) (st' := [.int 1]) (h' := h) (sg1 rfl rfl (sg1 rfl rfl rfl)) ?_
      exact Ex.weak (sm_le_s (sm_le_s (sm_le_n (sm_le_s (sm_le_s (sm_le_s sm_le_nil)))))) (B_256_228 hd  hf hs)
def F_256_153 (y2 : Int32) (z1 : Int64) (h : sm_H) : Option (Int32 × sm_H) :=
  (some (sm_wJ h 52 8 z1)).bind fun h2 =>
  (some (sm_wI h2 52 9 5)).bind fun h3 =>
  if (h3.1 52 1) ≤ (h3.1 52 3) then (F_256_205 y2 h3)
  else ((ldI h3 53 3000 (h3.1 52 3)).bind fun v4 =>
  if v4 = 108 then ((some (sm_wI h3 52 9 6)).bind fun h5 =>
  (some (sm_wI h5 52 3 ((h5.1 52 3) + 1))).bind fun h6 =>
  F_256_229 y2 h6)
  else (F_256_205 y2 h3))
theorem B_256_153 {L : Nat} {xs : Nat → Int32} {d : Nat} (hd : 0 ≤ d) {res : Option Value × sm_H} {y2 : Int32} {z1 : Int64}  {h : sm_H} {r : (Int32 × sm_H)} (hf : F_256_153 y2 z1 h = some r) (hs : (fun (r : Int32 × sm_H) => res = (some (.int r.1), r.2)) r) : Ex (P_G L xs) (RUN L xs d) (sm_lk P_t256) 0 153 [some (.ref 52), none, some (.int y2), none, none, none] [.long z1, .ref 52] h res := by
  unfold F_256_153 at hf
  refine Ex.seg 1 (pc' := 156) (lc' := [some (.ref 52), none, some (.int y2), none, none, none]) (st' := []) (h' := (sm_wJ h 52 8 z1)) (sg1 rfl rfl rfl) ?_
  obtain ⟨h2, e_h2, hf⟩ := bnd hf
  rw [Option.some.inj e_h2]
  refine Ex.seg 3 (pc' := 161) (lc' := [some (.ref 52), none, some (.int y2), none, none, none]) (st' := []) (h' := (sm_wI h2 52 9 5)) (sg1 rfl rfl (sg1 rfl rfl (sg1 rfl rfl rfl))) ?_
  obtain ⟨h3, e_h3, hf⟩ := bnd hf
  rw [Option.some.inj e_h3]
  refine Ex.seg 4 (pc' := 169) (lc' := [some (.ref 52), none, some (.int y2), none, none, none]) (st' := [.int (h3.1 52 1), .int (h3.1 52 3)]) (h' := h3) (sg1 rfl rfl (sg1 rfl rfl (sg1 rfl rfl (sg1 rfl rfl rfl)))) ?_
  refine Ex.icmp rfl rfl (fun (c0 : (h3.1 52 1) ≤ (h3.1 52 3)) => ?_) (fun (c0 : ¬ ((h3.1 52 1) ≤ (h3.1 52 3))) => ?_)
  · rw [if_pos c0] at hf
    exact Ex.weak (sm_le_s (sm_le_s (sm_le_s (sm_le_s (sm_le_s (sm_le_s sm_le_nil)))))) (B_256_205 hd  hf hs)
  · rw [if_neg c0] at hf
    refine Ex.seg 4 (pc' := 180) (lc' := [some (.ref 52), none, some (.int y2), none, none, none]) (st' := [.int (h3.1 52 3), .ref 53]) (h' := h3) (sg1 rfl rfl (sg1 rfl rfl (sg1 rfl rfl (sg1 rfl rfl rfl)))) ?_
    obtain ⟨v4, e_v4, hf⟩ := bnd hf
    refine Ex.iald e_v4 rfl rfl ?_
    refine Ex.seg 1 (pc' := 183) (lc' := [some (.ref 52), none, some (.int y2), none, none, none]) (st' := [.int 108, .int v4]) (h' := h3) (sg1 rfl rfl rfl) ?_
    refine Ex.icmp rfl rfl (fun (c0 : ¬ (v4 = 108)) => ?_) (fun (c0 : ¬ ¬ (v4 = 108)) => ?_)
    · rw [if_neg c0] at hf
      exact Ex.weak (sm_le_s (sm_le_s (sm_le_s (sm_le_s (sm_le_s (sm_le_s sm_le_nil)))))) (B_256_205 hd  hf hs)
    · rw [if_pos (Classical.not_not.mp c0)] at hf
      refine Ex.seg 3 (pc' := 192) (lc' := [some (.ref 52), none, some (.int y2), none, none, none]) (st' := []) (h' := (sm_wI h3 52 9 6)) (sg1 rfl rfl (sg1 rfl rfl (sg1 rfl rfl rfl))) ?_
      obtain ⟨h5, e_h5, hf⟩ := bnd hf
      rw [Option.some.inj e_h5]
      refine Ex.seg 6 (pc' := 202) (lc' := [some (.ref 52), none, some (.int y2), none, none, none]) (st' := []) (h' := (sm_wI h5 52 3 ((h5.1 52 3) + 1))) (sg1 rfl rfl (sg1 rfl rfl (sg1 rfl rfl (sg1 rfl rfl (sg1 rfl rfl (sg1 rfl rfl rfl)))))) ?_
      obtain ⟨h6, e_h6, hf⟩ := bnd hf
      rw [Option.some.inj e_h6]
      refine Ex.seg 1 (pc' := 229) (lc' := [some (.ref 52), none, some (.int y2), none, none, none]) (st' := []) (h' := h6) (sg1 rfl rfl rfl) ?_
      exact Ex.weak (sm_le_s (sm_le_s (sm_le_s (sm_le_s (sm_le_s (sm_le_s sm_le_nil)))))) (B_256_229 hd  hf hs)
def F_256_141 (y1 : Int32) (y3 : Int64) (z0 : Int32) (h : sm_H) : Option (Int32 × sm_H) :=
  if y1 = 0 then (F_256_153 z0 (-y3) h)
  else (F_256_153 z0 y3 h)
theorem B_256_141 {L : Nat} {xs : Nat → Int32} {d : Nat} (hd : 0 ≤ d) {res : Option Value × sm_H} {y1 : Int32} {y3 : Int64} {z0 : Int32}  {h : sm_H} {r : (Int32 × sm_H)} (hf : F_256_141 y1 y3 z0 h = some r) (hs : (fun (r : Int32 × sm_H) => res = (some (.int r.1), r.2)) r) : Ex (P_G L xs) (RUN L xs d) (sm_lk P_t256) 0 141 [some (.ref 52), some (.int y1), none, some (.long y3), none, none] [.int z0] h res := by
  unfold F_256_141 at hf
  refine Ex.seg 3 (pc' := 144) (lc' := [some (.ref 52), some (.int y1), some (.int z0), some (.long y3), none, none]) (st' := [.int y1, .ref 52]) (h' := h) (sg1 rfl rfl (sg1 rfl rfl (sg1 rfl rfl rfl))) ?_
  refine Ex.ifc rfl rfl (fun (c0 : y1 = 0) => ?_) (fun (c0 : ¬ (y1 = 0)) => ?_)
  · rw [if_pos c0] at hf
    refine Ex.seg 2 (pc' := 153) (lc' := [some (.ref 52), some (.int y1), some (.int z0), some (.long y3), none, none]) (st' := [.long (-y3), .ref 52]) (h' := h) (sg1 rfl rfl (sg1 rfl rfl rfl)) ?_
    exact Ex.weak (sm_le_s (sm_le_n (sm_le_s (sm_le_n (sm_le_s (sm_le_s sm_le_nil)))))) (B_256_153 hd  hf hs)
  · rw [if_neg c0] at hf
    refine Ex.seg 2 (pc' := 153) (lc' := [some (.ref 52), some (.int y1), some (.int z0), some (.long y3), none, none]) (st' := [.long y3, .ref 52]) (h' := h) (sg1 rfl rfl (sg1 rfl rfl rfl)) ?_
    exact Ex.weak (sm_le_s (sm_le_n (sm_le_s (sm_le_n (sm_le_s (sm_le_s sm_le_nil)))))) (B_256_153 hd  hf hs)
def F_256_140 (y1 : Int32) (y3 : Int64) (h : sm_H) : Option (Int32 × sm_H) :=
  F_256_141 y1 y3 0 h
theorem B_256_140 {L : Nat} {xs : Nat → Int32} {d : Nat} (hd : 0 ≤ d) {res : Option Value × sm_H} {y1 : Int32} {y3 : Int64}  {h : sm_H} {r : (Int32 × sm_H)} (hf : F_256_140 y1 y3 h = some r) (hs : (fun (r : Int32 × sm_H) => res = (some (.int r.1), r.2)) r) : Ex (P_G L xs) (RUN L xs d) (sm_lk P_t256) 0 140 [some (.ref 52), some (.int y1), none, some (.long y3), none, none] [] h res := by
  unfold F_256_140 at hf
  refine Ex.seg 1 (pc' := 141) (lc' := [some (.ref 52), some (.int y1), none, some (.long y3), none, none]) (st' := [.int 0]) (h' := h) (sg1 rfl rfl rfl) ?_
  exact Ex.weak (sm_le_s (sm_le_s (sm_le_s (sm_le_s (sm_le_s (sm_le_s sm_le_nil)))))) (B_256_141 hd  hf hs)
def F_256_136 (y1 : Int32) (y3 : Int64) (h : sm_H) : Option (Int32 × sm_H) :=
  F_256_141 y1 y3 1 h
theorem B_256_136 {L : Nat} {xs : Nat → Int32} {d : Nat} (hd : 0 ≤ d) {res : Option Value × sm_H} {y1 : Int32} {y3 : Int64}  {h : sm_H} {r : (Int32 × sm_H)} (hf : F_256_136 y1 y3 h = some r) (hs : (fun (r : Int32 × sm_H) => res = (some (.int r.1), r.2)) r) : Ex (P_G L xs) (RUN L xs d) (sm_lk P_t256) 0 136 [some (.ref 52), some (.int y1), none, some (.long y3), none, none] [] h res := by
  unfold F_256_136 at hf
  refine Ex.seg 2 (pc' := 141) (lc' := [some (.ref 52), some (.int y1), none, some (.long y3), none, none]) (st' := [.int 1]) (h' := h) (sg1 rfl rfl (sg1 rfl rfl rfl)) ?_
  exact Ex.weak (sm_le_s (sm_le_s (sm_le_s (sm_le_s (sm_le_s (sm_le_s sm_le_nil)))))) (B_256_141 hd  hf hs)
def F_256_120 (y1 : Int32) (y2 : Int32) (y3 : Int64) (h : sm_H) : Option (Int32 × sm_H) :=
  if y2 = 0 then (F_256_140 y1 y3 h)
  else (if y1 = 0 then (if (lg_cmp y3 (-9223372036854775808)) = 0 then (F_256_140 y1 y3 h)
  else (F_256_136 y1 y3 h))
  else (F_256_136 y1 y3 h))
theorem B_256_120 {L : Nat} {xs : Nat → Int32} {d : Nat} (hd : 0 ≤ d) {res : Option Value × sm_H} {y1 : Int32} {y2 : Int32} {y3 : Int64}  {h : sm_H} {r : (Int32 × sm_H)} (hf : F_256_120 y1 y2 y3 h = some r) (hs : (fun (r : Int32 × sm_H) => res = (some (.int r.1), r.2)) r) : Ex (P_G L xs) (RUN L xs d) (sm_lk P_t256) 0 120 [some (.ref 52), some (.int y1), some (.int y2), some (.long y3), none, none] [] h res := by
  unfold F_256_120 at hf
  refine Ex.seg 1 (pc' := 121) (lc' := [some (.ref 52), some (.int y1), some (.int y2), some (.long y3), none, none]) (st' := [.int y2]) (h' := h) (sg1 rfl rfl rfl) ?_
  refine Ex.ifc rfl rfl (fun (c0 : y2 = 0) => ?_) (fun (c0 : ¬ (y2 = 0)) => ?_)
  · rw [if_pos c0] at hf
    exact Ex.weak (sm_le_s (sm_le_s (sm_le_n (sm_le_s (sm_le_s (sm_le_s sm_le_nil)))))) (B_256_140 hd  hf hs)
  · rw [if_neg c0] at hf
    refine Ex.seg 1 (pc' := 125) (lc' := [some (.ref 52), some (.int y1), some (.int y2), some (.long y3), none, none]) (st' := [.int y1]) (h' := h) (sg1 rfl rfl rfl) ?_
    refine Ex.ifc rfl rfl (fun (c0 : ¬ (y1 = 0)) => ?_) (fun (c0 : ¬ ¬ (y1 = 0)) => ?_)
    · rw [if_neg c0] at hf
      exact Ex.weak (sm_le_s (sm_le_s (sm_le_n (sm_le_s (sm_le_s (sm_le_s sm_le_nil)))))) (B_256_136 hd  hf hs)
    · rw [if_pos (Classical.not_not.mp c0)] at hf
      refine Ex.seg 3 (pc' := 133) (lc' := [some (.ref 52), some (.int y1), some (.int y2), some (.long y3), none, none]) (st' := [.int (lg_cmp y3 (-9223372036854775808))]) (h' := h) (sg1 rfl rfl (sg1 rfl rfl (sg1 rfl rfl rfl))) ?_
      refine Ex.ifc rfl rfl (fun (c0 : (lg_cmp y3 (-9223372036854775808)) = 0) => ?_) (fun (c0 : ¬ ((lg_cmp y3 (-9223372036854775808)) = 0)) => ?_)
      · rw [if_pos c0] at hf
        exact Ex.weak (sm_le_s (sm_le_s (sm_le_n (sm_le_s (sm_le_s (sm_le_s sm_le_nil)))))) (B_256_140 hd  hf hs)
      · rw [if_neg c0] at hf
        exact Ex.weak (sm_le_s (sm_le_s (sm_le_n (sm_le_s (sm_le_s (sm_le_s sm_le_nil)))))) (B_256_136 hd  hf hs)
def F_256_96 (y1 : Int32) (y3 : Int64) (y5 : Int32) (z0 : Int32) (h : sm_H) : Option ((Int32 × Int32 × Int64 × sm_H) ⊕ (Int32 × sm_H)) :=
  (some (((y3 * 10) - (Int32.toInt64 y5)) : Int64)).bind fun v7 =>
  (some (sm_wI h 52 3 ((h.1 52 3) + 1))).bind fun h8 =>
  some (.inl (y1, z0, v7, h8))
theorem B_256_96 {L : Nat} {xs : Nat → Int32} {d : Nat} (hd : 0 ≤ d) {res : Option Value × sm_H} {S1 : (Int32 × Int32 × Int64 × sm_H) → Prop} (hS1 : ∀ s, S1 s → Ex (P_G L xs) (RUN L xs d) (sm_lk P_t256) 0 18 [some (.ref 52), some (.int s.1), some (.int s.2.1), some (.long s.2.2.1), none, none] [] s.2.2.2 res) {y1 : Int32} {y3 : Int64} {y5 : Int32} {z0 : Int32}  {h : sm_H} {r : ((Int32 × Int32 × Int64 × sm_H) ⊕ (Int32 × sm_H))} (hf : F_256_96 y1 y3 y5 z0 h = some r) (hs : (Sum.elim S1 (fun (r : Int32 × sm_H) => res = (some (.int r.1), r.2))) r) : Ex (P_G L xs) (RUN L xs d) (sm_lk P_t256) 0 96 [some (.ref 52), some (.int y1), none, some (.long y3), none, some (.int y5)] [.int z0] h res := by
  unfold F_256_96 at hf
  refine Ex.seg 8 (pc' := 107) (lc' := [some (.ref 52), some (.int y1), some (.int z0), some (.long ((y3 * 10) - (Int32.toInt64 y5))), none, some (.int y5)]) (st' := []) (h' := h) (sg1 rfl rfl (sg1 rfl rfl (sg1 rfl rfl (sg1 rfl rfl (sg1 rfl rfl (sg1 rfl rfl (sg1 rfl rfl (sg1 rfl rfl rfl)))))))) ?_
  obtain ⟨v7, e_v7, hf⟩ := bnd hf
  rw [Option.some.inj e_v7]
  refine Ex.seg 6 (pc' := 117) (lc' := [some (.ref 52), some (.int y1), some (.int z0), some (.long v7), none, some (.int y5)]) (st' := []) (h' := (sm_wI h 52 3 ((h.1 52 3) + 1))) (sg1 rfl rfl (sg1 rfl rfl (sg1 rfl rfl (sg1 rfl rfl (sg1 rfl rfl (sg1 rfl rfl rfl)))))) ?_
  obtain ⟨h8, e_h8, hf⟩ := bnd hf
  rw [Option.some.inj e_h8]
  refine Ex.seg 1 (pc' := 18) (lc' := [some (.ref 52), some (.int y1), some (.int z0), some (.long v7), none, some (.int y5)]) (st' := []) (h' := h8) (sg1 rfl rfl rfl) ?_
  obtain rfl := Option.some.inj hf
  exact Ex.weak (sm_le_s (sm_le_s (sm_le_s (sm_le_s (sm_le_s (sm_le_n sm_le_nil)))))) (hS1 _ hs)
def F_256_95 (y1 : Int32) (y3 : Int64) (y5 : Int32) (h : sm_H) : Option ((Int32 × Int32 × Int64 × sm_H) ⊕ (Int32 × sm_H)) :=
  F_256_96 y1 y3 y5 0 h
theorem B_256_95 {L : Nat} {xs : Nat → Int32} {d : Nat} (hd : 0 ≤ d) {res : Option Value × sm_H} {S1 : (Int32 × Int32 × Int64 × sm_H) → Prop} (hS1 : ∀ s, S1 s → Ex (P_G L xs) (RUN L xs d) (sm_lk P_t256) 0 18 [some (.ref 52), some (.int s.1), some (.int s.2.1), some (.long s.2.2.1), none, none] [] s.2.2.2 res) {y1 : Int32} {y3 : Int64} {y5 : Int32}  {h : sm_H} {r : ((Int32 × Int32 × Int64 × sm_H) ⊕ (Int32 × sm_H))} (hf : F_256_95 y1 y3 y5 h = some r) (hs : (Sum.elim S1 (fun (r : Int32 × sm_H) => res = (some (.int r.1), r.2))) r) : Ex (P_G L xs) (RUN L xs d) (sm_lk P_t256) 0 95 [some (.ref 52), some (.int y1), none, some (.long y3), none, some (.int y5)] [] h res := by
  unfold F_256_95 at hf
  refine Ex.seg 1 (pc' := 96) (lc' := [some (.ref 52), some (.int y1), none, some (.long y3), none, some (.int y5)]) (st' := [.int 0]) (h' := h) (sg1 rfl rfl rfl) ?_
  exact Ex.weak (sm_le_s (sm_le_s (sm_le_s (sm_le_s (sm_le_s (sm_le_s sm_le_nil)))))) (B_256_96 hd hS1 hf hs)
def F_256_18B (s : (Int32 × Int32 × Int64 × sm_H)) : Option ((Int32 × Int32 × Int64 × sm_H) ⊕ (Int32 × sm_H)) :=
  if (s.2.2.2.1 52 1) ≤ (s.2.2.2.1 52 3) then ((F_256_120 s.1 s.2.1 s.2.2.1 s.2.2.2).map fun r => (.inr r))
  else ((ldI s.2.2.2 53 3000 (s.2.2.2.1 52 3)).bind fun v9 =>
  if v9 < 48 then ((F_256_120 s.1 s.2.1 s.2.2.1 s.2.2.2).map fun r => (.inr r))
  else ((ldI s.2.2.2 53 3000 (s.2.2.2.1 52 3)).bind fun v10 =>
  if 57 < v10 then ((F_256_120 s.1 s.2.1 s.2.2.1 s.2.2.2).map fun r => (.inr r))
  else ((ldI s.2.2.2 53 3000 (s.2.2.2.1 52 3)).bind fun v11 =>
  (some ((v11 - 48) : Int32)).bind fun v12 =>
  if s.2.1 = 0 then (F_256_95 s.1 s.2.2.1 v12 s.2.2.2)
  else (if (10 : Int64) = 0 then none else (if (lg_cmp s.2.2.1 (((-9223372036854775808) + (Int32.toInt64 v12)) / 10)) < 0 then (F_256_95 s.1 s.2.2.1 v12 s.2.2.2)
  else (F_256_96 s.1 s.2.2.1 v12 1 s.2.2.2))))))
theorem B_256_18B {L : Nat} {xs : Nat → Int32} {d : Nat} (hd : 0 ≤ d) {res : Option Value × sm_H} {S1 : (Int32 × Int32 × Int64 × sm_H) → Prop} (hS1 : ∀ s, S1 s → Ex (P_G L xs) (RUN L xs d) (sm_lk P_t256) 0 18 [some (.ref 52), some (.int s.1), some (.int s.2.1), some (.long s.2.2.1), none, none] [] s.2.2.2 res) {s : (Int32 × Int32 × Int64 × sm_H)}  {r : ((Int32 × Int32 × Int64 × sm_H) ⊕ (Int32 × sm_H))} (hf : F_256_18B s = some r) (hs : (Sum.elim S1 (fun (r : Int32 × sm_H) => res = (some (.int r.1), r.2))) r) : Ex (P_G L xs) (RUN L xs d) (sm_lk P_t256) 0 18 [some (.ref 52), some (.int s.1), some (.int s.2.1), some (.long s.2.2.1), none, none] [] s.2.2.2 res := by
  unfold F_256_18B at hf
  refine Ex.seg 4 (pc' := 26) (lc' := [some (.ref 52), some (.int s.1), some (.int s.2.1), some (.long s.2.2.1), none, none]) (st' := [.int (s.2.2.2.1 52 1), .int (s.2.2.2.1 52 3)]) (h' := s.2.2.2) (sg1 rfl rfl (sg1 rfl rfl (sg1 rfl rfl (sg1 rfl rfl rfl)))) ?_
  refine Ex.icmp rfl rfl (fun (c0 : (s.2.2.2.1 52 1) ≤ (s.2.2.2.1 52 3)) => ?_) (fun (c0 : ¬ ((s.2.2.2.1 52 1) ≤ (s.2.2.2.1 52 3))) => ?_)
  · rw [if_pos c0] at hf
    obtain ⟨r0, hf0, rfl⟩ := Option.map_eq_some_iff.mp hf
    exact Ex.weak (sm_le_s (sm_le_s (sm_le_s (sm_le_s (sm_le_s (sm_le_s sm_le_nil)))))) (B_256_120 hd  hf0 hs)
  · rw [if_neg c0] at hf
    refine Ex.seg 4 (pc' := 37) (lc' := [some (.ref 52), some (.int s.1), some (.int s.2.1), some (.long s.2.2.1), none, none]) (st' := [.int (s.2.2.2.1 52 3), .ref 53]) (h' := s.2.2.2) (sg1 rfl rfl (sg1 rfl rfl (sg1 rfl rfl (sg1 rfl rfl rfl)))) ?_
    obtain ⟨v9, e_v9, hf⟩ := bnd hf
    refine Ex.iald e_v9 rfl rfl ?_
    refine Ex.seg 1 (pc' := 40) (lc' := [some (.ref 52), some (.int s.1), some (.int s.2.1), some (.long s.2.2.1), none, none]) (st' := [.int 48, .int v9]) (h' := s.2.2.2) (sg1 rfl rfl rfl) ?_
    refine Ex.icmp rfl rfl (fun (c0 : v9 < 48) => ?_) (fun (c0 : ¬ (v9 < 48)) => ?_)
    · rw [if_pos c0] at hf
      obtain ⟨r0, hf0, rfl⟩ := Option.map_eq_some_iff.mp hf
      exact Ex.weak (sm_le_s (sm_le_s (sm_le_s (sm_le_s (sm_le_s (sm_le_s sm_le_nil)))))) (B_256_120 hd  hf0 hs)
    · rw [if_neg c0] at hf
      refine Ex.seg 4 (pc' := 51) (lc' := [some (.ref 52), some (.int s.1), some (.int s.2.1), some (.long s.2.2.1), none, none]) (st' := [.int (s.2.2.2.1 52 3), .ref 53]) (h' := s.2.2.2) (sg1 rfl rfl (sg1 rfl rfl (sg1 rfl rfl (sg1 rfl rfl rfl)))) ?_
      obtain ⟨v10, e_v10, hf⟩ := bnd hf
      refine Ex.iald e_v10 rfl rfl ?_
      refine Ex.seg 1 (pc' := 54) (lc' := [some (.ref 52), some (.int s.1), some (.int s.2.1), some (.long s.2.2.1), none, none]) (st' := [.int 57, .int v10]) (h' := s.2.2.2) (sg1 rfl rfl rfl) ?_
      refine Ex.icmp rfl rfl (fun (c0 : 57 < v10) => ?_) (fun (c0 : ¬ (57 < v10)) => ?_)
      · rw [if_pos c0] at hf
        obtain ⟨r0, hf0, rfl⟩ := Option.map_eq_some_iff.mp hf
        exact Ex.weak (sm_le_s (sm_le_s (sm_le_s (sm_le_s (sm_le_s (sm_le_s sm_le_nil)))))) (B_256_120 hd  hf0 hs)
      · rw [if_neg c0] at hf
        refine Ex.seg 4 (pc' := 65) (lc' := [some (.ref 52), some (.int s.1), some (.int s.2.1), some (.long s.2.2.1), none, none]) (st' := [.int (s.2.2.2.1 52 3), .ref 53]) (h' := s.2.2.2) (sg1 rfl rfl (sg1 rfl rfl (sg1 rfl rfl (sg1 rfl rfl rfl)))) ?_
        obtain ⟨v11, e_v11, hf⟩ := bnd hf
        refine Ex.iald e_v11 rfl rfl ?_
        refine Ex.seg 3 (pc' := 71) (lc' := [some (.ref 52), some (.int s.1), some (.int s.2.1), some (.long s.2.2.1), none, some (.int (v11 - 48))]) (st' := []) (h' := s.2.2.2) (sg1 rfl rfl (sg1 rfl rfl (sg1 rfl rfl rfl))) ?_
        obtain ⟨v12, e_v12, hf⟩ := bnd hf
        rw [Option.some.inj e_v12]
        refine Ex.seg 1 (pc' := 72) (lc' := [some (.ref 52), some (.int s.1), some (.int s.2.1), some (.long s.2.2.1), none, some (.int v12)]) (st' := [.int s.2.1]) (h' := s.2.2.2) (sg1 rfl rfl rfl) ?_
        refine Ex.ifc rfl rfl (fun (c0 : s.2.1 = 0) => ?_) (fun (c0 : ¬ (s.2.1 = 0)) => ?_)
        · rw [if_pos c0] at hf
          exact Ex.weak (sm_le_s (sm_le_s (sm_le_n (sm_le_s (sm_le_s (sm_le_s sm_le_nil)))))) (B_256_95 hd hS1 hf hs)
        · rw [if_neg c0] at hf
          refine Ex.seg 6 (pc' := 86) (lc' := [some (.ref 52), some (.int s.1), some (.int s.2.1), some (.long s.2.2.1), none, some (.int v12)]) (st' := [.long 10, .long ((-9223372036854775808) + (Int32.toInt64 v12)), .long s.2.2.1]) (h' := s.2.2.2) (sg1 rfl rfl (sg1 rfl rfl (sg1 rfl rfl (sg1 rfl rfl (sg1 rfl rfl (sg1 rfl rfl rfl)))))) ?_
          rcases Classical.em ((10 : Int64) = 0) with c0 | c0
          · rw [if_pos c0] at hf
            cases hf
          rw [if_neg c0] at hf
          refine Ex.ldiv c0 rfl rfl ?_
          refine Ex.seg 1 (pc' := 88) (lc' := [some (.ref 52), some (.int s.1), some (.int s.2.1), some (.long s.2.2.1), none, some (.int v12)]) (st' := [.int (lg_cmp s.2.2.1 (((-9223372036854775808) + (Int32.toInt64 v12)) / 10))]) (h' := s.2.2.2) (sg1 rfl rfl rfl) ?_
          refine Ex.ifc rfl rfl (fun (c0 : (lg_cmp s.2.2.1 (((-9223372036854775808) + (Int32.toInt64 v12)) / 10)) < 0) => ?_) (fun (c0 : ¬ ((lg_cmp s.2.2.1 (((-9223372036854775808) + (Int32.toInt64 v12)) / 10)) < 0)) => ?_)
          · rw [if_pos c0] at hf
            exact Ex.weak (sm_le_s (sm_le_s (sm_le_n (sm_le_s (sm_le_s (sm_le_s sm_le_nil)))))) (B_256_95 hd hS1 hf hs)
          · rw [if_neg c0] at hf
            refine Ex.seg 2 (pc' := 96) (lc' := [some (.ref 52), some (.int s.1), some (.int s.2.1), some (.long s.2.2.1), none, some (.int v12)]) (st' := [.int 1]) (h' := s.2.2.2) (sg1 rfl rfl (sg1 rfl rfl rfl)) ?_
            exact Ex.weak (sm_le_s (sm_le_s (sm_le_n (sm_le_s (sm_le_s (sm_le_s sm_le_nil)))))) (B_256_96 hd hS1 hf hs)
def F_256_18 (y1 : Int32) (y2 : Int32) (y3 : Int64) (h : sm_H) : Option (Int32 × sm_H) := lp F_256_18B 1000000 (y1, y2, y3, h)
theorem B_256_18 {L : Nat} {xs : Nat → Int32} {d : Nat} (hd : 0 ≤ d) {res : Option Value × sm_H} {y1 : Int32} {y2 : Int32} {y3 : Int64}  {h : sm_H} {r : (Int32 × sm_H)} (hf : F_256_18 y1 y2 y3 h = some r) (hs : (fun (r : Int32 × sm_H) => res = (some (.int r.1), r.2)) r) : Ex (P_G L xs) (RUN L xs d) (sm_lk P_t256) 0 18 [some (.ref 52), some (.int y1), some (.int y2), some (.long y3), none, none] [] h res := by
  unfold F_256_18 at hf
  exact lp_ok (P := fun (s : (Int32 × Int32 × Int64 × sm_H)) => Ex (P_G L xs) (RUN L xs d) (sm_lk P_t256) 0 18 [some (.ref 52), some (.int s.1), some (.int s.2.1), some (.long s.2.2.1), none, none] [] s.2.2.2 res) (S := (fun (r : Int32 × sm_H) => res = (some (.int r.1), r.2))) (fun s x hx hsx => by
    intros
    exact B_256_18B hd  (fun _ q => q) hx hsx) 1000000 _ r hf hs
def F_256_0 (x1 : Int32) (h : sm_H) : Option (Int32 × sm_H) :=
  if x1 = 0 then (F_256_18 x1 1 0 h)
  else ((some (sm_wI h 52 3 ((h.1 52 3) + 1))).bind fun h13 =>
  F_256_18 x1 1 0 h13)
theorem B_256_0 {L : Nat} {xs : Nat → Int32} {d : Nat} (hd : 0 ≤ d) {res : Option Value × sm_H} {x1 : Int32}  {h : sm_H} {r : (Int32 × sm_H)} (hf : F_256_0 x1 h = some r) (hs : (fun (r : Int32 × sm_H) => res = (some (.int r.1), r.2)) r) : Ex (P_G L xs) (RUN L xs d) (sm_lk P_t256) 0 0 [some (.ref 52), some (.int x1), none, none, none, none] [] h res := by
  unfold F_256_0 at hf
  refine Ex.seg 5 (pc' := 5) (lc' := [some (.ref 52), some (.int x1), some (.int 1), some (.long 0), none, none]) (st' := [.int x1]) (h' := h) (sg1 rfl rfl (sg1 rfl rfl (sg1 rfl rfl (sg1 rfl rfl (sg1 rfl rfl rfl))))) ?_
  refine Ex.ifc rfl rfl (fun (c0 : x1 = 0) => ?_) (fun (c0 : ¬ (x1 = 0)) => ?_)
  · rw [if_pos c0] at hf
    exact Ex.weak (sm_le_s (sm_le_s (sm_le_s (sm_le_s (sm_le_s (sm_le_s sm_le_nil)))))) (B_256_18 hd  hf hs)
  · rw [if_neg c0] at hf
    refine Ex.seg 6 (pc' := 18) (lc' := [some (.ref 52), some (.int x1), some (.int 1), some (.long 0), none, none]) (st' := []) (h' := (sm_wI h 52 3 ((h.1 52 3) + 1))) (sg1 rfl rfl (sg1 rfl rfl (sg1 rfl rfl (sg1 rfl rfl (sg1 rfl rfl (sg1 rfl rfl rfl)))))) ?_
    obtain ⟨h13, e_h13, hf⟩ := bnd hf
    rw [Option.some.inj e_h13]
    exact Ex.weak (sm_le_s (sm_le_s (sm_le_s (sm_le_s (sm_le_s (sm_le_s sm_le_nil)))))) (B_256_18 hd  hf hs)
/-- HandleHouse$Words.stepNumber(Z)I -/
abbrev F_256 (x1 : Int32) (h : sm_H) : Option (Int32 × sm_H) := F_256_0 x1 h
theorem E_256 {L : Nat} {xs : Nat → Int32} {d : Nat} (hd : 1 ≤ d) {x1 : Int32} {h : sm_H} {r : Int32 × sm_H} (hf : F_256 x1 h = some r) : RUN L xs d 256 [.ref 52, .int x1] h (some (.int r.1), r.2) := by
  obtain ⟨d, rfl⟩ : ∃ e, d = e + 1 := ⟨d - 1, by omega⟩
  exact ⟨Nat.le_of_ble_eq_true rfl, B_256_0 (by omega) hf rfl⟩
def F_262_43 (z0 : Int32) (h : sm_H) : Option (Int32 × sm_H) :=
  some (z0, h)
theorem B_262_43 {L : Nat} {xs : Nat → Int32} {d : Nat} (hd : 1 ≤ d) {res : Option Value × sm_H} {z0 : Int32}  {h : sm_H} {r : (Int32 × sm_H)} (hf : F_262_43 z0 h = some r) (hs : (fun (r : Int32 × sm_H) => res = (some (.int r.1), r.2)) r) : Ex (P_G L xs) (RUN L xs d) (sm_lk P_t262) 0 43 [none, none, none] [.int z0] h res := by
  unfold F_262_43 at hf
  obtain rfl := Option.some.inj hf
  exact Ex.iret rfl rfl (fun c0 => by cases c0) hs
def F_262_0 (x1 : Int32) (x2 : Int32) (h : sm_H) : Option (Int32 × sm_H) :=
  if x2 = (-1) then ((F_225 x1 h).bind fun q4 =>
  some (q4.1, q4.2))
  else (if x2 = (-2) then ((F_224 x1 h).bind fun q2 =>
  if q2.1 = 0 then (F_262_43 (-1) q2.2)
  else ((F_226 x1 q2.2).bind fun q3 =>
  F_262_43 q3.1 q3.2))
  else ((F_227 x1 x2 h).bind fun q1 =>
  some (q1.1, q1.2)))
theorem B_262_0 {L : Nat} {xs : Nat → Int32} {d : Nat} (hd : 1 ≤ d) {res : Option Value × sm_H} {x1 : Int32} {x2 : Int32}  {h : sm_H} {r : (Int32 × sm_H)} (hf : F_262_0 x1 x2 h = some r) (hs : (fun (r : Int32 × sm_H) => res = (some (.int r.1), r.2)) r) : Ex (P_G L xs) (RUN L xs d) (sm_lk P_t262) 0 0 [some (.ref 0), some (.int x1), some (.int x2)] [] h res := by
  unfold F_262_0 at hf
  refine Ex.seg 2 (pc' := 2) (lc' := [some (.ref 0), some (.int x1), some (.int x2)]) (st' := [.int (-1), .int x2]) (h' := h) (sg1 rfl rfl (sg1 rfl rfl rfl)) ?_
  refine Ex.icmp rfl rfl (fun (c0 : ¬ (x2 = (-1))) => ?_) (fun (c0 : ¬ ¬ (x2 = (-1))) => ?_)
  · rw [if_neg c0] at hf
    refine Ex.seg 2 (pc' := 17) (lc' := [some (.ref 0), some (.int x1), some (.int x2)]) (st' := [.int (-2), .int x2]) (h' := h) (sg1 rfl rfl (sg1 rfl rfl rfl)) ?_
    refine Ex.icmp rfl rfl (fun (c0 : ¬ (x2 = (-2))) => ?_) (fun (c0 : ¬ ¬ (x2 = (-2))) => ?_)
    · rw [if_neg c0] at hf
      refine Ex.seg 4 (pc' := 50) (lc' := [some (.ref 0), some (.int x1), some (.int x2)]) (st' := [.int x2, .int x1, .ref 5]) (h' := h) (sg1 rfl rfl (sg1 rfl rfl (sg1 rfl rfl (sg1 rfl rfl rfl)))) ?_
      obtain ⟨q1, e_q1, hf⟩ := bnd hf
      refine Ex.callV (a := 5) (As := [.int x1, .int x2]) (r := []) (v := some (.int q1.1)) (h' := q1.2) rfl rfl (by decide) rfl (Nat.le_of_ble_eq_true rfl) rfl (E_227 (Nat.le_trans (by decide) hd) e_q1) rfl ?_
      obtain rfl := Option.some.inj hf
      exact Ex.iret rfl rfl (fun c0 => by cases c0) hs
    · rw [if_pos (Classical.not_not.mp c0)] at hf
      refine Ex.seg 3 (pc' := 25) (lc' := [some (.ref 0), some (.int x1), some (.int x2)]) (st' := [.int x1, .ref 5]) (h' := h) (sg1 rfl rfl (sg1 rfl rfl (sg1 rfl rfl rfl))) ?_
      obtain ⟨q2, e_q2, hf⟩ := bnd hf
      refine Ex.callV (a := 5) (As := [.int x1]) (r := []) (v := some (.int q2.1)) (h' := q2.2) rfl rfl (by decide) rfl (Nat.le_of_ble_eq_true rfl) rfl (E_224 (Nat.le_trans (by decide) hd) e_q2) rfl ?_
      refine Ex.ifc rfl rfl (fun (c0 : q2.1 = 0) => ?_) (fun (c0 : ¬ (q2.1 = 0)) => ?_)
      · rw [if_pos c0] at hf
        refine Ex.seg 1 (pc' := 43) (lc' := [some (.ref 0), some (.int x1), some (.int x2)]) (st' := [.int (-1)]) (h' := q2.2) (sg1 rfl rfl rfl) ?_
        exact Ex.weak (sm_le_n (sm_le_n (sm_le_n sm_le_nil))) (B_262_43 hd  hf hs)
      · rw [if_neg c0] at hf
        refine Ex.seg 3 (pc' := 36) (lc' := [some (.ref 0), some (.int x1), some (.int x2)]) (st' := [.int x1, .ref 5]) (h' := q2.2) (sg1 rfl rfl (sg1 rfl rfl (sg1 rfl rfl rfl))) ?_
        obtain ⟨q3, e_q3, hf⟩ := bnd hf
        refine Ex.callV (a := 5) (As := [.int x1]) (r := []) (v := some (.int q3.1)) (h' := q3.2) rfl rfl (by decide) rfl (Nat.le_of_ble_eq_true rfl) rfl (E_226 (Nat.le_trans (by decide) hd) e_q3) rfl ?_
        refine Ex.seg 1 (pc' := 43) (lc' := [some (.ref 0), some (.int x1), some (.int x2)]) (st' := [.int q3.1]) (h' := q3.2) (sg1 rfl rfl rfl) ?_
        exact Ex.weak (sm_le_n (sm_le_n (sm_le_n sm_le_nil))) (B_262_43 hd  hf hs)
  · rw [if_pos (Classical.not_not.mp c0)] at hf
    refine Ex.seg 3 (pc' := 10) (lc' := [some (.ref 0), some (.int x1), some (.int x2)]) (st' := [.int x1, .ref 5]) (h' := h) (sg1 rfl rfl (sg1 rfl rfl (sg1 rfl rfl rfl))) ?_
    obtain ⟨q4, e_q4, hf⟩ := bnd hf
    refine Ex.callV (a := 5) (As := [.int x1]) (r := []) (v := some (.int q4.1)) (h' := q4.2) rfl rfl (by decide) rfl (Nat.le_of_ble_eq_true rfl) rfl (E_225 (Nat.le_trans (by decide) hd) e_q4) rfl ?_
    obtain rfl := Option.some.inj hf
    exact Ex.iret rfl rfl (fun c0 => by cases c0) hs
/-- HandleHouse.typeAbout(II)I -/
abbrev F_262 (x1 : Int32) (x2 : Int32) (h : sm_H) : Option (Int32 × sm_H) := F_262_0 x1 x2 h
theorem E_262 {L : Nat} {xs : Nat → Int32} {d : Nat} (hd : 2 ≤ d) {x1 : Int32} {x2 : Int32} {h : sm_H} {r : Int32 × sm_H} (hf : F_262 x1 x2 h = some r) : RUN L xs d 262 [.ref 0, .int x1, .int x2] h (some (.int r.1), r.2) := by
  obtain ⟨d, rfl⟩ : ∃ e, d = e + 1 := ⟨d - 1, by omega⟩
  exact ⟨Nat.le_of_ble_eq_true rfl, B_262_0 (by omega) hf rfl⟩
def F_264_23 (z0 : Int32) (h : sm_H) : Option (Int32 × sm_H) :=
  some (z0, h)
theorem B_264_23 {L : Nat} {xs : Nat → Int32} {d : Nat} (hd : 0 ≤ d) {res : Option Value × sm_H} {z0 : Int32}  {h : sm_H} {r : (Int32 × sm_H)} (hf : F_264_23 z0 h = some r) (hs : (fun (r : Int32 × sm_H) => res = (some (.int r.1), r.2)) r) : Ex (P_G L xs) (RUN L xs d) (sm_lk P_t264) 0 23 [none, none] [.int z0] h res := by
  unfold F_264_23 at hf
  obtain rfl := Option.some.inj hf
  exact Ex.iret rfl rfl (fun c0 => by cases c0) hs
def F_264_11 (y1 : Int32) (z1 : Int32) (h : sm_H) : Option (Int32 × sm_H) :=
  (some (sm_wI h 0 12 z1)).bind fun h1 =>
  if 0 ≤ y1 then (F_264_23 y1 h1)
  else (F_264_23 (-1) h1)
theorem B_264_11 {L : Nat} {xs : Nat → Int32} {d : Nat} (hd : 0 ≤ d) {res : Option Value × sm_H} {y1 : Int32} {z1 : Int32}  {h : sm_H} {r : (Int32 × sm_H)} (hf : F_264_11 y1 z1 h = some r) (hs : (fun (r : Int32 × sm_H) => res = (some (.int r.1), r.2)) r) : Ex (P_G L xs) (RUN L xs d) (sm_lk P_t264) 0 11 [none, some (.int y1)] [.int z1, .ref 0] h res := by
  unfold F_264_11 at hf
  refine Ex.seg 1 (pc' := 14) (lc' := [none, some (.int y1)]) (st' := []) (h' := (sm_wI h 0 12 z1)) (sg1 rfl rfl rfl) ?_
  obtain ⟨h1, e_h1, hf⟩ := bnd hf
  rw [Option.some.inj e_h1]
  refine Ex.seg 1 (pc' := 15) (lc' := [none, some (.int y1)]) (st' := [.int y1]) (h' := h1) (sg1 rfl rfl rfl) ?_
  refine Ex.ifc rfl rfl (fun (c0 : 0 ≤ y1) => ?_) (fun (c0 : ¬ (0 ≤ y1)) => ?_)
  · rw [if_pos c0] at hf
    refine Ex.seg 1 (pc' := 23) (lc' := [none, some (.int y1)]) (st' := [.int y1]) (h' := h1) (sg1 rfl rfl rfl) ?_
    exact Ex.weak (sm_le_s (sm_le_n sm_le_nil)) (B_264_23 hd  hf hs)
  · rw [if_neg c0] at hf
    refine Ex.seg 2 (pc' := 23) (lc' := [none, some (.int y1)]) (st' := [.int (-1)]) (h' := h1) (sg1 rfl rfl (sg1 rfl rfl rfl)) ?_
    exact Ex.weak (sm_le_s (sm_le_n sm_le_nil)) (B_264_23 hd  hf hs)
def F_264_0 (x1 : Int32) (h : sm_H) : Option (Int32 × sm_H) :=
  if 0 ≤ x1 then (F_264_11 x1 0 h)
  else (F_264_11 x1 (-x1) h)
theorem B_264_0 {L : Nat} {xs : Nat → Int32} {d : Nat} (hd : 0 ≤ d) {res : Option Value × sm_H} {x1 : Int32}  {h : sm_H} {r : (Int32 × sm_H)} (hf : F_264_0 x1 h = some r) (hs : (fun (r : Int32 × sm_H) => res = (some (.int r.1), r.2)) r) : Ex (P_G L xs) (RUN L xs d) (sm_lk P_t264) 0 0 [some (.ref 0), some (.int x1)] [] h res := by
  unfold F_264_0 at hf
  refine Ex.seg 2 (pc' := 2) (lc' := [some (.ref 0), some (.int x1)]) (st' := [.int x1, .ref 0]) (h' := h) (sg1 rfl rfl (sg1 rfl rfl rfl)) ?_
  refine Ex.ifc rfl rfl (fun (c0 : 0 ≤ x1) => ?_) (fun (c0 : ¬ (0 ≤ x1)) => ?_)
  · rw [if_pos c0] at hf
    refine Ex.seg 1 (pc' := 11) (lc' := [some (.ref 0), some (.int x1)]) (st' := [.int 0, .ref 0]) (h' := h) (sg1 rfl rfl rfl) ?_
    exact Ex.weak (sm_le_n (sm_le_s sm_le_nil)) (B_264_11 hd  hf hs)
  · rw [if_neg c0] at hf
    refine Ex.seg 3 (pc' := 11) (lc' := [some (.ref 0), some (.int x1)]) (st' := [.int (-x1), .ref 0]) (h' := h) (sg1 rfl rfl (sg1 rfl rfl (sg1 rfl rfl rfl))) ?_
    exact Ex.weak (sm_le_n (sm_le_s sm_le_nil)) (B_264_11 hd  hf hs)
/-- HandleHouse.judged(I)I -/
abbrev F_264 (x1 : Int32) (h : sm_H) : Option (Int32 × sm_H) := F_264_0 x1 h
theorem E_264 {L : Nat} {xs : Nat → Int32} {d : Nat} (hd : 1 ≤ d) {x1 : Int32} {h : sm_H} {r : Int32 × sm_H} (hf : F_264 x1 h = some r) : RUN L xs d 264 [.ref 0, .int x1] h (some (.int r.1), r.2) := by
  obtain ⟨d, rfl⟩ : ∃ e, d = e + 1 := ⟨d - 1, by omega⟩
  exact ⟨Nat.le_of_ble_eq_true rfl, B_264_0 (by omega) hf rfl⟩
def F_265_15  (h : sm_H) : Option (Int32 × sm_H) :=
  some ((-1), h)
theorem B_265_15 {L : Nat} {xs : Nat → Int32} {d : Nat} (hd : 1 ≤ d) {res : Option Value × sm_H}   {h : sm_H} {r : (Int32 × sm_H)} (hf : F_265_15  h = some r) (hs : (fun (r : Int32 × sm_H) => res = (some (.int r.1), r.2)) r) : Ex (P_G L xs) (RUN L xs d) (sm_lk P_t265) 0 15 [none, none, none] [] h res := by
  unfold F_265_15 at hf
  refine Ex.seg 1 (pc' := 16) (lc' := [none, none, none]) (st' := [.int (-1)]) (h' := h) (sg1 rfl rfl rfl) ?_
  obtain rfl := Option.some.inj hf
  exact Ex.iret rfl rfl (fun c0 => by cases c0) hs
def F_265_0 (x1 : Int32) (x2 : Int32) (h : sm_H) : Option (Int32 × sm_H) :=
  (F_36 x1 h).bind fun q1 =>
  if q1.1 = 0 then (F_265_15 q1.2)
  else (if 0 ≤ x2 then (if x2 = 0 then ((F_41 x1 q1.2).bind fun q2 =>
  some (q2.1, q2.2))
  else (if x2 = 1 then ((F_37 x1 q1.2).bind fun q3 =>
  some (q3.1, q3.2))
  else (if x2 = 2 then ((F_38 x1 q1.2).bind fun q4 =>
  some (q4.1, q4.2))
  else (if x2 = 3 then ((F_39 x1 q1.2).bind fun q5 =>
  some (q5.1, q5.2))
  else (if x2 = 4 then ((F_42 x1 q1.2).bind fun q6 =>
  some (q6.1, q6.2))
  else ((F_43 x1 (x2 - 5) q1.2).bind fun q7 =>
  some (q7.1, q7.2)))))))
  else (F_265_15 q1.2))
theorem B_265_0 {L : Nat} {xs : Nat → Int32} {d : Nat} (hd : 1 ≤ d) {res : Option Value × sm_H} {x1 : Int32} {x2 : Int32}  {h : sm_H} {r : (Int32 × sm_H)} (hf : F_265_0 x1 x2 h = some r) (hs : (fun (r : Int32 × sm_H) => res = (some (.int r.1), r.2)) r) : Ex (P_G L xs) (RUN L xs d) (sm_lk P_t265) 0 0 [some (.ref 0), some (.int x1), some (.int x2)] [] h res := by
  unfold F_265_0 at hf
  refine Ex.seg 3 (pc' := 5) (lc' := [some (.ref 0), some (.int x1), some (.int x2)]) (st' := [.int x1, .ref 10]) (h' := h) (sg1 rfl rfl (sg1 rfl rfl (sg1 rfl rfl rfl))) ?_
  obtain ⟨q1, e_q1, hf⟩ := bnd hf
  refine Ex.callV (a := 10) (As := [.int x1]) (r := []) (v := some (.int q1.1)) (h' := q1.2) rfl rfl (by decide) rfl (Nat.le_of_ble_eq_true rfl) rfl (E_36 (Nat.le_trans (by decide) hd) e_q1) rfl ?_
  refine Ex.ifc rfl rfl (fun (c0 : q1.1 = 0) => ?_) (fun (c0 : ¬ (q1.1 = 0)) => ?_)
  · rw [if_pos c0] at hf
    exact Ex.weak (sm_le_n (sm_le_n (sm_le_n sm_le_nil))) (B_265_15 hd  hf hs)
  · rw [if_neg c0] at hf
    refine Ex.seg 1 (pc' := 12) (lc' := [some (.ref 0), some (.int x1), some (.int x2)]) (st' := [.int x2]) (h' := q1.2) (sg1 rfl rfl rfl) ?_
    refine Ex.ifc rfl rfl (fun (c0 : 0 ≤ x2) => ?_) (fun (c0 : ¬ (0 ≤ x2)) => ?_)
    · rw [if_pos c0] at hf
      refine Ex.seg 1 (pc' := 18) (lc' := [some (.ref 0), some (.int x1), some (.int x2)]) (st' := [.int x2]) (h' := q1.2) (sg1 rfl rfl rfl) ?_
      rcases Classical.em (x2 = 0) with n1 | n1
      · rw [if_pos n1] at hf
        refine Ex.swt (t := 52) rfl rfl (by rw [n1]; exact Or.inr ⟨by decide, by decide, _, rfl, by decide⟩) ?_
        refine Ex.seg 3 (pc' := 57) (lc' := [some (.ref 0), some (.int x1), some (.int x2)]) (st' := [.int x1, .ref 10]) (h' := q1.2) (sg1 rfl rfl (sg1 rfl rfl (sg1 rfl rfl rfl))) ?_
        obtain ⟨q2, e_q2, hf⟩ := bnd hf
        refine Ex.callV (a := 10) (As := [.int x1]) (r := []) (v := some (.int q2.1)) (h' := q2.2) rfl rfl (by decide) rfl (Nat.le_of_ble_eq_true rfl) rfl (E_41 (Nat.le_trans (by decide) hd) e_q2) rfl ?_
        obtain rfl := Option.some.inj hf
        exact Ex.iret rfl rfl (fun c0 => by cases c0) hs
      rw [if_neg n1] at hf
      rcases Classical.em (x2 = 1) with n2 | n2
      · rw [if_pos n2] at hf
        refine Ex.swt (t := 61) rfl rfl (by rw [n2]; exact Or.inr ⟨by decide, by decide, _, rfl, by decide⟩) ?_
        refine Ex.seg 3 (pc' := 66) (lc' := [some (.ref 0), some (.int x1), some (.int x2)]) (st' := [.int x1, .ref 10]) (h' := q1.2) (sg1 rfl rfl (sg1 rfl rfl (sg1 rfl rfl rfl))) ?_
        obtain ⟨q3, e_q3, hf⟩ := bnd hf
        refine Ex.callV (a := 10) (As := [.int x1]) (r := []) (v := some (.int q3.1)) (h' := q3.2) rfl rfl (by decide) rfl (Nat.le_of_ble_eq_true rfl) rfl (E_37 (Nat.le_trans (by decide) hd) e_q3) rfl ?_
        obtain rfl := Option.some.inj hf
        exact Ex.iret rfl rfl (fun c0 => by cases c0) hs
      rw [if_neg n2] at hf
      rcases Classical.em (x2 = 2) with n3 | n3
      · rw [if_pos n3] at hf
        refine Ex.swt (t := 70) rfl rfl (by rw [n3]; exact Or.inr ⟨by decide, by decide, _, rfl, by decide⟩) ?_
        refine Ex.seg 3 (pc' := 75) (lc' := [some (.ref 0), some (.int x1), some (.int x2)]) (st' := [.int x1, .ref 10]) (h' := q1.2) (sg1 rfl rfl (sg1 rfl rfl (sg1 rfl rfl rfl))) ?_
        obtain ⟨q4, e_q4, hf⟩ := bnd hf
        refine Ex.callV (a := 10) (As := [.int x1]) (r := []) (v := some (.int q4.1)) (h' := q4.2) rfl rfl (by decide) rfl (Nat.le_of_ble_eq_true rfl) rfl (E_38 (Nat.le_trans (by decide) hd) e_q4) rfl ?_
        obtain rfl := Option.some.inj hf
        exact Ex.iret rfl rfl (fun c0 => by cases c0) hs
      rw [if_neg n3] at hf
      rcases Classical.em (x2 = 3) with n4 | n4
      · rw [if_pos n4] at hf
        refine Ex.swt (t := 79) rfl rfl (by rw [n4]; exact Or.inr ⟨by decide, by decide, _, rfl, by decide⟩) ?_
        refine Ex.seg 3 (pc' := 84) (lc' := [some (.ref 0), some (.int x1), some (.int x2)]) (st' := [.int x1, .ref 10]) (h' := q1.2) (sg1 rfl rfl (sg1 rfl rfl (sg1 rfl rfl rfl))) ?_
        obtain ⟨q5, e_q5, hf⟩ := bnd hf
        refine Ex.callV (a := 10) (As := [.int x1]) (r := []) (v := some (.int q5.1)) (h' := q5.2) rfl rfl (by decide) rfl (Nat.le_of_ble_eq_true rfl) rfl (E_39 (Nat.le_trans (by decide) hd) e_q5) rfl ?_
        obtain rfl := Option.some.inj hf
        exact Ex.iret rfl rfl (fun c0 => by cases c0) hs
      rw [if_neg n4] at hf
      rcases Classical.em (x2 = 4) with n5 | n5
      · rw [if_pos n5] at hf
        refine Ex.swt (t := 88) rfl rfl (by rw [n5]; exact Or.inr ⟨by decide, by decide, _, rfl, by decide⟩) ?_
        refine Ex.seg 3 (pc' := 93) (lc' := [some (.ref 0), some (.int x1), some (.int x2)]) (st' := [.int x1, .ref 10]) (h' := q1.2) (sg1 rfl rfl (sg1 rfl rfl (sg1 rfl rfl rfl))) ?_
        obtain ⟨q6, e_q6, hf⟩ := bnd hf
        refine Ex.callV (a := 10) (As := [.int x1]) (r := []) (v := some (.int q6.1)) (h' := q6.2) rfl rfl (by decide) rfl (Nat.le_of_ble_eq_true rfl) rfl (E_42 (Nat.le_trans (by decide) hd) e_q6) rfl ?_
        obtain rfl := Option.some.inj hf
        exact Ex.iret rfl rfl (fun c0 => by cases c0) hs
      rw [if_neg n5] at hf
      refine Ex.swt (t := 97) rfl rfl (sw_dflt (by decide) (by decide) (fun k hk he => ?_)) ?_
      · have hk : k < 5 := hk
        rcases (show k = 0 ∨ k = 1 ∨ k = 2 ∨ k = 3 ∨ k = 4 by omega) with rfl | rfl | rfl | rfl | rfl
        · exact absurd (Int32.toInt_inj.mp (he.symm.trans (by decide : (_ : Int) = Int32.toInt 0))) n1
        · exact absurd (Int32.toInt_inj.mp (he.symm.trans (by decide : (_ : Int) = Int32.toInt 1))) n2
        · exact absurd (Int32.toInt_inj.mp (he.symm.trans (by decide : (_ : Int) = Int32.toInt 2))) n3
        · exact absurd (Int32.toInt_inj.mp (he.symm.trans (by decide : (_ : Int) = Int32.toInt 3))) n4
        · exact absurd (Int32.toInt_inj.mp (he.symm.trans (by decide : (_ : Int) = Int32.toInt 4))) n5
      refine Ex.seg 6 (pc' := 105) (lc' := [some (.ref 0), some (.int x1), some (.int x2)]) (st' := [.int (x2 - 5), .int x1, .ref 10]) (h' := q1.2) (sg1 rfl rfl (sg1 rfl rfl (sg1 rfl rfl (sg1 rfl rfl (sg1 rfl rfl (sg1 rfl rfl rfl)))))) ?_
      obtain ⟨q7, e_q7, hf⟩ := bnd hf
      refine Ex.callV (a := 10) (As := [.int x1, .int (x2 - 5)]) (r := []) (v := some (.int q7.1)) (h' := q7.2) rfl rfl (by decide) rfl (Nat.le_of_ble_eq_true rfl) rfl (E_43 (Nat.le_trans (by decide) hd) e_q7) rfl ?_
      obtain rfl := Option.some.inj hf
      exact Ex.iret rfl rfl (fun c0 => by cases c0) hs
    · rw [if_neg c0] at hf
      exact Ex.weak (sm_le_n (sm_le_n (sm_le_n sm_le_nil))) (B_265_15 hd  hf hs)
/-- HandleHouse.handle(II)I -/
abbrev F_265 (x1 : Int32) (x2 : Int32) (h : sm_H) : Option (Int32 × sm_H) := F_265_0 x1 x2 h
theorem E_265 {L : Nat} {xs : Nat → Int32} {d : Nat} (hd : 2 ≤ d) {x1 : Int32} {x2 : Int32} {h : sm_H} {r : Int32 × sm_H} (hf : F_265 x1 x2 h = some r) : RUN L xs d 265 [.ref 0, .int x1, .int x2] h (some (.int r.1), r.2) := by
  obtain ⟨d, rfl⟩ : ∃ e, d = e + 1 := ⟨d - 1, by omega⟩
  exact ⟨Nat.le_of_ble_eq_true rfl, B_265_0 (by omega) hf rfl⟩
def F_266_0 (x1 : Int32) (h : sm_H) : Option (Int64 × sm_H) :=
  (F_40 x1 h).bind fun q1 =>
  some (q1.1, q1.2)
theorem B_266_0 {L : Nat} {xs : Nat → Int32} {d : Nat} (hd : 1 ≤ d) {res : Option Value × sm_H} {x1 : Int32}  {h : sm_H} {r : (Int64 × sm_H)} (hf : F_266_0 x1 h = some r) (hs : (fun (r : Int64 × sm_H) => res = (some (.long r.1), r.2)) r) : Ex (P_G L xs) (RUN L xs d) (sm_lk P_t266) 0 0 [some (.ref 0), some (.int x1)] [] h res := by
  unfold F_266_0 at hf
  refine Ex.seg 3 (pc' := 5) (lc' := [some (.ref 0), some (.int x1)]) (st' := [.int x1, .ref 10]) (h' := h) (sg1 rfl rfl (sg1 rfl rfl (sg1 rfl rfl rfl))) ?_
  obtain ⟨q1, e_q1, hf⟩ := bnd hf
  refine Ex.callV (a := 10) (As := [.int x1]) (r := []) (v := some (.long q1.1)) (h' := q1.2) rfl rfl (by decide) rfl (Nat.le_of_ble_eq_true rfl) rfl (E_40 (Nat.le_trans (by decide) hd) e_q1) rfl ?_
  obtain rfl := Option.some.inj hf
  exact Ex.lret rfl rfl hs
/-- HandleHouse.constant(I)J -/
abbrev F_266 (x1 : Int32) (h : sm_H) : Option (Int64 × sm_H) := F_266_0 x1 h
theorem E_266 {L : Nat} {xs : Nat → Int32} {d : Nat} (hd : 2 ≤ d) {x1 : Int32} {h : sm_H} {r : Int64 × sm_H} (hf : F_266 x1 h = some r) : RUN L xs d 266 [.ref 0, .int x1] h (some (.long r.1), r.2) := by
  obtain ⟨d, rfl⟩ : ∃ e, d = e + 1 := ⟨d - 1, by omega⟩
  exact ⟨Nat.le_of_ble_eq_true rfl, B_266_0 (by omega) hf rfl⟩
def F_270_0  (h : sm_H) : Option (Int32 × sm_H) :=
  some ((h.1 0 12), h)
theorem B_270_0 {L : Nat} {xs : Nat → Int32} {d : Nat} (hd : 0 ≤ d) {res : Option Value × sm_H}   {h : sm_H} {r : (Int32 × sm_H)} (hf : F_270_0  h = some r) (hs : (fun (r : Int32 × sm_H) => res = (some (.int r.1), r.2)) r) : Ex (P_G L xs) (RUN L xs d) (sm_lk P_t270) 0 0 [some (.ref 0)] [] h res := by
  unfold F_270_0 at hf
  refine Ex.seg 2 (pc' := 4) (lc' := [some (.ref 0)]) (st' := [.int (h.1 0 12)]) (h' := h) (sg1 rfl rfl (sg1 rfl rfl rfl)) ?_
  obtain rfl := Option.some.inj hf
  exact Ex.iret rfl rfl (fun c0 => by cases c0) hs
/-- HandleHouse.refused()I -/
abbrev F_270  (h : sm_H) : Option (Int32 × sm_H) := F_270_0  h
theorem E_270 {L : Nat} {xs : Nat → Int32} {d : Nat} (hd : 1 ≤ d)  {h : sm_H} {r : Int32 × sm_H} (hf : F_270  h = some r) : RUN L xs d 270 [.ref 0] h (some (.int r.1), r.2) := by
  obtain ⟨d, rfl⟩ : ∃ e, d = e + 1 := ⟨d - 1, by omega⟩
  exact ⟨Nat.le_of_ble_eq_true rfl, B_270_0 (by omega) hf rfl⟩
def F_271_23 (z0 : Int32) (h : sm_H) : Option (Int32 × sm_H) :=
  some (z0, h)
theorem B_271_23 {L : Nat} {xs : Nat → Int32} {d : Nat} (hd : 1 ≤ d) {res : Option Value × sm_H} {z0 : Int32}  {h : sm_H} {r : (Int32 × sm_H)} (hf : F_271_23 z0 h = some r) (hs : (fun (r : Int32 × sm_H) => res = (some (.int r.1), r.2)) r) : Ex (P_G L xs) (RUN L xs d) (sm_lk P_t271) 0 23 [none, none] [.int z0] h res := by
  unfold F_271_23 at hf
  obtain rfl := Option.some.inj hf
  exact Ex.iret rfl rfl (fun c0 => by cases c0) hs
def F_271_0 (x1 : Int32) (h : sm_H) : Option (Int32 × sm_H) :=
  (F_36 x1 h).bind fun q1 =>
  if q1.1 = 0 then (F_271_23 (-1) q1.2)
  else ((F_155 x1 q1.2).bind fun q2 =>
  F_271_23 q2.1 q2.2)
theorem B_271_0 {L : Nat} {xs : Nat → Int32} {d : Nat} (hd : 1 ≤ d) {res : Option Value × sm_H} {x1 : Int32}  {h : sm_H} {r : (Int32 × sm_H)} (hf : F_271_0 x1 h = some r) (hs : (fun (r : Int32 × sm_H) => res = (some (.int r.1), r.2)) r) : Ex (P_G L xs) (RUN L xs d) (sm_lk P_t271) 0 0 [some (.ref 0), some (.int x1)] [] h res := by
  unfold F_271_0 at hf
  refine Ex.seg 3 (pc' := 5) (lc' := [some (.ref 0), some (.int x1)]) (st' := [.int x1, .ref 10]) (h' := h) (sg1 rfl rfl (sg1 rfl rfl (sg1 rfl rfl rfl))) ?_
  obtain ⟨q1, e_q1, hf⟩ := bnd hf
  refine Ex.callV (a := 10) (As := [.int x1]) (r := []) (v := some (.int q1.1)) (h' := q1.2) rfl rfl (by decide) rfl (Nat.le_of_ble_eq_true rfl) rfl (E_36 (Nat.le_trans (by decide) hd) e_q1) rfl ?_
  refine Ex.ifc rfl rfl (fun (c0 : q1.1 = 0) => ?_) (fun (c0 : ¬ (q1.1 = 0)) => ?_)
  · rw [if_pos c0] at hf
    refine Ex.seg 1 (pc' := 23) (lc' := [some (.ref 0), some (.int x1)]) (st' := [.int (-1)]) (h' := q1.2) (sg1 rfl rfl rfl) ?_
    exact Ex.weak (sm_le_n (sm_le_n sm_le_nil)) (B_271_23 hd  hf hs)
  · rw [if_neg c0] at hf
    refine Ex.seg 3 (pc' := 16) (lc' := [some (.ref 0), some (.int x1)]) (st' := [.int x1, .ref 21]) (h' := q1.2) (sg1 rfl rfl (sg1 rfl rfl (sg1 rfl rfl rfl))) ?_
    obtain ⟨q2, e_q2, hf⟩ := bnd hf
    refine Ex.callV (a := 21) (As := [.int x1]) (r := []) (v := some (.int q2.1)) (h' := q2.2) rfl rfl (by decide) rfl (Nat.le_of_ble_eq_true rfl) rfl (E_155 (Nat.le_trans (by decide) hd) e_q2) rfl ?_
    refine Ex.seg 1 (pc' := 23) (lc' := [some (.ref 0), some (.int x1)]) (st' := [.int q2.1]) (h' := q2.2) (sg1 rfl rfl rfl) ?_
    exact Ex.weak (sm_le_n (sm_le_n sm_le_nil)) (B_271_23 hd  hf hs)
/-- HandleHouse.target(I)I -/
abbrev F_271 (x1 : Int32) (h : sm_H) : Option (Int32 × sm_H) := F_271_0 x1 h
theorem E_271 {L : Nat} {xs : Nat → Int32} {d : Nat} (hd : 2 ≤ d) {x1 : Int32} {h : sm_H} {r : Int32 × sm_H} (hf : F_271 x1 h = some r) : RUN L xs d 271 [.ref 0, .int x1] h (some (.int r.1), r.2) := by
  obtain ⟨d, rfl⟩ : ∃ e, d = e + 1 := ⟨d - 1, by omega⟩
  exact ⟨Nat.le_of_ble_eq_true rfl, B_271_0 (by omega) hf rfl⟩
def F_272_22  (h : sm_H) : Option (Int32 × sm_H) :=
  some (0, h)
theorem B_272_22 {L : Nat} {xs : Nat → Int32} {d : Nat} (hd : 2 ≤ d) {res : Option Value × sm_H}   {h : sm_H} {r : (Int32 × sm_H)} (hf : F_272_22  h = some r) (hs : (fun (r : Int32 × sm_H) => res = (some (.int r.1), r.2)) r) : Ex (P_G L xs) (RUN L xs d) (sm_lk P_t272) 3 22 [none, none, none] [] h res := by
  unfold F_272_22 at hf
  refine Ex.seg 1 (pc' := 23) (lc' := [none, none, none]) (st' := [.int 0]) (h' := h) (sg1 rfl rfl rfl) ?_
  obtain rfl := Option.some.inj hf
  exact Ex.iret rfl rfl (fun _ => by decide) hs
def F_272_0 (x1 : Int32) (x2 : Int32) (h : sm_H) : Option (Int32 × sm_H) :=
  (F_156 x1 h).bind fun q1 =>
  if q1.1 = 0 then (F_272_22 q1.2)
  else ((F_36 x2 q1.2).bind fun q2 =>
  if q2.1 = 0 then (F_272_22 q2.2)
  else ((F_157 x1 q2.2).bind fun q3 =>
  (F_41 q3.1 q3.2).bind fun q4 =>
  (F_41 x2 q4.2).bind fun q5 =>
  if q4.1 = q5.1 then ((F_158 x1 x2 q5.2).bind fun q6 =>
  some (1, q6))
  else (some (0, q5.2))))
theorem B_272_0 {L : Nat} {xs : Nat → Int32} {d : Nat} (hd : 2 ≤ d) {res : Option Value × sm_H} {x1 : Int32} {x2 : Int32}  {h : sm_H} {r : (Int32 × sm_H)} (hf : F_272_0 x1 x2 h = some r) (hs : (fun (r : Int32 × sm_H) => res = (some (.int r.1), r.2)) r) : Ex (P_G L xs) (RUN L xs d) (sm_lk P_t272) 3 0 [some (.ref 0), some (.int x1), some (.int x2)] [] h res := by
  unfold F_272_0 at hf
  refine Ex.seg 3 (pc' := 5) (lc' := [some (.ref 0), some (.int x1), some (.int x2)]) (st' := [.int x1, .ref 21]) (h' := h) (sg1 rfl rfl (sg1 rfl rfl (sg1 rfl rfl rfl))) ?_
  obtain ⟨q1, e_q1, hf⟩ := bnd hf
  refine Ex.callV (a := 21) (As := [.int x1]) (r := []) (v := some (.int q1.1)) (h' := q1.2) rfl rfl (by decide) rfl (Nat.le_of_ble_eq_true rfl) rfl (E_156 (Nat.le_trans (by decide) hd) e_q1) rfl ?_
  refine Ex.ifc rfl rfl (fun (c0 : q1.1 = 0) => ?_) (fun (c0 : ¬ (q1.1 = 0)) => ?_)
  · rw [if_pos c0] at hf
    exact Ex.weak (sm_le_n (sm_le_n (sm_le_n sm_le_nil))) (B_272_22 hd  hf hs)
  · rw [if_neg c0] at hf
    refine Ex.seg 3 (pc' := 16) (lc' := [some (.ref 0), some (.int x1), some (.int x2)]) (st' := [.int x2, .ref 10]) (h' := q1.2) (sg1 rfl rfl (sg1 rfl rfl (sg1 rfl rfl rfl))) ?_
    obtain ⟨q2, e_q2, hf⟩ := bnd hf
    refine Ex.callV (a := 10) (As := [.int x2]) (r := []) (v := some (.int q2.1)) (h' := q2.2) rfl rfl (by decide) rfl (Nat.le_of_ble_eq_true rfl) rfl (E_36 (Nat.le_trans (by decide) hd) e_q2) rfl ?_
    refine Ex.ifc rfl rfl (fun (c0 : ¬ (q2.1 = 0)) => ?_) (fun (c0 : ¬ ¬ (q2.1 = 0)) => ?_)
    · rw [if_neg c0] at hf
      refine Ex.seg 5 (pc' := 33) (lc' := [some (.ref 0), some (.int x1), some (.int x2)]) (st' := [.int x1, .ref 21, .ref 10]) (h' := q2.2) (sg1 rfl rfl (sg1 rfl rfl (sg1 rfl rfl (sg1 rfl rfl (sg1 rfl rfl rfl))))) ?_
      obtain ⟨q3, e_q3, hf⟩ := bnd hf
      refine Ex.callV (a := 21) (As := [.int x1]) (r := [.ref 10]) (v := some (.int q3.1)) (h' := q3.2) rfl rfl (by decide) rfl (Nat.le_of_ble_eq_true rfl) rfl (E_157 (Nat.le_trans (by decide) hd) e_q3) rfl ?_
      obtain ⟨q4, e_q4, hf⟩ := bnd hf
      refine Ex.callV (a := 10) (As := [.int q3.1]) (r := []) (v := some (.int q4.1)) (h' := q4.2) rfl rfl (by decide) rfl (Nat.le_of_ble_eq_true rfl) rfl (E_41 (Nat.le_trans (by decide) hd) e_q4) rfl ?_
      refine Ex.seg 3 (pc' := 44) (lc' := [some (.ref 0), some (.int x1), some (.int x2)]) (st' := [.int x2, .ref 10, .int q4.1]) (h' := q4.2) (sg1 rfl rfl (sg1 rfl rfl (sg1 rfl rfl rfl))) ?_
      obtain ⟨q5, e_q5, hf⟩ := bnd hf
      refine Ex.callV (a := 10) (As := [.int x2]) (r := [.int q4.1]) (v := some (.int q5.1)) (h' := q5.2) rfl rfl (by decide) rfl (Nat.le_of_ble_eq_true rfl) rfl (E_41 (Nat.le_trans (by decide) hd) e_q5) rfl ?_
      refine Ex.icmp rfl rfl (fun (c0 : q4.1 = q5.1) => ?_) (fun (c0 : ¬ (q4.1 = q5.1)) => ?_)
      · rw [if_pos c0] at hf
        refine Ex.seg 4 (pc' := 58) (lc' := [some (.ref 0), some (.int x1), some (.int x2)]) (st' := [.int x2, .int x1, .ref 21]) (h' := q5.2) (sg1 rfl rfl (sg1 rfl rfl (sg1 rfl rfl (sg1 rfl rfl rfl)))) ?_
        obtain ⟨q6, e_q6, hf⟩ := bnd hf
        refine Ex.callV (a := 21) (As := [.int x1, .int x2]) (r := []) (v := none) (h' := q6) rfl rfl (by decide) rfl (Nat.le_of_ble_eq_true rfl) rfl (E_158 (Nat.le_trans (by decide) hd) e_q6) rfl ?_
        refine Ex.seg 1 (pc' := 62) (lc' := [some (.ref 0), some (.int x1), some (.int x2)]) (st' := [.int 1]) (h' := q6) (sg1 rfl rfl rfl) ?_
        obtain rfl := Option.some.inj hf
        exact Ex.iret rfl rfl (fun _ => by decide) hs
      · rw [if_neg c0] at hf
        refine Ex.seg 1 (pc' := 51) (lc' := [some (.ref 0), some (.int x1), some (.int x2)]) (st' := [.int 0]) (h' := q5.2) (sg1 rfl rfl rfl) ?_
        obtain rfl := Option.some.inj hf
        exact Ex.iret rfl rfl (fun _ => by decide) hs
    · rw [if_pos (Classical.not_not.mp c0)] at hf
      exact Ex.weak (sm_le_n (sm_le_n (sm_le_n sm_le_nil))) (B_272_22 hd  hf hs)
/-- HandleHouse.aim(II)Z -/
abbrev F_272 (x1 : Int32) (x2 : Int32) (h : sm_H) : Option (Int32 × sm_H) := F_272_0 x1 x2 h
theorem E_272 {L : Nat} {xs : Nat → Int32} {d : Nat} (hd : 3 ≤ d) {x1 : Int32} {x2 : Int32} {h : sm_H} {r : Int32 × sm_H} (hf : F_272 x1 x2 h = some r) : RUN L xs d 272 [.ref 0, .int x1, .int x2] h (some (.int r.1), r.2) := by
  obtain ⟨d, rfl⟩ : ∃ e, d = e + 1 := ⟨d - 1, by omega⟩
  exact ⟨Nat.le_of_ble_eq_true rfl, B_272_0 (by omega) hf rfl⟩
def F_273_0  (h : sm_H) : Option (Int32 × sm_H) :=
  (F_159 h).bind fun q1 =>
  some (q1.1, q1.2)
theorem B_273_0 {L : Nat} {xs : Nat → Int32} {d : Nat} (hd : 1 ≤ d) {res : Option Value × sm_H}   {h : sm_H} {r : (Int32 × sm_H)} (hf : F_273_0  h = some r) (hs : (fun (r : Int32 × sm_H) => res = (some (.int r.1), r.2)) r) : Ex (P_G L xs) (RUN L xs d) (sm_lk P_t273) 0 0 [some (.ref 0)] [] h res := by
  unfold F_273_0 at hf
  refine Ex.seg 2 (pc' := 4) (lc' := [some (.ref 0)]) (st' := [.ref 21]) (h' := h) (sg1 rfl rfl (sg1 rfl rfl rfl)) ?_
  obtain ⟨q1, e_q1, hf⟩ := bnd hf
  refine Ex.callV (a := 21) (As := []) (r := []) (v := some (.int q1.1)) (h' := q1.2) rfl rfl (by decide) rfl (Nat.le_of_ble_eq_true rfl) rfl (E_159 (Nat.le_trans (by decide) hd) e_q1) rfl ?_
  obtain rfl := Option.some.inj hf
  exact Ex.iret rfl rfl (fun c0 => by cases c0) hs
/-- HandleHouse.point()I -/
abbrev F_273  (h : sm_H) : Option (Int32 × sm_H) := F_273_0  h
theorem E_273 {L : Nat} {xs : Nat → Int32} {d : Nat} (hd : 2 ≤ d)  {h : sm_H} {r : Int32 × sm_H} (hf : F_273  h = some r) : RUN L xs d 273 [.ref 0] h (some (.int r.1), r.2) := by
  obtain ⟨d, rfl⟩ : ∃ e, d = e + 1 := ⟨d - 1, by omega⟩
  exact ⟨Nat.le_of_ble_eq_true rfl, B_273_0 (by omega) hf rfl⟩
def F_274_0 (x1 : Int32) (h : sm_H) : Option (Int32 × sm_H) :=
  (F_162 x1 h).bind fun q1 =>
  if q1.1 = 0 ∨ q1.1 = 1 then some (q1.1, q1.2) else none
theorem B_274_0 {L : Nat} {xs : Nat → Int32} {d : Nat} (hd : 2 ≤ d) {res : Option Value × sm_H} {x1 : Int32}  {h : sm_H} {r : (Int32 × sm_H)} (hf : F_274_0 x1 h = some r) (hs : (fun (r : Int32 × sm_H) => res = (some (.int r.1), r.2)) r) : Ex (P_G L xs) (RUN L xs d) (sm_lk P_t274) 3 0 [some (.ref 0), some (.int x1)] [] h res := by
  unfold F_274_0 at hf
  refine Ex.seg 3 (pc' := 5) (lc' := [some (.ref 0), some (.int x1)]) (st' := [.int x1, .ref 21]) (h' := h) (sg1 rfl rfl (sg1 rfl rfl (sg1 rfl rfl rfl))) ?_
  obtain ⟨q1, e_q1, hf⟩ := bnd hf
  refine Ex.callV (a := 21) (As := [.int x1]) (r := []) (v := some (.int q1.1)) (h' := q1.2) rfl rfl (by decide) rfl (Nat.le_of_ble_eq_true rfl) rfl (E_162 (Nat.le_trans (by decide) hd) e_q1) rfl ?_
  rcases Classical.em (q1.1 = 0 ∨ q1.1 = 1) with c0 | c0
  · rw [if_pos c0] at hf
    obtain rfl := Option.some.inj hf
    exact Ex.iret rfl rfl (fun _ => c0) hs
  · rw [if_neg c0] at hf
    cases hf
/-- HandleHouse.off(I)Z -/
abbrev F_274 (x1 : Int32) (h : sm_H) : Option (Int32 × sm_H) := F_274_0 x1 h
theorem E_274 {L : Nat} {xs : Nat → Int32} {d : Nat} (hd : 3 ≤ d) {x1 : Int32} {h : sm_H} {r : Int32 × sm_H} (hf : F_274 x1 h = some r) : RUN L xs d 274 [.ref 0, .int x1] h (some (.int r.1), r.2) := by
  obtain ⟨d, rfl⟩ : ∃ e, d = e + 1 := ⟨d - 1, by omega⟩
  exact ⟨Nat.le_of_ble_eq_true rfl, B_274_0 (by omega) hf rfl⟩
def F_275_0 (x1 : Int64) (h : sm_H) : Option (Int32 × sm_H) :=
  if (h.1 0 11) < 10 then ((stJ h 66 10 (h.1 0 11) x1).bind fun h1 =>
  (some (sm_wI h1 0 11 ((h1.1 0 11) + 1))).bind fun h2 =>
  some (1, h2))
  else (some (0, h))
theorem B_275_0 {L : Nat} {xs : Nat → Int32} {d : Nat} (hd : 0 ≤ d) {res : Option Value × sm_H} {x1 : Int64}  {h : sm_H} {r : (Int32 × sm_H)} (hf : F_275_0 x1 h = some r) (hs : (fun (r : Int32 × sm_H) => res = (some (.int r.1), r.2)) r) : Ex (P_G L xs) (RUN L xs d) (sm_lk P_t275) 3 0 [some (.ref 0), some (.long x1), none] [] h res := by
  unfold F_275_0 at hf
  refine Ex.seg 3 (pc' := 6) (lc' := [some (.ref 0), some (.long x1), none]) (st' := [.int 10, .int (h.1 0 11)]) (h' := h) (sg1 rfl rfl (sg1 rfl rfl (sg1 rfl rfl rfl))) ?_
  refine Ex.icmp rfl rfl (fun (c0 : (h.1 0 11) < 10) => ?_) (fun (c0 : ¬ ((h.1 0 11) < 10)) => ?_)
  · rw [if_pos c0] at hf
    refine Ex.seg 5 (pc' := 20) (lc' := [some (.ref 0), some (.long x1), none]) (st' := [.long x1, .int (h.1 0 11), .ref 66]) (h' := h) (sg1 rfl rfl (sg1 rfl rfl (sg1 rfl rfl (sg1 rfl rfl (sg1 rfl rfl rfl))))) ?_
    obtain ⟨h1, e_h1, hf⟩ := bnd hf
    refine Ex.last e_h1 rfl rfl ?_
    refine Ex.seg 6 (pc' := 31) (lc' := [some (.ref 0), some (.long x1), none]) (st' := []) (h' := (sm_wI h1 0 11 ((h1.1 0 11) + 1))) (sg1 rfl rfl (sg1 rfl rfl (sg1 rfl rfl (sg1 rfl rfl (sg1 rfl rfl (sg1 rfl rfl rfl)))))) ?_
    obtain ⟨h2, e_h2, hf⟩ := bnd hf
    rw [Option.some.inj e_h2]
    refine Ex.seg 1 (pc' := 32) (lc' := [some (.ref 0), some (.long x1), none]) (st' := [.int 1]) (h' := h2) (sg1 rfl rfl rfl) ?_
    obtain rfl := Option.some.inj hf
    exact Ex.iret rfl rfl (fun _ => by decide) hs
  · rw [if_neg c0] at hf
    refine Ex.seg 1 (pc' := 10) (lc' := [some (.ref 0), some (.long x1), none]) (st' := [.int 0]) (h' := h) (sg1 rfl rfl rfl) ?_
    obtain rfl := Option.some.inj hf
    exact Ex.iret rfl rfl (fun _ => by decide) hs
/-- HandleHouse.pass(J)Z -/
abbrev F_275 (x1 : Int64) (h : sm_H) : Option (Int32 × sm_H) := F_275_0 x1 h
theorem E_275 {L : Nat} {xs : Nat → Int32} {d : Nat} (hd : 1 ≤ d) {x1 : Int64} {h : sm_H} {r : Int32 × sm_H} (hf : F_275 x1 h = some r) : RUN L xs d 275 [.ref 0, .long x1] h (some (.int r.1), r.2) := by
  obtain ⟨d, rfl⟩ : ∃ e, d = e + 1 := ⟨d - 1, by omega⟩
  exact ⟨Nat.le_of_ble_eq_true rfl, B_275_0 (by omega) hf rfl⟩
def F_277_0 (x1 : Int32) (h : sm_H) : Option (Int32 × sm_H) :=
  if x1 = 4 then ((F_143 h).bind fun q1 =>
  some (q1.1, q1.2))
  else (if x1 = 5 then ((F_144 h).bind fun q2 =>
  some (q2.1, q2.2))
  else (if x1 = 6 then ((F_223 h).bind fun q3 =>
  some (q3.1, q3.2))
  else (if x1 = 7 then ((F_35 h).bind fun q4 =>
  some (q4.1, q4.2))
  else (if x1 = 8 then ((F_112 h).bind fun q5 =>
  some (q5.1, q5.2))
  else ((F_72 x1 h).bind fun q6 =>
  some (q6.1, q6.2))))))
theorem B_277_0 {L : Nat} {xs : Nat → Int32} {d : Nat} (hd : 1 ≤ d) {res : Option Value × sm_H} {x1 : Int32}  {h : sm_H} {r : (Int32 × sm_H)} (hf : F_277_0 x1 h = some r) (hs : (fun (r : Int32 × sm_H) => res = (some (.int r.1), r.2)) r) : Ex (P_G L xs) (RUN L xs d) (sm_lk P_t277) 0 0 [some (.ref 0), some (.int x1)] [] h res := by
  unfold F_277_0 at hf
  refine Ex.seg 1 (pc' := 1) (lc' := [some (.ref 0), some (.int x1)]) (st' := [.int x1]) (h' := h) (sg1 rfl rfl rfl) ?_
  rcases Classical.em (x1 = 4) with n1 | n1
  · rw [if_pos n1] at hf
    refine Ex.swt (t := 36) rfl rfl (by rw [n1]; exact Or.inr ⟨by decide, by decide, _, rfl, by decide⟩) ?_
    refine Ex.seg 2 (pc' := 40) (lc' := [some (.ref 0), some (.int x1)]) (st' := [.ref 21]) (h' := h) (sg1 rfl rfl (sg1 rfl rfl rfl)) ?_
    obtain ⟨q1, e_q1, hf⟩ := bnd hf
    refine Ex.callV (a := 21) (As := []) (r := []) (v := some (.int q1.1)) (h' := q1.2) rfl rfl (by decide) rfl (Nat.le_of_ble_eq_true rfl) rfl (E_143 (Nat.le_trans (by decide) hd) e_q1) rfl ?_
    obtain rfl := Option.some.inj hf
    exact Ex.iret rfl rfl (fun c0 => by cases c0) hs
  rw [if_neg n1] at hf
  rcases Classical.em (x1 = 5) with n2 | n2
  · rw [if_pos n2] at hf
    refine Ex.swt (t := 44) rfl rfl (by rw [n2]; exact Or.inr ⟨by decide, by decide, _, rfl, by decide⟩) ?_
    refine Ex.seg 2 (pc' := 48) (lc' := [some (.ref 0), some (.int x1)]) (st' := [.ref 21]) (h' := h) (sg1 rfl rfl (sg1 rfl rfl rfl)) ?_
    obtain ⟨q2, e_q2, hf⟩ := bnd hf
    refine Ex.callV (a := 21) (As := []) (r := []) (v := some (.int q2.1)) (h' := q2.2) rfl rfl (by decide) rfl (Nat.le_of_ble_eq_true rfl) rfl (E_144 (Nat.le_trans (by decide) hd) e_q2) rfl ?_
    obtain rfl := Option.some.inj hf
    exact Ex.iret rfl rfl (fun c0 => by cases c0) hs
  rw [if_neg n2] at hf
  rcases Classical.em (x1 = 6) with n3 | n3
  · rw [if_pos n3] at hf
    refine Ex.swt (t := 52) rfl rfl (by rw [n3]; exact Or.inr ⟨by decide, by decide, _, rfl, by decide⟩) ?_
    refine Ex.seg 2 (pc' := 56) (lc' := [some (.ref 0), some (.int x1)]) (st' := [.ref 5]) (h' := h) (sg1 rfl rfl (sg1 rfl rfl rfl)) ?_
    obtain ⟨q3, e_q3, hf⟩ := bnd hf
    refine Ex.callV (a := 5) (As := []) (r := []) (v := some (.int q3.1)) (h' := q3.2) rfl rfl (by decide) rfl (Nat.le_of_ble_eq_true rfl) rfl (E_223 (Nat.le_trans (by decide) hd) e_q3) rfl ?_
    obtain rfl := Option.some.inj hf
    exact Ex.iret rfl rfl (fun c0 => by cases c0) hs
  rw [if_neg n3] at hf
  rcases Classical.em (x1 = 7) with n4 | n4
  · rw [if_pos n4] at hf
    refine Ex.swt (t := 60) rfl rfl (by rw [n4]; exact Or.inr ⟨by decide, by decide, _, rfl, by decide⟩) ?_
    refine Ex.seg 2 (pc' := 64) (lc' := [some (.ref 0), some (.int x1)]) (st' := [.ref 10]) (h' := h) (sg1 rfl rfl (sg1 rfl rfl rfl)) ?_
    obtain ⟨q4, e_q4, hf⟩ := bnd hf
    refine Ex.callV (a := 10) (As := []) (r := []) (v := some (.int q4.1)) (h' := q4.2) rfl rfl (by decide) rfl (Nat.le_of_ble_eq_true rfl) rfl (E_35 (Nat.le_trans (by decide) hd) e_q4) rfl ?_
    obtain rfl := Option.some.inj hf
    exact Ex.iret rfl rfl (fun c0 => by cases c0) hs
  rw [if_neg n4] at hf
  rcases Classical.em (x1 = 8) with n5 | n5
  · rw [if_pos n5] at hf
    refine Ex.swt (t := 68) rfl rfl (by rw [n5]; exact Or.inr ⟨by decide, by decide, _, rfl, by decide⟩) ?_
    refine Ex.seg 2 (pc' := 72) (lc' := [some (.ref 0), some (.int x1)]) (st' := [.ref 38]) (h' := h) (sg1 rfl rfl (sg1 rfl rfl rfl)) ?_
    obtain ⟨q5, e_q5, hf⟩ := bnd hf
    refine Ex.callV (a := 38) (As := []) (r := []) (v := some (.int q5.1)) (h' := q5.2) rfl rfl (by decide) rfl (Nat.le_of_ble_eq_true rfl) rfl (E_112 (Nat.le_trans (by decide) hd) e_q5) rfl ?_
    obtain rfl := Option.some.inj hf
    exact Ex.iret rfl rfl (fun c0 => by cases c0) hs
  rw [if_neg n5] at hf
  refine Ex.swt (t := 76) rfl rfl (sw_dflt (by decide) (by decide) (fun k hk he => ?_)) ?_
  · have hk : k < 5 := hk
    rcases (show k = 0 ∨ k = 1 ∨ k = 2 ∨ k = 3 ∨ k = 4 by omega) with rfl | rfl | rfl | rfl | rfl
    · exact absurd (Int32.toInt_inj.mp (he.symm.trans (by decide : (_ : Int) = Int32.toInt 4))) n1
    · exact absurd (Int32.toInt_inj.mp (he.symm.trans (by decide : (_ : Int) = Int32.toInt 5))) n2
    · exact absurd (Int32.toInt_inj.mp (he.symm.trans (by decide : (_ : Int) = Int32.toInt 6))) n3
    · exact absurd (Int32.toInt_inj.mp (he.symm.trans (by decide : (_ : Int) = Int32.toInt 7))) n4
    · exact absurd (Int32.toInt_inj.mp (he.symm.trans (by decide : (_ : Int) = Int32.toInt 8))) n5
  refine Ex.seg 3 (pc' := 81) (lc' := [some (.ref 0), some (.int x1)]) (st' := [.int x1, .ref 49]) (h' := h) (sg1 rfl rfl (sg1 rfl rfl (sg1 rfl rfl rfl))) ?_
  obtain ⟨q6, e_q6, hf⟩ := bnd hf
  refine Ex.callV (a := 49) (As := [.int x1]) (r := []) (v := some (.int q6.1)) (h' := q6.2) rfl rfl (by decide) rfl (Nat.le_of_ble_eq_true rfl) rfl (E_72 (Nat.le_trans (by decide) hd) e_q6) rfl ?_
  obtain rfl := Option.some.inj hf
  exact Ex.iret rfl rfl (fun c0 => by cases c0) hs
/-- HandleHouse.told(I)I -/
abbrev F_277 (x1 : Int32) (h : sm_H) : Option (Int32 × sm_H) := F_277_0 x1 h
theorem E_277 {L : Nat} {xs : Nat → Int32} {d : Nat} (hd : 2 ≤ d) {x1 : Int32} {h : sm_H} {r : Int32 × sm_H} (hf : F_277 x1 h = some r) : RUN L xs d 277 [.ref 0, .int x1] h (some (.int r.1), r.2) := by
  obtain ⟨d, rfl⟩ : ∃ e, d = e + 1 := ⟨d - 1, by omega⟩
  exact ⟨Nat.le_of_ble_eq_true rfl, B_277_0 (by omega) hf rfl⟩
def F_282_0 (x1 : Int32) (x2 : Int32) (x3 : Int32) (x4 : Int32) (x5 : Int32) (h : sm_H) : Option (sm_H) :=
  (F_238 0 x1 h).bind fun q1 =>
  (F_238 4 x2 q1).bind fun q2 =>
  (F_238 8 x3 q2).bind fun q3 =>
  (F_238 12 x4 q3).bind fun q4 =>
  (F_238 16 x5 q4).bind fun q5 =>
  some q5
theorem B_282_0 {L : Nat} {xs : Nat → Int32} {d : Nat} (hd : 1 ≤ d) {res : Option Value × sm_H} {x1 : Int32} {x2 : Int32} {x3 : Int32} {x4 : Int32} {x5 : Int32}  {h : sm_H} {r : (sm_H)} (hf : F_282_0 x1 x2 x3 x4 x5 h = some r) (hs : (fun (r : sm_H) => res = (none, r)) r) : Ex (P_G L xs) (RUN L xs d) (sm_lk P_t282) 0 0 [some (.ref 0), some (.int x1), some (.int x2), some (.int x3), some (.int x4), some (.int x5)] [] h res := by
  unfold F_282_0 at hf
  refine Ex.seg 4 (pc' := 6) (lc' := [some (.ref 0), some (.int x1), some (.int x2), some (.int x3), some (.int x4), some (.int x5)]) (st' := [.int x1, .int 0, .ref 52]) (h' := h) (sg1 rfl rfl (sg1 rfl rfl (sg1 rfl rfl (sg1 rfl rfl rfl)))) ?_
  obtain ⟨q1, e_q1, hf⟩ := bnd hf
  refine Ex.callV (a := 52) (As := [.int 0, .int x1]) (r := []) (v := none) (h' := q1) rfl rfl (by decide) rfl (Nat.le_of_ble_eq_true rfl) rfl (E_238 (Nat.le_trans (by decide) hd) e_q1) rfl ?_
  refine Ex.seg 4 (pc' := 15) (lc' := [some (.ref 0), some (.int x1), some (.int x2), some (.int x3), some (.int x4), some (.int x5)]) (st' := [.int x2, .int 4, .ref 52]) (h' := q1) (sg1 rfl rfl (sg1 rfl rfl (sg1 rfl rfl (sg1 rfl rfl rfl)))) ?_
  obtain ⟨q2, e_q2, hf⟩ := bnd hf
  refine Ex.callV (a := 52) (As := [.int 4, .int x2]) (r := []) (v := none) (h' := q2) rfl rfl (by decide) rfl (Nat.le_of_ble_eq_true rfl) rfl (E_238 (Nat.le_trans (by decide) hd) e_q2) rfl ?_
  refine Ex.seg 4 (pc' := 25) (lc' := [some (.ref 0), some (.int x1), some (.int x2), some (.int x3), some (.int x4), some (.int x5)]) (st' := [.int x3, .int 8, .ref 52]) (h' := q2) (sg1 rfl rfl (sg1 rfl rfl (sg1 rfl rfl (sg1 rfl rfl rfl)))) ?_
  obtain ⟨q3, e_q3, hf⟩ := bnd hf
  refine Ex.callV (a := 52) (As := [.int 8, .int x3]) (r := []) (v := none) (h' := q3) rfl rfl (by decide) rfl (Nat.le_of_ble_eq_true rfl) rfl (E_238 (Nat.le_trans (by decide) hd) e_q3) rfl ?_
  refine Ex.seg 4 (pc' := 36) (lc' := [some (.ref 0), some (.int x1), some (.int x2), some (.int x3), some (.int x4), some (.int x5)]) (st' := [.int x4, .int 12, .ref 52]) (h' := q3) (sg1 rfl rfl (sg1 rfl rfl (sg1 rfl rfl (sg1 rfl rfl rfl)))) ?_
  obtain ⟨q4, e_q4, hf⟩ := bnd hf
  refine Ex.callV (a := 52) (As := [.int 12, .int x4]) (r := []) (v := none) (h' := q4) rfl rfl (by decide) rfl (Nat.le_of_ble_eq_true rfl) rfl (E_238 (Nat.le_trans (by decide) hd) e_q4) rfl ?_
  refine Ex.seg 4 (pc' := 47) (lc' := [some (.ref 0), some (.int x1), some (.int x2), some (.int x3), some (.int x4), some (.int x5)]) (st' := [.int x5, .int 16, .ref 52]) (h' := q4) (sg1 rfl rfl (sg1 rfl rfl (sg1 rfl rfl (sg1 rfl rfl rfl)))) ?_
  obtain ⟨q5, e_q5, hf⟩ := bnd hf
  refine Ex.callV (a := 52) (As := [.int 16, .int x5]) (r := []) (v := none) (h' := q5) rfl rfl (by decide) rfl (Nat.le_of_ble_eq_true rfl) rfl (E_238 (Nat.le_trans (by decide) hd) e_q5) rfl ?_
  obtain rfl := Option.some.inj hf
  exact Ex.vret rfl rfl hs
/-- HandleHouse.feed(IIIII)V -/
abbrev F_282 (x1 : Int32) (x2 : Int32) (x3 : Int32) (x4 : Int32) (x5 : Int32) (h : sm_H) : Option (sm_H) := F_282_0 x1 x2 x3 x4 x5 h
theorem E_282 {L : Nat} {xs : Nat → Int32} {d : Nat} (hd : 2 ≤ d) {x1 : Int32} {x2 : Int32} {x3 : Int32} {x4 : Int32} {x5 : Int32} {h : sm_H} {r : sm_H} (hf : F_282 x1 x2 x3 x4 x5 h = some r) : RUN L xs d 282 [.ref 0, .int x1, .int x2, .int x3, .int x4, .int x5] h (none, r) := by
  obtain ⟨d, rfl⟩ : ∃ e, d = e + 1 := ⟨d - 1, by omega⟩
  exact ⟨Nat.le_of_ble_eq_true rfl, B_282_0 (by omega) hf rfl⟩
def F_283_0 (x1 : Int32) (h : sm_H) : Option (Int32 × sm_H) :=
  (F_239 x1 h).bind fun q1 =>
  some (q1.1, q1.2)
theorem B_283_0 {L : Nat} {xs : Nat → Int32} {d : Nat} (hd : 1 ≤ d) {res : Option Value × sm_H} {x1 : Int32}  {h : sm_H} {r : (Int32 × sm_H)} (hf : F_283_0 x1 h = some r) (hs : (fun (r : Int32 × sm_H) => res = (some (.int r.1), r.2)) r) : Ex (P_G L xs) (RUN L xs d) (sm_lk P_t283) 0 0 [some (.ref 0), some (.int x1)] [] h res := by
  unfold F_283_0 at hf
  refine Ex.seg 3 (pc' := 5) (lc' := [some (.ref 0), some (.int x1)]) (st' := [.int x1, .ref 52]) (h' := h) (sg1 rfl rfl (sg1 rfl rfl (sg1 rfl rfl rfl))) ?_
  obtain ⟨q1, e_q1, hf⟩ := bnd hf
  refine Ex.callV (a := 52) (As := [.int x1]) (r := []) (v := some (.int q1.1)) (h' := q1.2) rfl rfl (by decide) rfl (Nat.le_of_ble_eq_true rfl) rfl (E_239 (Nat.le_trans (by decide) hd) e_q1) rfl ?_
  obtain rfl := Option.some.inj hf
  exact Ex.iret rfl rfl (fun c0 => by cases c0) hs
/-- HandleHouse.end(I)I -/
abbrev F_283 (x1 : Int32) (h : sm_H) : Option (Int32 × sm_H) := F_283_0 x1 h
theorem E_283 {L : Nat} {xs : Nat → Int32} {d : Nat} (hd : 2 ≤ d) {x1 : Int32} {h : sm_H} {r : Int32 × sm_H} (hf : F_283 x1 h = some r) : RUN L xs d 283 [.ref 0, .int x1] h (some (.int r.1), r.2) := by
  obtain ⟨d, rfl⟩ : ∃ e, d = e + 1 := ⟨d - 1, by omega⟩
  exact ⟨Nat.le_of_ble_eq_true rfl, B_283_0 (by omega) hf rfl⟩
def F_285_0 (x1 : Int32) (h : sm_H) : Option (Int32 × sm_H) :=
  (F_164 x1 h).bind fun q1 =>
  some (q1.1, q1.2)
theorem B_285_0 {L : Nat} {xs : Nat → Int32} {d : Nat} (hd : 1 ≤ d) {res : Option Value × sm_H} {x1 : Int32}  {h : sm_H} {r : (Int32 × sm_H)} (hf : F_285_0 x1 h = some r) (hs : (fun (r : Int32 × sm_H) => res = (some (.int r.1), r.2)) r) : Ex (P_G L xs) (RUN L xs d) (sm_lk P_t285) 0 0 [some (.ref 0), some (.int x1)] [] h res := by
  unfold F_285_0 at hf
  refine Ex.seg 3 (pc' := 5) (lc' := [some (.ref 0), some (.int x1)]) (st' := [.int x1, .ref 55]) (h' := h) (sg1 rfl rfl (sg1 rfl rfl (sg1 rfl rfl rfl))) ?_
  obtain ⟨q1, e_q1, hf⟩ := bnd hf
  refine Ex.callV (a := 55) (As := [.int x1]) (r := []) (v := some (.int q1.1)) (h' := q1.2) rfl rfl (by decide) rfl (Nat.le_of_ble_eq_true rfl) rfl (E_164 (Nat.le_trans (by decide) hd) e_q1) rfl ?_
  obtain rfl := Option.some.inj hf
  exact Ex.iret rfl rfl (fun c0 => by cases c0) hs
/-- HandleHouse.fault(I)I -/
abbrev F_285 (x1 : Int32) (h : sm_H) : Option (Int32 × sm_H) := F_285_0 x1 h
theorem E_285 {L : Nat} {xs : Nat → Int32} {d : Nat} (hd : 2 ≤ d) {x1 : Int32} {h : sm_H} {r : Int32 × sm_H} (hf : F_285 x1 h = some r) : RUN L xs d 285 [.ref 0, .int x1] h (some (.int r.1), r.2) := by
  obtain ⟨d, rfl⟩ : ∃ e, d = e + 1 := ⟨d - 1, by omega⟩
  exact ⟨Nat.le_of_ble_eq_true rfl, B_285_0 (by omega) hf rfl⟩
def F_12_19 (z0 : Int32) (h : sm_H) : Option (Int32 × sm_H) :=
  some (z0, h)
theorem B_12_19 {L : Nat} {xs : Nat → Int32} {d : Nat} (hd : 1 ≤ d) {res : Option Value × sm_H} {z0 : Int32}  {h : sm_H} {r : (Int32 × sm_H)} (hf : F_12_19 z0 h = some r) (hs : (fun (r : Int32 × sm_H) => res = (some (.int r.1), r.2)) r) : Ex (P_G L xs) (RUN L xs d) (sm_lk P_t12) 0 19 [none] [.int z0] h res := by
  unfold F_12_19 at hf
  obtain rfl := Option.some.inj hf
  exact Ex.iret rfl rfl (fun c0 => by cases c0) hs
def F_12_0  (h : sm_H) : Option (Int32 × sm_H) :=
  (F_44 (h.1 34 13) h).bind fun q1 =>
  if q1.1 = 0 then (F_12_19 0 q1.2)
  else (F_12_19 1 q1.2)
theorem B_12_0 {L : Nat} {xs : Nat → Int32} {d : Nat} (hd : 1 ≤ d) {res : Option Value × sm_H}   {h : sm_H} {r : (Int32 × sm_H)} (hf : F_12_0  h = some r) (hs : (fun (r : Int32 × sm_H) => res = (some (.int r.1), r.2)) r) : Ex (P_G L xs) (RUN L xs d) (sm_lk P_t12) 0 0 [some (.ref 34)] [] h res := by
  unfold F_12_0 at hf
  refine Ex.seg 4 (pc' := 8) (lc' := [some (.ref 34)]) (st' := [.int (h.1 34 13), .ref 10]) (h' := h) (sg1 rfl rfl (sg1 rfl rfl (sg1 rfl rfl (sg1 rfl rfl rfl)))) ?_
  obtain ⟨q1, e_q1, hf⟩ := bnd hf
  refine Ex.callV (a := 10) (As := [.int (h.1 34 13)]) (r := []) (v := some (.int q1.1)) (h' := q1.2) rfl rfl (by decide) rfl (Nat.le_of_ble_eq_true rfl) rfl (E_44 (Nat.le_trans (by decide) hd) e_q1) rfl ?_
  refine Ex.ifc rfl rfl (fun (c0 : ¬ (q1.1 = 0)) => ?_) (fun (c0 : ¬ ¬ (q1.1 = 0)) => ?_)
  · rw [if_neg c0] at hf
    refine Ex.seg 1 (pc' := 19) (lc' := [some (.ref 34)]) (st' := [.int 1]) (h' := q1.2) (sg1 rfl rfl rfl) ?_
    exact Ex.weak (sm_le_n sm_le_nil) (B_12_19 hd  hf hs)
  · rw [if_pos (Classical.not_not.mp c0)] at hf
    refine Ex.seg 2 (pc' := 19) (lc' := [some (.ref 34)]) (st' := [.int 0]) (h' := q1.2) (sg1 rfl rfl (sg1 rfl rfl rfl)) ?_
    exact Ex.weak (sm_le_n sm_le_nil) (B_12_19 hd  hf hs)
/-- HandleHouse$Forms.given()I -/
abbrev F_12  (h : sm_H) : Option (Int32 × sm_H) := F_12_0  h
theorem E_12 {L : Nat} {xs : Nat → Int32} {d : Nat} (hd : 2 ≤ d)  {h : sm_H} {r : Int32 × sm_H} (hf : F_12  h = some r) : RUN L xs d 12 [.ref 34] h (some (.int r.1), r.2) := by
  obtain ⟨d, rfl⟩ : ∃ e, d = e + 1 := ⟨d - 1, by omega⟩
  exact ⟨Nat.le_of_ble_eq_true rfl, B_12_0 (by omega) hf rfl⟩
def F_15_0  (h : sm_H) : Option (Int32 × sm_H) :=
  (F_45 (h.1 34 12) h).bind fun q1 =>
  (F_46 (h.1 34 12) (q1.1 - 1) q1.2).bind fun q2 =>
  some (q2.1, q2.2)
theorem B_15_0 {L : Nat} {xs : Nat → Int32} {d : Nat} (hd : 1 ≤ d) {res : Option Value × sm_H}   {h : sm_H} {r : (Int32 × sm_H)} (hf : F_15_0  h = some r) (hs : (fun (r : Int32 × sm_H) => res = (some (.int r.1), r.2)) r) : Ex (P_G L xs) (RUN L xs d) (sm_lk P_t15) 0 0 [some (.ref 34)] [] h res := by
  unfold F_15_0 at hf
  refine Ex.seg 8 (pc' := 16) (lc' := [some (.ref 34)]) (st' := [.int (h.1 34 12), .ref 10, .int (h.1 34 12), .ref 10]) (h' := h) (sg1 rfl rfl (sg1 rfl rfl (sg1 rfl rfl (sg1 rfl rfl (sg1 rfl rfl (sg1 rfl rfl (sg1 rfl rfl (sg1 rfl rfl rfl)))))))) ?_
  obtain ⟨q1, e_q1, hf⟩ := bnd hf
  refine Ex.callV (a := 10) (As := [.int (h.1 34 12)]) (r := [.int (h.1 34 12), .ref 10]) (v := some (.int q1.1)) (h' := q1.2) rfl rfl (by decide) rfl (Nat.le_of_ble_eq_true rfl) rfl (E_45 (Nat.le_trans (by decide) hd) e_q1) rfl ?_
  refine Ex.seg 2 (pc' := 21) (lc' := [some (.ref 34)]) (st' := [.int (q1.1 - 1), .int (h.1 34 12), .ref 10]) (h' := q1.2) (sg1 rfl rfl (sg1 rfl rfl rfl)) ?_
  obtain ⟨q2, e_q2, hf⟩ := bnd hf
  refine Ex.callV (a := 10) (As := [.int (h.1 34 12), .int (q1.1 - 1)]) (r := []) (v := some (.int q2.1)) (h' := q2.2) rfl rfl (by decide) rfl (Nat.le_of_ble_eq_true rfl) rfl (E_46 (Nat.le_trans (by decide) hd) e_q2) rfl ?_
  obtain rfl := Option.some.inj hf
  exact Ex.iret rfl rfl (fun c0 => by cases c0) hs
/-- HandleHouse$Forms.lastPlace()I -/
abbrev F_15  (h : sm_H) : Option (Int32 × sm_H) := F_15_0  h
theorem E_15 {L : Nat} {xs : Nat → Int32} {d : Nat} (hd : 2 ≤ d)  {h : sm_H} {r : Int32 × sm_H} (hf : F_15  h = some r) : RUN L xs d 15 [.ref 34] h (some (.int r.1), r.2) := by
  obtain ⟨d, rfl⟩ : ∃ e, d = e + 1 := ⟨d - 1, by omega⟩
  exact ⟨Nat.le_of_ble_eq_true rfl, B_15_0 (by omega) hf rfl⟩
def F_17_48 (z0 : Int32) (h : sm_H) : Option (Int32 × sm_H) :=
  if z0 = 0 ∨ z0 = 1 then some (z0, h) else none
theorem B_17_48 {L : Nat} {xs : Nat → Int32} {d : Nat} (hd : 1 ≤ d) {res : Option Value × sm_H} {z0 : Int32}  {h : sm_H} {r : (Int32 × sm_H)} (hf : F_17_48 z0 h = some r) (hs : (fun (r : Int32 × sm_H) => res = (some (.int r.1), r.2)) r) : Ex (P_G L xs) (RUN L xs d) (sm_lk P_t17) 3 48 [none] [.int z0] h res := by
  unfold F_17_48 at hf
  rcases Classical.em (z0 = 0 ∨ z0 = 1) with c0 | c0
  · rw [if_pos c0] at hf
    obtain rfl := Option.some.inj hf
    exact Ex.iret rfl rfl (fun _ => c0) hs
  · rw [if_neg c0] at hf
    cases hf
def F_17_47  (h : sm_H) : Option (Int32 × sm_H) :=
  F_17_48 0 h
theorem B_17_47 {L : Nat} {xs : Nat → Int32} {d : Nat} (hd : 1 ≤ d) {res : Option Value × sm_H}   {h : sm_H} {r : (Int32 × sm_H)} (hf : F_17_47  h = some r) (hs : (fun (r : Int32 × sm_H) => res = (some (.int r.1), r.2)) r) : Ex (P_G L xs) (RUN L xs d) (sm_lk P_t17) 3 47 [none] [] h res := by
  unfold F_17_47 at hf
  refine Ex.seg 1 (pc' := 48) (lc' := [none]) (st' := [.int 0]) (h' := h) (sg1 rfl rfl rfl) ?_
  exact Ex.weak (sm_le_s sm_le_nil) (B_17_48 hd  hf hs)
def F_17_0  (h : sm_H) : Option (Int32 × sm_H) :=
  (F_44 (h.1 34 13) h).bind fun q1 =>
  if q1.1 = 0 then (F_17_47 q1.2)
  else ((F_46 (q1.2.1 34 12) (q1.2.1 34 8) q1.2).bind fun q2 =>
  (F_44 (q2.2.1 34 13) q2.2).bind fun q3 =>
  if q2.1 = q3.1 then (F_17_47 q3.2)
  else (F_17_48 1 q3.2))
theorem B_17_0 {L : Nat} {xs : Nat → Int32} {d : Nat} (hd : 1 ≤ d) {res : Option Value × sm_H}   {h : sm_H} {r : (Int32 × sm_H)} (hf : F_17_0  h = some r) (hs : (fun (r : Int32 × sm_H) => res = (some (.int r.1), r.2)) r) : Ex (P_G L xs) (RUN L xs d) (sm_lk P_t17) 3 0 [some (.ref 34)] [] h res := by
  unfold F_17_0 at hf
  refine Ex.seg 4 (pc' := 8) (lc' := [some (.ref 34)]) (st' := [.int (h.1 34 13), .ref 10]) (h' := h) (sg1 rfl rfl (sg1 rfl rfl (sg1 rfl rfl (sg1 rfl rfl rfl)))) ?_
  obtain ⟨q1, e_q1, hf⟩ := bnd hf
  refine Ex.callV (a := 10) (As := [.int (h.1 34 13)]) (r := []) (v := some (.int q1.1)) (h' := q1.2) rfl rfl (by decide) rfl (Nat.le_of_ble_eq_true rfl) rfl (E_44 (Nat.le_trans (by decide) hd) e_q1) rfl ?_
  refine Ex.ifc rfl rfl (fun (c0 : q1.1 = 0) => ?_) (fun (c0 : ¬ (q1.1 = 0)) => ?_)
  · rw [if_pos c0] at hf
    exact Ex.weak (sm_le_n sm_le_nil) (B_17_47 hd  hf hs)
  · rw [if_neg c0] at hf
    refine Ex.seg 6 (pc' := 26) (lc' := [some (.ref 34)]) (st' := [.int (q1.2.1 34 8), .int (q1.2.1 34 12), .ref 10]) (h' := q1.2) (sg1 rfl rfl (sg1 rfl rfl (sg1 rfl rfl (sg1 rfl rfl (sg1 rfl rfl (sg1 rfl rfl rfl)))))) ?_
    obtain ⟨q2, e_q2, hf⟩ := bnd hf
    refine Ex.callV (a := 10) (As := [.int (q1.2.1 34 12), .int (q1.2.1 34 8)]) (r := []) (v := some (.int q2.1)) (h' := q2.2) rfl rfl (by decide) rfl (Nat.le_of_ble_eq_true rfl) rfl (E_46 (Nat.le_trans (by decide) hd) e_q2) rfl ?_
    refine Ex.seg 4 (pc' := 37) (lc' := [some (.ref 34)]) (st' := [.int (q2.2.1 34 13), .ref 10, .int q2.1]) (h' := q2.2) (sg1 rfl rfl (sg1 rfl rfl (sg1 rfl rfl (sg1 rfl rfl rfl)))) ?_
    obtain ⟨q3, e_q3, hf⟩ := bnd hf
    refine Ex.callV (a := 10) (As := [.int (q2.2.1 34 13)]) (r := [.int q2.1]) (v := some (.int q3.1)) (h' := q3.2) rfl rfl (by decide) rfl (Nat.le_of_ble_eq_true rfl) rfl (E_44 (Nat.le_trans (by decide) hd) e_q3) rfl ?_
    refine Ex.icmp rfl rfl (fun (c0 : q2.1 = q3.1) => ?_) (fun (c0 : ¬ (q2.1 = q3.1)) => ?_)
    · rw [if_pos c0] at hf
      exact Ex.weak (sm_le_n sm_le_nil) (B_17_47 hd  hf hs)
    · rw [if_neg c0] at hf
      refine Ex.seg 2 (pc' := 48) (lc' := [some (.ref 34)]) (st' := [.int 1]) (h' := q3.2) (sg1 rfl rfl (sg1 rfl rfl rfl)) ?_
      exact Ex.weak (sm_le_n sm_le_nil) (B_17_48 hd  hf hs)
/-- HandleHouse$Forms.disagreesGiven()Z -/
abbrev F_17  (h : sm_H) : Option (Int32 × sm_H) := F_17_0  h
theorem E_17 {L : Nat} {xs : Nat → Int32} {d : Nat} (hd : 2 ≤ d)  {h : sm_H} {r : Int32 × sm_H} (hf : F_17  h = some r) : RUN L xs d 17 [.ref 34] h (some (.int r.1), r.2) := by
  obtain ⟨d, rfl⟩ : ∃ e, d = e + 1 := ⟨d - 1, by omega⟩
  exact ⟨Nat.le_of_ble_eq_true rfl, B_17_0 (by omega) hf rfl⟩
def F_19_77 (z0 : Int32) (h : sm_H) : Option (Int32 × sm_H) :=
  if z0 = 0 ∨ z0 = 1 then some (z0, h) else none
theorem B_19_77 {L : Nat} {xs : Nat → Int32} {d : Nat} (hd : 1 ≤ d) {res : Option Value × sm_H} {z0 : Int32}  {h : sm_H} {r : (Int32 × sm_H)} (hf : F_19_77 z0 h = some r) (hs : (fun (r : Int32 × sm_H) => res = (some (.int r.1), r.2)) r) : Ex (P_G L xs) (RUN L xs d) (sm_lk P_t19) 3 77 [none, none] [.int z0] h res := by
  unfold F_19_77 at hf
  rcases Classical.em (z0 = 0 ∨ z0 = 1) with c0 | c0
  · rw [if_pos c0] at hf
    obtain rfl := Option.some.inj hf
    exact Ex.iret rfl rfl (fun _ => c0) hs
  · rw [if_neg c0] at hf
    cases hf
def F_19_72  (h : sm_H) : Option (Int32 × sm_H) :=
  F_19_77 1 h
theorem B_19_72 {L : Nat} {xs : Nat → Int32} {d : Nat} (hd : 1 ≤ d) {res : Option Value × sm_H}   {h : sm_H} {r : (Int32 × sm_H)} (hf : F_19_72  h = some r) (hs : (fun (r : Int32 × sm_H) => res = (some (.int r.1), r.2)) r) : Ex (P_G L xs) (RUN L xs d) (sm_lk P_t19) 3 72 [none, none] [] h res := by
  unfold F_19_72 at hf
  refine Ex.seg 2 (pc' := 77) (lc' := [none, none]) (st' := [.int 1]) (h' := h) (sg1 rfl rfl (sg1 rfl rfl rfl)) ?_
  exact Ex.weak (sm_le_s (sm_le_s sm_le_nil)) (B_19_77 hd  hf hs)
def F_19_0 (x1 : Int32) (h : sm_H) : Option (Int32 × sm_H) :=
  (F_44 (h.1 34 13) h).bind fun q1 =>
  (F_44 (q1.2.1 34 12) q1.2).bind fun q2 =>
  if q1.1 = q2.1 then ((F_41 (q2.2.1 34 13) q2.2).bind fun q3 =>
  (F_41 (q3.2.1 34 12) q3.2).bind fun q4 =>
  (F_45 (q4.2.1 34 13) q4.2).bind fun q5 =>
  (F_235 q3.1 x1 q4.1 0 (q5.1 - x1) q5.2).bind fun q6 =>
  if q6.1 = 0 then (F_19_72 q6.2)
  else (F_19_77 0 q6.2))
  else (F_19_72 q2.2)
theorem B_19_0 {L : Nat} {xs : Nat → Int32} {d : Nat} (hd : 1 ≤ d) {res : Option Value × sm_H} {x1 : Int32}  {h : sm_H} {r : (Int32 × sm_H)} (hf : F_19_0 x1 h = some r) (hs : (fun (r : Int32 × sm_H) => res = (some (.int r.1), r.2)) r) : Ex (P_G L xs) (RUN L xs d) (sm_lk P_t19) 3 0 [some (.ref 34), some (.int x1)] [] h res := by
  unfold F_19_0 at hf
  refine Ex.seg 4 (pc' := 8) (lc' := [some (.ref 34), some (.int x1)]) (st' := [.int (h.1 34 13), .ref 10]) (h' := h) (sg1 rfl rfl (sg1 rfl rfl (sg1 rfl rfl (sg1 rfl rfl rfl)))) ?_
  obtain ⟨q1, e_q1, hf⟩ := bnd hf
  refine Ex.callV (a := 10) (As := [.int (h.1 34 13)]) (r := []) (v := some (.int q1.1)) (h' := q1.2) rfl rfl (by decide) rfl (Nat.le_of_ble_eq_true rfl) rfl (E_44 (Nat.le_trans (by decide) hd) e_q1) rfl ?_
  refine Ex.seg 4 (pc' := 19) (lc' := [some (.ref 34), some (.int x1)]) (st' := [.int (q1.2.1 34 12), .ref 10, .int q1.1]) (h' := q1.2) (sg1 rfl rfl (sg1 rfl rfl (sg1 rfl rfl (sg1 rfl rfl rfl)))) ?_
  obtain ⟨q2, e_q2, hf⟩ := bnd hf
  refine Ex.callV (a := 10) (As := [.int (q1.2.1 34 12)]) (r := [.int q1.1]) (v := some (.int q2.1)) (h' := q2.2) rfl rfl (by decide) rfl (Nat.le_of_ble_eq_true rfl) rfl (E_44 (Nat.le_trans (by decide) hd) e_q2) rfl ?_
  refine Ex.icmp rfl rfl (fun (c0 : ¬ (q1.1 = q2.1)) => ?_) (fun (c0 : ¬ ¬ (q1.1 = q2.1)) => ?_)
  · rw [if_neg c0] at hf
    exact Ex.weak (sm_le_n (sm_le_n sm_le_nil)) (B_19_72 hd  hf hs)
  · rw [if_pos (Classical.not_not.mp c0)] at hf
    refine Ex.seg 6 (pc' := 37) (lc' := [some (.ref 34), some (.int x1)]) (st' := [.int (q2.2.1 34 13), .ref 10, .ref 5]) (h' := q2.2) (sg1 rfl rfl (sg1 rfl rfl (sg1 rfl rfl (sg1 rfl rfl (sg1 rfl rfl (sg1 rfl rfl rfl)))))) ?_
    obtain ⟨q3, e_q3, hf⟩ := bnd hf
    refine Ex.callV (a := 10) (As := [.int (q2.2.1 34 13)]) (r := [.ref 5]) (v := some (.int q3.1)) (h' := q3.2) rfl rfl (by decide) rfl (Nat.le_of_ble_eq_true rfl) rfl (E_41 (Nat.le_trans (by decide) hd) e_q3) rfl ?_
    refine Ex.seg 5 (pc' := 49) (lc' := [some (.ref 34), some (.int x1)]) (st' := [.int (q3.2.1 34 12), .ref 10, .int x1, .int q3.1, .ref 5]) (h' := q3.2) (sg1 rfl rfl (sg1 rfl rfl (sg1 rfl rfl (sg1 rfl rfl (sg1 rfl rfl rfl))))) ?_
    obtain ⟨q4, e_q4, hf⟩ := bnd hf
    refine Ex.callV (a := 10) (As := [.int (q3.2.1 34 12)]) (r := [.int x1, .int q3.1, .ref 5]) (v := some (.int q4.1)) (h' := q4.2) rfl rfl (by decide) rfl (Nat.le_of_ble_eq_true rfl) rfl (E_41 (Nat.le_trans (by decide) hd) e_q4) rfl ?_
    refine Ex.seg 5 (pc' := 61) (lc' := [some (.ref 34), some (.int x1)]) (st' := [.int (q4.2.1 34 13), .ref 10, .int 0, .int q4.1, .int x1, .int q3.1, .ref 5]) (h' := q4.2) (sg1 rfl rfl (sg1 rfl rfl (sg1 rfl rfl (sg1 rfl rfl (sg1 rfl rfl rfl))))) ?_
    obtain ⟨q5, e_q5, hf⟩ := bnd hf
    refine Ex.callV (a := 10) (As := [.int (q4.2.1 34 13)]) (r := [.int 0, .int q4.1, .int x1, .int q3.1, .ref 5]) (v := some (.int q5.1)) (h' := q5.2) rfl rfl (by decide) rfl (Nat.le_of_ble_eq_true rfl) rfl (E_45 (Nat.le_trans (by decide) hd) e_q5) rfl ?_
    refine Ex.seg 2 (pc' := 66) (lc' := [some (.ref 34), some (.int x1)]) (st' := [.int (q5.1 - x1), .int 0, .int q4.1, .int x1, .int q3.1, .ref 5]) (h' := q5.2) (sg1 rfl rfl (sg1 rfl rfl rfl)) ?_
    obtain ⟨q6, e_q6, hf⟩ := bnd hf
    refine Ex.callV (a := 5) (As := [.int q3.1, .int x1, .int q4.1, .int 0, .int (q5.1 - x1)]) (r := []) (v := some (.int q6.1)) (h' := q6.2) rfl rfl (by decide) rfl (Nat.le_of_ble_eq_true rfl) rfl (E_235 (Nat.le_trans (by decide) hd) e_q6) rfl ?_
    refine Ex.ifc rfl rfl (fun (c0 : ¬ (q6.1 = 0)) => ?_) (fun (c0 : ¬ ¬ (q6.1 = 0)) => ?_)
    · rw [if_neg c0] at hf
      refine Ex.seg 1 (pc' := 77) (lc' := [some (.ref 34), some (.int x1)]) (st' := [.int 0]) (h' := q6.2) (sg1 rfl rfl rfl) ?_
      exact Ex.weak (sm_le_n (sm_le_n sm_le_nil)) (B_19_77 hd  hf hs)
    · rw [if_pos (Classical.not_not.mp c0)] at hf
      exact Ex.weak (sm_le_n (sm_le_n sm_le_nil)) (B_19_72 hd  hf hs)
/-- HandleHouse$Forms.disagreesBehind(I)Z -/
abbrev F_19 (x1 : Int32) (h : sm_H) : Option (Int32 × sm_H) := F_19_0 x1 h
theorem E_19 {L : Nat} {xs : Nat → Int32} {d : Nat} (hd : 2 ≤ d) {x1 : Int32} {h : sm_H} {r : Int32 × sm_H} (hf : F_19 x1 h = some r) : RUN L xs d 19 [.ref 34, .int x1] h (some (.int r.1), r.2) := by
  obtain ⟨d, rfl⟩ : ∃ e, d = e + 1 := ⟨d - 1, by omega⟩
  exact ⟨Nat.le_of_ble_eq_true rfl, B_19_0 (by omega) hf rfl⟩
def F_20_78 (z0 : Int32) (h : sm_H) : Option (Int32 × sm_H) :=
  if z0 = 0 ∨ z0 = 1 then some (z0, h) else none
theorem B_20_78 {L : Nat} {xs : Nat → Int32} {d : Nat} (hd : 2 ≤ d) {res : Option Value × sm_H} {z0 : Int32}  {h : sm_H} {r : (Int32 × sm_H)} (hf : F_20_78 z0 h = some r) (hs : (fun (r : Int32 × sm_H) => res = (some (.int r.1), r.2)) r) : Ex (P_G L xs) (RUN L xs d) (sm_lk P_t20) 3 78 [none] [.int z0] h res := by
  unfold F_20_78 at hf
  rcases Classical.em (z0 = 0 ∨ z0 = 1) with c0 | c0
  · rw [if_pos c0] at hf
    obtain rfl := Option.some.inj hf
    exact Ex.iret rfl rfl (fun _ => c0) hs
  · rw [if_neg c0] at hf
    cases hf
def F_20_73  (h : sm_H) : Option (Int32 × sm_H) :=
  F_20_78 1 h
theorem B_20_73 {L : Nat} {xs : Nat → Int32} {d : Nat} (hd : 2 ≤ d) {res : Option Value × sm_H}   {h : sm_H} {r : (Int32 × sm_H)} (hf : F_20_73  h = some r) (hs : (fun (r : Int32 × sm_H) => res = (some (.int r.1), r.2)) r) : Ex (P_G L xs) (RUN L xs d) (sm_lk P_t20) 3 73 [none] [] h res := by
  unfold F_20_73 at hf
  refine Ex.seg 2 (pc' := 78) (lc' := [none]) (st' := [.int 1]) (h' := h) (sg1 rfl rfl (sg1 rfl rfl rfl)) ?_
  exact Ex.weak (sm_le_s sm_le_nil) (B_20_78 hd  hf hs)
def F_20_0  (h : sm_H) : Option (Int32 × sm_H) :=
  (F_46 (h.1 34 13) 0 h).bind fun q1 =>
  if q1.1 = 19 then ((F_44 (q1.2.1 34 12) q1.2).bind fun q2 =>
  if q2.1 = 0 then ((F_19 1 q2.2).bind fun q6 =>
  if q6.1 = 0 ∨ q6.1 = 1 then some (q6.1, q6.2) else none)
  else ((F_46 (q2.2.1 34 13) 1 q2.2).bind fun q3 =>
  (F_44 (q3.2.1 34 12) q3.2).bind fun q4 =>
  if q3.1 = q4.1 then ((F_19 2 q4.2).bind fun q5 =>
  if q5.1 = 0 then (F_20_78 0 q5.2)
  else (F_20_73 q5.2))
  else (F_20_73 q4.2)))
  else (some (1, q1.2))
theorem B_20_0 {L : Nat} {xs : Nat → Int32} {d : Nat} (hd : 2 ≤ d) {res : Option Value × sm_H}   {h : sm_H} {r : (Int32 × sm_H)} (hf : F_20_0  h = some r) (hs : (fun (r : Int32 × sm_H) => res = (some (.int r.1), r.2)) r) : Ex (P_G L xs) (RUN L xs d) (sm_lk P_t20) 3 0 [some (.ref 34)] [] h res := by
  unfold F_20_0 at hf
  refine Ex.seg 5 (pc' := 9) (lc' := [some (.ref 34)]) (st' := [.int 0, .int (h.1 34 13), .ref 10]) (h' := h) (sg1 rfl rfl (sg1 rfl rfl (sg1 rfl rfl (sg1 rfl rfl (sg1 rfl rfl rfl))))) ?_
  obtain ⟨q1, e_q1, hf⟩ := bnd hf
  refine Ex.callV (a := 10) (As := [.int (h.1 34 13), .int 0]) (r := []) (v := some (.int q1.1)) (h' := q1.2) rfl rfl (by decide) rfl (Nat.le_of_ble_eq_true rfl) rfl (E_46 (Nat.le_trans (by decide) hd) e_q1) rfl ?_
  refine Ex.seg 1 (pc' := 14) (lc' := [some (.ref 34)]) (st' := [.int 19, .int q1.1]) (h' := q1.2) (sg1 rfl rfl rfl) ?_
  refine Ex.icmp rfl rfl (fun (c0 : q1.1 = 19) => ?_) (fun (c0 : ¬ (q1.1 = 19)) => ?_)
  · rw [if_pos c0] at hf
    refine Ex.seg 4 (pc' := 27) (lc' := [some (.ref 34)]) (st' := [.int (q1.2.1 34 12), .ref 10]) (h' := q1.2) (sg1 rfl rfl (sg1 rfl rfl (sg1 rfl rfl (sg1 rfl rfl rfl)))) ?_
    obtain ⟨q2, e_q2, hf⟩ := bnd hf
    refine Ex.callV (a := 10) (As := [.int (q1.2.1 34 12)]) (r := []) (v := some (.int q2.1)) (h' := q2.2) rfl rfl (by decide) rfl (Nat.le_of_ble_eq_true rfl) rfl (E_44 (Nat.le_trans (by decide) hd) e_q2) rfl ?_
    refine Ex.ifc rfl rfl (fun (c0 : ¬ (q2.1 = 0)) => ?_) (fun (c0 : ¬ ¬ (q2.1 = 0)) => ?_)
    · rw [if_neg c0] at hf
      refine Ex.seg 5 (pc' := 48) (lc' := [some (.ref 34)]) (st' := [.int 1, .int (q2.2.1 34 13), .ref 10]) (h' := q2.2) (sg1 rfl rfl (sg1 rfl rfl (sg1 rfl rfl (sg1 rfl rfl (sg1 rfl rfl rfl))))) ?_
      obtain ⟨q3, e_q3, hf⟩ := bnd hf
      refine Ex.callV (a := 10) (As := [.int (q2.2.1 34 13), .int 1]) (r := []) (v := some (.int q3.1)) (h' := q3.2) rfl rfl (by decide) rfl (Nat.le_of_ble_eq_true rfl) rfl (E_46 (Nat.le_trans (by decide) hd) e_q3) rfl ?_
      refine Ex.seg 4 (pc' := 59) (lc' := [some (.ref 34)]) (st' := [.int (q3.2.1 34 12), .ref 10, .int q3.1]) (h' := q3.2) (sg1 rfl rfl (sg1 rfl rfl (sg1 rfl rfl (sg1 rfl rfl rfl)))) ?_
      obtain ⟨q4, e_q4, hf⟩ := bnd hf
      refine Ex.callV (a := 10) (As := [.int (q3.2.1 34 12)]) (r := [.int q3.1]) (v := some (.int q4.1)) (h' := q4.2) rfl rfl (by decide) rfl (Nat.le_of_ble_eq_true rfl) rfl (E_44 (Nat.le_trans (by decide) hd) e_q4) rfl ?_
      refine Ex.icmp rfl rfl (fun (c0 : ¬ (q3.1 = q4.1)) => ?_) (fun (c0 : ¬ ¬ (q3.1 = q4.1)) => ?_)
      · rw [if_neg c0] at hf
        exact Ex.weak (sm_le_n sm_le_nil) (B_20_73 hd  hf hs)
      · rw [if_pos (Classical.not_not.mp c0)] at hf
        refine Ex.seg 2 (pc' := 67) (lc' := [some (.ref 34)]) (st' := [.int 2, .ref 34]) (h' := q4.2) (sg1 rfl rfl (sg1 rfl rfl rfl)) ?_
        obtain ⟨q5, e_q5, hf⟩ := bnd hf
        refine Ex.callV (a := 34) (As := [.int 2]) (r := []) (v := some (.int q5.1)) (h' := q5.2) rfl rfl (by decide) rfl (Nat.le_of_ble_eq_true rfl) rfl (E_19 (Nat.le_trans (by decide) hd) e_q5) rfl ?_
        refine Ex.ifc rfl rfl (fun (c0 : q5.1 = 0) => ?_) (fun (c0 : ¬ (q5.1 = 0)) => ?_)
        · rw [if_pos c0] at hf
          refine Ex.seg 1 (pc' := 78) (lc' := [some (.ref 34)]) (st' := [.int 0]) (h' := q5.2) (sg1 rfl rfl rfl) ?_
          exact Ex.weak (sm_le_n sm_le_nil) (B_20_78 hd  hf hs)
        · rw [if_neg c0] at hf
          exact Ex.weak (sm_le_n sm_le_nil) (B_20_73 hd  hf hs)
    · rw [if_pos (Classical.not_not.mp c0)] at hf
      refine Ex.seg 2 (pc' := 35) (lc' := [some (.ref 34)]) (st' := [.int 1, .ref 34]) (h' := q2.2) (sg1 rfl rfl (sg1 rfl rfl rfl)) ?_
      obtain ⟨q6, e_q6, hf⟩ := bnd hf
      refine Ex.callV (a := 34) (As := [.int 1]) (r := []) (v := some (.int q6.1)) (h' := q6.2) rfl rfl (by decide) rfl (Nat.le_of_ble_eq_true rfl) rfl (E_19 (Nat.le_trans (by decide) hd) e_q6) rfl ?_
      rcases Classical.em (q6.1 = 0 ∨ q6.1 = 1) with c0 | c0
      · rw [if_pos c0] at hf
        obtain rfl := Option.some.inj hf
        exact Ex.iret rfl rfl (fun _ => c0) hs
      · rw [if_neg c0] at hf
        cases hf
  · rw [if_neg c0] at hf
    refine Ex.seg 1 (pc' := 18) (lc' := [some (.ref 34)]) (st' := [.int 1]) (h' := q1.2) (sg1 rfl rfl rfl) ?_
    obtain rfl := Option.some.inj hf
    exact Ex.iret rfl rfl (fun _ => by decide) hs
/-- HandleHouse$Forms.disagreesFinally()Z -/
abbrev F_20  (h : sm_H) : Option (Int32 × sm_H) := F_20_0  h
theorem E_20 {L : Nat} {xs : Nat → Int32} {d : Nat} (hd : 3 ≤ d)  {h : sm_H} {r : Int32 × sm_H} (hf : F_20  h = some r) : RUN L xs d 20 [.ref 34] h (some (.int r.1), r.2) := by
  obtain ⟨d, rfl⟩ : ∃ e, d = e + 1 := ⟨d - 1, by omega⟩
  exact ⟨Nat.le_of_ble_eq_true rfl, B_20_0 (by omega) hf rfl⟩
def F_24_68 (z0 : Int32) (h : sm_H) : Option (Int32 × sm_H) :=
  if z0 = 0 ∨ z0 = 1 then some (z0, h) else none
theorem B_24_68 {L : Nat} {xs : Nat → Int32} {d : Nat} (hd : 1 ≤ d) {res : Option Value × sm_H} {z0 : Int32}  {h : sm_H} {r : (Int32 × sm_H)} (hf : F_24_68 z0 h = some r) (hs : (fun (r : Int32 × sm_H) => res = (some (.int r.1), r.2)) r) : Ex (P_G L xs) (RUN L xs d) (sm_lk P_t24) 3 68 [none, none, none] [.int z0] h res := by
  unfold F_24_68 at hf
  rcases Classical.em (z0 = 0 ∨ z0 = 1) with c0 | c0
  · rw [if_pos c0] at hf
    obtain rfl := Option.some.inj hf
    exact Ex.iret rfl rfl (fun _ => c0) hs
  · rw [if_neg c0] at hf
    cases hf
def F_24_63  (h : sm_H) : Option (Int32 × sm_H) :=
  F_24_68 1 h
theorem B_24_63 {L : Nat} {xs : Nat → Int32} {d : Nat} (hd : 1 ≤ d) {res : Option Value × sm_H}   {h : sm_H} {r : (Int32 × sm_H)} (hf : F_24_63  h = some r) (hs : (fun (r : Int32 × sm_H) => res = (some (.int r.1), r.2)) r) : Ex (P_G L xs) (RUN L xs d) (sm_lk P_t24) 3 63 [none, none, none] [] h res := by
  unfold F_24_63 at hf
  refine Ex.seg 2 (pc' := 68) (lc' := [none, none, none]) (st' := [.int 1]) (h' := h) (sg1 rfl rfl (sg1 rfl rfl rfl)) ?_
  exact Ex.weak (sm_le_s (sm_le_s (sm_le_s sm_le_nil))) (B_24_68 hd  hf hs)
def F_24_31 (y1 : Int32) (h : sm_H) : Option (Int32 × sm_H) :=
  (F_41 y1 h).bind fun q1 =>
  (F_45 y1 q1.2).bind fun q2 =>
  (F_235 q1.1 0 (q1.2.1 34 9) 0 q2.1 q2.2).bind fun q3 =>
  if q3.1 = 0 then (F_24_63 q3.2)
  else (F_24_68 0 q3.2)
theorem B_24_31 {L : Nat} {xs : Nat → Int32} {d : Nat} (hd : 1 ≤ d) {res : Option Value × sm_H} {y1 : Int32}  {h : sm_H} {r : (Int32 × sm_H)} (hf : F_24_31 y1 h = some r) (hs : (fun (r : Int32 × sm_H) => res = (some (.int r.1), r.2)) r) : Ex (P_G L xs) (RUN L xs d) (sm_lk P_t24) 3 31 [some (.ref 34), some (.int y1), none] [] h res := by
  unfold F_24_31 at hf
  refine Ex.seg 5 (pc' := 40) (lc' := [some (.ref 34), some (.int y1), none]) (st' := [.int y1, .ref 10, .ref 5]) (h' := h) (sg1 rfl rfl (sg1 rfl rfl (sg1 rfl rfl (sg1 rfl rfl (sg1 rfl rfl rfl))))) ?_
  obtain ⟨q1, e_q1, hf⟩ := bnd hf
  refine Ex.callV (a := 10) (As := [.int y1]) (r := [.ref 5]) (v := some (.int q1.1)) (h' := q1.2) rfl rfl (by decide) rfl (Nat.le_of_ble_eq_true rfl) rfl (E_41 (Nat.le_trans (by decide) hd) e_q1) rfl ?_
  refine Ex.seg 7 (pc' := 54) (lc' := [some (.ref 34), some (.int y1), none]) (st' := [.int y1, .ref 10, .int 0, .int (q1.2.1 34 9), .int 0, .int q1.1, .ref 5]) (h' := q1.2) (sg1 rfl rfl (sg1 rfl rfl (sg1 rfl rfl (sg1 rfl rfl (sg1 rfl rfl (sg1 rfl rfl (sg1 rfl rfl rfl))))))) ?_
  obtain ⟨q2, e_q2, hf⟩ := bnd hf
  refine Ex.callV (a := 10) (As := [.int y1]) (r := [.int 0, .int (q1.2.1 34 9), .int 0, .int q1.1, .ref 5]) (v := some (.int q2.1)) (h' := q2.2) rfl rfl (by decide) rfl (Nat.le_of_ble_eq_true rfl) rfl (E_45 (Nat.le_trans (by decide) hd) e_q2) rfl ?_
  obtain ⟨q3, e_q3, hf⟩ := bnd hf
  refine Ex.callV (a := 5) (As := [.int q1.1, .int 0, .int (q1.2.1 34 9), .int 0, .int q2.1]) (r := []) (v := some (.int q3.1)) (h' := q3.2) rfl rfl (by decide) rfl (Nat.le_of_ble_eq_true rfl) rfl (E_235 (Nat.le_trans (by decide) hd) e_q3) rfl ?_
  refine Ex.ifc rfl rfl (fun (c0 : ¬ (q3.1 = 0)) => ?_) (fun (c0 : ¬ ¬ (q3.1 = 0)) => ?_)
  · rw [if_neg c0] at hf
    refine Ex.seg 1 (pc' := 68) (lc' := [some (.ref 34), some (.int y1), none]) (st' := [.int 0]) (h' := q3.2) (sg1 rfl rfl rfl) ?_
    exact Ex.weak (sm_le_n (sm_le_n (sm_le_s sm_le_nil))) (B_24_68 hd  hf hs)
  · rw [if_pos (Classical.not_not.mp c0)] at hf
    exact Ex.weak (sm_le_n (sm_le_n (sm_le_s sm_le_nil))) (B_24_63 hd  hf hs)
def F_24_0 (x1 : Int32) (x2 : Int32) (h : sm_H) : Option (Int32 × sm_H) :=
  if x1 = (-1) then (some (0, h))
  else (if x2 = (-1) then (F_24_31 x1 h)
  else ((F_44 x2 h).bind fun q4 =>
  (F_44 x1 q4.2).bind fun q5 =>
  if q4.1 = q5.1 then (F_24_31 x1 q5.2)
  else (F_24_63 q5.2)))
theorem B_24_0 {L : Nat} {xs : Nat → Int32} {d : Nat} (hd : 1 ≤ d) {res : Option Value × sm_H} {x1 : Int32} {x2 : Int32}  {h : sm_H} {r : (Int32 × sm_H)} (hf : F_24_0 x1 x2 h = some r) (hs : (fun (r : Int32 × sm_H) => res = (some (.int r.1), r.2)) r) : Ex (P_G L xs) (RUN L xs d) (sm_lk P_t24) 3 0 [some (.ref 34), some (.int x1), some (.int x2)] [] h res := by
  unfold F_24_0 at hf
  refine Ex.seg 2 (pc' := 2) (lc' := [some (.ref 34), some (.int x1), some (.int x2)]) (st' := [.int (-1), .int x1]) (h' := h) (sg1 rfl rfl (sg1 rfl rfl rfl)) ?_
  refine Ex.icmp rfl rfl (fun (c0 : ¬ (x1 = (-1))) => ?_) (fun (c0 : ¬ ¬ (x1 = (-1))) => ?_)
  · rw [if_neg c0] at hf
    refine Ex.seg 2 (pc' := 9) (lc' := [some (.ref 34), some (.int x1), some (.int x2)]) (st' := [.int (-1), .int x2]) (h' := h) (sg1 rfl rfl (sg1 rfl rfl rfl)) ?_
    refine Ex.icmp rfl rfl (fun (c0 : x2 = (-1)) => ?_) (fun (c0 : ¬ (x2 = (-1))) => ?_)
    · rw [if_pos c0] at hf
      exact Ex.weak (sm_le_s (sm_le_s (sm_le_n sm_le_nil))) (B_24_31 hd  hf hs)
    · rw [if_neg c0] at hf
      refine Ex.seg 3 (pc' := 17) (lc' := [some (.ref 34), some (.int x1), some (.int x2)]) (st' := [.int x2, .ref 10]) (h' := h) (sg1 rfl rfl (sg1 rfl rfl (sg1 rfl rfl rfl))) ?_
      obtain ⟨q4, e_q4, hf⟩ := bnd hf
      refine Ex.callV (a := 10) (As := [.int x2]) (r := []) (v := some (.int q4.1)) (h' := q4.2) rfl rfl (by decide) rfl (Nat.le_of_ble_eq_true rfl) rfl (E_44 (Nat.le_trans (by decide) hd) e_q4) rfl ?_
      refine Ex.seg 3 (pc' := 25) (lc' := [some (.ref 34), some (.int x1), some (.int x2)]) (st' := [.int x1, .ref 10, .int q4.1]) (h' := q4.2) (sg1 rfl rfl (sg1 rfl rfl (sg1 rfl rfl rfl))) ?_
      obtain ⟨q5, e_q5, hf⟩ := bnd hf
      refine Ex.callV (a := 10) (As := [.int x1]) (r := [.int q4.1]) (v := some (.int q5.1)) (h' := q5.2) rfl rfl (by decide) rfl (Nat.le_of_ble_eq_true rfl) rfl (E_44 (Nat.le_trans (by decide) hd) e_q5) rfl ?_
      refine Ex.icmp rfl rfl (fun (c0 : ¬ (q4.1 = q5.1)) => ?_) (fun (c0 : ¬ ¬ (q4.1 = q5.1)) => ?_)
      · rw [if_neg c0] at hf
        exact Ex.weak (sm_le_n (sm_le_n (sm_le_n sm_le_nil))) (B_24_63 hd  hf hs)
      · rw [if_pos (Classical.not_not.mp c0)] at hf
        exact Ex.weak (sm_le_s (sm_le_s (sm_le_n sm_le_nil))) (B_24_31 hd  hf hs)
  · rw [if_pos (Classical.not_not.mp c0)] at hf
    refine Ex.seg 1 (pc' := 6) (lc' := [some (.ref 34), some (.int x1), some (.int x2)]) (st' := [.int 0]) (h' := h) (sg1 rfl rfl rfl) ?_
    obtain rfl := Option.some.inj hf
    exact Ex.iret rfl rfl (fun _ => by decide) hs
/-- HandleHouse$Forms.disagreesInit(II)Z -/
abbrev F_24 (x1 : Int32) (x2 : Int32) (h : sm_H) : Option (Int32 × sm_H) := F_24_0 x1 x2 h
theorem E_24 {L : Nat} {xs : Nat → Int32} {d : Nat} (hd : 2 ≤ d) {x1 : Int32} {x2 : Int32} {h : sm_H} {r : Int32 × sm_H} (hf : F_24 x1 x2 h = some r) : RUN L xs d 24 [.ref 34, .int x1, .int x2] h (some (.int r.1), r.2) := by
  obtain ⟨d, rfl⟩ : ∃ e, d = e + 1 := ⟨d - 1, by omega⟩
  exact ⟨Nat.le_of_ble_eq_true rfl, B_24_0 (by omega) hf rfl⟩
def F_25_53 (y1 : Int32) (y2 : Int32) (z0 : Int32) (h : sm_H) : Option ((Int32 × Int32 × sm_H) ⊕ (Int32 × sm_H)) :=
  (F_46 y1 y2 h).bind fun q1 =>
  if q1.1 = z0 then ((some (y2 + 1 : Int32)).bind fun v2 =>
  some (.inl (y1, v2, q1.2)))
  else (some (.inr (1, q1.2)))
theorem B_25_53 {L : Nat} {xs : Nat → Int32} {d : Nat} (hd : 1 ≤ d) {res : Option Value × sm_H} {S1 : (Int32 × Int32 × sm_H) → Prop} (hS1 : ∀ s, S1 s → Ex (P_G L xs) (RUN L xs d) (sm_lk P_t25) 3 2 [some (.ref 34), some (.int s.1), some (.int s.2.1), none] [] s.2.2 res) {y1 : Int32} {y2 : Int32} {z0 : Int32}  {h : sm_H} {r : ((Int32 × Int32 × sm_H) ⊕ (Int32 × sm_H))} (hf : F_25_53 y1 y2 z0 h = some r) (hs : (Sum.elim S1 (fun (r : Int32 × sm_H) => res = (some (.int r.1), r.2))) r) : Ex (P_G L xs) (RUN L xs d) (sm_lk P_t25) 3 53 [some (.ref 34), some (.int y1), some (.int y2), none] [.int z0] h res := by
  unfold F_25_53 at hf
  refine Ex.seg 5 (pc' := 60) (lc' := [some (.ref 34), some (.int y1), some (.int y2), some (.int z0)]) (st' := [.int y2, .int y1, .ref 10]) (h' := h) (sg1 rfl rfl (sg1 rfl rfl (sg1 rfl rfl (sg1 rfl rfl (sg1 rfl rfl rfl))))) ?_
  obtain ⟨q1, e_q1, hf⟩ := bnd hf
  refine Ex.callV (a := 10) (As := [.int y1, .int y2]) (r := []) (v := some (.int q1.1)) (h' := q1.2) rfl rfl (by decide) rfl (Nat.le_of_ble_eq_true rfl) rfl (E_46 (Nat.le_trans (by decide) hd) e_q1) rfl ?_
  refine Ex.seg 1 (pc' := 64) (lc' := [some (.ref 34), some (.int y1), some (.int y2), some (.int z0)]) (st' := [.int z0, .int q1.1]) (h' := q1.2) (sg1 rfl rfl rfl) ?_
  refine Ex.icmp rfl rfl (fun (c0 : q1.1 = z0) => ?_) (fun (c0 : ¬ (q1.1 = z0)) => ?_)
  · rw [if_pos c0] at hf
    refine Ex.seg 1 (pc' := 72) (lc' := [some (.ref 34), some (.int y1), some (.int (y2 + 1)), some (.int z0)]) (st' := []) (h' := q1.2) (sg1 rfl rfl rfl) ?_
    obtain ⟨v2, e_v2, hf⟩ := bnd hf
    rw [Option.some.inj e_v2]
    refine Ex.seg 1 (pc' := 2) (lc' := [some (.ref 34), some (.int y1), some (.int v2), some (.int z0)]) (st' := []) (h' := q1.2) (sg1 rfl rfl rfl) ?_
    obtain rfl := Option.some.inj hf
    exact Ex.weak (sm_le_s (sm_le_s (sm_le_s (sm_le_n sm_le_nil)))) (hS1 _ hs)
  · rw [if_neg c0] at hf
    refine Ex.seg 1 (pc' := 68) (lc' := [some (.ref 34), some (.int y1), some (.int y2), some (.int z0)]) (st' := [.int 1]) (h' := q1.2) (sg1 rfl rfl rfl) ?_
    obtain rfl := Option.some.inj hf
    exact Ex.iret rfl rfl (fun _ => by decide) hs
def F_25_36 (y1 : Int32) (y2 : Int32) (h : sm_H) : Option ((Int32 × Int32 × sm_H) ⊕ (Int32 × sm_H)) :=
  (F_227 (h.1 34 9) (y2 - (h.1 34 6)) h).bind fun q3 =>
  F_25_53 y1 y2 q3.1 q3.2
theorem B_25_36 {L : Nat} {xs : Nat → Int32} {d : Nat} (hd : 1 ≤ d) {res : Option Value × sm_H} {S1 : (Int32 × Int32 × sm_H) → Prop} (hS1 : ∀ s, S1 s → Ex (P_G L xs) (RUN L xs d) (sm_lk P_t25) 3 2 [some (.ref 34), some (.int s.1), some (.int s.2.1), none] [] s.2.2 res) {y1 : Int32} {y2 : Int32}  {h : sm_H} {r : ((Int32 × Int32 × sm_H) ⊕ (Int32 × sm_H))} (hf : F_25_36 y1 y2 h = some r) (hs : (Sum.elim S1 (fun (r : Int32 × sm_H) => res = (some (.int r.1), r.2))) r) : Ex (P_G L xs) (RUN L xs d) (sm_lk P_t25) 3 36 [some (.ref 34), some (.int y1), some (.int y2), none] [] h res := by
  unfold F_25_36 at hf
  refine Ex.seg 8 (pc' := 50) (lc' := [some (.ref 34), some (.int y1), some (.int y2), none]) (st' := [.int (y2 - (h.1 34 6)), .int (h.1 34 9), .ref 5]) (h' := h) (sg1 rfl rfl (sg1 rfl rfl (sg1 rfl rfl (sg1 rfl rfl (sg1 rfl rfl (sg1 rfl rfl (sg1 rfl rfl (sg1 rfl rfl rfl)))))))) ?_
  obtain ⟨q3, e_q3, hf⟩ := bnd hf
  refine Ex.callV (a := 5) (As := [.int (h.1 34 9), .int (y2 - (h.1 34 6))]) (r := []) (v := some (.int q3.1)) (h' := q3.2) rfl rfl (by decide) rfl (Nat.le_of_ble_eq_true rfl) rfl (E_227 (Nat.le_trans (by decide) hd) e_q3) rfl ?_
  exact Ex.weak (sm_le_s (sm_le_s (sm_le_s (sm_le_s sm_le_nil)))) (B_25_53 hd hS1 hf hs)
def F_25_2B (s : (Int32 × Int32 × sm_H)) : Option ((Int32 × Int32 × sm_H) ⊕ (Int32 × sm_H)) :=
  (F_45 s.1 s.2.2).bind fun q4 =>
  if q4.1 ≤ s.2.1 then (some (.inr (0, q4.2)))
  else (if (q4.2.1 34 6) ≤ s.2.1 then (F_25_36 s.1 s.2.1 q4.2)
  else (if 4 ≤ s.2.1 then (F_25_36 s.1 s.2.1 q4.2)
  else ((ldI q4.2 37 4 s.2.1).bind fun v5 =>
  F_25_53 s.1 s.2.1 v5 q4.2)))
theorem B_25_2B {L : Nat} {xs : Nat → Int32} {d : Nat} (hd : 1 ≤ d) {res : Option Value × sm_H} {S1 : (Int32 × Int32 × sm_H) → Prop} (hS1 : ∀ s, S1 s → Ex (P_G L xs) (RUN L xs d) (sm_lk P_t25) 3 2 [some (.ref 34), some (.int s.1), some (.int s.2.1), none] [] s.2.2 res) {s : (Int32 × Int32 × sm_H)}  {r : ((Int32 × Int32 × sm_H) ⊕ (Int32 × sm_H))} (hf : F_25_2B s = some r) (hs : (Sum.elim S1 (fun (r : Int32 × sm_H) => res = (some (.int r.1), r.2))) r) : Ex (P_G L xs) (RUN L xs d) (sm_lk P_t25) 3 2 [some (.ref 34), some (.int s.1), some (.int s.2.1), none] [] s.2.2 res := by
  unfold F_25_2B at hf
  refine Ex.seg 4 (pc' := 8) (lc' := [some (.ref 34), some (.int s.1), some (.int s.2.1), none]) (st' := [.int s.1, .ref 10, .int s.2.1]) (h' := s.2.2) (sg1 rfl rfl (sg1 rfl rfl (sg1 rfl rfl (sg1 rfl rfl rfl)))) ?_
  obtain ⟨q4, e_q4, hf⟩ := bnd hf
  refine Ex.callV (a := 10) (As := [.int s.1]) (r := [.int s.2.1]) (v := some (.int q4.1)) (h' := q4.2) rfl rfl (by decide) rfl (Nat.le_of_ble_eq_true rfl) rfl (E_45 (Nat.le_trans (by decide) hd) e_q4) rfl ?_
  refine Ex.icmp rfl rfl (fun (c0 : q4.1 ≤ s.2.1) => ?_) (fun (c0 : ¬ (q4.1 ≤ s.2.1)) => ?_)
  · rw [if_pos c0] at hf
    refine Ex.seg 1 (pc' := 76) (lc' := [some (.ref 34), some (.int s.1), some (.int s.2.1), none]) (st' := [.int 0]) (h' := q4.2) (sg1 rfl rfl rfl) ?_
    obtain rfl := Option.some.inj hf
    exact Ex.iret rfl rfl (fun _ => by decide) hs
  · rw [if_neg c0] at hf
    refine Ex.seg 3 (pc' := 19) (lc' := [some (.ref 34), some (.int s.1), some (.int s.2.1), none]) (st' := [.int (q4.2.1 34 6), .int s.2.1]) (h' := q4.2) (sg1 rfl rfl (sg1 rfl rfl (sg1 rfl rfl rfl))) ?_
    refine Ex.icmp rfl rfl (fun (c0 : (q4.2.1 34 6) ≤ s.2.1) => ?_) (fun (c0 : ¬ ((q4.2.1 34 6) ≤ s.2.1)) => ?_)
    · rw [if_pos c0] at hf
      exact Ex.weak (sm_le_s (sm_le_s (sm_le_s (sm_le_s sm_le_nil)))) (B_25_36 hd hS1 hf hs)
    · rw [if_neg c0] at hf
      refine Ex.seg 2 (pc' := 24) (lc' := [some (.ref 34), some (.int s.1), some (.int s.2.1), none]) (st' := [.int 4, .int s.2.1]) (h' := q4.2) (sg1 rfl rfl (sg1 rfl rfl rfl)) ?_
      refine Ex.icmp rfl rfl (fun (c0 : 4 ≤ s.2.1) => ?_) (fun (c0 : ¬ (4 ≤ s.2.1)) => ?_)
      · rw [if_pos c0] at hf
        exact Ex.weak (sm_le_s (sm_le_s (sm_le_s (sm_le_s sm_le_nil)))) (B_25_36 hd hS1 hf hs)
      · rw [if_neg c0] at hf
        refine Ex.seg 3 (pc' := 32) (lc' := [some (.ref 34), some (.int s.1), some (.int s.2.1), none]) (st' := [.int s.2.1, .ref 37]) (h' := q4.2) (sg1 rfl rfl (sg1 rfl rfl (sg1 rfl rfl rfl))) ?_
        obtain ⟨v5, e_v5, hf⟩ := bnd hf
        refine Ex.iald e_v5 rfl rfl ?_
        refine Ex.seg 1 (pc' := 53) (lc' := [some (.ref 34), some (.int s.1), some (.int s.2.1), none]) (st' := [.int v5]) (h' := q4.2) (sg1 rfl rfl rfl) ?_
        exact Ex.weak (sm_le_s (sm_le_s (sm_le_s (sm_le_s sm_le_nil)))) (B_25_53 hd hS1 hf hs)
def F_25_2 (y1 : Int32) (y2 : Int32) (h : sm_H) : Option (Int32 × sm_H) := lp F_25_2B 1000000 (y1, y2, h)
theorem B_25_2 {L : Nat} {xs : Nat → Int32} {d : Nat} (hd : 1 ≤ d) {res : Option Value × sm_H} {y1 : Int32} {y2 : Int32}  {h : sm_H} {r : (Int32 × sm_H)} (hf : F_25_2 y1 y2 h = some r) (hs : (fun (r : Int32 × sm_H) => res = (some (.int r.1), r.2)) r) : Ex (P_G L xs) (RUN L xs d) (sm_lk P_t25) 3 2 [some (.ref 34), some (.int y1), some (.int y2), none] [] h res := by
  unfold F_25_2 at hf
  exact lp_ok (P := fun (s : (Int32 × Int32 × sm_H)) => Ex (P_G L xs) (RUN L xs d) (sm_lk P_t25) 3 2 [some (.ref 34), some (.int s.1), some (.int s.2.1), none] [] s.2.2 res) (S := (fun (r : Int32 × sm_H) => res = (some (.int r.1), r.2))) (fun s x hx hsx => by
    intros
    exact B_25_2B hd  (fun _ q => q) hx hsx) 1000000 _ r hf hs
def F_25_0 (x1 : Int32) (h : sm_H) : Option (Int32 × sm_H) :=
  F_25_2 x1 0 h
theorem B_25_0 {L : Nat} {xs : Nat → Int32} {d : Nat} (hd : 1 ≤ d) {res : Option Value × sm_H} {x1 : Int32}  {h : sm_H} {r : (Int32 × sm_H)} (hf : F_25_0 x1 h = some r) (hs : (fun (r : Int32 × sm_H) => res = (some (.int r.1), r.2)) r) : Ex (P_G L xs) (RUN L xs d) (sm_lk P_t25) 3 0 [some (.ref 34), some (.int x1), none, none] [] h res := by
  unfold F_25_0 at hf
  refine Ex.seg 2 (pc' := 2) (lc' := [some (.ref 34), some (.int x1), some (.int 0), none]) (st' := []) (h' := h) (sg1 rfl rfl (sg1 rfl rfl rfl)) ?_
  exact Ex.weak (sm_le_s (sm_le_s (sm_le_s (sm_le_s sm_le_nil)))) (B_25_2 hd  hf hs)
/-- HandleHouse$Forms.disagreesRound(I)Z -/
abbrev F_25 (x1 : Int32) (h : sm_H) : Option (Int32 × sm_H) := F_25_0 x1 h
theorem E_25 {L : Nat} {xs : Nat → Int32} {d : Nat} (hd : 2 ≤ d) {x1 : Int32} {h : sm_H} {r : Int32 × sm_H} (hf : F_25 x1 h = some r) : RUN L xs d 25 [.ref 34, .int x1] h (some (.int r.1), r.2) := by
  obtain ⟨d, rfl⟩ : ∃ e, d = e + 1 := ⟨d - 1, by omega⟩
  exact ⟨Nat.le_of_ble_eq_true rfl, B_25_0 (by omega) hf rfl⟩
def F_33_39 (z0 : Int32) (h : sm_H) : Option (Int32 × sm_H) :=
  some (z0, h)
theorem B_33_39 {L : Nat} {xs : Nat → Int32} {d : Nat} (hd : 1 ≤ d) {res : Option Value × sm_H} {z0 : Int32}  {h : sm_H} {r : (Int32 × sm_H)} (hf : F_33_39 z0 h = some r) (hs : (fun (r : Int32 × sm_H) => res = (some (.int r.1), r.2)) r) : Ex (P_G L xs) (RUN L xs d) (sm_lk P_t33) 0 39 [none, none, none] [.int z0] h res := by
  unfold F_33_39 at hf
  obtain rfl := Option.some.inj hf
  exact Ex.iret rfl rfl (fun c0 => by cases c0) hs
def F_33_13 (y1 : Int32) (y2 : Int32) (h : sm_H) : Option (Int32 × sm_H) :=
  if y2 = 7 then ((F_229 y1 h).bind fun q1 =>
  some (1, q1))
  else (if y2 = 5 then (F_33_39 0 h)
  else (F_33_39 y1 h))
theorem B_33_13 {L : Nat} {xs : Nat → Int32} {d : Nat} (hd : 1 ≤ d) {res : Option Value × sm_H} {y1 : Int32} {y2 : Int32}  {h : sm_H} {r : (Int32 × sm_H)} (hf : F_33_13 y1 y2 h = some r) (hs : (fun (r : Int32 × sm_H) => res = (some (.int r.1), r.2)) r) : Ex (P_G L xs) (RUN L xs d) (sm_lk P_t33) 0 13 [some (.ref 34), some (.int y1), some (.int y2)] [] h res := by
  unfold F_33_13 at hf
  refine Ex.seg 2 (pc' := 16) (lc' := [some (.ref 34), some (.int y1), some (.int y2)]) (st' := [.int 7, .int y2]) (h' := h) (sg1 rfl rfl (sg1 rfl rfl rfl)) ?_
  refine Ex.icmp rfl rfl (fun (c0 : ¬ (y2 = 7)) => ?_) (fun (c0 : ¬ ¬ (y2 = 7)) => ?_)
  · rw [if_neg c0] at hf
    refine Ex.seg 2 (pc' := 31) (lc' := [some (.ref 34), some (.int y1), some (.int y2)]) (st' := [.int 5, .int y2]) (h' := h) (sg1 rfl rfl (sg1 rfl rfl rfl)) ?_
    refine Ex.icmp rfl rfl (fun (c0 : ¬ (y2 = 5)) => ?_) (fun (c0 : ¬ ¬ (y2 = 5)) => ?_)
    · rw [if_neg c0] at hf
      refine Ex.seg 1 (pc' := 39) (lc' := [some (.ref 34), some (.int y1), some (.int y2)]) (st' := [.int y1]) (h' := h) (sg1 rfl rfl rfl) ?_
      exact Ex.weak (sm_le_n (sm_le_n (sm_le_n sm_le_nil))) (B_33_39 hd  hf hs)
    · rw [if_pos (Classical.not_not.mp c0)] at hf
      refine Ex.seg 2 (pc' := 39) (lc' := [some (.ref 34), some (.int y1), some (.int y2)]) (st' := [.int 0]) (h' := h) (sg1 rfl rfl (sg1 rfl rfl rfl)) ?_
      exact Ex.weak (sm_le_n (sm_le_n (sm_le_n sm_le_nil))) (B_33_39 hd  hf hs)
  · rw [if_pos (Classical.not_not.mp c0)] at hf
    refine Ex.seg 3 (pc' := 24) (lc' := [some (.ref 34), some (.int y1), some (.int y2)]) (st' := [.int y1, .ref 5]) (h' := h) (sg1 rfl rfl (sg1 rfl rfl (sg1 rfl rfl rfl))) ?_
    obtain ⟨q1, e_q1, hf⟩ := bnd hf
    refine Ex.callV (a := 5) (As := [.int y1]) (r := []) (v := none) (h' := q1) rfl rfl (by decide) rfl (Nat.le_of_ble_eq_true rfl) rfl (E_229 (Nat.le_trans (by decide) hd) e_q1) rfl ?_
    refine Ex.seg 1 (pc' := 28) (lc' := [some (.ref 34), some (.int y1), some (.int y2)]) (st' := [.int 1]) (h' := q1) (sg1 rfl rfl rfl) ?_
    obtain rfl := Option.some.inj hf
    exact Ex.iret rfl rfl (fun c0 => by cases c0) hs
def F_33_0 (x1 : Int32) (x2 : Int32) (h : sm_H) : Option (Int32 × sm_H) :=
  if x2 = 4 then (F_33_13 x1 x2 h)
  else ((F_229 x1 h).bind fun q2 =>
  F_33_13 x1 x2 q2)
theorem B_33_0 {L : Nat} {xs : Nat → Int32} {d : Nat} (hd : 1 ≤ d) {res : Option Value × sm_H} {x1 : Int32} {x2 : Int32}  {h : sm_H} {r : (Int32 × sm_H)} (hf : F_33_0 x1 x2 h = some r) (hs : (fun (r : Int32 × sm_H) => res = (some (.int r.1), r.2)) r) : Ex (P_G L xs) (RUN L xs d) (sm_lk P_t33) 0 0 [some (.ref 34), some (.int x1), some (.int x2)] [] h res := by
  unfold F_33_0 at hf
  refine Ex.seg 2 (pc' := 2) (lc' := [some (.ref 34), some (.int x1), some (.int x2)]) (st' := [.int 4, .int x2]) (h' := h) (sg1 rfl rfl (sg1 rfl rfl rfl)) ?_
  refine Ex.icmp rfl rfl (fun (c0 : x2 = 4) => ?_) (fun (c0 : ¬ (x2 = 4)) => ?_)
  · rw [if_pos c0] at hf
    exact Ex.weak (sm_le_s (sm_le_s (sm_le_s sm_le_nil))) (B_33_13 hd  hf hs)
  · rw [if_neg c0] at hf
    refine Ex.seg 3 (pc' := 10) (lc' := [some (.ref 34), some (.int x1), some (.int x2)]) (st' := [.int x1, .ref 5]) (h' := h) (sg1 rfl rfl (sg1 rfl rfl (sg1 rfl rfl rfl))) ?_
    obtain ⟨q2, e_q2, hf⟩ := bnd hf
    refine Ex.callV (a := 5) (As := [.int x1]) (r := []) (v := none) (h' := q2) rfl rfl (by decide) rfl (Nat.le_of_ble_eq_true rfl) rfl (E_229 (Nat.le_trans (by decide) hd) e_q2) rfl ?_
    exact Ex.weak (sm_le_s (sm_le_s (sm_le_s sm_le_nil))) (B_33_13 hd  hf hs)
/-- HandleHouse$Forms.sketchChange(II)I -/
abbrev F_33 (x1 : Int32) (x2 : Int32) (h : sm_H) : Option (Int32 × sm_H) := F_33_0 x1 x2 h
theorem E_33 {L : Nat} {xs : Nat → Int32} {d : Nat} (hd : 2 ≤ d) {x1 : Int32} {x2 : Int32} {h : sm_H} {r : Int32 × sm_H} (hf : F_33 x1 x2 h = some r) : RUN L xs d 33 [.ref 34, .int x1, .int x2] h (some (.int r.1), r.2) := by
  obtain ⟨d, rfl⟩ : ∃ e, d = e + 1 := ⟨d - 1, by omega⟩
  exact ⟨Nat.le_of_ble_eq_true rfl, B_33_0 (by omega) hf rfl⟩
def F_52_39B (s : (Int32 × Int32 × Int32 × Int32 × sm_H)) : Option ((Int32 × Int32 × Int32 × Int32 × sm_H) ⊕ (Int32 × sm_H)) :=
  if 32 ≤ s.2.2.2.1 then ((stZ s.2.2.2.2 2 1024 ((s.2.2.1 * 32) + s.2.2.1) 1).bind fun h1 =>
  (stI h1 3 32 s.2.2.1 s.1).bind fun h2 =>
  (stI h2 4 32 s.2.2.1 s.2.1).bind fun h3 =>
  (some (sm_wI h3 1 3 ((h3.1 1 3) + 1))).bind fun h4 =>
  some (.inr (s.2.2.1, h4)))
  else ((ldZ s.2.2.2.2 2 1024 ((s.1 * 32) + s.2.2.2.1)).bind fun v5 =>
  (stZ s.2.2.2.2 2 1024 ((s.2.2.1 * 32) + s.2.2.2.1) v5).bind fun h6 =>
  (some (s.2.2.2.1 + 1 : Int32)).bind fun v7 =>
  some (.inl (s.1, s.2.1, s.2.2.1, v7, h6)))
theorem B_52_39B {L : Nat} {xs : Nat → Int32} {d : Nat} (hd : 1 ≤ d) {res : Option Value × sm_H} {S1 : (Int32 × Int32 × Int32 × Int32 × sm_H) → Prop} (hS1 : ∀ s, S1 s → Ex (P_G L xs) (RUN L xs d) (sm_lk P_t52) 0 39 [some (.ref 1), some (.int s.1), some (.int s.2.1), some (.int s.2.2.1), some (.int s.2.2.2.1)] [] s.2.2.2.2 res) {s : (Int32 × Int32 × Int32 × Int32 × sm_H)}  {r : ((Int32 × Int32 × Int32 × Int32 × sm_H) ⊕ (Int32 × sm_H))} (hf : F_52_39B s = some r) (hs : (Sum.elim S1 (fun (r : Int32 × sm_H) => res = (some (.int r.1), r.2))) r) : Ex (P_G L xs) (RUN L xs d) (sm_lk P_t52) 0 39 [some (.ref 1), some (.int s.1), some (.int s.2.1), some (.int s.2.2.1), some (.int s.2.2.2.1)] [] s.2.2.2.2 res := by
  unfold F_52_39B at hf
  refine Ex.seg 2 (pc' := 43) (lc' := [some (.ref 1), some (.int s.1), some (.int s.2.1), some (.int s.2.2.1), some (.int s.2.2.2.1)]) (st' := [.int 32, .int s.2.2.2.1]) (h' := s.2.2.2.2) (sg1 rfl rfl (sg1 rfl rfl rfl)) ?_
  refine Ex.icmp rfl rfl (fun (c0 : 32 ≤ s.2.2.2.1) => ?_) (fun (c0 : ¬ (32 ≤ s.2.2.2.1)) => ?_)
  · rw [if_pos c0] at hf
    refine Ex.seg 8 (pc' := 87) (lc' := [some (.ref 1), some (.int s.1), some (.int s.2.1), some (.int s.2.2.1), some (.int s.2.2.2.1)]) (st' := [.int 1, .int ((s.2.2.1 * 32) + s.2.2.1), .ref 2]) (h' := s.2.2.2.2) (sg1 rfl rfl (sg1 rfl rfl (sg1 rfl rfl (sg1 rfl rfl (sg1 rfl rfl (sg1 rfl rfl (sg1 rfl rfl (sg1 rfl rfl rfl)))))))) ?_
    obtain ⟨h1, e_h1, hf⟩ := bnd hf
    refine Ex.zast e_h1 rfl rfl ?_
    refine Ex.seg 4 (pc' := 94) (lc' := [some (.ref 1), some (.int s.1), some (.int s.2.1), some (.int s.2.2.1), some (.int s.2.2.2.1)]) (st' := [.int s.1, .int s.2.2.1, .ref 3]) (h' := h1) (sg1 rfl rfl (sg1 rfl rfl (sg1 rfl rfl (sg1 rfl rfl rfl)))) ?_
    obtain ⟨h2, e_h2, hf⟩ := bnd hf
    refine Ex.iast e_h2 rfl rfl ?_
    refine Ex.seg 4 (pc' := 101) (lc' := [some (.ref 1), some (.int s.1), some (.int s.2.1), some (.int s.2.2.1), some (.int s.2.2.2.1)]) (st' := [.int s.2.1, .int s.2.2.1, .ref 4]) (h' := h2) (sg1 rfl rfl (sg1 rfl rfl (sg1 rfl rfl (sg1 rfl rfl rfl)))) ?_
    obtain ⟨h3, e_h3, hf⟩ := bnd hf
    refine Ex.iast e_h3 rfl rfl ?_
    refine Ex.seg 6 (pc' := 112) (lc' := [some (.ref 1), some (.int s.1), some (.int s.2.1), some (.int s.2.2.1), some (.int s.2.2.2.1)]) (st' := []) (h' := (sm_wI h3 1 3 ((h3.1 1 3) + 1))) (sg1 rfl rfl (sg1 rfl rfl (sg1 rfl rfl (sg1 rfl rfl (sg1 rfl rfl (sg1 rfl rfl rfl)))))) ?_
    obtain ⟨h4, e_h4, hf⟩ := bnd hf
    rw [Option.some.inj e_h4]
    refine Ex.seg 1 (pc' := 113) (lc' := [some (.ref 1), some (.int s.1), some (.int s.2.1), some (.int s.2.2.1), some (.int s.2.2.2.1)]) (st' := [.int s.2.2.1]) (h' := h4) (sg1 rfl rfl rfl) ?_
    obtain rfl := Option.some.inj hf
    exact Ex.iret rfl rfl (fun c0 => by cases c0) hs
  · rw [if_neg c0] at hf
    refine Ex.seg 14 (pc' := 68) (lc' := [some (.ref 1), some (.int s.1), some (.int s.2.1), some (.int s.2.2.1), some (.int s.2.2.2.1)]) (st' := [.int ((s.1 * 32) + s.2.2.2.1), .ref 2, .int ((s.2.2.1 * 32) + s.2.2.2.1), .ref 2]) (h' := s.2.2.2.2) (sg1 rfl rfl (sg1 rfl rfl (sg1 rfl rfl (sg1 rfl rfl (sg1 rfl rfl (sg1 rfl rfl (sg1 rfl rfl (sg1 rfl rfl (sg1 rfl rfl (sg1 rfl rfl (sg1 rfl rfl (sg1 rfl rfl (sg1 rfl rfl (sg1 rfl rfl rfl)))))))))))))) ?_
    obtain ⟨v5, e_v5, hf⟩ := bnd hf
    refine Ex.zald e_v5 rfl rfl ?_
    obtain ⟨h6, e_h6, hf⟩ := bnd hf
    refine Ex.zast e_h6 rfl rfl ?_
    refine Ex.seg 1 (pc' := 73) (lc' := [some (.ref 1), some (.int s.1), some (.int s.2.1), some (.int s.2.2.1), some (.int (s.2.2.2.1 + 1))]) (st' := []) (h' := h6) (sg1 rfl rfl rfl) ?_
    obtain ⟨v7, e_v7, hf⟩ := bnd hf
    rw [Option.some.inj e_v7]
    refine Ex.seg 1 (pc' := 39) (lc' := [some (.ref 1), some (.int s.1), some (.int s.2.1), some (.int s.2.2.1), some (.int v7)]) (st' := []) (h' := h6) (sg1 rfl rfl rfl) ?_
    obtain rfl := Option.some.inj hf
    exact Ex.weak (sm_le_s (sm_le_s (sm_le_s (sm_le_s (sm_le_s sm_le_nil))))) (hS1 _ hs)
def F_52_39 (y1 : Int32) (y2 : Int32) (y3 : Int32) (y4 : Int32) (h : sm_H) : Option (Int32 × sm_H) := lp F_52_39B 1000000 (y1, y2, y3, y4, h)
theorem B_52_39 {L : Nat} {xs : Nat → Int32} {d : Nat} (hd : 1 ≤ d) {res : Option Value × sm_H} {y1 : Int32} {y2 : Int32} {y3 : Int32} {y4 : Int32}  {h : sm_H} {r : (Int32 × sm_H)} (hf : F_52_39 y1 y2 y3 y4 h = some r) (hs : (fun (r : Int32 × sm_H) => res = (some (.int r.1), r.2)) r) : Ex (P_G L xs) (RUN L xs d) (sm_lk P_t52) 0 39 [some (.ref 1), some (.int y1), some (.int y2), some (.int y3), some (.int y4)] [] h res := by
  unfold F_52_39 at hf
  exact lp_ok (P := fun (s : (Int32 × Int32 × Int32 × Int32 × sm_H)) => Ex (P_G L xs) (RUN L xs d) (sm_lk P_t52) 0 39 [some (.ref 1), some (.int s.1), some (.int s.2.1), some (.int s.2.2.1), some (.int s.2.2.2.1)] [] s.2.2.2.2 res) (S := (fun (r : Int32 × sm_H) => res = (some (.int r.1), r.2))) (fun s x hx hsx => by
    intros
    exact B_52_39B hd  (fun _ q => q) hx hsx) 1000000 _ r hf hs
def F_52_31 (y1 : Int32) (y2 : Int32) (h : sm_H) : Option (Int32 × sm_H) :=
  (some ((h.1 1 3) : Int32)).bind fun v8 =>
  F_52_39 y1 y2 v8 0 h
theorem B_52_31 {L : Nat} {xs : Nat → Int32} {d : Nat} (hd : 1 ≤ d) {res : Option Value × sm_H} {y1 : Int32} {y2 : Int32}  {h : sm_H} {r : (Int32 × sm_H)} (hf : F_52_31 y1 y2 h = some r) (hs : (fun (r : Int32 × sm_H) => res = (some (.int r.1), r.2)) r) : Ex (P_G L xs) (RUN L xs d) (sm_lk P_t52) 0 31 [some (.ref 1), some (.int y1), some (.int y2), none, none] [] h res := by
  unfold F_52_31 at hf
  refine Ex.seg 3 (pc' := 36) (lc' := [some (.ref 1), some (.int y1), some (.int y2), some (.int (h.1 1 3)), none]) (st' := []) (h' := h) (sg1 rfl rfl (sg1 rfl rfl (sg1 rfl rfl rfl))) ?_
  obtain ⟨v8, e_v8, hf⟩ := bnd hf
  rw [Option.some.inj e_v8]
  refine Ex.seg 2 (pc' := 39) (lc' := [some (.ref 1), some (.int y1), some (.int y2), some (.int v8), some (.int 0)]) (st' := []) (h' := h) (sg1 rfl rfl (sg1 rfl rfl rfl)) ?_
  exact Ex.weak (sm_le_s (sm_le_s (sm_le_s (sm_le_s (sm_le_s sm_le_nil))))) (B_52_39 hd  hf hs)
def F_52_29  (h : sm_H) : Option (Int32 × sm_H) :=
  some ((-1), h)
theorem B_52_29 {L : Nat} {xs : Nat → Int32} {d : Nat} (hd : 1 ≤ d) {res : Option Value × sm_H}   {h : sm_H} {r : (Int32 × sm_H)} (hf : F_52_29  h = some r) (hs : (fun (r : Int32 × sm_H) => res = (some (.int r.1), r.2)) r) : Ex (P_G L xs) (RUN L xs d) (sm_lk P_t52) 0 29 [none, none, none, none, none] [] h res := by
  unfold F_52_29 at hf
  refine Ex.seg 1 (pc' := 30) (lc' := [none, none, none, none, none]) (st' := [.int (-1)]) (h' := h) (sg1 rfl rfl rfl) ?_
  obtain rfl := Option.some.inj hf
  exact Ex.iret rfl rfl (fun c0 => by cases c0) hs
def F_52_0 (x1 : Int32) (x2 : Int32) (h : sm_H) : Option (Int32 × sm_H) :=
  if 32 ≤ (h.1 1 3) then (F_52_29 h)
  else (if x1 = 7 then (F_52_31 x1 x2 h)
  else (if x1 = 19 then (F_52_31 x1 x2 h)
  else ((F_55 x1 h).bind fun q9 =>
  if q9.1 = 0 then (F_52_29 q9.2)
  else (F_52_31 x1 x2 q9.2))))
theorem B_52_0 {L : Nat} {xs : Nat → Int32} {d : Nat} (hd : 1 ≤ d) {res : Option Value × sm_H} {x1 : Int32} {x2 : Int32}  {h : sm_H} {r : (Int32 × sm_H)} (hf : F_52_0 x1 x2 h = some r) (hs : (fun (r : Int32 × sm_H) => res = (some (.int r.1), r.2)) r) : Ex (P_G L xs) (RUN L xs d) (sm_lk P_t52) 0 0 [some (.ref 1), some (.int x1), some (.int x2), none, none] [] h res := by
  unfold F_52_0 at hf
  refine Ex.seg 3 (pc' := 6) (lc' := [some (.ref 1), some (.int x1), some (.int x2), none, none]) (st' := [.int 32, .int (h.1 1 3)]) (h' := h) (sg1 rfl rfl (sg1 rfl rfl (sg1 rfl rfl rfl))) ?_
  refine Ex.icmp rfl rfl (fun (c0 : 32 ≤ (h.1 1 3)) => ?_) (fun (c0 : ¬ (32 ≤ (h.1 1 3))) => ?_)
  · rw [if_pos c0] at hf
    exact Ex.weak (sm_le_n (sm_le_n (sm_le_n (sm_le_s (sm_le_s sm_le_nil))))) (B_52_29 hd  hf hs)
  · rw [if_neg c0] at hf
    refine Ex.seg 2 (pc' := 12) (lc' := [some (.ref 1), some (.int x1), some (.int x2), none, none]) (st' := [.int 7, .int x1]) (h' := h) (sg1 rfl rfl (sg1 rfl rfl rfl)) ?_
    refine Ex.icmp rfl rfl (fun (c0 : x1 = 7) => ?_) (fun (c0 : ¬ (x1 = 7)) => ?_)
    · rw [if_pos c0] at hf
      exact Ex.weak (sm_le_s (sm_le_s (sm_le_s (sm_le_s (sm_le_s sm_le_nil))))) (B_52_31 hd  hf hs)
    · rw [if_neg c0] at hf
      refine Ex.seg 2 (pc' := 18) (lc' := [some (.ref 1), some (.int x1), some (.int x2), none, none]) (st' := [.int 19, .int x1]) (h' := h) (sg1 rfl rfl (sg1 rfl rfl rfl)) ?_
      refine Ex.icmp rfl rfl (fun (c0 : x1 = 19) => ?_) (fun (c0 : ¬ (x1 = 19)) => ?_)
      · rw [if_pos c0] at hf
        exact Ex.weak (sm_le_s (sm_le_s (sm_le_s (sm_le_s (sm_le_s sm_le_nil))))) (B_52_31 hd  hf hs)
      · rw [if_neg c0] at hf
        refine Ex.seg 2 (pc' := 23) (lc' := [some (.ref 1), some (.int x1), some (.int x2), none, none]) (st' := [.int x1, .ref 1]) (h' := h) (sg1 rfl rfl (sg1 rfl rfl rfl)) ?_
        obtain ⟨q9, e_q9, hf⟩ := bnd hf
        refine Ex.callV (a := 1) (As := [.int x1]) (r := []) (v := some (.int q9.1)) (h' := q9.2) rfl rfl (by decide) rfl (Nat.le_of_ble_eq_true rfl) rfl (E_55 (Nat.le_trans (by decide) hd) e_q9) rfl ?_
        refine Ex.ifc rfl rfl (fun (c0 : ¬ (q9.1 = 0)) => ?_) (fun (c0 : ¬ ¬ (q9.1 = 0)) => ?_)
        · rw [if_neg c0] at hf
          exact Ex.weak (sm_le_s (sm_le_s (sm_le_s (sm_le_s (sm_le_s sm_le_nil))))) (B_52_31 hd  hf hs)
        · rw [if_pos (Classical.not_not.mp c0)] at hf
          exact Ex.weak (sm_le_n (sm_le_n (sm_le_n (sm_le_s (sm_le_s sm_le_nil))))) (B_52_29 hd  hf hs)
/-- HandleHouse$Kinds.tellClass(II)I -/
abbrev F_52 (x1 : Int32) (x2 : Int32) (h : sm_H) : Option (Int32 × sm_H) := F_52_0 x1 x2 h
theorem E_52 {L : Nat} {xs : Nat → Int32} {d : Nat} (hd : 2 ≤ d) {x1 : Int32} {x2 : Int32} {h : sm_H} {r : Int32 × sm_H} (hf : F_52 x1 x2 h = some r) : RUN L xs d 52 [.ref 1, .int x1, .int x2] h (some (.int r.1), r.2) := by
  obtain ⟨d, rfl⟩ : ∃ e, d = e + 1 := ⟨d - 1, by omega⟩
  exact ⟨Nat.le_of_ble_eq_true rfl, B_52_0 (by omega) hf rfl⟩
def F_64_49  (h : sm_H) : Option (Int32 × sm_H) :=
  some (1, h)
theorem B_64_49 {L : Nat} {xs : Nat → Int32} {d : Nat} (hd : 1 ≤ d) {res : Option Value × sm_H}   {h : sm_H} {r : (Int32 × sm_H)} (hf : F_64_49  h = some r) (hs : (fun (r : Int32 × sm_H) => res = (some (.int r.1), r.2)) r) : Ex (P_G L xs) (RUN L xs d) (sm_lk P_t64) 3 49 [none, none, none, none] [] h res := by
  unfold F_64_49 at hf
  refine Ex.seg 1 (pc' := 50) (lc' := [none, none, none, none]) (st' := [.int 1]) (h' := h) (sg1 rfl rfl rfl) ?_
  obtain rfl := Option.some.inj hf
  exact Ex.iret rfl rfl (fun _ => by decide) hs
def F_64_164 (z0 : Int32) (h : sm_H) : Option (Int32 × sm_H) :=
  if z0 = 0 ∨ z0 = 1 then some (z0, h) else none
theorem B_64_164 {L : Nat} {xs : Nat → Int32} {d : Nat} (hd : 1 ≤ d) {res : Option Value × sm_H} {z0 : Int32}  {h : sm_H} {r : (Int32 × sm_H)} (hf : F_64_164 z0 h = some r) (hs : (fun (r : Int32 × sm_H) => res = (some (.int r.1), r.2)) r) : Ex (P_G L xs) (RUN L xs d) (sm_lk P_t64) 3 164 [none, none, none, none] [.int z0] h res := by
  unfold F_64_164 at hf
  rcases Classical.em (z0 = 0 ∨ z0 = 1) with c0 | c0
  · rw [if_pos c0] at hf
    obtain rfl := Option.some.inj hf
    exact Ex.iret rfl rfl (fun _ => c0) hs
  · rw [if_neg c0] at hf
    cases hf
def F_64_163  (h : sm_H) : Option (Int32 × sm_H) :=
  F_64_164 0 h
theorem B_64_163 {L : Nat} {xs : Nat → Int32} {d : Nat} (hd : 1 ≤ d) {res : Option Value × sm_H}   {h : sm_H} {r : (Int32 × sm_H)} (hf : F_64_163  h = some r) (hs : (fun (r : Int32 × sm_H) => res = (some (.int r.1), r.2)) r) : Ex (P_G L xs) (RUN L xs d) (sm_lk P_t64) 3 163 [none, none, none, none] [] h res := by
  unfold F_64_163 at hf
  refine Ex.seg 1 (pc' := 164) (lc' := [none, none, none, none]) (st' := [.int 0]) (h' := h) (sg1 rfl rfl rfl) ?_
  exact Ex.weak (sm_le_s (sm_le_s (sm_le_s (sm_le_s sm_le_nil)))) (B_64_164 hd  hf hs)
def F_64_159  (h : sm_H) : Option (Int32 × sm_H) :=
  F_64_164 1 h
theorem B_64_159 {L : Nat} {xs : Nat → Int32} {d : Nat} (hd : 1 ≤ d) {res : Option Value × sm_H}   {h : sm_H} {r : (Int32 × sm_H)} (hf : F_64_159  h = some r) (hs : (fun (r : Int32 × sm_H) => res = (some (.int r.1), r.2)) r) : Ex (P_G L xs) (RUN L xs d) (sm_lk P_t64) 3 159 [none, none, none, none] [] h res := by
  unfold F_64_159 at hf
  refine Ex.seg 2 (pc' := 164) (lc' := [none, none, none, none]) (st' := [.int 1]) (h' := h) (sg1 rfl rfl (sg1 rfl rfl rfl)) ?_
  exact Ex.weak (sm_le_s (sm_le_s (sm_le_s (sm_le_s sm_le_nil)))) (B_64_164 hd  hf hs)
def F_64_126 (z0 : Int32) (h : sm_H) : Option (Int32 × sm_H) :=
  if z0 = 0 ∨ z0 = 1 then some (z0, h) else none
theorem B_64_126 {L : Nat} {xs : Nat → Int32} {d : Nat} (hd : 1 ≤ d) {res : Option Value × sm_H} {z0 : Int32}  {h : sm_H} {r : (Int32 × sm_H)} (hf : F_64_126 z0 h = some r) (hs : (fun (r : Int32 × sm_H) => res = (some (.int r.1), r.2)) r) : Ex (P_G L xs) (RUN L xs d) (sm_lk P_t64) 3 126 [none, none, none, none] [.int z0] h res := by
  unfold F_64_126 at hf
  rcases Classical.em (z0 = 0 ∨ z0 = 1) with c0 | c0
  · rw [if_pos c0] at hf
    obtain rfl := Option.some.inj hf
    exact Ex.iret rfl rfl (fun _ => c0) hs
  · rw [if_neg c0] at hf
    cases hf
def F_64_121  (h : sm_H) : Option (Int32 × sm_H) :=
  F_64_126 1 h
theorem B_64_121 {L : Nat} {xs : Nat → Int32} {d : Nat} (hd : 1 ≤ d) {res : Option Value × sm_H}   {h : sm_H} {r : (Int32 × sm_H)} (hf : F_64_121  h = some r) (hs : (fun (r : Int32 × sm_H) => res = (some (.int r.1), r.2)) r) : Ex (P_G L xs) (RUN L xs d) (sm_lk P_t64) 3 121 [none, none, none, none] [] h res := by
  unfold F_64_121 at hf
  refine Ex.seg 2 (pc' := 126) (lc' := [none, none, none, none]) (st' := [.int 1]) (h' := h) (sg1 rfl rfl (sg1 rfl rfl rfl)) ?_
  exact Ex.weak (sm_le_s (sm_le_s (sm_le_s (sm_le_s sm_le_nil)))) (B_64_126 hd  hf hs)
def F_64_82 (y1 : Int32) (y2 : Int32) (y3 : Int32) (h : sm_H) : Option (Int32 × sm_H) :=
  if 6 < y1 then (if y1 = 8 then (if y3 = 0 then ((F_60 (y2 + 8) 8 h).bind fun q3 =>
  if q3.1 = 0 then (F_64_126 0 q3.2)
  else (F_64_121 q3.2))
  else (F_64_121 h))
  else ((F_58 y1 h).bind fun q1 =>
  if q1.1 = 0 then (F_64_163 q1.2)
  else (if y3 = 0 then (if (y1 - 8) = y2 then (F_64_159 q1.2)
  else ((F_67 (y1 - 8) y2 q1.2).bind fun q2 =>
  if q2.1 = 0 then (F_64_163 q2.2)
  else (F_64_159 q2.2)))
  else (F_64_159 q1.2))))
  else ((F_60 (y1 + 8) y2 h).bind fun q4 =>
  if q4.1 = 0 ∨ q4.1 = 1 then some (q4.1, q4.2) else none)
theorem B_64_82 {L : Nat} {xs : Nat → Int32} {d : Nat} (hd : 1 ≤ d) {res : Option Value × sm_H} {y1 : Int32} {y2 : Int32} {y3 : Int32}  {h : sm_H} {r : (Int32 × sm_H)} (hf : F_64_82 y1 y2 y3 h = some r) (hs : (fun (r : Int32 × sm_H) => res = (some (.int r.1), r.2)) r) : Ex (P_G L xs) (RUN L xs d) (sm_lk P_t64) 3 82 [some (.ref 1), some (.int y1), some (.int y2), some (.int y3)] [] h res := by
  unfold F_64_82 at hf
  refine Ex.seg 2 (pc' := 85) (lc' := [some (.ref 1), some (.int y1), some (.int y2), some (.int y3)]) (st' := [.int 6, .int y1]) (h' := h) (sg1 rfl rfl (sg1 rfl rfl rfl)) ?_
  refine Ex.icmp rfl rfl (fun (c0 : 6 < y1) => ?_) (fun (c0 : ¬ (6 < y1)) => ?_)
  · rw [if_pos c0] at hf
    refine Ex.seg 2 (pc' := 101) (lc' := [some (.ref 1), some (.int y1), some (.int y2), some (.int y3)]) (st' := [.int 8, .int y1]) (h' := h) (sg1 rfl rfl (sg1 rfl rfl rfl)) ?_
    refine Ex.icmp rfl rfl (fun (c0 : ¬ (y1 = 8)) => ?_) (fun (c0 : ¬ ¬ (y1 = 8)) => ?_)
    · rw [if_neg c0] at hf
      refine Ex.seg 2 (pc' := 129) (lc' := [some (.ref 1), some (.int y1), some (.int y2), some (.int y3)]) (st' := [.int y1, .ref 1]) (h' := h) (sg1 rfl rfl (sg1 rfl rfl rfl)) ?_
      obtain ⟨q1, e_q1, hf⟩ := bnd hf
      refine Ex.callV (a := 1) (As := [.int y1]) (r := []) (v := some (.int q1.1)) (h' := q1.2) rfl rfl (by decide) rfl (Nat.le_of_ble_eq_true rfl) rfl (E_58 (Nat.le_trans (by decide) hd) e_q1) rfl ?_
      refine Ex.ifc rfl rfl (fun (c0 : q1.1 = 0) => ?_) (fun (c0 : ¬ (q1.1 = 0)) => ?_)
      · rw [if_pos c0] at hf
        exact Ex.weak (sm_le_n (sm_le_n (sm_le_n (sm_le_n sm_le_nil)))) (B_64_163 hd  hf hs)
      · rw [if_neg c0] at hf
        refine Ex.seg 1 (pc' := 136) (lc' := [some (.ref 1), some (.int y1), some (.int y2), some (.int y3)]) (st' := [.int y3]) (h' := q1.2) (sg1 rfl rfl rfl) ?_
        refine Ex.ifc rfl rfl (fun (c0 : ¬ (y3 = 0)) => ?_) (fun (c0 : ¬ ¬ (y3 = 0)) => ?_)
        · rw [if_neg c0] at hf
          exact Ex.weak (sm_le_n (sm_le_n (sm_le_n (sm_le_n sm_le_nil)))) (B_64_159 hd  hf hs)
        · rw [if_pos (Classical.not_not.mp c0)] at hf
          refine Ex.seg 4 (pc' := 144) (lc' := [some (.ref 1), some (.int y1), some (.int y2), some (.int y3)]) (st' := [.int y2, .int (y1 - 8)]) (h' := q1.2) (sg1 rfl rfl (sg1 rfl rfl (sg1 rfl rfl (sg1 rfl rfl rfl)))) ?_
          refine Ex.icmp rfl rfl (fun (c0 : (y1 - 8) = y2) => ?_) (fun (c0 : ¬ ((y1 - 8) = y2)) => ?_)
          · rw [if_pos c0] at hf
            exact Ex.weak (sm_le_n (sm_le_n (sm_le_n (sm_le_n sm_le_nil)))) (B_64_159 hd  hf hs)
          · rw [if_neg c0] at hf
            refine Ex.seg 5 (pc' := 153) (lc' := [some (.ref 1), some (.int y1), some (.int y2), some (.int y3)]) (st' := [.int y2, .int (y1 - 8), .ref 1]) (h' := q1.2) (sg1 rfl rfl (sg1 rfl rfl (sg1 rfl rfl (sg1 rfl rfl (sg1 rfl rfl rfl))))) ?_
            obtain ⟨q2, e_q2, hf⟩ := bnd hf
            refine Ex.callV (a := 1) (As := [.int (y1 - 8), .int y2]) (r := []) (v := some (.int q2.1)) (h' := q2.2) rfl rfl (by decide) rfl (Nat.le_of_ble_eq_true rfl) rfl (E_67 (Nat.le_trans (by decide) hd) e_q2) rfl ?_
            refine Ex.ifc rfl rfl (fun (c0 : q2.1 = 0) => ?_) (fun (c0 : ¬ (q2.1 = 0)) => ?_)
            · rw [if_pos c0] at hf
              exact Ex.weak (sm_le_n (sm_le_n (sm_le_n (sm_le_n sm_le_nil)))) (B_64_163 hd  hf hs)
            · rw [if_neg c0] at hf
              exact Ex.weak (sm_le_n (sm_le_n (sm_le_n (sm_le_n sm_le_nil)))) (B_64_159 hd  hf hs)
    · rw [if_pos (Classical.not_not.mp c0)] at hf
      refine Ex.seg 1 (pc' := 105) (lc' := [some (.ref 1), some (.int y1), some (.int y2), some (.int y3)]) (st' := [.int y3]) (h' := h) (sg1 rfl rfl rfl) ?_
      refine Ex.ifc rfl rfl (fun (c0 : ¬ (y3 = 0)) => ?_) (fun (c0 : ¬ ¬ (y3 = 0)) => ?_)
      · rw [if_neg c0] at hf
        exact Ex.weak (sm_le_n (sm_le_n (sm_le_n (sm_le_n sm_le_nil)))) (B_64_121 hd  hf hs)
      · rw [if_pos (Classical.not_not.mp c0)] at hf
        refine Ex.seg 5 (pc' := 115) (lc' := [some (.ref 1), some (.int y1), some (.int y2), some (.int y3)]) (st' := [.int 8, .int (y2 + 8), .ref 1]) (h' := h) (sg1 rfl rfl (sg1 rfl rfl (sg1 rfl rfl (sg1 rfl rfl (sg1 rfl rfl rfl))))) ?_
        obtain ⟨q3, e_q3, hf⟩ := bnd hf
        refine Ex.callV (a := 1) (As := [.int (y2 + 8), .int 8]) (r := []) (v := some (.int q3.1)) (h' := q3.2) rfl rfl (by decide) rfl (Nat.le_of_ble_eq_true rfl) rfl (E_60 (Nat.le_trans (by decide) hd) e_q3) rfl ?_
        refine Ex.ifc rfl rfl (fun (c0 : q3.1 = 0) => ?_) (fun (c0 : ¬ (q3.1 = 0)) => ?_)
        · rw [if_pos c0] at hf
          refine Ex.seg 1 (pc' := 126) (lc' := [some (.ref 1), some (.int y1), some (.int y2), some (.int y3)]) (st' := [.int 0]) (h' := q3.2) (sg1 rfl rfl rfl) ?_
          exact Ex.weak (sm_le_n (sm_le_n (sm_le_n (sm_le_n sm_le_nil)))) (B_64_126 hd  hf hs)
        · rw [if_neg c0] at hf
          exact Ex.weak (sm_le_n (sm_le_n (sm_le_n (sm_le_n sm_le_nil)))) (B_64_121 hd  hf hs)
  · rw [if_neg c0] at hf
    refine Ex.seg 5 (pc' := 94) (lc' := [some (.ref 1), some (.int y1), some (.int y2), some (.int y3)]) (st' := [.int y2, .int (y1 + 8), .ref 1]) (h' := h) (sg1 rfl rfl (sg1 rfl rfl (sg1 rfl rfl (sg1 rfl rfl (sg1 rfl rfl rfl))))) ?_
    obtain ⟨q4, e_q4, hf⟩ := bnd hf
    refine Ex.callV (a := 1) (As := [.int (y1 + 8), .int y2]) (r := []) (v := some (.int q4.1)) (h' := q4.2) rfl rfl (by decide) rfl (Nat.le_of_ble_eq_true rfl) rfl (E_60 (Nat.le_trans (by decide) hd) e_q4) rfl ?_
    rcases Classical.em (q4.1 = 0 ∨ q4.1 = 1) with c0 | c0
    · rw [if_pos c0] at hf
      obtain rfl := Option.some.inj hf
      exact Ex.iret rfl rfl (fun _ => c0) hs
    · rw [if_neg c0] at hf
      cases hf
def F_64_81 (z0 : Int32) (h : sm_H) : Option (Int32 × sm_H) :=
  if z0 = 0 ∨ z0 = 1 then some (z0, h) else none
theorem B_64_81 {L : Nat} {xs : Nat → Int32} {d : Nat} (hd : 1 ≤ d) {res : Option Value × sm_H} {z0 : Int32}  {h : sm_H} {r : (Int32 × sm_H)} (hf : F_64_81 z0 h = some r) (hs : (fun (r : Int32 × sm_H) => res = (some (.int r.1), r.2)) r) : Ex (P_G L xs) (RUN L xs d) (sm_lk P_t64) 3 81 [none, none, none, none] [.int z0] h res := by
  unfold F_64_81 at hf
  rcases Classical.em (z0 = 0 ∨ z0 = 1) with c0 | c0
  · rw [if_pos c0] at hf
    obtain rfl := Option.some.inj hf
    exact Ex.iret rfl rfl (fun _ => c0) hs
  · rw [if_neg c0] at hf
    cases hf
def F_64_76  (h : sm_H) : Option (Int32 × sm_H) :=
  F_64_81 1 h
theorem B_64_76 {L : Nat} {xs : Nat → Int32} {d : Nat} (hd : 1 ≤ d) {res : Option Value × sm_H}   {h : sm_H} {r : (Int32 × sm_H)} (hf : F_64_76  h = some r) (hs : (fun (r : Int32 × sm_H) => res = (some (.int r.1), r.2)) r) : Ex (P_G L xs) (RUN L xs d) (sm_lk P_t64) 3 76 [none, none, none, none] [] h res := by
  unfold F_64_76 at hf
  refine Ex.seg 2 (pc' := 81) (lc' := [none, none, none, none]) (st' := [.int 1]) (h' := h) (sg1 rfl rfl (sg1 rfl rfl rfl)) ?_
  exact Ex.weak (sm_le_s (sm_le_s (sm_le_s (sm_le_s sm_le_nil)))) (B_64_81 hd  hf hs)
def F_64_43 (y1 : Int32) (y2 : Int32) (y3 : Int32) (h : sm_H) : Option (Int32 × sm_H) :=
  if y1 = 7 then (F_64_49 h)
  else (if 6 < y1 then (F_64_82 y1 y2 y3 h)
  else (if 6 < y2 then (F_64_82 y1 y2 y3 h)
  else (if y3 = 0 then ((F_67 y1 y2 h).bind fun q5 =>
  if q5.1 = 0 then (F_64_81 0 q5.2)
  else (F_64_76 q5.2))
  else (F_64_76 h))))
theorem B_64_43 {L : Nat} {xs : Nat → Int32} {d : Nat} (hd : 1 ≤ d) {res : Option Value × sm_H} {y1 : Int32} {y2 : Int32} {y3 : Int32}  {h : sm_H} {r : (Int32 × sm_H)} (hf : F_64_43 y1 y2 y3 h = some r) (hs : (fun (r : Int32 × sm_H) => res = (some (.int r.1), r.2)) r) : Ex (P_G L xs) (RUN L xs d) (sm_lk P_t64) 3 43 [some (.ref 1), some (.int y1), some (.int y2), some (.int y3)] [] h res := by
  unfold F_64_43 at hf
  refine Ex.seg 2 (pc' := 46) (lc' := [some (.ref 1), some (.int y1), some (.int y2), some (.int y3)]) (st' := [.int 7, .int y1]) (h' := h) (sg1 rfl rfl (sg1 rfl rfl rfl)) ?_
  refine Ex.icmp rfl rfl (fun (c0 : ¬ (y1 = 7)) => ?_) (fun (c0 : ¬ ¬ (y1 = 7)) => ?_)
  · rw [if_neg c0] at hf
    refine Ex.seg 2 (pc' := 54) (lc' := [some (.ref 1), some (.int y1), some (.int y2), some (.int y3)]) (st' := [.int 6, .int y1]) (h' := h) (sg1 rfl rfl (sg1 rfl rfl rfl)) ?_
    refine Ex.icmp rfl rfl (fun (c0 : 6 < y1) => ?_) (fun (c0 : ¬ (6 < y1)) => ?_)
    · rw [if_pos c0] at hf
      exact Ex.weak (sm_le_s (sm_le_s (sm_le_s (sm_le_s sm_le_nil)))) (B_64_82 hd  hf hs)
    · rw [if_neg c0] at hf
      refine Ex.seg 2 (pc' := 60) (lc' := [some (.ref 1), some (.int y1), some (.int y2), some (.int y3)]) (st' := [.int 6, .int y2]) (h' := h) (sg1 rfl rfl (sg1 rfl rfl rfl)) ?_
      refine Ex.icmp rfl rfl (fun (c0 : 6 < y2) => ?_) (fun (c0 : ¬ (6 < y2)) => ?_)
      · rw [if_pos c0] at hf
        exact Ex.weak (sm_le_s (sm_le_s (sm_le_s (sm_le_s sm_le_nil)))) (B_64_82 hd  hf hs)
      · rw [if_neg c0] at hf
        refine Ex.seg 1 (pc' := 64) (lc' := [some (.ref 1), some (.int y1), some (.int y2), some (.int y3)]) (st' := [.int y3]) (h' := h) (sg1 rfl rfl rfl) ?_
        refine Ex.ifc rfl rfl (fun (c0 : ¬ (y3 = 0)) => ?_) (fun (c0 : ¬ ¬ (y3 = 0)) => ?_)
        · rw [if_neg c0] at hf
          exact Ex.weak (sm_le_n (sm_le_n (sm_le_n (sm_le_n sm_le_nil)))) (B_64_76 hd  hf hs)
        · rw [if_pos (Classical.not_not.mp c0)] at hf
          refine Ex.seg 3 (pc' := 70) (lc' := [some (.ref 1), some (.int y1), some (.int y2), some (.int y3)]) (st' := [.int y2, .int y1, .ref 1]) (h' := h) (sg1 rfl rfl (sg1 rfl rfl (sg1 rfl rfl rfl))) ?_
          obtain ⟨q5, e_q5, hf⟩ := bnd hf
          refine Ex.callV (a := 1) (As := [.int y1, .int y2]) (r := []) (v := some (.int q5.1)) (h' := q5.2) rfl rfl (by decide) rfl (Nat.le_of_ble_eq_true rfl) rfl (E_67 (Nat.le_trans (by decide) hd) e_q5) rfl ?_
          refine Ex.ifc rfl rfl (fun (c0 : q5.1 = 0) => ?_) (fun (c0 : ¬ (q5.1 = 0)) => ?_)
          · rw [if_pos c0] at hf
            refine Ex.seg 1 (pc' := 81) (lc' := [some (.ref 1), some (.int y1), some (.int y2), some (.int y3)]) (st' := [.int 0]) (h' := q5.2) (sg1 rfl rfl rfl) ?_
            exact Ex.weak (sm_le_n (sm_le_n (sm_le_n (sm_le_n sm_le_nil)))) (B_64_81 hd  hf hs)
          · rw [if_neg c0] at hf
            exact Ex.weak (sm_le_n (sm_le_n (sm_le_n (sm_le_n sm_le_nil)))) (B_64_76 hd  hf hs)
  · rw [if_pos (Classical.not_not.mp c0)] at hf
    exact Ex.weak (sm_le_n (sm_le_n (sm_le_n (sm_le_n sm_le_nil)))) (B_64_49 hd  hf hs)
def F_64_24  (h : sm_H) : Option (Int32 × sm_H) :=
  some (0, h)
theorem B_64_24 {L : Nat} {xs : Nat → Int32} {d : Nat} (hd : 1 ≤ d) {res : Option Value × sm_H}   {h : sm_H} {r : (Int32 × sm_H)} (hf : F_64_24  h = some r) (hs : (fun (r : Int32 × sm_H) => res = (some (.int r.1), r.2)) r) : Ex (P_G L xs) (RUN L xs d) (sm_lk P_t64) 3 24 [none, none, none, none] [] h res := by
  unfold F_64_24 at hf
  refine Ex.seg 1 (pc' := 25) (lc' := [none, none, none, none]) (st' := [.int 0]) (h' := h) (sg1 rfl rfl rfl) ?_
  obtain rfl := Option.some.inj hf
  exact Ex.iret rfl rfl (fun _ => by decide) hs
def F_64_0 (x1 : Int32) (x2 : Int32) (x3 : Int32) (h : sm_H) : Option (Int32 × sm_H) :=
  if x1 ≤ 0 then (F_64_24 h)
  else (if (h.1 1 3) ≤ x1 then (F_64_24 h)
  else (if x2 ≤ 0 then (F_64_24 h)
  else (if x2 < (h.1 1 3) then (if x1 = x2 then (F_64_49 h)
  else (if x1 < 7 then (F_64_43 x1 x2 x3 h)
  else (if 7 ≤ x2 then (F_64_49 h)
  else (F_64_43 x1 x2 x3 h))))
  else (F_64_24 h))))
theorem B_64_0 {L : Nat} {xs : Nat → Int32} {d : Nat} (hd : 1 ≤ d) {res : Option Value × sm_H} {x1 : Int32} {x2 : Int32} {x3 : Int32}  {h : sm_H} {r : (Int32 × sm_H)} (hf : F_64_0 x1 x2 x3 h = some r) (hs : (fun (r : Int32 × sm_H) => res = (some (.int r.1), r.2)) r) : Ex (P_G L xs) (RUN L xs d) (sm_lk P_t64) 3 0 [some (.ref 1), some (.int x1), some (.int x2), some (.int x3)] [] h res := by
  unfold F_64_0 at hf
  refine Ex.seg 1 (pc' := 1) (lc' := [some (.ref 1), some (.int x1), some (.int x2), some (.int x3)]) (st' := [.int x1]) (h' := h) (sg1 rfl rfl rfl) ?_
  refine Ex.ifc rfl rfl (fun (c0 : x1 ≤ 0) => ?_) (fun (c0 : ¬ (x1 ≤ 0)) => ?_)
  · rw [if_pos c0] at hf
    exact Ex.weak (sm_le_n (sm_le_n (sm_le_n (sm_le_n sm_le_nil)))) (B_64_24 hd  hf hs)
  · rw [if_neg c0] at hf
    refine Ex.seg 3 (pc' := 9) (lc' := [some (.ref 1), some (.int x1), some (.int x2), some (.int x3)]) (st' := [.int (h.1 1 3), .int x1]) (h' := h) (sg1 rfl rfl (sg1 rfl rfl (sg1 rfl rfl rfl))) ?_
    refine Ex.icmp rfl rfl (fun (c0 : (h.1 1 3) ≤ x1) => ?_) (fun (c0 : ¬ ((h.1 1 3) ≤ x1)) => ?_)
    · rw [if_pos c0] at hf
      exact Ex.weak (sm_le_n (sm_le_n (sm_le_n (sm_le_n sm_le_nil)))) (B_64_24 hd  hf hs)
    · rw [if_neg c0] at hf
      refine Ex.seg 1 (pc' := 13) (lc' := [some (.ref 1), some (.int x1), some (.int x2), some (.int x3)]) (st' := [.int x2]) (h' := h) (sg1 rfl rfl rfl) ?_
      refine Ex.ifc rfl rfl (fun (c0 : x2 ≤ 0) => ?_) (fun (c0 : ¬ (x2 ≤ 0)) => ?_)
      · rw [if_pos c0] at hf
        exact Ex.weak (sm_le_n (sm_le_n (sm_le_n (sm_le_n sm_le_nil)))) (B_64_24 hd  hf hs)
      · rw [if_neg c0] at hf
        refine Ex.seg 3 (pc' := 21) (lc' := [some (.ref 1), some (.int x1), some (.int x2), some (.int x3)]) (st' := [.int (h.1 1 3), .int x2]) (h' := h) (sg1 rfl rfl (sg1 rfl rfl (sg1 rfl rfl rfl))) ?_
        refine Ex.icmp rfl rfl (fun (c0 : x2 < (h.1 1 3)) => ?_) (fun (c0 : ¬ (x2 < (h.1 1 3))) => ?_)
        · rw [if_pos c0] at hf
          refine Ex.seg 2 (pc' := 28) (lc' := [some (.ref 1), some (.int x1), some (.int x2), some (.int x3)]) (st' := [.int x2, .int x1]) (h' := h) (sg1 rfl rfl (sg1 rfl rfl rfl)) ?_
          refine Ex.icmp rfl rfl (fun (c0 : x1 = x2) => ?_) (fun (c0 : ¬ (x1 = x2)) => ?_)
          · rw [if_pos c0] at hf
            exact Ex.weak (sm_le_n (sm_le_n (sm_le_n (sm_le_n sm_le_nil)))) (B_64_49 hd  hf hs)
          · rw [if_neg c0] at hf
            refine Ex.seg 2 (pc' := 34) (lc' := [some (.ref 1), some (.int x1), some (.int x2), some (.int x3)]) (st' := [.int 7, .int x1]) (h' := h) (sg1 rfl rfl (sg1 rfl rfl rfl)) ?_
            refine Ex.icmp rfl rfl (fun (c0 : x1 < 7) => ?_) (fun (c0 : ¬ (x1 < 7)) => ?_)
            · rw [if_pos c0] at hf
              exact Ex.weak (sm_le_s (sm_le_s (sm_le_s (sm_le_s sm_le_nil)))) (B_64_43 hd  hf hs)
            · rw [if_neg c0] at hf
              refine Ex.seg 2 (pc' := 40) (lc' := [some (.ref 1), some (.int x1), some (.int x2), some (.int x3)]) (st' := [.int 7, .int x2]) (h' := h) (sg1 rfl rfl (sg1 rfl rfl rfl)) ?_
              refine Ex.icmp rfl rfl (fun (c0 : 7 ≤ x2) => ?_) (fun (c0 : ¬ (7 ≤ x2)) => ?_)
              · rw [if_pos c0] at hf
                exact Ex.weak (sm_le_n (sm_le_n (sm_le_n (sm_le_n sm_le_nil)))) (B_64_49 hd  hf hs)
              · rw [if_neg c0] at hf
                exact Ex.weak (sm_le_s (sm_le_s (sm_le_s (sm_le_s sm_le_nil)))) (B_64_43 hd  hf hs)
        · rw [if_neg c0] at hf
          exact Ex.weak (sm_le_n (sm_le_n (sm_le_n (sm_le_n sm_le_nil)))) (B_64_24 hd  hf hs)
/-- HandleHouse$Kinds.allows(IIZ)Z -/
abbrev F_64 (x1 : Int32) (x2 : Int32) (x3 : Int32) (h : sm_H) : Option (Int32 × sm_H) := F_64_0 x1 x2 x3 h
theorem E_64 {L : Nat} {xs : Nat → Int32} {d : Nat} (hd : 2 ≤ d) {x1 : Int32} {x2 : Int32} {x3 : Int32} {h : sm_H} {r : Int32 × sm_H} (hf : F_64 x1 x2 x3 h = some r) : RUN L xs d 64 [.ref 1, .int x1, .int x2, .int x3] h (some (.int r.1), r.2) := by
  obtain ⟨d, rfl⟩ : ∃ e, d = e + 1 := ⟨d - 1, by omega⟩
  exact ⟨Nat.le_of_ble_eq_true rfl, B_64_0 (by omega) hf rfl⟩
