/-! FUNCTIONS of the methods (by program, wip/gen/fgen.py) -/
theorem sg1 {G : sm_G} {T : Nat → Option sm_I} {k pc : Nat} {lc : sm_L} {st : List Value} {h : sm_H} {i : sm_I} {c1 : Nat × sm_L × List Value × sm_H} {o : Option (Nat × sm_L × List Value × sm_H)} (ht : T pc = some i) (h1 : sm_one G i pc lc st h = some c1) (e : sm_seg G T k c1 = o) : sm_seg G T (k + 1) (pc, lc, st, h) = o := by
  unfold sm_seg
  dsimp only
  rw [ht]
  dsimp only
  rw [h1]
  exact e
def ldI (h : sm_H) (a n : Nat) (i : Int32) : Option Int32 := if sm_in i n then some (h.1 a i.toNatClampNeg) else none
def ldJ (h : sm_H) (a n : Nat) (i : Int32) : Option Int64 := if sm_in i n then some (h.2.1 a i.toNatClampNeg) else none
def ldZ (h : sm_H) (a n : Nat) (i : Int32) : Option Int32 := if sm_in i n then some (h.1 a i.toNatClampNeg) else none
def stI (h : sm_H) (a n : Nat) (i x : Int32) : Option sm_H := if sm_in i n then some (sm_wI h a i.toNatClampNeg x) else none
def stJ (h : sm_H) (a n : Nat) (i : Int32) (x : Int64) : Option sm_H := if sm_in i n then some (sm_wJ h a i.toNatClampNeg x) else none
def stZ (h : sm_H) (a n : Nat) (i x : Int32) : Option sm_H := if sm_in i n then some (sm_wI h a i.toNatClampNeg (vp_nar .boolean x)) else none
abbrev RUN (L : Nat) (xs : Nat → Int32) (d : Nat) : Nat → List Value → sm_H → Option Value × sm_H → Prop := sm_run (P_G L xs) (fun j pc => sm_lk (P_TT j) pc) P_Y.2.2.1 P_Y.2.2.2.2 d
def F_289_20 (z0 : Int32) (h : sm_H) : Option (Int32 × sm_H) :=
  if z0 = 0 ∨ z0 = 1 then some (z0, h) else none
theorem B_289_20 {L : Nat} {xs : Nat → Int32} {d : Nat} (hd : 0 ≤ d) {res : Option Value × sm_H} {z0 : Int32}  {h : sm_H} {r : (Int32 × sm_H)} (hf : F_289_20 z0 h = some r) (hs : (fun (r : Int32 × sm_H) => res = (some (.int r.1), r.2)) r) : Ex (P_G L xs) (RUN L xs d) (sm_lk P_t289) 3 20 [none, none] [.int z0] h res := by
  unfold F_289_20 at hf
  rcases Classical.em (z0 = 0 ∨ z0 = 1) with c0 | c0
  · rw [if_pos c0] at hf
    obtain rfl := Option.some.inj hf
    exact Ex.iret rfl rfl (fun _ => c0) hs
  · rw [if_neg c0] at hf
    cases hf
def F_289_19  (h : sm_H) : Option (Int32 × sm_H) :=
  F_289_20 0 h
theorem B_289_19 {L : Nat} {xs : Nat → Int32} {d : Nat} (hd : 0 ≤ d) {res : Option Value × sm_H}   {h : sm_H} {r : (Int32 × sm_H)} (hf : F_289_19  h = some r) (hs : (fun (r : Int32 × sm_H) => res = (some (.int r.1), r.2)) r) : Ex (P_G L xs) (RUN L xs d) (sm_lk P_t289) 3 19 [none, none] [] h res := by
  unfold F_289_19 at hf
  refine Ex.seg 1 (pc' := 20) (lc' := [none, none]) (st' := [.int 0]) (h' := h) (sg1 rfl rfl rfl) ?_
  exact Ex.weak (sm_le_s (sm_le_s sm_le_nil)) (B_289_20 hd  hf hs)
def F_289_0 (x1 : Int32) (h : sm_H) : Option (Int32 × sm_H) :=
  if x1 < 0 then (F_289_19 h)
  else (if (20 + (h.1 67 6)) ≤ x1 then (F_289_19 h)
  else (F_289_20 1 h))
theorem B_289_0 {L : Nat} {xs : Nat → Int32} {d : Nat} (hd : 0 ≤ d) {res : Option Value × sm_H} {x1 : Int32}  {h : sm_H} {r : (Int32 × sm_H)} (hf : F_289_0 x1 h = some r) (hs : (fun (r : Int32 × sm_H) => res = (some (.int r.1), r.2)) r) : Ex (P_G L xs) (RUN L xs d) (sm_lk P_t289) 3 0 [some (.ref 67), some (.int x1)] [] h res := by
  unfold F_289_0 at hf
  refine Ex.seg 1 (pc' := 1) (lc' := [some (.ref 67), some (.int x1)]) (st' := [.int x1]) (h' := h) (sg1 rfl rfl rfl) ?_
  refine Ex.ifc rfl rfl (fun (c0 : x1 < 0) => ?_) (fun (c0 : ¬ (x1 < 0)) => ?_)
  · rw [if_pos c0] at hf
    exact Ex.weak (sm_le_n (sm_le_n sm_le_nil)) (B_289_19 hd  hf hs)
  · rw [if_neg c0] at hf
    refine Ex.seg 5 (pc' := 12) (lc' := [some (.ref 67), some (.int x1)]) (st' := [.int (20 + (h.1 67 6)), .int x1]) (h' := h) (sg1 rfl rfl (sg1 rfl rfl (sg1 rfl rfl (sg1 rfl rfl (sg1 rfl rfl rfl))))) ?_
    refine Ex.icmp rfl rfl (fun (c0 : (20 + (h.1 67 6)) ≤ x1) => ?_) (fun (c0 : ¬ ((20 + (h.1 67 6)) ≤ x1)) => ?_)
    · rw [if_pos c0] at hf
      exact Ex.weak (sm_le_n (sm_le_n sm_le_nil)) (B_289_19 hd  hf hs)
    · rw [if_neg c0] at hf
      refine Ex.seg 2 (pc' := 20) (lc' := [some (.ref 67), some (.int x1)]) (st' := [.int 1]) (h' := h) (sg1 rfl rfl (sg1 rfl rfl rfl)) ?_
      exact Ex.weak (sm_le_n (sm_le_n sm_le_nil)) (B_289_20 hd  hf hs)
/-- HandleHouseModel.isKind(I)Z -/
abbrev F_289 (x1 : Int32) (h : sm_H) : Option (Int32 × sm_H) := F_289_0 x1 h
theorem E_289 {L : Nat} {xs : Nat → Int32} {d : Nat} (hd : 1 ≤ d) {x1 : Int32} {h : sm_H} {r : Int32 × sm_H} (hf : F_289 x1 h = some r) : RUN L xs d 289 [.ref 67, .int x1] h (some (.int r.1), r.2) := by
  obtain ⟨d, rfl⟩ : ∃ e, d = e + 1 := ⟨d - 1, by omega⟩
  exact ⟨Nat.le_of_ble_eq_true rfl, B_289_0 (by omega) hf rfl⟩
def F_290_16 (z0 : Int32) (h : sm_H) : Option (Int32 × sm_H) :=
  if z0 = 0 ∨ z0 = 1 then some (z0, h) else none
theorem B_290_16 {L : Nat} {xs : Nat → Int32} {d : Nat} (hd : 0 ≤ d) {res : Option Value × sm_H} {z0 : Int32}  {h : sm_H} {r : (Int32 × sm_H)} (hf : F_290_16 z0 h = some r) (hs : (fun (r : Int32 × sm_H) => res = (some (.int r.1), r.2)) r) : Ex (P_G L xs) (RUN L xs d) (sm_lk P_t290) 3 16 [none] [.int z0] h res := by
  unfold F_290_16 at hf
  rcases Classical.em (z0 = 0 ∨ z0 = 1) with c0 | c0
  · rw [if_pos c0] at hf
    obtain rfl := Option.some.inj hf
    exact Ex.iret rfl rfl (fun _ => c0) hs
  · rw [if_neg c0] at hf
    cases hf
def F_290_15  (h : sm_H) : Option (Int32 × sm_H) :=
  F_290_16 0 h
theorem B_290_15 {L : Nat} {xs : Nat → Int32} {d : Nat} (hd : 0 ≤ d) {res : Option Value × sm_H}   {h : sm_H} {r : (Int32 × sm_H)} (hf : F_290_15  h = some r) (hs : (fun (r : Int32 × sm_H) => res = (some (.int r.1), r.2)) r) : Ex (P_G L xs) (RUN L xs d) (sm_lk P_t290) 3 15 [none] [] h res := by
  unfold F_290_15 at hf
  refine Ex.seg 1 (pc' := 16) (lc' := [none]) (st' := [.int 0]) (h' := h) (sg1 rfl rfl rfl) ?_
  exact Ex.weak (sm_le_s sm_le_nil) (B_290_16 hd  hf hs)
def F_290_0 (x0 : Int32) (h : sm_H) : Option (Int32 × sm_H) :=
  if x0 < 1 then (F_290_15 h)
  else (if 6 < x0 then (F_290_15 h)
  else (F_290_16 1 h))
theorem B_290_0 {L : Nat} {xs : Nat → Int32} {d : Nat} (hd : 0 ≤ d) {res : Option Value × sm_H} {x0 : Int32}  {h : sm_H} {r : (Int32 × sm_H)} (hf : F_290_0 x0 h = some r) (hs : (fun (r : Int32 × sm_H) => res = (some (.int r.1), r.2)) r) : Ex (P_G L xs) (RUN L xs d) (sm_lk P_t290) 3 0 [some (.int x0)] [] h res := by
  unfold F_290_0 at hf
  refine Ex.seg 2 (pc' := 2) (lc' := [some (.int x0)]) (st' := [.int 1, .int x0]) (h' := h) (sg1 rfl rfl (sg1 rfl rfl rfl)) ?_
  refine Ex.icmp rfl rfl (fun (c0 : x0 < 1) => ?_) (fun (c0 : ¬ (x0 < 1)) => ?_)
  · rw [if_pos c0] at hf
    exact Ex.weak (sm_le_n sm_le_nil) (B_290_15 hd  hf hs)
  · rw [if_neg c0] at hf
    refine Ex.seg 2 (pc' := 8) (lc' := [some (.int x0)]) (st' := [.int 6, .int x0]) (h' := h) (sg1 rfl rfl (sg1 rfl rfl rfl)) ?_
    refine Ex.icmp rfl rfl (fun (c0 : 6 < x0) => ?_) (fun (c0 : ¬ (6 < x0)) => ?_)
    · rw [if_pos c0] at hf
      exact Ex.weak (sm_le_n sm_le_nil) (B_290_15 hd  hf hs)
    · rw [if_neg c0] at hf
      refine Ex.seg 2 (pc' := 16) (lc' := [some (.int x0)]) (st' := [.int 1]) (h' := h) (sg1 rfl rfl (sg1 rfl rfl rfl)) ?_
      exact Ex.weak (sm_le_n sm_le_nil) (B_290_16 hd  hf hs)
/-- HandleHouseModel.isPlain(I)Z -/
abbrev F_290 (x0 : Int32) (h : sm_H) : Option (Int32 × sm_H) := F_290_0 x0 h
theorem E_290 {L : Nat} {xs : Nat → Int32} {d : Nat} (hd : 1 ≤ d) {x0 : Int32} {h : sm_H} {r : Int32 × sm_H} (hf : F_290 x0 h = some r) : RUN L xs d 290 [.int x0] h (some (.int r.1), r.2) := by
  obtain ⟨d, rfl⟩ : ∃ e, d = e + 1 := ⟨d - 1, by omega⟩
  exact ⟨Nat.le_of_ble_eq_true rfl, B_290_0 (by omega) hf rfl⟩
def F_291_11 (z0 : Int32) (h : sm_H) : Option (Int32 × sm_H) :=
  if z0 = 0 ∨ z0 = 1 then some (z0, h) else none
theorem B_291_11 {L : Nat} {xs : Nat → Int32} {d : Nat} (hd : 0 ≤ d) {res : Option Value × sm_H} {z0 : Int32}  {h : sm_H} {r : (Int32 × sm_H)} (hf : F_291_11 z0 h = some r) (hs : (fun (r : Int32 × sm_H) => res = (some (.int r.1), r.2)) r) : Ex (P_G L xs) (RUN L xs d) (sm_lk P_t291) 3 11 [none] [.int z0] h res := by
  unfold F_291_11 at hf
  rcases Classical.em (z0 = 0 ∨ z0 = 1) with c0 | c0
  · rw [if_pos c0] at hf
    obtain rfl := Option.some.inj hf
    exact Ex.iret rfl rfl (fun _ => c0) hs
  · rw [if_neg c0] at hf
    cases hf
def F_291_0 (x0 : Int32) (h : sm_H) : Option (Int32 × sm_H) :=
  if x0 < 7 then (F_291_11 0 h)
  else (F_291_11 1 h)
theorem B_291_0 {L : Nat} {xs : Nat → Int32} {d : Nat} (hd : 0 ≤ d) {res : Option Value × sm_H} {x0 : Int32}  {h : sm_H} {r : (Int32 × sm_H)} (hf : F_291_0 x0 h = some r) (hs : (fun (r : Int32 × sm_H) => res = (some (.int r.1), r.2)) r) : Ex (P_G L xs) (RUN L xs d) (sm_lk P_t291) 3 0 [some (.int x0)] [] h res := by
  unfold F_291_0 at hf
  refine Ex.seg 2 (pc' := 3) (lc' := [some (.int x0)]) (st' := [.int 7, .int x0]) (h' := h) (sg1 rfl rfl (sg1 rfl rfl rfl)) ?_
  refine Ex.icmp rfl rfl (fun (c0 : x0 < 7) => ?_) (fun (c0 : ¬ (x0 < 7)) => ?_)
  · rw [if_pos c0] at hf
    refine Ex.seg 1 (pc' := 11) (lc' := [some (.int x0)]) (st' := [.int 0]) (h' := h) (sg1 rfl rfl rfl) ?_
    exact Ex.weak (sm_le_n sm_le_nil) (B_291_11 hd  hf hs)
  · rw [if_neg c0] at hf
    refine Ex.seg 2 (pc' := 11) (lc' := [some (.int x0)]) (st' := [.int 1]) (h' := h) (sg1 rfl rfl (sg1 rfl rfl rfl)) ?_
    exact Ex.weak (sm_le_n sm_le_nil) (B_291_11 hd  hf hs)
/-- HandleHouseModel.isReference(I)Z -/
abbrev F_291 (x0 : Int32) (h : sm_H) : Option (Int32 × sm_H) := F_291_0 x0 h
theorem E_291 {L : Nat} {xs : Nat → Int32} {d : Nat} (hd : 1 ≤ d) {x0 : Int32} {h : sm_H} {r : Int32 × sm_H} (hf : F_291 x0 h = some r) : RUN L xs d 291 [.int x0] h (some (.int r.1), r.2) := by
  obtain ⟨d, rfl⟩ : ∃ e, d = e + 1 := ⟨d - 1, by omega⟩
  exact ⟨Nat.le_of_ble_eq_true rfl, B_291_0 (by omega) hf rfl⟩
def F_292_17 (z0 : Int32) (h : sm_H) : Option (Int32 × sm_H) :=
  if z0 = 0 ∨ z0 = 1 then some (z0, h) else none
theorem B_292_17 {L : Nat} {xs : Nat → Int32} {d : Nat} (hd : 0 ≤ d) {res : Option Value × sm_H} {z0 : Int32}  {h : sm_H} {r : (Int32 × sm_H)} (hf : F_292_17 z0 h = some r) (hs : (fun (r : Int32 × sm_H) => res = (some (.int r.1), r.2)) r) : Ex (P_G L xs) (RUN L xs d) (sm_lk P_t292) 3 17 [none] [.int z0] h res := by
  unfold F_292_17 at hf
  rcases Classical.em (z0 = 0 ∨ z0 = 1) with c0 | c0
  · rw [if_pos c0] at hf
    obtain rfl := Option.some.inj hf
    exact Ex.iret rfl rfl (fun _ => c0) hs
  · rw [if_neg c0] at hf
    cases hf
def F_292_16  (h : sm_H) : Option (Int32 × sm_H) :=
  F_292_17 0 h
theorem B_292_16 {L : Nat} {xs : Nat → Int32} {d : Nat} (hd : 0 ≤ d) {res : Option Value × sm_H}   {h : sm_H} {r : (Int32 × sm_H)} (hf : F_292_16  h = some r) (hs : (fun (r : Int32 × sm_H) => res = (some (.int r.1), r.2)) r) : Ex (P_G L xs) (RUN L xs d) (sm_lk P_t292) 3 16 [none] [] h res := by
  unfold F_292_16 at hf
  refine Ex.seg 1 (pc' := 17) (lc' := [none]) (st' := [.int 0]) (h' := h) (sg1 rfl rfl rfl) ?_
  exact Ex.weak (sm_le_s sm_le_nil) (B_292_17 hd  hf hs)
def F_292_0 (x0 : Int32) (h : sm_H) : Option (Int32 × sm_H) :=
  if x0 ≤ 8 then (F_292_16 h)
  else (if 15 ≤ x0 then (F_292_16 h)
  else (F_292_17 1 h))
theorem B_292_0 {L : Nat} {xs : Nat → Int32} {d : Nat} (hd : 0 ≤ d) {res : Option Value × sm_H} {x0 : Int32}  {h : sm_H} {r : (Int32 × sm_H)} (hf : F_292_0 x0 h = some r) (hs : (fun (r : Int32 × sm_H) => res = (some (.int r.1), r.2)) r) : Ex (P_G L xs) (RUN L xs d) (sm_lk P_t292) 3 0 [some (.int x0)] [] h res := by
  unfold F_292_0 at hf
  refine Ex.seg 2 (pc' := 3) (lc' := [some (.int x0)]) (st' := [.int 8, .int x0]) (h' := h) (sg1 rfl rfl (sg1 rfl rfl rfl)) ?_
  refine Ex.icmp rfl rfl (fun (c0 : x0 ≤ 8) => ?_) (fun (c0 : ¬ (x0 ≤ 8)) => ?_)
  · rw [if_pos c0] at hf
    exact Ex.weak (sm_le_n sm_le_nil) (B_292_16 hd  hf hs)
  · rw [if_neg c0] at hf
    refine Ex.seg 2 (pc' := 9) (lc' := [some (.int x0)]) (st' := [.int 15, .int x0]) (h' := h) (sg1 rfl rfl (sg1 rfl rfl rfl)) ?_
    refine Ex.icmp rfl rfl (fun (c0 : 15 ≤ x0) => ?_) (fun (c0 : ¬ (15 ≤ x0)) => ?_)
    · rw [if_pos c0] at hf
      exact Ex.weak (sm_le_n sm_le_nil) (B_292_16 hd  hf hs)
    · rw [if_neg c0] at hf
      refine Ex.seg 2 (pc' := 17) (lc' := [some (.int x0)]) (st' := [.int 1]) (h' := h) (sg1 rfl rfl (sg1 rfl rfl rfl)) ?_
      exact Ex.weak (sm_le_n sm_le_nil) (B_292_17 hd  hf hs)
/-- HandleHouseModel.isBox(I)Z -/
abbrev F_292 (x0 : Int32) (h : sm_H) : Option (Int32 × sm_H) := F_292_0 x0 h
theorem E_292 {L : Nat} {xs : Nat → Int32} {d : Nat} (hd : 1 ≤ d) {x0 : Int32} {h : sm_H} {r : Int32 × sm_H} (hf : F_292 x0 h = some r) : RUN L xs d 292 [.int x0] h (some (.int r.1), r.2) := by
  obtain ⟨d, rfl⟩ : ∃ e, d = e + 1 := ⟨d - 1, by omega⟩
  exact ⟨Nat.le_of_ble_eq_true rfl, B_292_0 (by omega) hf rfl⟩
def F_293_17 (z0 : Int32) (h : sm_H) : Option (Int32 × sm_H) :=
  if z0 = 0 ∨ z0 = 1 then some (z0, h) else none
theorem B_293_17 {L : Nat} {xs : Nat → Int32} {d : Nat} (hd : 0 ≤ d) {res : Option Value × sm_H} {z0 : Int32}  {h : sm_H} {r : (Int32 × sm_H)} (hf : F_293_17 z0 h = some r) (hs : (fun (r : Int32 × sm_H) => res = (some (.int r.1), r.2)) r) : Ex (P_G L xs) (RUN L xs d) (sm_lk P_t293) 3 17 [none] [.int z0] h res := by
  unfold F_293_17 at hf
  rcases Classical.em (z0 = 0 ∨ z0 = 1) with c0 | c0
  · rw [if_pos c0] at hf
    obtain rfl := Option.some.inj hf
    exact Ex.iret rfl rfl (fun _ => c0) hs
  · rw [if_neg c0] at hf
    cases hf
def F_293_16  (h : sm_H) : Option (Int32 × sm_H) :=
  F_293_17 0 h
theorem B_293_16 {L : Nat} {xs : Nat → Int32} {d : Nat} (hd : 0 ≤ d) {res : Option Value × sm_H}   {h : sm_H} {r : (Int32 × sm_H)} (hf : F_293_16  h = some r) (hs : (fun (r : Int32 × sm_H) => res = (some (.int r.1), r.2)) r) : Ex (P_G L xs) (RUN L xs d) (sm_lk P_t293) 3 16 [none] [] h res := by
  unfold F_293_16 at hf
  refine Ex.seg 1 (pc' := 17) (lc' := [none]) (st' := [.int 0]) (h' := h) (sg1 rfl rfl rfl) ?_
  exact Ex.weak (sm_le_s sm_le_nil) (B_293_17 hd  hf hs)
def F_293_0 (x0 : Int32) (h : sm_H) : Option (Int32 × sm_H) :=
  if x0 < 15 then (F_293_16 h)
  else (if 17 < x0 then (F_293_16 h)
  else (F_293_17 1 h))
theorem B_293_0 {L : Nat} {xs : Nat → Int32} {d : Nat} (hd : 0 ≤ d) {res : Option Value × sm_H} {x0 : Int32}  {h : sm_H} {r : (Int32 × sm_H)} (hf : F_293_0 x0 h = some r) (hs : (fun (r : Int32 × sm_H) => res = (some (.int r.1), r.2)) r) : Ex (P_G L xs) (RUN L xs d) (sm_lk P_t293) 3 0 [some (.int x0)] [] h res := by
  unfold F_293_0 at hf
  refine Ex.seg 2 (pc' := 3) (lc' := [some (.int x0)]) (st' := [.int 15, .int x0]) (h' := h) (sg1 rfl rfl (sg1 rfl rfl rfl)) ?_
  refine Ex.icmp rfl rfl (fun (c0 : x0 < 15) => ?_) (fun (c0 : ¬ (x0 < 15)) => ?_)
  · rw [if_pos c0] at hf
    exact Ex.weak (sm_le_n sm_le_nil) (B_293_16 hd  hf hs)
  · rw [if_neg c0] at hf
    refine Ex.seg 2 (pc' := 9) (lc' := [some (.int x0)]) (st' := [.int 17, .int x0]) (h' := h) (sg1 rfl rfl (sg1 rfl rfl rfl)) ?_
    refine Ex.icmp rfl rfl (fun (c0 : 17 < x0) => ?_) (fun (c0 : ¬ (17 < x0)) => ?_)
    · rw [if_pos c0] at hf
      exact Ex.weak (sm_le_n sm_le_nil) (B_293_16 hd  hf hs)
    · rw [if_neg c0] at hf
      refine Ex.seg 2 (pc' := 17) (lc' := [some (.int x0)]) (st' := [.int 1]) (h' := h) (sg1 rfl rfl (sg1 rfl rfl rfl)) ?_
      exact Ex.weak (sm_le_n sm_le_nil) (B_293_17 hd  hf hs)
/-- HandleHouseModel.isRow(I)Z -/
abbrev F_293 (x0 : Int32) (h : sm_H) : Option (Int32 × sm_H) := F_293_0 x0 h
theorem E_293 {L : Nat} {xs : Nat → Int32} {d : Nat} (hd : 1 ≤ d) {x0 : Int32} {h : sm_H} {r : Int32 × sm_H} (hf : F_293 x0 h = some r) : RUN L xs d 293 [.int x0] h (some (.int r.1), r.2) := by
  obtain ⟨d, rfl⟩ : ∃ e, d = e + 1 := ⟨d - 1, by omega⟩
  exact ⟨Nat.le_of_ble_eq_true rfl, B_293_0 (by omega) hf rfl⟩
def F_294_23 (z0 : Int32) (h : sm_H) : Option (Int32 × sm_H) :=
  some (z0, h)
theorem B_294_23 {L : Nat} {xs : Nat → Int32} {d : Nat} (hd : 0 ≤ d) {res : Option Value × sm_H} {z0 : Int32}  {h : sm_H} {r : (Int32 × sm_H)} (hf : F_294_23 z0 h = some r) (hs : (fun (r : Int32 × sm_H) => res = (some (.int r.1), r.2)) r) : Ex (P_G L xs) (RUN L xs d) (sm_lk P_t294) 0 23 [none] [.int z0] h res := by
  unfold F_294_23 at hf
  obtain rfl := Option.some.inj hf
  exact Ex.iret rfl rfl (fun c0 => by cases c0) hs
def F_294_0 (x0 : Int32) (h : sm_H) : Option (Int32 × sm_H) :=
  if x0 = 15 then (F_294_23 5 h)
  else (if x0 = 16 then (F_294_23 6 h)
  else (F_294_23 7 h))
theorem B_294_0 {L : Nat} {xs : Nat → Int32} {d : Nat} (hd : 0 ≤ d) {res : Option Value × sm_H} {x0 : Int32}  {h : sm_H} {r : (Int32 × sm_H)} (hf : F_294_0 x0 h = some r) (hs : (fun (r : Int32 × sm_H) => res = (some (.int r.1), r.2)) r) : Ex (P_G L xs) (RUN L xs d) (sm_lk P_t294) 0 0 [some (.int x0)] [] h res := by
  unfold F_294_0 at hf
  refine Ex.seg 2 (pc' := 3) (lc' := [some (.int x0)]) (st' := [.int 15, .int x0]) (h' := h) (sg1 rfl rfl (sg1 rfl rfl rfl)) ?_
  refine Ex.icmp rfl rfl (fun (c0 : ¬ (x0 = 15)) => ?_) (fun (c0 : ¬ ¬ (x0 = 15)) => ?_)
  · rw [if_neg c0] at hf
    refine Ex.seg 2 (pc' := 13) (lc' := [some (.int x0)]) (st' := [.int 16, .int x0]) (h' := h) (sg1 rfl rfl (sg1 rfl rfl rfl)) ?_
    refine Ex.icmp rfl rfl (fun (c0 : ¬ (x0 = 16)) => ?_) (fun (c0 : ¬ ¬ (x0 = 16)) => ?_)
    · rw [if_neg c0] at hf
      refine Ex.seg 1 (pc' := 23) (lc' := [some (.int x0)]) (st' := [.int 7]) (h' := h) (sg1 rfl rfl rfl) ?_
      exact Ex.weak (sm_le_n sm_le_nil) (B_294_23 hd  hf hs)
    · rw [if_pos (Classical.not_not.mp c0)] at hf
      refine Ex.seg 2 (pc' := 23) (lc' := [some (.int x0)]) (st' := [.int 6]) (h' := h) (sg1 rfl rfl (sg1 rfl rfl rfl)) ?_
      exact Ex.weak (sm_le_n sm_le_nil) (B_294_23 hd  hf hs)
  · rw [if_pos (Classical.not_not.mp c0)] at hf
    refine Ex.seg 2 (pc' := 23) (lc' := [some (.int x0)]) (st' := [.int 5]) (h' := h) (sg1 rfl rfl (sg1 rfl rfl rfl)) ?_
    exact Ex.weak (sm_le_n sm_le_nil) (B_294_23 hd  hf hs)
/-- HandleHouseModel.elementOf(I)I -/
abbrev F_294 (x0 : Int32) (h : sm_H) : Option (Int32 × sm_H) := F_294_0 x0 h
theorem E_294 {L : Nat} {xs : Nat → Int32} {d : Nat} (hd : 1 ≤ d) {x0 : Int32} {h : sm_H} {r : Int32 × sm_H} (hf : F_294 x0 h = some r) : RUN L xs d 294 [.int x0] h (some (.int r.1), r.2) := by
  obtain ⟨d, rfl⟩ : ∃ e, d = e + 1 := ⟨d - 1, by omega⟩
  exact ⟨Nat.le_of_ble_eq_true rfl, B_294_0 (by omega) hf rfl⟩
def F_295_69B (s : (Int32 × Int32 × sm_H)) : Option ((Int32 × Int32 × sm_H) ⊕ (Int32 × sm_H)) :=
  if s.2.1 < 20 then (some (.inr (0, s.2.2)))
  else ((ldI s.2.2 70 12 (s.2.1 - 20)).bind fun v1 =>
  if v1 = s.1 then (some (.inr (1, s.2.2)))
  else (some (.inl (s.1, v1, s.2.2))))
theorem B_295_69B {L : Nat} {xs : Nat → Int32} {d : Nat} (hd : 1 ≤ d) {res : Option Value × sm_H} {S1 : (Int32 × Int32 × sm_H) → Prop} (hS1 : ∀ s, S1 s → Ex (P_G L xs) (RUN L xs d) (sm_lk P_t295) 3 69 [some (.ref 67), none, some (.int s.1), some (.int s.2.1)] [] s.2.2 res) {s : (Int32 × Int32 × sm_H)}  {r : ((Int32 × Int32 × sm_H) ⊕ (Int32 × sm_H))} (hf : F_295_69B s = some r) (hs : (Sum.elim S1 (fun (r : Int32 × sm_H) => res = (some (.int r.1), r.2))) r) : Ex (P_G L xs) (RUN L xs d) (sm_lk P_t295) 3 69 [some (.ref 67), none, some (.int s.1), some (.int s.2.1)] [] s.2.2 res := by
  unfold F_295_69B at hf
  refine Ex.seg 2 (pc' := 72) (lc' := [some (.ref 67), none, some (.int s.1), some (.int s.2.1)]) (st' := [.int 20, .int s.2.1]) (h' := s.2.2) (sg1 rfl rfl (sg1 rfl rfl rfl)) ?_
  refine Ex.icmp rfl rfl (fun (c0 : s.2.1 < 20) => ?_) (fun (c0 : ¬ (s.2.1 < 20)) => ?_)
  · rw [if_pos c0] at hf
    refine Ex.seg 1 (pc' := 93) (lc' := [some (.ref 67), none, some (.int s.1), some (.int s.2.1)]) (st' := [.int 0]) (h' := s.2.2) (sg1 rfl rfl rfl) ?_
    obtain rfl := Option.some.inj hf
    exact Ex.iret rfl rfl (fun _ => by decide) hs
  · rw [if_neg c0] at hf
    refine Ex.seg 5 (pc' := 83) (lc' := [some (.ref 67), none, some (.int s.1), some (.int s.2.1)]) (st' := [.int (s.2.1 - 20), .ref 70]) (h' := s.2.2) (sg1 rfl rfl (sg1 rfl rfl (sg1 rfl rfl (sg1 rfl rfl (sg1 rfl rfl rfl))))) ?_
    obtain ⟨v1, e_v1, hf⟩ := bnd hf
    refine Ex.iald e_v1 rfl rfl ?_
    refine Ex.seg 3 (pc' := 87) (lc' := [some (.ref 67), none, some (.int s.1), some (.int v1)]) (st' := [.int s.1, .int v1]) (h' := s.2.2) (sg1 rfl rfl (sg1 rfl rfl (sg1 rfl rfl rfl))) ?_
    refine Ex.icmp rfl rfl (fun (c0 : ¬ (v1 = s.1)) => ?_) (fun (c0 : ¬ ¬ (v1 = s.1)) => ?_)
    · rw [if_neg c0] at hf
      obtain rfl := Option.some.inj hf
      exact Ex.weak (sm_le_s (sm_le_s (sm_le_s (sm_le_s sm_le_nil)))) (hS1 _ hs)
    · rw [if_pos (Classical.not_not.mp c0)] at hf
      refine Ex.seg 1 (pc' := 91) (lc' := [some (.ref 67), none, some (.int s.1), some (.int v1)]) (st' := [.int 1]) (h' := s.2.2) (sg1 rfl rfl rfl) ?_
      obtain rfl := Option.some.inj hf
      exact Ex.iret rfl rfl (fun _ => by decide) hs
def F_295_69 (y2 : Int32) (y3 : Int32) (h : sm_H) : Option (Int32 × sm_H) := lp F_295_69B 1000000 (y2, y3, h)
theorem B_295_69 {L : Nat} {xs : Nat → Int32} {d : Nat} (hd : 1 ≤ d) {res : Option Value × sm_H} {y2 : Int32} {y3 : Int32}  {h : sm_H} {r : (Int32 × sm_H)} (hf : F_295_69 y2 y3 h = some r) (hs : (fun (r : Int32 × sm_H) => res = (some (.int r.1), r.2)) r) : Ex (P_G L xs) (RUN L xs d) (sm_lk P_t295) 3 69 [some (.ref 67), none, some (.int y2), some (.int y3)] [] h res := by
  unfold F_295_69 at hf
  exact lp_ok (P := fun (s : (Int32 × Int32 × sm_H)) => Ex (P_G L xs) (RUN L xs d) (sm_lk P_t295) 3 69 [some (.ref 67), none, some (.int s.1), some (.int s.2.1)] [] s.2.2 res) (S := (fun (r : Int32 × sm_H) => res = (some (.int r.1), r.2))) (fun s x hx hsx => by
    intros
    exact B_295_69B hd  (fun _ q => q) hx hsx) 1000000 _ r hf hs
def F_295_66 (z0 : Int32) (h : sm_H) : Option (Int32 × sm_H) :=
  if z0 = 0 ∨ z0 = 1 then some (z0, h) else none
theorem B_295_66 {L : Nat} {xs : Nat → Int32} {d : Nat} (hd : 1 ≤ d) {res : Option Value × sm_H} {z0 : Int32}  {h : sm_H} {r : (Int32 × sm_H)} (hf : F_295_66 z0 h = some r) (hs : (fun (r : Int32 × sm_H) => res = (some (.int r.1), r.2)) r) : Ex (P_G L xs) (RUN L xs d) (sm_lk P_t295) 3 66 [none, none, none, none] [.int z0] h res := by
  unfold F_295_66 at hf
  rcases Classical.em (z0 = 0 ∨ z0 = 1) with c0 | c0
  · rw [if_pos c0] at hf
    obtain rfl := Option.some.inj hf
    exact Ex.iret rfl rfl (fun _ => c0) hs
  · rw [if_neg c0] at hf
    cases hf
def F_295_61  (h : sm_H) : Option (Int32 × sm_H) :=
  F_295_66 1 h
theorem B_295_61 {L : Nat} {xs : Nat → Int32} {d : Nat} (hd : 1 ≤ d) {res : Option Value × sm_H}   {h : sm_H} {r : (Int32 × sm_H)} (hf : F_295_61  h = some r) (hs : (fun (r : Int32 × sm_H) => res = (some (.int r.1), r.2)) r) : Ex (P_G L xs) (RUN L xs d) (sm_lk P_t295) 3 61 [none, none, none, none] [] h res := by
  unfold F_295_61 at hf
  refine Ex.seg 2 (pc' := 66) (lc' := [none, none, none, none]) (st' := [.int 1]) (h' := h) (sg1 rfl rfl (sg1 rfl rfl rfl)) ?_
  exact Ex.weak (sm_le_s (sm_le_s (sm_le_s (sm_le_s sm_le_nil)))) (B_295_66 hd  hf hs)
def F_295_21  (h : sm_H) : Option (Int32 × sm_H) :=
  some (0, h)
theorem B_295_21 {L : Nat} {xs : Nat → Int32} {d : Nat} (hd : 1 ≤ d) {res : Option Value × sm_H}   {h : sm_H} {r : (Int32 × sm_H)} (hf : F_295_21  h = some r) (hs : (fun (r : Int32 × sm_H) => res = (some (.int r.1), r.2)) r) : Ex (P_G L xs) (RUN L xs d) (sm_lk P_t295) 3 21 [none, none, none, none] [] h res := by
  unfold F_295_21 at hf
  refine Ex.seg 1 (pc' := 22) (lc' := [none, none, none, none]) (st' := [.int 0]) (h' := h) (sg1 rfl rfl rfl) ?_
  obtain rfl := Option.some.inj hf
  exact Ex.iret rfl rfl (fun _ => by decide) hs
def F_295_0 (x1 : Int32) (x2 : Int32) (h : sm_H) : Option (Int32 × sm_H) :=
  if x1 = x2 then (some (1, h))
  else ((F_291 x1 h).bind fun q2 =>
  if q2.1 = 0 then (F_295_21 q2.2)
  else ((F_291 x2 q2.2).bind fun q3 =>
  if q3.1 = 0 then (F_295_21 q3.2)
  else (if x2 = 7 then (some (1, q3.2))
  else (if x2 = 8 then (if x1 = 10 then (F_295_61 q3.2)
  else (if x1 = 11 then (F_295_61 q3.2)
  else (if x1 = 13 then (F_295_61 q3.2)
  else (if x1 = 14 then (F_295_61 q3.2)
  else (F_295_66 0 q3.2)))))
  else (F_295_69 x2 x1 q3.2)))))
theorem B_295_0 {L : Nat} {xs : Nat → Int32} {d : Nat} (hd : 1 ≤ d) {res : Option Value × sm_H} {x1 : Int32} {x2 : Int32}  {h : sm_H} {r : (Int32 × sm_H)} (hf : F_295_0 x1 x2 h = some r) (hs : (fun (r : Int32 × sm_H) => res = (some (.int r.1), r.2)) r) : Ex (P_G L xs) (RUN L xs d) (sm_lk P_t295) 3 0 [some (.ref 67), some (.int x1), some (.int x2), none] [] h res := by
  unfold F_295_0 at hf
  refine Ex.seg 2 (pc' := 2) (lc' := [some (.ref 67), some (.int x1), some (.int x2), none]) (st' := [.int x2, .int x1]) (h' := h) (sg1 rfl rfl (sg1 rfl rfl rfl)) ?_
  refine Ex.icmp rfl rfl (fun (c0 : ¬ (x1 = x2)) => ?_) (fun (c0 : ¬ ¬ (x1 = x2)) => ?_)
  · rw [if_neg c0] at hf
    refine Ex.seg 1 (pc' := 8) (lc' := [some (.ref 67), some (.int x1), some (.int x2), none]) (st' := [.int x1]) (h' := h) (sg1 rfl rfl rfl) ?_
    obtain ⟨q2, e_q2, hf⟩ := bnd hf
    refine Ex.callS (As := [.int x1]) (r := []) (v := some (.int q2.1)) (h' := q2.2) rfl rfl rfl rfl (Nat.le_of_ble_eq_true rfl) (E_291 (Nat.le_trans (by decide) hd) e_q2) rfl ?_
    refine Ex.ifc rfl rfl (fun (c0 : q2.1 = 0) => ?_) (fun (c0 : ¬ (q2.1 = 0)) => ?_)
    · rw [if_pos c0] at hf
      exact Ex.weak (sm_le_n (sm_le_n (sm_le_n (sm_le_s sm_le_nil)))) (B_295_21 hd  hf hs)
    · rw [if_neg c0] at hf
      refine Ex.seg 1 (pc' := 15) (lc' := [some (.ref 67), some (.int x1), some (.int x2), none]) (st' := [.int x2]) (h' := q2.2) (sg1 rfl rfl rfl) ?_
      obtain ⟨q3, e_q3, hf⟩ := bnd hf
      refine Ex.callS (As := [.int x2]) (r := []) (v := some (.int q3.1)) (h' := q3.2) rfl rfl rfl rfl (Nat.le_of_ble_eq_true rfl) (E_291 (Nat.le_trans (by decide) hd) e_q3) rfl ?_
      refine Ex.ifc rfl rfl (fun (c0 : ¬ (q3.1 = 0)) => ?_) (fun (c0 : ¬ ¬ (q3.1 = 0)) => ?_)
      · rw [if_neg c0] at hf
        refine Ex.seg 2 (pc' := 26) (lc' := [some (.ref 67), some (.int x1), some (.int x2), none]) (st' := [.int 7, .int x2]) (h' := q3.2) (sg1 rfl rfl (sg1 rfl rfl rfl)) ?_
        refine Ex.icmp rfl rfl (fun (c0 : ¬ (x2 = 7)) => ?_) (fun (c0 : ¬ ¬ (x2 = 7)) => ?_)
        · rw [if_neg c0] at hf
          refine Ex.seg 2 (pc' := 34) (lc' := [some (.ref 67), some (.int x1), some (.int x2), none]) (st' := [.int 8, .int x2]) (h' := q3.2) (sg1 rfl rfl (sg1 rfl rfl rfl)) ?_
          refine Ex.icmp rfl rfl (fun (c0 : ¬ (x2 = 8)) => ?_) (fun (c0 : ¬ ¬ (x2 = 8)) => ?_)
          · rw [if_neg c0] at hf
            refine Ex.seg 2 (pc' := 69) (lc' := [some (.ref 67), some (.int x1), some (.int x2), some (.int x1)]) (st' := []) (h' := q3.2) (sg1 rfl rfl (sg1 rfl rfl rfl)) ?_
            exact Ex.weak (sm_le_s (sm_le_n (sm_le_s (sm_le_s sm_le_nil)))) (B_295_69 hd  hf hs)
          · rw [if_pos (Classical.not_not.mp c0)] at hf
            refine Ex.seg 2 (pc' := 40) (lc' := [some (.ref 67), some (.int x1), some (.int x2), none]) (st' := [.int 10, .int x1]) (h' := q3.2) (sg1 rfl rfl (sg1 rfl rfl rfl)) ?_
            refine Ex.icmp rfl rfl (fun (c0 : x1 = 10) => ?_) (fun (c0 : ¬ (x1 = 10)) => ?_)
            · rw [if_pos c0] at hf
              exact Ex.weak (sm_le_n (sm_le_n (sm_le_n (sm_le_s sm_le_nil)))) (B_295_61 hd  hf hs)
            · rw [if_neg c0] at hf
              refine Ex.seg 2 (pc' := 46) (lc' := [some (.ref 67), some (.int x1), some (.int x2), none]) (st' := [.int 11, .int x1]) (h' := q3.2) (sg1 rfl rfl (sg1 rfl rfl rfl)) ?_
              refine Ex.icmp rfl rfl (fun (c0 : x1 = 11) => ?_) (fun (c0 : ¬ (x1 = 11)) => ?_)
              · rw [if_pos c0] at hf
                exact Ex.weak (sm_le_n (sm_le_n (sm_le_n (sm_le_s sm_le_nil)))) (B_295_61 hd  hf hs)
              · rw [if_neg c0] at hf
                refine Ex.seg 2 (pc' := 52) (lc' := [some (.ref 67), some (.int x1), some (.int x2), none]) (st' := [.int 13, .int x1]) (h' := q3.2) (sg1 rfl rfl (sg1 rfl rfl rfl)) ?_
                refine Ex.icmp rfl rfl (fun (c0 : x1 = 13) => ?_) (fun (c0 : ¬ (x1 = 13)) => ?_)
                · rw [if_pos c0] at hf
                  exact Ex.weak (sm_le_n (sm_le_n (sm_le_n (sm_le_s sm_le_nil)))) (B_295_61 hd  hf hs)
                · rw [if_neg c0] at hf
                  refine Ex.seg 2 (pc' := 58) (lc' := [some (.ref 67), some (.int x1), some (.int x2), none]) (st' := [.int 14, .int x1]) (h' := q3.2) (sg1 rfl rfl (sg1 rfl rfl rfl)) ?_
                  refine Ex.icmp rfl rfl (fun (c0 : ¬ (x1 = 14)) => ?_) (fun (c0 : ¬ ¬ (x1 = 14)) => ?_)
                  · rw [if_neg c0] at hf
                    refine Ex.seg 1 (pc' := 66) (lc' := [some (.ref 67), some (.int x1), some (.int x2), none]) (st' := [.int 0]) (h' := q3.2) (sg1 rfl rfl rfl) ?_
                    exact Ex.weak (sm_le_n (sm_le_n (sm_le_n (sm_le_s sm_le_nil)))) (B_295_66 hd  hf hs)
                  · rw [if_pos (Classical.not_not.mp c0)] at hf
                    exact Ex.weak (sm_le_n (sm_le_n (sm_le_n (sm_le_s sm_le_nil)))) (B_295_61 hd  hf hs)
        · rw [if_pos (Classical.not_not.mp c0)] at hf
          refine Ex.seg 1 (pc' := 30) (lc' := [some (.ref 67), some (.int x1), some (.int x2), none]) (st' := [.int 1]) (h' := q3.2) (sg1 rfl rfl rfl) ?_
          obtain rfl := Option.some.inj hf
          exact Ex.iret rfl rfl (fun _ => by decide) hs
      · rw [if_pos (Classical.not_not.mp c0)] at hf
        exact Ex.weak (sm_le_n (sm_le_n (sm_le_n (sm_le_s sm_le_nil)))) (B_295_21 hd  hf hs)
  · rw [if_pos (Classical.not_not.mp c0)] at hf
    refine Ex.seg 1 (pc' := 6) (lc' := [some (.ref 67), some (.int x1), some (.int x2), none]) (st' := [.int 1]) (h' := h) (sg1 rfl rfl rfl) ?_
    obtain rfl := Option.some.inj hf
    exact Ex.iret rfl rfl (fun _ => by decide) hs
/-- HandleHouseModel.isBelow(II)Z -/
abbrev F_295 (x1 : Int32) (x2 : Int32) (h : sm_H) : Option (Int32 × sm_H) := F_295_0 x1 x2 h
theorem E_295 {L : Nat} {xs : Nat → Int32} {d : Nat} (hd : 2 ≤ d) {x1 : Int32} {x2 : Int32} {h : sm_H} {r : Int32 × sm_H} (hf : F_295 x1 x2 h = some r) : RUN L xs d 295 [.ref 67, .int x1, .int x2] h (some (.int r.1), r.2) := by
  obtain ⟨d, rfl⟩ : ∃ e, d = e + 1 := ⟨d - 1, by omega⟩
  exact ⟨Nat.le_of_ble_eq_true rfl, B_295_0 (by omega) hf rfl⟩
def F_299_13 (z1 : Int32) (h : sm_H) : Option (sm_H) :=
  (some (sm_wI h 67 48 z1)).bind fun h1 =>
  (some (sm_wJ h1 67 49 0)).bind fun h2 =>
  some h2
theorem B_299_13 {L : Nat} {xs : Nat → Int32} {d : Nat} (hd : 1 ≤ d) {res : Option Value × sm_H} {z1 : Int32}  {h : sm_H} {r : (sm_H)} (hf : F_299_13 z1 h = some r) (hs : (fun (r : sm_H) => res = (none, r)) r) : Ex (P_G L xs) (RUN L xs d) (sm_lk P_t299) 0 13 [some (.ref 67), none] [.int z1, .ref 67] h res := by
  unfold F_299_13 at hf
  refine Ex.seg 1 (pc' := 16) (lc' := [some (.ref 67), none]) (st' := []) (h' := (sm_wI h 67 48 z1)) (sg1 rfl rfl rfl) ?_
  obtain ⟨h1, e_h1, hf⟩ := bnd hf
  rw [Option.some.inj e_h1]
  refine Ex.seg 3 (pc' := 21) (lc' := [some (.ref 67), none]) (st' := []) (h' := (sm_wJ h1 67 49 0)) (sg1 rfl rfl (sg1 rfl rfl (sg1 rfl rfl rfl))) ?_
  obtain ⟨h2, e_h2, hf⟩ := bnd hf
  rw [Option.some.inj e_h2]
  obtain rfl := Option.some.inj hf
  exact Ex.vret rfl rfl hs
def F_299_0 (x1 : Int32) (h : sm_H) : Option (sm_H) :=
  (F_290 x1 h).bind fun q3 =>
  if q3.1 = 0 then (F_299_13 0 q3.2)
  else (F_299_13 x1 q3.2)
theorem B_299_0 {L : Nat} {xs : Nat → Int32} {d : Nat} (hd : 1 ≤ d) {res : Option Value × sm_H} {x1 : Int32}  {h : sm_H} {r : (sm_H)} (hf : F_299_0 x1 h = some r) (hs : (fun (r : sm_H) => res = (none, r)) r) : Ex (P_G L xs) (RUN L xs d) (sm_lk P_t299) 0 0 [some (.ref 67), some (.int x1)] [] h res := by
  unfold F_299_0 at hf
  refine Ex.seg 2 (pc' := 2) (lc' := [some (.ref 67), some (.int x1)]) (st' := [.int x1, .ref 67]) (h' := h) (sg1 rfl rfl (sg1 rfl rfl rfl)) ?_
  obtain ⟨q3, e_q3, hf⟩ := bnd hf
  refine Ex.callS (As := [.int x1]) (r := [.ref 67]) (v := some (.int q3.1)) (h' := q3.2) rfl rfl rfl rfl (Nat.le_of_ble_eq_true rfl) (E_290 (Nat.le_trans (by decide) hd) e_q3) rfl ?_
  refine Ex.ifc rfl rfl (fun (c0 : q3.1 = 0) => ?_) (fun (c0 : ¬ (q3.1 = 0)) => ?_)
  · rw [if_pos c0] at hf
    refine Ex.seg 1 (pc' := 13) (lc' := [some (.ref 67), some (.int x1)]) (st' := [.int 0, .ref 67]) (h' := q3.2) (sg1 rfl rfl rfl) ?_
    exact Ex.weak (sm_le_s (sm_le_n sm_le_nil)) (B_299_13 hd  hf hs)
  · rw [if_neg c0] at hf
    refine Ex.seg 2 (pc' := 13) (lc' := [some (.ref 67), some (.int x1)]) (st' := [.int x1, .ref 67]) (h' := q3.2) (sg1 rfl rfl (sg1 rfl rfl rfl)) ?_
    exact Ex.weak (sm_le_s (sm_le_n sm_le_nil)) (B_299_13 hd  hf hs)
/-- HandleHouseModel.zero(I)V -/
abbrev F_299 (x1 : Int32) (h : sm_H) : Option (sm_H) := F_299_0 x1 h
theorem E_299 {L : Nat} {xs : Nat → Int32} {d : Nat} (hd : 2 ≤ d) {x1 : Int32} {h : sm_H} {r : sm_H} (hf : F_299 x1 h = some r) : RUN L xs d 299 [.ref 67, .int x1] h (none, r) := by
  obtain ⟨d, rfl⟩ : ∃ e, d = e + 1 := ⟨d - 1, by omega⟩
  exact ⟨Nat.le_of_ble_eq_true rfl, B_299_0 (by omega) hf rfl⟩
def F_301_86 (y1 : Int32) (y2 : Int32) (y3 : Int32) (y4 : Int32) (h : sm_H) : Option ((Int32 × Int32 × Int32 × sm_H) ⊕ (Int32 × sm_H)) :=
  if y4 = 0 then ((some (y3 + 1 : Int32)).bind fun v1 =>
  some (.inl (y1, y2, v1, h)))
  else (some (.inr (y3, h)))
theorem B_301_86 {L : Nat} {xs : Nat → Int32} {d : Nat} (hd : 0 ≤ d) {res : Option Value × sm_H} {S1 : (Int32 × Int32 × Int32 × sm_H) → Prop} (hS1 : ∀ s, S1 s → Ex (P_G L xs) (RUN L xs d) (sm_lk P_t301) 0 2 [some (.ref 67), some (.int s.1), some (.int s.2.1), some (.int s.2.2.1), none, none] [] s.2.2.2 res) {y1 : Int32} {y2 : Int32} {y3 : Int32} {y4 : Int32}  {h : sm_H} {r : ((Int32 × Int32 × Int32 × sm_H) ⊕ (Int32 × sm_H))} (hf : F_301_86 y1 y2 y3 y4 h = some r) (hs : (Sum.elim S1 (fun (r : Int32 × sm_H) => res = (some (.int r.1), r.2))) r) : Ex (P_G L xs) (RUN L xs d) (sm_lk P_t301) 0 86 [some (.ref 67), some (.int y1), some (.int y2), some (.int y3), some (.int y4), none] [] h res := by
  unfold F_301_86 at hf
  refine Ex.seg 1 (pc' := 88) (lc' := [some (.ref 67), some (.int y1), some (.int y2), some (.int y3), some (.int y4), none]) (st' := [.int y4]) (h' := h) (sg1 rfl rfl rfl) ?_
  refine Ex.ifc rfl rfl (fun (c0 : y4 = 0) => ?_) (fun (c0 : ¬ (y4 = 0)) => ?_)
  · rw [if_pos c0] at hf
    refine Ex.seg 1 (pc' := 96) (lc' := [some (.ref 67), some (.int y1), some (.int y2), some (.int (y3 + 1)), some (.int y4), none]) (st' := []) (h' := h) (sg1 rfl rfl rfl) ?_
    obtain ⟨v1, e_v1, hf⟩ := bnd hf
    rw [Option.some.inj e_v1]
    refine Ex.seg 1 (pc' := 2) (lc' := [some (.ref 67), some (.int y1), some (.int y2), some (.int v1), some (.int y4), none]) (st' := []) (h' := h) (sg1 rfl rfl rfl) ?_
    obtain rfl := Option.some.inj hf
    exact Ex.weak (sm_le_s (sm_le_s (sm_le_s (sm_le_s (sm_le_n (sm_le_s sm_le_nil)))))) (hS1 _ hs)
  · rw [if_neg c0] at hf
    refine Ex.seg 1 (pc' := 92) (lc' := [some (.ref 67), some (.int y1), some (.int y2), some (.int y3), some (.int y4), none]) (st' := [.int y3]) (h' := h) (sg1 rfl rfl rfl) ?_
    obtain rfl := Option.some.inj hf
    exact Ex.iret rfl rfl (fun c0 => by cases c0) hs
def F_301_78 (y1 : Int32) (y2 : Int32) (y3 : Int32) (y5 : Int32) (z0 : Int32) (h : sm_H) : Option ((Int32 × Int32 × Int32 × Int32 × Int32 × sm_H) ⊕ ((Int32 × Int32 × Int32 × sm_H) ⊕ (Int32 × sm_H))) :=
  (some (y5 + 1 : Int32)).bind fun v2 =>
  some (.inl (y1, y2, y3, z0, v2, h))
theorem B_301_78 {L : Nat} {xs : Nat → Int32} {d : Nat} (hd : 0 ≤ d) {res : Option Value × sm_H} {S1 : (Int32 × Int32 × Int32 × sm_H) → Prop} (hS1 : ∀ s, S1 s → Ex (P_G L xs) (RUN L xs d) (sm_lk P_t301) 0 2 [some (.ref 67), some (.int s.1), some (.int s.2.1), some (.int s.2.2.1), none, none] [] s.2.2.2 res) {S2 : (Int32 × Int32 × Int32 × Int32 × Int32 × sm_H) → Prop} (hS2 : ∀ s, S2 s → Ex (P_G L xs) (RUN L xs d) (sm_lk P_t301) 0 40 [some (.ref 67), some (.int s.1), some (.int s.2.1), some (.int s.2.2.1), some (.int s.2.2.2.1), some (.int s.2.2.2.2.1)] [] s.2.2.2.2.2 res) {y1 : Int32} {y2 : Int32} {y3 : Int32} {y5 : Int32} {z0 : Int32}  {h : sm_H} {r : ((Int32 × Int32 × Int32 × Int32 × Int32 × sm_H) ⊕ ((Int32 × Int32 × Int32 × sm_H) ⊕ (Int32 × sm_H)))} (hf : F_301_78 y1 y2 y3 y5 z0 h = some r) (hs : (Sum.elim S2 (Sum.elim S1 (fun (r : Int32 × sm_H) => res = (some (.int r.1), r.2)))) r) : Ex (P_G L xs) (RUN L xs d) (sm_lk P_t301) 0 78 [some (.ref 67), some (.int y1), some (.int y2), some (.int y3), none, some (.int y5)] [.int z0] h res := by
  unfold F_301_78 at hf
  refine Ex.seg 2 (pc' := 83) (lc' := [some (.ref 67), some (.int y1), some (.int y2), some (.int y3), some (.int z0), some (.int (y5 + 1))]) (st' := []) (h' := h) (sg1 rfl rfl (sg1 rfl rfl rfl)) ?_
  obtain ⟨v2, e_v2, hf⟩ := bnd hf
  rw [Option.some.inj e_v2]
  refine Ex.seg 1 (pc' := 40) (lc' := [some (.ref 67), some (.int y1), some (.int y2), some (.int y3), some (.int z0), some (.int v2)]) (st' := []) (h' := h) (sg1 rfl rfl rfl) ?_
  obtain rfl := Option.some.inj hf
  exact Ex.weak (sm_le_s (sm_le_s (sm_le_s (sm_le_s (sm_le_s (sm_le_s sm_le_nil)))))) (hS2 _ hs)
def F_301_40B (s : (Int32 × Int32 × Int32 × Int32 × Int32 × sm_H)) : Option ((Int32 × Int32 × Int32 × Int32 × Int32 × sm_H) ⊕ ((Int32 × Int32 × Int32 × sm_H) ⊕ (Int32 × sm_H))) :=
  if s.2.1 ≤ s.2.2.2.2.1 then ((F_301_86 s.1 s.2.1 s.2.2.1 s.2.2.2.1 s.2.2.2.2.2).map fun r => (.inr r))
  else (if s.2.2.2.1 = 0 then ((F_301_86 s.1 s.2.1 s.2.2.1 s.2.2.2.1 s.2.2.2.2.2).map fun r => (.inr r))
  else ((ldI s.2.2.2.2.2 74 3000 ((10 * s.2.2.1) + s.2.2.2.2.1)).bind fun v3 =>
  (ldI s.2.2.2.2.2 82 64 s.2.2.2.2.1).bind fun v4 =>
  if v3 = v4 then (F_301_78 s.1 s.2.1 s.2.2.1 s.2.2.2.2.1 1 s.2.2.2.2.2)
  else (F_301_78 s.1 s.2.1 s.2.2.1 s.2.2.2.2.1 0 s.2.2.2.2.2)))
theorem B_301_40B {L : Nat} {xs : Nat → Int32} {d : Nat} (hd : 0 ≤ d) {res : Option Value × sm_H} {S1 : (Int32 × Int32 × Int32 × sm_H) → Prop} (hS1 : ∀ s, S1 s → Ex (P_G L xs) (RUN L xs d) (sm_lk P_t301) 0 2 [some (.ref 67), some (.int s.1), some (.int s.2.1), some (.int s.2.2.1), none, none] [] s.2.2.2 res) {S2 : (Int32 × Int32 × Int32 × Int32 × Int32 × sm_H) → Prop} (hS2 : ∀ s, S2 s → Ex (P_G L xs) (RUN L xs d) (sm_lk P_t301) 0 40 [some (.ref 67), some (.int s.1), some (.int s.2.1), some (.int s.2.2.1), some (.int s.2.2.2.1), some (.int s.2.2.2.2.1)] [] s.2.2.2.2.2 res) {s : (Int32 × Int32 × Int32 × Int32 × Int32 × sm_H)}  {r : ((Int32 × Int32 × Int32 × Int32 × Int32 × sm_H) ⊕ ((Int32 × Int32 × Int32 × sm_H) ⊕ (Int32 × sm_H)))} (hf : F_301_40B s = some r) (hs : (Sum.elim S2 (Sum.elim S1 (fun (r : Int32 × sm_H) => res = (some (.int r.1), r.2)))) r) : Ex (P_G L xs) (RUN L xs d) (sm_lk P_t301) 0 40 [some (.ref 67), some (.int s.1), some (.int s.2.1), some (.int s.2.2.1), some (.int s.2.2.2.1), some (.int s.2.2.2.2.1)] [] s.2.2.2.2.2 res := by
  unfold F_301_40B at hf
  refine Ex.seg 2 (pc' := 43) (lc' := [some (.ref 67), some (.int s.1), some (.int s.2.1), some (.int s.2.2.1), some (.int s.2.2.2.1), some (.int s.2.2.2.2.1)]) (st' := [.int s.2.1, .int s.2.2.2.2.1]) (h' := s.2.2.2.2.2) (sg1 rfl rfl (sg1 rfl rfl rfl)) ?_
  refine Ex.icmp rfl rfl (fun (c0 : s.2.1 ≤ s.2.2.2.2.1) => ?_) (fun (c0 : ¬ (s.2.1 ≤ s.2.2.2.2.1)) => ?_)
  · rw [if_pos c0] at hf
    obtain ⟨r0, hf0, rfl⟩ := Option.map_eq_some_iff.mp hf
    exact Ex.weak (sm_le_s (sm_le_s (sm_le_s (sm_le_s (sm_le_s (sm_le_n sm_le_nil)))))) (B_301_86 hd hS1 hf0 hs)
  · rw [if_neg c0] at hf
    refine Ex.seg 1 (pc' := 48) (lc' := [some (.ref 67), some (.int s.1), some (.int s.2.1), some (.int s.2.2.1), some (.int s.2.2.2.1), some (.int s.2.2.2.2.1)]) (st' := [.int s.2.2.2.1]) (h' := s.2.2.2.2.2) (sg1 rfl rfl rfl) ?_
    refine Ex.ifc rfl rfl (fun (c0 : s.2.2.2.1 = 0) => ?_) (fun (c0 : ¬ (s.2.2.2.1 = 0)) => ?_)
    · rw [if_pos c0] at hf
      obtain ⟨r0, hf0, rfl⟩ := Option.map_eq_some_iff.mp hf
      exact Ex.weak (sm_le_s (sm_le_s (sm_le_s (sm_le_s (sm_le_s (sm_le_n sm_le_nil)))))) (B_301_86 hd hS1 hf0 hs)
    · rw [if_neg c0] at hf
      refine Ex.seg 7 (pc' := 62) (lc' := [some (.ref 67), some (.int s.1), some (.int s.2.1), some (.int s.2.2.1), some (.int s.2.2.2.1), some (.int s.2.2.2.2.1)]) (st' := [.int ((10 * s.2.2.1) + s.2.2.2.2.1), .ref 74]) (h' := s.2.2.2.2.2) (sg1 rfl rfl (sg1 rfl rfl (sg1 rfl rfl (sg1 rfl rfl (sg1 rfl rfl (sg1 rfl rfl (sg1 rfl rfl rfl))))))) ?_
      obtain ⟨v3, e_v3, hf⟩ := bnd hf
      refine Ex.iald e_v3 rfl rfl ?_
      refine Ex.seg 3 (pc' := 69) (lc' := [some (.ref 67), some (.int s.1), some (.int s.2.1), some (.int s.2.2.1), some (.int s.2.2.2.1), some (.int s.2.2.2.2.1)]) (st' := [.int s.2.2.2.2.1, .ref 82, .int v3]) (h' := s.2.2.2.2.2) (sg1 rfl rfl (sg1 rfl rfl (sg1 rfl rfl rfl))) ?_
      obtain ⟨v4, e_v4, hf⟩ := bnd hf
      refine Ex.iald e_v4 rfl rfl ?_
      refine Ex.icmp rfl rfl (fun (c0 : ¬ (v3 = v4)) => ?_) (fun (c0 : ¬ ¬ (v3 = v4)) => ?_)
      · rw [if_neg c0] at hf
        refine Ex.seg 1 (pc' := 78) (lc' := [some (.ref 67), some (.int s.1), some (.int s.2.1), some (.int s.2.2.1), some (.int s.2.2.2.1), some (.int s.2.2.2.2.1)]) (st' := [.int 0]) (h' := s.2.2.2.2.2) (sg1 rfl rfl rfl) ?_
        exact Ex.weak (sm_le_s (sm_le_s (sm_le_s (sm_le_s (sm_le_n (sm_le_s sm_le_nil)))))) (B_301_78 hd hS1 hS2 hf hs)
      · rw [if_pos (Classical.not_not.mp c0)] at hf
        refine Ex.seg 2 (pc' := 78) (lc' := [some (.ref 67), some (.int s.1), some (.int s.2.1), some (.int s.2.2.1), some (.int s.2.2.2.1), some (.int s.2.2.2.2.1)]) (st' := [.int 1]) (h' := s.2.2.2.2.2) (sg1 rfl rfl (sg1 rfl rfl rfl)) ?_
        exact Ex.weak (sm_le_s (sm_le_s (sm_le_s (sm_le_s (sm_le_n (sm_le_s sm_le_nil)))))) (B_301_78 hd hS1 hS2 hf hs)
def F_301_40 (y1 : Int32) (y2 : Int32) (y3 : Int32) (y4 : Int32) (y5 : Int32) (h : sm_H) : Option ((Int32 × Int32 × Int32 × sm_H) ⊕ (Int32 × sm_H)) := lp F_301_40B 1000000 (y1, y2, y3, y4, y5, h)
theorem B_301_40 {L : Nat} {xs : Nat → Int32} {d : Nat} (hd : 0 ≤ d) {res : Option Value × sm_H} {S1 : (Int32 × Int32 × Int32 × sm_H) → Prop} (hS1 : ∀ s, S1 s → Ex (P_G L xs) (RUN L xs d) (sm_lk P_t301) 0 2 [some (.ref 67), some (.int s.1), some (.int s.2.1), some (.int s.2.2.1), none, none] [] s.2.2.2 res) {y1 : Int32} {y2 : Int32} {y3 : Int32} {y4 : Int32} {y5 : Int32}  {h : sm_H} {r : ((Int32 × Int32 × Int32 × sm_H) ⊕ (Int32 × sm_H))} (hf : F_301_40 y1 y2 y3 y4 y5 h = some r) (hs : (Sum.elim S1 (fun (r : Int32 × sm_H) => res = (some (.int r.1), r.2))) r) : Ex (P_G L xs) (RUN L xs d) (sm_lk P_t301) 0 40 [some (.ref 67), some (.int y1), some (.int y2), some (.int y3), some (.int y4), some (.int y5)] [] h res := by
  unfold F_301_40 at hf
  exact lp_ok (P := fun (s : (Int32 × Int32 × Int32 × Int32 × Int32 × sm_H)) => Ex (P_G L xs) (RUN L xs d) (sm_lk P_t301) 0 40 [some (.ref 67), some (.int s.1), some (.int s.2.1), some (.int s.2.2.1), some (.int s.2.2.2.1), some (.int s.2.2.2.2.1)] [] s.2.2.2.2.2 res) (S := (Sum.elim S1 (fun (r : Int32 × sm_H) => res = (some (.int r.1), r.2)))) (fun s x hx hsx => by
    intros
    exact B_301_40B hd hS1 (fun _ q => q) hx hsx) 1000000 _ r hf hs
def F_301_35 (y1 : Int32) (y2 : Int32) (y3 : Int32) (z0 : Int32) (h : sm_H) : Option ((Int32 × Int32 × Int32 × sm_H) ⊕ (Int32 × sm_H)) :=
  F_301_40 y1 y2 y3 z0 0 h
theorem B_301_35 {L : Nat} {xs : Nat → Int32} {d : Nat} (hd : 0 ≤ d) {res : Option Value × sm_H} {S1 : (Int32 × Int32 × Int32 × sm_H) → Prop} (hS1 : ∀ s, S1 s → Ex (P_G L xs) (RUN L xs d) (sm_lk P_t301) 0 2 [some (.ref 67), some (.int s.1), some (.int s.2.1), some (.int s.2.2.1), none, none] [] s.2.2.2 res) {y1 : Int32} {y2 : Int32} {y3 : Int32} {z0 : Int32}  {h : sm_H} {r : ((Int32 × Int32 × Int32 × sm_H) ⊕ (Int32 × sm_H))} (hf : F_301_35 y1 y2 y3 z0 h = some r) (hs : (Sum.elim S1 (fun (r : Int32 × sm_H) => res = (some (.int r.1), r.2))) r) : Ex (P_G L xs) (RUN L xs d) (sm_lk P_t301) 0 35 [some (.ref 67), some (.int y1), some (.int y2), some (.int y3), none, none] [.int z0] h res := by
  unfold F_301_35 at hf
  refine Ex.seg 3 (pc' := 40) (lc' := [some (.ref 67), some (.int y1), some (.int y2), some (.int y3), some (.int z0), some (.int 0)]) (st' := []) (h' := h) (sg1 rfl rfl (sg1 rfl rfl (sg1 rfl rfl rfl))) ?_
  exact Ex.weak (sm_le_s (sm_le_s (sm_le_s (sm_le_s (sm_le_s (sm_le_s sm_le_nil)))))) (B_301_40 hd hS1 hf hs)
def F_301_34 (y1 : Int32) (y2 : Int32) (y3 : Int32) (h : sm_H) : Option ((Int32 × Int32 × Int32 × sm_H) ⊕ (Int32 × sm_H)) :=
  F_301_35 y1 y2 y3 0 h
theorem B_301_34 {L : Nat} {xs : Nat → Int32} {d : Nat} (hd : 0 ≤ d) {res : Option Value × sm_H} {S1 : (Int32 × Int32 × Int32 × sm_H) → Prop} (hS1 : ∀ s, S1 s → Ex (P_G L xs) (RUN L xs d) (sm_lk P_t301) 0 2 [some (.ref 67), some (.int s.1), some (.int s.2.1), some (.int s.2.2.1), none, none] [] s.2.2.2 res) {y1 : Int32} {y2 : Int32} {y3 : Int32}  {h : sm_H} {r : ((Int32 × Int32 × Int32 × sm_H) ⊕ (Int32 × sm_H))} (hf : F_301_34 y1 y2 y3 h = some r) (hs : (Sum.elim S1 (fun (r : Int32 × sm_H) => res = (some (.int r.1), r.2))) r) : Ex (P_G L xs) (RUN L xs d) (sm_lk P_t301) 0 34 [some (.ref 67), some (.int y1), some (.int y2), some (.int y3), none, none] [] h res := by
  unfold F_301_34 at hf
  refine Ex.seg 1 (pc' := 35) (lc' := [some (.ref 67), some (.int y1), some (.int y2), some (.int y3), none, none]) (st' := [.int 0]) (h' := h) (sg1 rfl rfl rfl) ?_
  exact Ex.weak (sm_le_s (sm_le_s (sm_le_s (sm_le_s (sm_le_s (sm_le_s sm_le_nil)))))) (B_301_35 hd hS1 hf hs)
def F_301_2B (s : (Int32 × Int32 × Int32 × sm_H)) : Option ((Int32 × Int32 × Int32 × sm_H) ⊕ (Int32 × sm_H)) :=
  if (s.2.2.2.1 67 10) ≤ s.2.2.1 then (some (.inr ((-1), s.2.2.2)))
  else ((ldI s.2.2.2 72 300 s.2.2.1).bind fun v5 =>
  if v5 = s.1 then ((ldI s.2.2.2 73 300 s.2.2.1).bind fun v6 =>
  if v6 = s.2.1 then (F_301_35 s.1 s.2.1 s.2.2.1 1 s.2.2.2)
  else (F_301_34 s.1 s.2.1 s.2.2.1 s.2.2.2))
  else (F_301_34 s.1 s.2.1 s.2.2.1 s.2.2.2))
theorem B_301_2B {L : Nat} {xs : Nat → Int32} {d : Nat} (hd : 0 ≤ d) {res : Option Value × sm_H} {S1 : (Int32 × Int32 × Int32 × sm_H) → Prop} (hS1 : ∀ s, S1 s → Ex (P_G L xs) (RUN L xs d) (sm_lk P_t301) 0 2 [some (.ref 67), some (.int s.1), some (.int s.2.1), some (.int s.2.2.1), none, none] [] s.2.2.2 res) {s : (Int32 × Int32 × Int32 × sm_H)}  {r : ((Int32 × Int32 × Int32 × sm_H) ⊕ (Int32 × sm_H))} (hf : F_301_2B s = some r) (hs : (Sum.elim S1 (fun (r : Int32 × sm_H) => res = (some (.int r.1), r.2))) r) : Ex (P_G L xs) (RUN L xs d) (sm_lk P_t301) 0 2 [some (.ref 67), some (.int s.1), some (.int s.2.1), some (.int s.2.2.1), none, none] [] s.2.2.2 res := by
  unfold F_301_2B at hf
  refine Ex.seg 3 (pc' := 7) (lc' := [some (.ref 67), some (.int s.1), some (.int s.2.1), some (.int s.2.2.1), none, none]) (st' := [.int (s.2.2.2.1 67 10), .int s.2.2.1]) (h' := s.2.2.2) (sg1 rfl rfl (sg1 rfl rfl (sg1 rfl rfl rfl))) ?_
  refine Ex.icmp rfl rfl (fun (c0 : (s.2.2.2.1 67 10) ≤ s.2.2.1) => ?_) (fun (c0 : ¬ ((s.2.2.2.1 67 10) ≤ s.2.2.1)) => ?_)
  · rw [if_pos c0] at hf
    refine Ex.seg 1 (pc' := 100) (lc' := [some (.ref 67), some (.int s.1), some (.int s.2.1), some (.int s.2.2.1), none, none]) (st' := [.int (-1)]) (h' := s.2.2.2) (sg1 rfl rfl rfl) ?_
    obtain rfl := Option.some.inj hf
    exact Ex.iret rfl rfl (fun c0 => by cases c0) hs
  · rw [if_neg c0] at hf
    refine Ex.seg 3 (pc' := 15) (lc' := [some (.ref 67), some (.int s.1), some (.int s.2.1), some (.int s.2.2.1), none, none]) (st' := [.int s.2.2.1, .ref 72]) (h' := s.2.2.2) (sg1 rfl rfl (sg1 rfl rfl (sg1 rfl rfl rfl))) ?_
    obtain ⟨v5, e_v5, hf⟩ := bnd hf
    refine Ex.iald e_v5 rfl rfl ?_
    refine Ex.seg 1 (pc' := 17) (lc' := [some (.ref 67), some (.int s.1), some (.int s.2.1), some (.int s.2.2.1), none, none]) (st' := [.int s.1, .int v5]) (h' := s.2.2.2) (sg1 rfl rfl rfl) ?_
    refine Ex.icmp rfl rfl (fun (c0 : ¬ (v5 = s.1)) => ?_) (fun (c0 : ¬ ¬ (v5 = s.1)) => ?_)
    · rw [if_neg c0] at hf
      exact Ex.weak (sm_le_s (sm_le_s (sm_le_s (sm_le_s (sm_le_s (sm_le_s sm_le_nil)))))) (B_301_34 hd hS1 hf hs)
    · rw [if_pos (Classical.not_not.mp c0)] at hf
      refine Ex.seg 3 (pc' := 25) (lc' := [some (.ref 67), some (.int s.1), some (.int s.2.1), some (.int s.2.2.1), none, none]) (st' := [.int s.2.2.1, .ref 73]) (h' := s.2.2.2) (sg1 rfl rfl (sg1 rfl rfl (sg1 rfl rfl rfl))) ?_
      obtain ⟨v6, e_v6, hf⟩ := bnd hf
      refine Ex.iald e_v6 rfl rfl ?_
      refine Ex.seg 1 (pc' := 27) (lc' := [some (.ref 67), some (.int s.1), some (.int s.2.1), some (.int s.2.2.1), none, none]) (st' := [.int s.2.1, .int v6]) (h' := s.2.2.2) (sg1 rfl rfl rfl) ?_
      refine Ex.icmp rfl rfl (fun (c0 : ¬ (v6 = s.2.1)) => ?_) (fun (c0 : ¬ ¬ (v6 = s.2.1)) => ?_)
      · rw [if_neg c0] at hf
        exact Ex.weak (sm_le_s (sm_le_s (sm_le_s (sm_le_s (sm_le_s (sm_le_s sm_le_nil)))))) (B_301_34 hd hS1 hf hs)
      · rw [if_pos (Classical.not_not.mp c0)] at hf
        refine Ex.seg 2 (pc' := 35) (lc' := [some (.ref 67), some (.int s.1), some (.int s.2.1), some (.int s.2.2.1), none, none]) (st' := [.int 1]) (h' := s.2.2.2) (sg1 rfl rfl (sg1 rfl rfl rfl)) ?_
        exact Ex.weak (sm_le_s (sm_le_s (sm_le_s (sm_le_s (sm_le_s (sm_le_s sm_le_nil)))))) (B_301_35 hd hS1 hf hs)
def F_301_2 (y1 : Int32) (y2 : Int32) (y3 : Int32) (h : sm_H) : Option (Int32 × sm_H) := lp F_301_2B 1000000 (y1, y2, y3, h)
theorem B_301_2 {L : Nat} {xs : Nat → Int32} {d : Nat} (hd : 0 ≤ d) {res : Option Value × sm_H} {y1 : Int32} {y2 : Int32} {y3 : Int32}  {h : sm_H} {r : (Int32 × sm_H)} (hf : F_301_2 y1 y2 y3 h = some r) (hs : (fun (r : Int32 × sm_H) => res = (some (.int r.1), r.2)) r) : Ex (P_G L xs) (RUN L xs d) (sm_lk P_t301) 0 2 [some (.ref 67), some (.int y1), some (.int y2), some (.int y3), none, none] [] h res := by
  unfold F_301_2 at hf
  exact lp_ok (P := fun (s : (Int32 × Int32 × Int32 × sm_H)) => Ex (P_G L xs) (RUN L xs d) (sm_lk P_t301) 0 2 [some (.ref 67), some (.int s.1), some (.int s.2.1), some (.int s.2.2.1), none, none] [] s.2.2.2 res) (S := (fun (r : Int32 × sm_H) => res = (some (.int r.1), r.2))) (fun s x hx hsx => by
    intros
    exact B_301_2B hd  (fun _ q => q) hx hsx) 1000000 _ r hf hs
def F_301_0 (x1 : Int32) (x2 : Int32) (h : sm_H) : Option (Int32 × sm_H) :=
  F_301_2 x1 x2 0 h
theorem B_301_0 {L : Nat} {xs : Nat → Int32} {d : Nat} (hd : 0 ≤ d) {res : Option Value × sm_H} {x1 : Int32} {x2 : Int32}  {h : sm_H} {r : (Int32 × sm_H)} (hf : F_301_0 x1 x2 h = some r) (hs : (fun (r : Int32 × sm_H) => res = (some (.int r.1), r.2)) r) : Ex (P_G L xs) (RUN L xs d) (sm_lk P_t301) 0 0 [some (.ref 67), some (.int x1), some (.int x2), none, none, none] [] h res := by
  unfold F_301_0 at hf
  refine Ex.seg 2 (pc' := 2) (lc' := [some (.ref 67), some (.int x1), some (.int x2), some (.int 0), none, none]) (st' := []) (h' := h) (sg1 rfl rfl (sg1 rfl rfl rfl)) ?_
  exact Ex.weak (sm_le_s (sm_le_s (sm_le_s (sm_le_s (sm_le_s (sm_le_s sm_le_nil)))))) (B_301_2 hd  hf hs)
/-- HandleHouseModel.findType(II)I -/
abbrev F_301 (x1 : Int32) (x2 : Int32) (h : sm_H) : Option (Int32 × sm_H) := F_301_0 x1 x2 h
theorem E_301 {L : Nat} {xs : Nat → Int32} {d : Nat} (hd : 1 ≤ d) {x1 : Int32} {x2 : Int32} {h : sm_H} {r : Int32 × sm_H} (hf : F_301 x1 x2 h = some r) : RUN L xs d 301 [.ref 67, .int x1, .int x2] h (some (.int r.1), r.2) := by
  obtain ⟨d, rfl⟩ : ∃ e, d = e + 1 := ⟨d - 1, by omega⟩
  exact ⟨Nat.le_of_ble_eq_true rfl, B_301_0 (by omega) hf rfl⟩
def F_302_69B (s : (Int32 × sm_H)) : Option ((Int32 × sm_H) ⊕ (Int32 × sm_H)) :=
  if (s.2.1 67 21) ≤ s.1 then ((some (sm_wI s.2 67 10 ((s.2.1 67 10) + 1))).bind fun h1 =>
  some (.inr (((h1.1 67 10) - 1), h1)))
  else ((ldI s.2 82 64 s.1).bind fun v2 =>
  (stI s.2 74 3000 ((10 * (s.2.1 67 10)) + s.1) v2).bind fun h3 =>
  (some (s.1 + 1 : Int32)).bind fun v4 =>
  some (.inl (v4, h3)))
theorem B_302_69B {L : Nat} {xs : Nat → Int32} {d : Nat} (hd : 1 ≤ d) {res : Option Value × sm_H} {S1 : (Int32 × sm_H) → Prop} (hS1 : ∀ s, S1 s → Ex (P_G L xs) (RUN L xs d) (sm_lk P_t302) 0 69 [some (.ref 67), none, some (.int s.1)] [] s.2 res) {s : (Int32 × sm_H)}  {r : ((Int32 × sm_H) ⊕ (Int32 × sm_H))} (hf : F_302_69B s = some r) (hs : (Sum.elim S1 (fun (r : Int32 × sm_H) => res = (some (.int r.1), r.2))) r) : Ex (P_G L xs) (RUN L xs d) (sm_lk P_t302) 0 69 [some (.ref 67), none, some (.int s.1)] [] s.2 res := by
  unfold F_302_69B at hf
  refine Ex.seg 3 (pc' := 74) (lc' := [some (.ref 67), none, some (.int s.1)]) (st' := [.int (s.2.1 67 21), .int s.1]) (h' := s.2) (sg1 rfl rfl (sg1 rfl rfl (sg1 rfl rfl rfl))) ?_
  refine Ex.icmp rfl rfl (fun (c0 : (s.2.1 67 21) ≤ s.1) => ?_) (fun (c0 : ¬ ((s.2.1 67 21) ≤ s.1)) => ?_)
  · rw [if_pos c0] at hf
    refine Ex.seg 6 (pc' := 113) (lc' := [some (.ref 67), none, some (.int s.1)]) (st' := []) (h' := (sm_wI s.2 67 10 ((s.2.1 67 10) + 1))) (sg1 rfl rfl (sg1 rfl rfl (sg1 rfl rfl (sg1 rfl rfl (sg1 rfl rfl (sg1 rfl rfl rfl)))))) ?_
    obtain ⟨h1, e_h1, hf⟩ := bnd hf
    rw [Option.some.inj e_h1]
    refine Ex.seg 4 (pc' := 119) (lc' := [some (.ref 67), none, some (.int s.1)]) (st' := [.int ((h1.1 67 10) - 1)]) (h' := h1) (sg1 rfl rfl (sg1 rfl rfl (sg1 rfl rfl (sg1 rfl rfl rfl)))) ?_
    obtain rfl := Option.some.inj hf
    exact Ex.iret rfl rfl (fun c0 => by cases c0) hs
  · rw [if_neg c0] at hf
    refine Ex.seg 11 (pc' := 95) (lc' := [some (.ref 67), none, some (.int s.1)]) (st' := [.int s.1, .ref 82, .int ((10 * (s.2.1 67 10)) + s.1), .ref 74]) (h' := s.2) (sg1 rfl rfl (sg1 rfl rfl (sg1 rfl rfl (sg1 rfl rfl (sg1 rfl rfl (sg1 rfl rfl (sg1 rfl rfl (sg1 rfl rfl (sg1 rfl rfl (sg1 rfl rfl (sg1 rfl rfl rfl))))))))))) ?_
    obtain ⟨v2, e_v2, hf⟩ := bnd hf
    refine Ex.iald e_v2 rfl rfl ?_
    obtain ⟨h3, e_h3, hf⟩ := bnd hf
    refine Ex.iast e_h3 rfl rfl ?_
    refine Ex.seg 1 (pc' := 100) (lc' := [some (.ref 67), none, some (.int (s.1 + 1))]) (st' := []) (h' := h3) (sg1 rfl rfl rfl) ?_
    obtain ⟨v4, e_v4, hf⟩ := bnd hf
    rw [Option.some.inj e_v4]
    refine Ex.seg 1 (pc' := 69) (lc' := [some (.ref 67), none, some (.int v4)]) (st' := []) (h' := h3) (sg1 rfl rfl rfl) ?_
    obtain rfl := Option.some.inj hf
    exact Ex.weak (sm_le_s (sm_le_s (sm_le_s sm_le_nil))) (hS1 _ hs)
def F_302_69 (y2 : Int32) (h : sm_H) : Option (Int32 × sm_H) := lp F_302_69B 1000000 (y2, h)
theorem B_302_69 {L : Nat} {xs : Nat → Int32} {d : Nat} (hd : 1 ≤ d) {res : Option Value × sm_H} {y2 : Int32}  {h : sm_H} {r : (Int32 × sm_H)} (hf : F_302_69 y2 h = some r) (hs : (fun (r : Int32 × sm_H) => res = (some (.int r.1), r.2)) r) : Ex (P_G L xs) (RUN L xs d) (sm_lk P_t302) 0 69 [some (.ref 67), none, some (.int y2)] [] h res := by
  unfold F_302_69 at hf
  exact lp_ok (P := fun (s : (Int32 × sm_H)) => Ex (P_G L xs) (RUN L xs d) (sm_lk P_t302) 0 69 [some (.ref 67), none, some (.int s.1)] [] s.2 res) (S := (fun (r : Int32 × sm_H) => res = (some (.int r.1), r.2))) (fun s x hx hsx => by
    intros
    exact B_302_69B hd  (fun _ q => q) hx hsx) 1000000 _ r hf hs
def F_302_39 (y1 : Int32) (h : sm_H) : Option (Int32 × sm_H) :=
  some (y1, h)
theorem B_302_39 {L : Nat} {xs : Nat → Int32} {d : Nat} (hd : 1 ≤ d) {res : Option Value × sm_H} {y1 : Int32}  {h : sm_H} {r : (Int32 × sm_H)} (hf : F_302_39 y1 h = some r) (hs : (fun (r : Int32 × sm_H) => res = (some (.int r.1), r.2)) r) : Ex (P_G L xs) (RUN L xs d) (sm_lk P_t302) 0 39 [none, some (.int y1), none] [] h res := by
  unfold F_302_39 at hf
  refine Ex.seg 1 (pc' := 40) (lc' := [none, some (.int y1), none]) (st' := [.int y1]) (h' := h) (sg1 rfl rfl rfl) ?_
  obtain rfl := Option.some.inj hf
  exact Ex.iret rfl rfl (fun c0 => by cases c0) hs
def F_302_0  (h : sm_H) : Option (Int32 × sm_H) :=
  if (h.1 67 21) ≤ 10 then ((F_301 (h.1 67 20) (h.1 67 21) h).bind fun q5 =>
  if q5.1 = (-1) then (if (q5.2.1 67 10) = 300 then (F_302_39 q5.1 q5.2)
  else ((stI q5.2 72 300 (q5.2.1 67 10) (q5.2.1 67 20)).bind fun h6 =>
  (stI h6 73 300 (h6.1 67 10) (h6.1 67 21)).bind fun h7 =>
  F_302_69 0 h7))
  else (F_302_39 q5.1 q5.2))
  else (some ((-1), h))
theorem B_302_0 {L : Nat} {xs : Nat → Int32} {d : Nat} (hd : 1 ≤ d) {res : Option Value × sm_H}   {h : sm_H} {r : (Int32 × sm_H)} (hf : F_302_0  h = some r) (hs : (fun (r : Int32 × sm_H) => res = (some (.int r.1), r.2)) r) : Ex (P_G L xs) (RUN L xs d) (sm_lk P_t302) 0 0 [some (.ref 67), none, none] [] h res := by
  unfold F_302_0 at hf
  refine Ex.seg 3 (pc' := 6) (lc' := [some (.ref 67), none, none]) (st' := [.int 10, .int (h.1 67 21)]) (h' := h) (sg1 rfl rfl (sg1 rfl rfl (sg1 rfl rfl rfl))) ?_
  refine Ex.icmp rfl rfl (fun (c0 : (h.1 67 21) ≤ 10) => ?_) (fun (c0 : ¬ ((h.1 67 21) ≤ 10)) => ?_)
  · rw [if_pos c0] at hf
    refine Ex.seg 5 (pc' := 20) (lc' := [some (.ref 67), none, none]) (st' := [.int (h.1 67 21), .int (h.1 67 20), .ref 67]) (h' := h) (sg1 rfl rfl (sg1 rfl rfl (sg1 rfl rfl (sg1 rfl rfl (sg1 rfl rfl rfl))))) ?_
    obtain ⟨q5, e_q5, hf⟩ := bnd hf
    refine Ex.callV (a := 67) (As := [.int (h.1 67 20), .int (h.1 67 21)]) (r := []) (v := some (.int q5.1)) (h' := q5.2) rfl rfl (by decide) rfl (Nat.le_of_ble_eq_true rfl) rfl (E_301 (Nat.le_trans (by decide) hd) e_q5) rfl ?_
    refine Ex.seg 3 (pc' := 26) (lc' := [some (.ref 67), some (.int q5.1), none]) (st' := [.int (-1), .int q5.1]) (h' := q5.2) (sg1 rfl rfl (sg1 rfl rfl (sg1 rfl rfl rfl))) ?_
    refine Ex.icmp rfl rfl (fun (c0 : ¬ (q5.1 = (-1))) => ?_) (fun (c0 : ¬ ¬ (q5.1 = (-1))) => ?_)
    · rw [if_neg c0] at hf
      exact Ex.weak (sm_le_n (sm_le_s (sm_le_s sm_le_nil))) (B_302_39 hd  hf hs)
    · rw [if_pos (Classical.not_not.mp c0)] at hf
      refine Ex.seg 3 (pc' := 36) (lc' := [some (.ref 67), some (.int q5.1), none]) (st' := [.int 300, .int (q5.2.1 67 10)]) (h' := q5.2) (sg1 rfl rfl (sg1 rfl rfl (sg1 rfl rfl rfl))) ?_
      refine Ex.icmp rfl rfl (fun (c0 : ¬ ((q5.2.1 67 10) = 300)) => ?_) (fun (c0 : ¬ ¬ ((q5.2.1 67 10) = 300)) => ?_)
      · rw [if_neg c0] at hf
        refine Ex.seg 6 (pc' := 53) (lc' := [some (.ref 67), some (.int q5.1), none]) (st' := [.int (q5.2.1 67 20), .int (q5.2.1 67 10), .ref 72]) (h' := q5.2) (sg1 rfl rfl (sg1 rfl rfl (sg1 rfl rfl (sg1 rfl rfl (sg1 rfl rfl (sg1 rfl rfl rfl)))))) ?_
        obtain ⟨h6, e_h6, hf⟩ := bnd hf
        refine Ex.iast e_h6 rfl rfl ?_
        refine Ex.seg 6 (pc' := 66) (lc' := [some (.ref 67), some (.int q5.1), none]) (st' := [.int (h6.1 67 21), .int (h6.1 67 10), .ref 73]) (h' := h6) (sg1 rfl rfl (sg1 rfl rfl (sg1 rfl rfl (sg1 rfl rfl (sg1 rfl rfl (sg1 rfl rfl rfl)))))) ?_
        obtain ⟨h7, e_h7, hf⟩ := bnd hf
        refine Ex.iast e_h7 rfl rfl ?_
        refine Ex.seg 2 (pc' := 69) (lc' := [some (.ref 67), some (.int q5.1), some (.int 0)]) (st' := []) (h' := h7) (sg1 rfl rfl (sg1 rfl rfl rfl)) ?_
        exact Ex.weak (sm_le_s (sm_le_n (sm_le_s sm_le_nil))) (B_302_69 hd  hf hs)
      · rw [if_pos (Classical.not_not.mp c0)] at hf
        exact Ex.weak (sm_le_n (sm_le_s (sm_le_s sm_le_nil))) (B_302_39 hd  hf hs)
  · rw [if_neg c0] at hf
    refine Ex.seg 1 (pc' := 10) (lc' := [some (.ref 67), none, none]) (st' := [.int (-1)]) (h' := h) (sg1 rfl rfl rfl) ?_
    obtain rfl := Option.some.inj hf
    exact Ex.iret rfl rfl (fun c0 => by cases c0) hs
/-- HandleHouseModel.madeType()I -/
abbrev F_302  (h : sm_H) : Option (Int32 × sm_H) := F_302_0  h
theorem E_302 {L : Nat} {xs : Nat → Int32} {d : Nat} (hd : 2 ≤ d)  {h : sm_H} {r : Int32 × sm_H} (hf : F_302  h = some r) : RUN L xs d 302 [.ref 67] h (some (.int r.1), r.2) := by
  obtain ⟨d, rfl⟩ : ∃ e, d = e + 1 := ⟨d - 1, by omega⟩
  exact ⟨Nat.le_of_ble_eq_true rfl, B_302_0 (by omega) hf rfl⟩
def F_303_17 (z0 : Int32) (h : sm_H) : Option (Int32 × sm_H) :=
  if z0 = 0 ∨ z0 = 1 then some (z0, h) else none
theorem B_303_17 {L : Nat} {xs : Nat → Int32} {d : Nat} (hd : 0 ≤ d) {res : Option Value × sm_H} {z0 : Int32}  {h : sm_H} {r : (Int32 × sm_H)} (hf : F_303_17 z0 h = some r) (hs : (fun (r : Int32 × sm_H) => res = (some (.int r.1), r.2)) r) : Ex (P_G L xs) (RUN L xs d) (sm_lk P_t303) 3 17 [none, none] [.int z0] h res := by
  unfold F_303_17 at hf
  rcases Classical.em (z0 = 0 ∨ z0 = 1) with c0 | c0
  · rw [if_pos c0] at hf
    obtain rfl := Option.some.inj hf
    exact Ex.iret rfl rfl (fun _ => c0) hs
  · rw [if_neg c0] at hf
    cases hf
def F_303_16  (h : sm_H) : Option (Int32 × sm_H) :=
  F_303_17 0 h
theorem B_303_16 {L : Nat} {xs : Nat → Int32} {d : Nat} (hd : 0 ≤ d) {res : Option Value × sm_H}   {h : sm_H} {r : (Int32 × sm_H)} (hf : F_303_16  h = some r) (hs : (fun (r : Int32 × sm_H) => res = (some (.int r.1), r.2)) r) : Ex (P_G L xs) (RUN L xs d) (sm_lk P_t303) 3 16 [none, none] [] h res := by
  unfold F_303_16 at hf
  refine Ex.seg 1 (pc' := 17) (lc' := [none, none]) (st' := [.int 0]) (h' := h) (sg1 rfl rfl rfl) ?_
  exact Ex.weak (sm_le_s (sm_le_s sm_le_nil)) (B_303_17 hd  hf hs)
def F_303_0 (x1 : Int32) (h : sm_H) : Option (Int32 × sm_H) :=
  if x1 < 0 then (F_303_16 h)
  else (if (h.1 67 10) ≤ x1 then (F_303_16 h)
  else (F_303_17 1 h))
theorem B_303_0 {L : Nat} {xs : Nat → Int32} {d : Nat} (hd : 0 ≤ d) {res : Option Value × sm_H} {x1 : Int32}  {h : sm_H} {r : (Int32 × sm_H)} (hf : F_303_0 x1 h = some r) (hs : (fun (r : Int32 × sm_H) => res = (some (.int r.1), r.2)) r) : Ex (P_G L xs) (RUN L xs d) (sm_lk P_t303) 3 0 [some (.ref 67), some (.int x1)] [] h res := by
  unfold F_303_0 at hf
  refine Ex.seg 1 (pc' := 1) (lc' := [some (.ref 67), some (.int x1)]) (st' := [.int x1]) (h' := h) (sg1 rfl rfl rfl) ?_
  refine Ex.ifc rfl rfl (fun (c0 : x1 < 0) => ?_) (fun (c0 : ¬ (x1 < 0)) => ?_)
  · rw [if_pos c0] at hf
    exact Ex.weak (sm_le_n (sm_le_n sm_le_nil)) (B_303_16 hd  hf hs)
  · rw [if_neg c0] at hf
    refine Ex.seg 3 (pc' := 9) (lc' := [some (.ref 67), some (.int x1)]) (st' := [.int (h.1 67 10), .int x1]) (h' := h) (sg1 rfl rfl (sg1 rfl rfl (sg1 rfl rfl rfl))) ?_
    refine Ex.icmp rfl rfl (fun (c0 : (h.1 67 10) ≤ x1) => ?_) (fun (c0 : ¬ ((h.1 67 10) ≤ x1)) => ?_)
    · rw [if_pos c0] at hf
      exact Ex.weak (sm_le_n (sm_le_n sm_le_nil)) (B_303_16 hd  hf hs)
    · rw [if_neg c0] at hf
      refine Ex.seg 2 (pc' := 17) (lc' := [some (.ref 67), some (.int x1)]) (st' := [.int 1]) (h' := h) (sg1 rfl rfl (sg1 rfl rfl rfl)) ?_
      exact Ex.weak (sm_le_n (sm_le_n sm_le_nil)) (B_303_17 hd  hf hs)
/-- HandleHouseModel.isType(I)Z -/
abbrev F_303 (x1 : Int32) (h : sm_H) : Option (Int32 × sm_H) := F_303_0 x1 h
theorem E_303 {L : Nat} {xs : Nat → Int32} {d : Nat} (hd : 1 ≤ d) {x1 : Int32} {h : sm_H} {r : Int32 × sm_H} (hf : F_303 x1 h = some r) : RUN L xs d 303 [.ref 67, .int x1] h (some (.int r.1), r.2) := by
  obtain ⟨d, rfl⟩ : ∃ e, d = e + 1 := ⟨d - 1, by omega⟩
  exact ⟨Nat.le_of_ble_eq_true rfl, B_303_0 (by omega) hf rfl⟩
def F_304_17 (z0 : Int32) (h : sm_H) : Option (Int32 × sm_H) :=
  if z0 = 0 ∨ z0 = 1 then some (z0, h) else none
theorem B_304_17 {L : Nat} {xs : Nat → Int32} {d : Nat} (hd : 0 ≤ d) {res : Option Value × sm_H} {z0 : Int32}  {h : sm_H} {r : (Int32 × sm_H)} (hf : F_304_17 z0 h = some r) (hs : (fun (r : Int32 × sm_H) => res = (some (.int r.1), r.2)) r) : Ex (P_G L xs) (RUN L xs d) (sm_lk P_t304) 3 17 [none, none] [.int z0] h res := by
  unfold F_304_17 at hf
  rcases Classical.em (z0 = 0 ∨ z0 = 1) with c0 | c0
  · rw [if_pos c0] at hf
    obtain rfl := Option.some.inj hf
    exact Ex.iret rfl rfl (fun _ => c0) hs
  · rw [if_neg c0] at hf
    cases hf
def F_304_16  (h : sm_H) : Option (Int32 × sm_H) :=
  F_304_17 0 h
theorem B_304_16 {L : Nat} {xs : Nat → Int32} {d : Nat} (hd : 0 ≤ d) {res : Option Value × sm_H}   {h : sm_H} {r : (Int32 × sm_H)} (hf : F_304_16  h = some r) (hs : (fun (r : Int32 × sm_H) => res = (some (.int r.1), r.2)) r) : Ex (P_G L xs) (RUN L xs d) (sm_lk P_t304) 3 16 [none, none] [] h res := by
  unfold F_304_16 at hf
  refine Ex.seg 1 (pc' := 17) (lc' := [none, none]) (st' := [.int 0]) (h' := h) (sg1 rfl rfl rfl) ?_
  exact Ex.weak (sm_le_s (sm_le_s sm_le_nil)) (B_304_17 hd  hf hs)
def F_304_0 (x1 : Int32) (h : sm_H) : Option (Int32 × sm_H) :=
  if x1 < 0 then (F_304_16 h)
  else (if (h.1 67 18) ≤ x1 then (F_304_16 h)
  else (F_304_17 1 h))
theorem B_304_0 {L : Nat} {xs : Nat → Int32} {d : Nat} (hd : 0 ≤ d) {res : Option Value × sm_H} {x1 : Int32}  {h : sm_H} {r : (Int32 × sm_H)} (hf : F_304_0 x1 h = some r) (hs : (fun (r : Int32 × sm_H) => res = (some (.int r.1), r.2)) r) : Ex (P_G L xs) (RUN L xs d) (sm_lk P_t304) 3 0 [some (.ref 67), some (.int x1)] [] h res := by
  unfold F_304_0 at hf
  refine Ex.seg 1 (pc' := 1) (lc' := [some (.ref 67), some (.int x1)]) (st' := [.int x1]) (h' := h) (sg1 rfl rfl rfl) ?_
  refine Ex.ifc rfl rfl (fun (c0 : x1 < 0) => ?_) (fun (c0 : ¬ (x1 < 0)) => ?_)
  · rw [if_pos c0] at hf
    exact Ex.weak (sm_le_n (sm_le_n sm_le_nil)) (B_304_16 hd  hf hs)
  · rw [if_neg c0] at hf
    refine Ex.seg 3 (pc' := 9) (lc' := [some (.ref 67), some (.int x1)]) (st' := [.int (h.1 67 18), .int x1]) (h' := h) (sg1 rfl rfl (sg1 rfl rfl (sg1 rfl rfl rfl))) ?_
    refine Ex.icmp rfl rfl (fun (c0 : (h.1 67 18) ≤ x1) => ?_) (fun (c0 : ¬ ((h.1 67 18) ≤ x1)) => ?_)
    · rw [if_pos c0] at hf
      exact Ex.weak (sm_le_n (sm_le_n sm_le_nil)) (B_304_16 hd  hf hs)
    · rw [if_neg c0] at hf
      refine Ex.seg 2 (pc' := 17) (lc' := [some (.ref 67), some (.int x1)]) (st' := [.int 1]) (h' := h) (sg1 rfl rfl (sg1 rfl rfl rfl)) ?_
      exact Ex.weak (sm_le_n (sm_le_n sm_le_nil)) (B_304_17 hd  hf hs)
/-- HandleHouseModel.isHandle(I)Z -/
abbrev F_304 (x1 : Int32) (h : sm_H) : Option (Int32 × sm_H) := F_304_0 x1 h
theorem E_304 {L : Nat} {xs : Nat → Int32} {d : Nat} (hd : 1 ≤ d) {x1 : Int32} {h : sm_H} {r : Int32 × sm_H} (hf : F_304 x1 h = some r) : RUN L xs d 304 [.ref 67, .int x1] h (some (.int r.1), r.2) := by
  obtain ⟨d, rfl⟩ : ∃ e, d = e + 1 := ⟨d - 1, by omega⟩
  exact ⟨Nat.le_of_ble_eq_true rfl, B_304_0 (by omega) hf rfl⟩
def F_305_0 (x1 : Int32) (h : sm_H) : Option (Int32 × sm_H) :=
  (ldI h 76 500 x1).bind fun v1 =>
  (ldI h 73 300 v1).bind fun v2 =>
  some (v2, h)
theorem B_305_0 {L : Nat} {xs : Nat → Int32} {d : Nat} (hd : 0 ≤ d) {res : Option Value × sm_H} {x1 : Int32}  {h : sm_H} {r : (Int32 × sm_H)} (hf : F_305_0 x1 h = some r) (hs : (fun (r : Int32 × sm_H) => res = (some (.int r.1), r.2)) r) : Ex (P_G L xs) (RUN L xs d) (sm_lk P_t305) 0 0 [some (.ref 67), some (.int x1)] [] h res := by
  unfold F_305_0 at hf
  refine Ex.seg 5 (pc' := 9) (lc' := [some (.ref 67), some (.int x1)]) (st' := [.int x1, .ref 76, .ref 73]) (h' := h) (sg1 rfl rfl (sg1 rfl rfl (sg1 rfl rfl (sg1 rfl rfl (sg1 rfl rfl rfl))))) ?_
  obtain ⟨v1, e_v1, hf⟩ := bnd hf
  refine Ex.iald e_v1 rfl rfl ?_
  obtain ⟨v2, e_v2, hf⟩ := bnd hf
  refine Ex.iald e_v2 rfl rfl ?_
  obtain rfl := Option.some.inj hf
  exact Ex.iret rfl rfl (fun c0 => by cases c0) hs
/-- HandleHouseModel.many(I)I -/
abbrev F_305 (x1 : Int32) (h : sm_H) : Option (Int32 × sm_H) := F_305_0 x1 h
theorem E_305 {L : Nat} {xs : Nat → Int32} {d : Nat} (hd : 1 ≤ d) {x1 : Int32} {h : sm_H} {r : Int32 × sm_H} (hf : F_305 x1 h = some r) : RUN L xs d 305 [.ref 67, .int x1] h (some (.int r.1), r.2) := by
  obtain ⟨d, rfl⟩ : ∃ e, d = e + 1 := ⟨d - 1, by omega⟩
  exact ⟨Nat.le_of_ble_eq_true rfl, B_305_0 (by omega) hf rfl⟩
def F_306_0 (x1 : Int32) (x2 : Int32) (h : sm_H) : Option (Int32 × sm_H) :=
  (ldI h 76 500 x1).bind fun v1 =>
  (ldI h 74 3000 ((10 * v1) + x2)).bind fun v2 =>
  some (v2, h)
theorem B_306_0 {L : Nat} {xs : Nat → Int32} {d : Nat} (hd : 0 ≤ d) {res : Option Value × sm_H} {x1 : Int32} {x2 : Int32}  {h : sm_H} {r : (Int32 × sm_H)} (hf : F_306_0 x1 x2 h = some r) (hs : (fun (r : Int32 × sm_H) => res = (some (.int r.1), r.2)) r) : Ex (P_G L xs) (RUN L xs d) (sm_lk P_t306) 0 0 [some (.ref 67), some (.int x1), some (.int x2)] [] h res := by
  unfold F_306_0 at hf
  refine Ex.seg 6 (pc' := 11) (lc' := [some (.ref 67), some (.int x1), some (.int x2)]) (st' := [.int x1, .ref 76, .int 10, .ref 74]) (h' := h) (sg1 rfl rfl (sg1 rfl rfl (sg1 rfl rfl (sg1 rfl rfl (sg1 rfl rfl (sg1 rfl rfl rfl)))))) ?_
  obtain ⟨v1, e_v1, hf⟩ := bnd hf
  refine Ex.iald e_v1 rfl rfl ?_
  refine Ex.seg 3 (pc' := 15) (lc' := [some (.ref 67), some (.int x1), some (.int x2)]) (st' := [.int ((10 * v1) + x2), .ref 74]) (h' := h) (sg1 rfl rfl (sg1 rfl rfl (sg1 rfl rfl rfl))) ?_
  obtain ⟨v2, e_v2, hf⟩ := bnd hf
  refine Ex.iald e_v2 rfl rfl ?_
  obtain rfl := Option.some.inj hf
  exact Ex.iret rfl rfl (fun c0 => by cases c0) hs
/-- HandleHouseModel.place(II)I -/
abbrev F_306 (x1 : Int32) (x2 : Int32) (h : sm_H) : Option (Int32 × sm_H) := F_306_0 x1 x2 h
theorem E_306 {L : Nat} {xs : Nat → Int32} {d : Nat} (hd : 1 ≤ d) {x1 : Int32} {x2 : Int32} {h : sm_H} {r : Int32 × sm_H} (hf : F_306 x1 x2 h = some r) : RUN L xs d 306 [.ref 67, .int x1, .int x2] h (some (.int r.1), r.2) := by
  obtain ⟨d, rfl⟩ : ∃ e, d = e + 1 := ⟨d - 1, by omega⟩
  exact ⟨Nat.le_of_ble_eq_true rfl, B_306_0 (by omega) hf rfl⟩
def F_307_0 (x1 : Int32) (h : sm_H) : Option (Int32 × sm_H) :=
  (ldI h 76 500 x1).bind fun v1 =>
  (ldI h 72 300 v1).bind fun v2 =>
  some (v2, h)
theorem B_307_0 {L : Nat} {xs : Nat → Int32} {d : Nat} (hd : 0 ≤ d) {res : Option Value × sm_H} {x1 : Int32}  {h : sm_H} {r : (Int32 × sm_H)} (hf : F_307_0 x1 h = some r) (hs : (fun (r : Int32 × sm_H) => res = (some (.int r.1), r.2)) r) : Ex (P_G L xs) (RUN L xs d) (sm_lk P_t307) 0 0 [some (.ref 67), some (.int x1)] [] h res := by
  unfold F_307_0 at hf
  refine Ex.seg 5 (pc' := 9) (lc' := [some (.ref 67), some (.int x1)]) (st' := [.int x1, .ref 76, .ref 72]) (h' := h) (sg1 rfl rfl (sg1 rfl rfl (sg1 rfl rfl (sg1 rfl rfl (sg1 rfl rfl rfl))))) ?_
  obtain ⟨v1, e_v1, hf⟩ := bnd hf
  refine Ex.iald e_v1 rfl rfl ?_
  obtain ⟨v2, e_v2, hf⟩ := bnd hf
  refine Ex.iald e_v2 rfl rfl ?_
  obtain rfl := Option.some.inj hf
  exact Ex.iret rfl rfl (fun c0 => by cases c0) hs
/-- HandleHouseModel.result(I)I -/
abbrev F_307 (x1 : Int32) (h : sm_H) : Option (Int32 × sm_H) := F_307_0 x1 h
theorem E_307 {L : Nat} {xs : Nat → Int32} {d : Nat} (hd : 1 ≤ d) {x1 : Int32} {h : sm_H} {r : Int32 × sm_H} (hf : F_307 x1 h = some r) : RUN L xs d 307 [.ref 67, .int x1] h (some (.int r.1), r.2) := by
  obtain ⟨d, rfl⟩ : ∃ e, d = e + 1 := ⟨d - 1, by omega⟩
  exact ⟨Nat.le_of_ble_eq_true rfl, B_307_0 (by omega) hf rfl⟩
def F_308_0 (x1 : Int32) (h : sm_H) : Option (sm_H) :=
  (some (sm_wI h 67 20 x1)).bind fun h1 =>
  (some (sm_wI h1 67 21 0)).bind fun h2 =>
  some h2
theorem B_308_0 {L : Nat} {xs : Nat → Int32} {d : Nat} (hd : 0 ≤ d) {res : Option Value × sm_H} {x1 : Int32}  {h : sm_H} {r : (sm_H)} (hf : F_308_0 x1 h = some r) (hs : (fun (r : sm_H) => res = (none, r)) r) : Ex (P_G L xs) (RUN L xs d) (sm_lk P_t308) 0 0 [some (.ref 67), some (.int x1)] [] h res := by
  unfold F_308_0 at hf
  refine Ex.seg 3 (pc' := 5) (lc' := [some (.ref 67), some (.int x1)]) (st' := []) (h' := (sm_wI h 67 20 x1)) (sg1 rfl rfl (sg1 rfl rfl (sg1 rfl rfl rfl))) ?_
  obtain ⟨h1, e_h1, hf⟩ := bnd hf
  rw [Option.some.inj e_h1]
  refine Ex.seg 3 (pc' := 10) (lc' := [some (.ref 67), some (.int x1)]) (st' := []) (h' := (sm_wI h1 67 21 0)) (sg1 rfl rfl (sg1 rfl rfl (sg1 rfl rfl rfl))) ?_
  obtain ⟨h2, e_h2, hf⟩ := bnd hf
  rw [Option.some.inj e_h2]
  obtain rfl := Option.some.inj hf
  exact Ex.vret rfl rfl hs
/-- HandleHouseModel.clearNew(I)V -/
abbrev F_308 (x1 : Int32) (h : sm_H) : Option (sm_H) := F_308_0 x1 h
theorem E_308 {L : Nat} {xs : Nat → Int32} {d : Nat} (hd : 1 ≤ d) {x1 : Int32} {h : sm_H} {r : sm_H} (hf : F_308 x1 h = some r) : RUN L xs d 308 [.ref 67, .int x1] h (none, r) := by
  obtain ⟨d, rfl⟩ : ∃ e, d = e + 1 := ⟨d - 1, by omega⟩
  exact ⟨Nat.le_of_ble_eq_true rfl, B_308_0 (by omega) hf rfl⟩
def F_309_0 (x1 : Int32) (h : sm_H) : Option (sm_H) :=
  (stI h 82 64 (h.1 67 21) x1).bind fun h1 =>
  (some (sm_wI h1 67 21 ((h1.1 67 21) + 1))).bind fun h2 =>
  some h2
theorem B_309_0 {L : Nat} {xs : Nat → Int32} {d : Nat} (hd : 0 ≤ d) {res : Option Value × sm_H} {x1 : Int32}  {h : sm_H} {r : (sm_H)} (hf : F_309_0 x1 h = some r) (hs : (fun (r : sm_H) => res = (none, r)) r) : Ex (P_G L xs) (RUN L xs d) (sm_lk P_t309) 0 0 [some (.ref 67), some (.int x1)] [] h res := by
  unfold F_309_0 at hf
  refine Ex.seg 5 (pc' := 9) (lc' := [some (.ref 67), some (.int x1)]) (st' := [.int x1, .int (h.1 67 21), .ref 82]) (h' := h) (sg1 rfl rfl (sg1 rfl rfl (sg1 rfl rfl (sg1 rfl rfl (sg1 rfl rfl rfl))))) ?_
  obtain ⟨h1, e_h1, hf⟩ := bnd hf
  refine Ex.iast e_h1 rfl rfl ?_
  refine Ex.seg 6 (pc' := 20) (lc' := [some (.ref 67), some (.int x1)]) (st' := []) (h' := (sm_wI h1 67 21 ((h1.1 67 21) + 1))) (sg1 rfl rfl (sg1 rfl rfl (sg1 rfl rfl (sg1 rfl rfl (sg1 rfl rfl (sg1 rfl rfl rfl)))))) ?_
  obtain ⟨h2, e_h2, hf⟩ := bnd hf
  rw [Option.some.inj e_h2]
  obtain rfl := Option.some.inj hf
  exact Ex.vret rfl rfl hs
/-- HandleHouseModel.addNew(I)V -/
abbrev F_309 (x1 : Int32) (h : sm_H) : Option (sm_H) := F_309_0 x1 h
theorem E_309 {L : Nat} {xs : Nat → Int32} {d : Nat} (hd : 1 ≤ d) {x1 : Int32} {h : sm_H} {r : sm_H} (hf : F_309 x1 h = some r) : RUN L xs d 309 [.ref 67, .int x1] h (none, r) := by
  obtain ⟨d, rfl⟩ : ∃ e, d = e + 1 := ⟨d - 1, by omega⟩
  exact ⟨Nat.le_of_ble_eq_true rfl, B_309_0 (by omega) hf rfl⟩
def F_310_3B (s : (Int32 × Int32 × Int32 × sm_H)) : Option ((Int32 × Int32 × Int32 × sm_H) ⊕ (sm_H)) :=
  if s.2.1 ≤ s.2.2.1 then (some (.inr (s.2.2.2)))
  else ((F_306 s.1 s.2.2.1 s.2.2.2).bind fun q1 =>
  (F_309 q1.1 q1.2).bind fun q2 =>
  (some (s.2.2.1 + 1 : Int32)).bind fun v3 =>
  some (.inl (s.1, s.2.1, v3, q2)))
theorem B_310_3B {L : Nat} {xs : Nat → Int32} {d : Nat} (hd : 1 ≤ d) {res : Option Value × sm_H} {S1 : (Int32 × Int32 × Int32 × sm_H) → Prop} (hS1 : ∀ s, S1 s → Ex (P_G L xs) (RUN L xs d) (sm_lk P_t310) 0 3 [some (.ref 67), some (.int s.1), none, some (.int s.2.1), some (.int s.2.2.1)] [] s.2.2.2 res) {s : (Int32 × Int32 × Int32 × sm_H)}  {r : ((Int32 × Int32 × Int32 × sm_H) ⊕ (sm_H))} (hf : F_310_3B s = some r) (hs : (Sum.elim S1 (fun (r : sm_H) => res = (none, r))) r) : Ex (P_G L xs) (RUN L xs d) (sm_lk P_t310) 0 3 [some (.ref 67), some (.int s.1), none, some (.int s.2.1), some (.int s.2.2.1)] [] s.2.2.2 res := by
  unfold F_310_3B at hf
  refine Ex.seg 2 (pc' := 6) (lc' := [some (.ref 67), some (.int s.1), none, some (.int s.2.1), some (.int s.2.2.1)]) (st' := [.int s.2.1, .int s.2.2.1]) (h' := s.2.2.2) (sg1 rfl rfl (sg1 rfl rfl rfl)) ?_
  refine Ex.icmp rfl rfl (fun (c0 : s.2.1 ≤ s.2.2.1) => ?_) (fun (c0 : ¬ (s.2.1 ≤ s.2.2.1)) => ?_)
  · rw [if_pos c0] at hf
    obtain rfl := Option.some.inj hf
    exact Ex.vret rfl rfl hs
  · rw [if_neg c0] at hf
    refine Ex.seg 4 (pc' := 14) (lc' := [some (.ref 67), some (.int s.1), none, some (.int s.2.1), some (.int s.2.2.1)]) (st' := [.int s.2.2.1, .int s.1, .ref 67, .ref 67]) (h' := s.2.2.2) (sg1 rfl rfl (sg1 rfl rfl (sg1 rfl rfl (sg1 rfl rfl rfl)))) ?_
    obtain ⟨q1, e_q1, hf⟩ := bnd hf
    refine Ex.callV (a := 67) (As := [.int s.1, .int s.2.2.1]) (r := [.ref 67]) (v := some (.int q1.1)) (h' := q1.2) rfl rfl (by decide) rfl (Nat.le_of_ble_eq_true rfl) rfl (E_306 (Nat.le_trans (by decide) hd) e_q1) rfl ?_
    obtain ⟨q2, e_q2, hf⟩ := bnd hf
    refine Ex.callV (a := 67) (As := [.int q1.1]) (r := []) (v := none) (h' := q2) rfl rfl (by decide) rfl (Nat.le_of_ble_eq_true rfl) rfl (E_309 (Nat.le_trans (by decide) hd) e_q2) rfl ?_
    refine Ex.seg 1 (pc' := 23) (lc' := [some (.ref 67), some (.int s.1), none, some (.int s.2.1), some (.int (s.2.2.1 + 1))]) (st' := []) (h' := q2) (sg1 rfl rfl rfl) ?_
    obtain ⟨v3, e_v3, hf⟩ := bnd hf
    rw [Option.some.inj e_v3]
    refine Ex.seg 1 (pc' := 3) (lc' := [some (.ref 67), some (.int s.1), none, some (.int s.2.1), some (.int v3)]) (st' := []) (h' := q2) (sg1 rfl rfl rfl) ?_
    obtain rfl := Option.some.inj hf
    exact Ex.weak (sm_le_s (sm_le_s (sm_le_s (sm_le_s (sm_le_s sm_le_nil))))) (hS1 _ hs)
def F_310_3 (y1 : Int32) (y3 : Int32) (y4 : Int32) (h : sm_H) : Option (sm_H) := lp F_310_3B 1000000 (y1, y3, y4, h)
theorem B_310_3 {L : Nat} {xs : Nat → Int32} {d : Nat} (hd : 1 ≤ d) {res : Option Value × sm_H} {y1 : Int32} {y3 : Int32} {y4 : Int32}  {h : sm_H} {r : (sm_H)} (hf : F_310_3 y1 y3 y4 h = some r) (hs : (fun (r : sm_H) => res = (none, r)) r) : Ex (P_G L xs) (RUN L xs d) (sm_lk P_t310) 0 3 [some (.ref 67), some (.int y1), none, some (.int y3), some (.int y4)] [] h res := by
  unfold F_310_3 at hf
  exact lp_ok (P := fun (s : (Int32 × Int32 × Int32 × sm_H)) => Ex (P_G L xs) (RUN L xs d) (sm_lk P_t310) 0 3 [some (.ref 67), some (.int s.1), none, some (.int s.2.1), some (.int s.2.2.1)] [] s.2.2.2 res) (S := (fun (r : sm_H) => res = (none, r))) (fun s x hx hsx => by
    intros
    exact B_310_3B hd  (fun _ q => q) hx hsx) 1000000 _ r hf hs
def F_310_0 (x1 : Int32) (x2 : Int32) (x3 : Int32) (h : sm_H) : Option (sm_H) :=
  F_310_3 x1 x3 x2 h
theorem B_310_0 {L : Nat} {xs : Nat → Int32} {d : Nat} (hd : 1 ≤ d) {res : Option Value × sm_H} {x1 : Int32} {x2 : Int32} {x3 : Int32}  {h : sm_H} {r : (sm_H)} (hf : F_310_0 x1 x2 x3 h = some r) (hs : (fun (r : sm_H) => res = (none, r)) r) : Ex (P_G L xs) (RUN L xs d) (sm_lk P_t310) 0 0 [some (.ref 67), some (.int x1), some (.int x2), some (.int x3), none] [] h res := by
  unfold F_310_0 at hf
  refine Ex.seg 2 (pc' := 3) (lc' := [some (.ref 67), some (.int x1), some (.int x2), some (.int x3), some (.int x2)]) (st' := []) (h' := h) (sg1 rfl rfl (sg1 rfl rfl rfl)) ?_
  exact Ex.weak (sm_le_s (sm_le_s (sm_le_n (sm_le_s (sm_le_s sm_le_nil))))) (B_310_3 hd  hf hs)
/-- HandleHouseModel.addPlaces(III)V -/
abbrev F_310 (x1 : Int32) (x2 : Int32) (x3 : Int32) (h : sm_H) : Option (sm_H) := F_310_0 x1 x2 x3 h
theorem E_310 {L : Nat} {xs : Nat → Int32} {d : Nat} (hd : 2 ≤ d) {x1 : Int32} {x2 : Int32} {x3 : Int32} {h : sm_H} {r : sm_H} (hf : F_310 x1 x2 x3 h = some r) : RUN L xs d 310 [.ref 67, .int x1, .int x2, .int x3] h (none, r) := by
  obtain ⟨d, rfl⟩ : ∃ e, d = e + 1 := ⟨d - 1, by omega⟩
  exact ⟨Nat.le_of_ble_eq_true rfl, B_310_0 (by omega) hf rfl⟩
def F_311_2B (s : (Int32 × Int32 × sm_H)) : Option ((Int32 × Int32 × sm_H) ⊕ (sm_H)) :=
  (ldI s.2.2 73 300 s.1).bind fun v1 =>
  if v1 ≤ s.2.1 then (some (.inr (s.2.2)))
  else ((ldI s.2.2 74 3000 ((10 * s.1) + s.2.1)).bind fun v2 =>
  (F_309 v2 s.2.2).bind fun q3 =>
  (some (s.2.1 + 1 : Int32)).bind fun v4 =>
  some (.inl (s.1, v4, q3)))
theorem B_311_2B {L : Nat} {xs : Nat → Int32} {d : Nat} (hd : 1 ≤ d) {res : Option Value × sm_H} {S1 : (Int32 × Int32 × sm_H) → Prop} (hS1 : ∀ s, S1 s → Ex (P_G L xs) (RUN L xs d) (sm_lk P_t311) 0 2 [some (.ref 67), some (.int s.1), some (.int s.2.1)] [] s.2.2 res) {s : (Int32 × Int32 × sm_H)}  {r : ((Int32 × Int32 × sm_H) ⊕ (sm_H))} (hf : F_311_2B s = some r) (hs : (Sum.elim S1 (fun (r : sm_H) => res = (none, r))) r) : Ex (P_G L xs) (RUN L xs d) (sm_lk P_t311) 0 2 [some (.ref 67), some (.int s.1), some (.int s.2.1)] [] s.2.2 res := by
  unfold F_311_2B at hf
  refine Ex.seg 4 (pc' := 8) (lc' := [some (.ref 67), some (.int s.1), some (.int s.2.1)]) (st' := [.int s.1, .ref 73, .int s.2.1]) (h' := s.2.2) (sg1 rfl rfl (sg1 rfl rfl (sg1 rfl rfl (sg1 rfl rfl rfl)))) ?_
  obtain ⟨v1, e_v1, hf⟩ := bnd hf
  refine Ex.iald e_v1 rfl rfl ?_
  refine Ex.icmp rfl rfl (fun (c0 : v1 ≤ s.2.1) => ?_) (fun (c0 : ¬ (v1 ≤ s.2.1)) => ?_)
  · rw [if_pos c0] at hf
    obtain rfl := Option.some.inj hf
    exact Ex.vret rfl rfl hs
  · rw [if_neg c0] at hf
    refine Ex.seg 8 (pc' := 23) (lc' := [some (.ref 67), some (.int s.1), some (.int s.2.1)]) (st' := [.int ((10 * s.1) + s.2.1), .ref 74, .ref 67]) (h' := s.2.2) (sg1 rfl rfl (sg1 rfl rfl (sg1 rfl rfl (sg1 rfl rfl (sg1 rfl rfl (sg1 rfl rfl (sg1 rfl rfl (sg1 rfl rfl rfl)))))))) ?_
    obtain ⟨v2, e_v2, hf⟩ := bnd hf
    refine Ex.iald e_v2 rfl rfl ?_
    obtain ⟨q3, e_q3, hf⟩ := bnd hf
    refine Ex.callV (a := 67) (As := [.int v2]) (r := []) (v := none) (h' := q3) rfl rfl (by decide) rfl (Nat.le_of_ble_eq_true rfl) rfl (E_309 (Nat.le_trans (by decide) hd) e_q3) rfl ?_
    refine Ex.seg 1 (pc' := 30) (lc' := [some (.ref 67), some (.int s.1), some (.int (s.2.1 + 1))]) (st' := []) (h' := q3) (sg1 rfl rfl rfl) ?_
    obtain ⟨v4, e_v4, hf⟩ := bnd hf
    rw [Option.some.inj e_v4]
    refine Ex.seg 1 (pc' := 2) (lc' := [some (.ref 67), some (.int s.1), some (.int v4)]) (st' := []) (h' := q3) (sg1 rfl rfl rfl) ?_
    obtain rfl := Option.some.inj hf
    exact Ex.weak (sm_le_s (sm_le_s (sm_le_s sm_le_nil))) (hS1 _ hs)
def F_311_2 (y1 : Int32) (y2 : Int32) (h : sm_H) : Option (sm_H) := lp F_311_2B 1000000 (y1, y2, h)
theorem B_311_2 {L : Nat} {xs : Nat → Int32} {d : Nat} (hd : 1 ≤ d) {res : Option Value × sm_H} {y1 : Int32} {y2 : Int32}  {h : sm_H} {r : (sm_H)} (hf : F_311_2 y1 y2 h = some r) (hs : (fun (r : sm_H) => res = (none, r)) r) : Ex (P_G L xs) (RUN L xs d) (sm_lk P_t311) 0 2 [some (.ref 67), some (.int y1), some (.int y2)] [] h res := by
  unfold F_311_2 at hf
  exact lp_ok (P := fun (s : (Int32 × Int32 × sm_H)) => Ex (P_G L xs) (RUN L xs d) (sm_lk P_t311) 0 2 [some (.ref 67), some (.int s.1), some (.int s.2.1)] [] s.2.2 res) (S := (fun (r : sm_H) => res = (none, r))) (fun s x hx hsx => by
    intros
    exact B_311_2B hd  (fun _ q => q) hx hsx) 1000000 _ r hf hs
def F_311_0 (x1 : Int32) (h : sm_H) : Option (sm_H) :=
  F_311_2 x1 0 h
theorem B_311_0 {L : Nat} {xs : Nat → Int32} {d : Nat} (hd : 1 ≤ d) {res : Option Value × sm_H} {x1 : Int32}  {h : sm_H} {r : (sm_H)} (hf : F_311_0 x1 h = some r) (hs : (fun (r : sm_H) => res = (none, r)) r) : Ex (P_G L xs) (RUN L xs d) (sm_lk P_t311) 0 0 [some (.ref 67), some (.int x1), none] [] h res := by
  unfold F_311_0 at hf
  refine Ex.seg 2 (pc' := 2) (lc' := [some (.ref 67), some (.int x1), some (.int 0)]) (st' := []) (h' := h) (sg1 rfl rfl (sg1 rfl rfl rfl)) ?_
  exact Ex.weak (sm_le_s (sm_le_s (sm_le_s sm_le_nil))) (B_311_2 hd  hf hs)
/-- HandleHouseModel.addTypePlaces(I)V -/
abbrev F_311 (x1 : Int32) (h : sm_H) : Option (sm_H) := F_311_0 x1 h
theorem E_311 {L : Nat} {xs : Nat → Int32} {d : Nat} (hd : 2 ≤ d) {x1 : Int32} {h : sm_H} {r : sm_H} (hf : F_311 x1 h = some r) : RUN L xs d 311 [.ref 67, .int x1] h (none, r) := by
  obtain ⟨d, rfl⟩ : ∃ e, d = e + 1 := ⟨d - 1, by omega⟩
  exact ⟨Nat.le_of_ble_eq_true rfl, B_311_0 (by omega) hf rfl⟩
def F_312_47  (h : sm_H) : Option (Int32 × sm_H) :=
  some (0, h)
theorem B_312_47 {L : Nat} {xs : Nat → Int32} {d : Nat} (hd : 1 ≤ d) {res : Option Value × sm_H}   {h : sm_H} {r : (Int32 × sm_H)} (hf : F_312_47  h = some r) (hs : (fun (r : Int32 × sm_H) => res = (some (.int r.1), r.2)) r) : Ex (P_G L xs) (RUN L xs d) (sm_lk P_t312) 3 47 [none, none, none, none, none] [] h res := by
  unfold F_312_47 at hf
  refine Ex.seg 1 (pc' := 48) (lc' := [none, none, none, none, none]) (st' := [.int 0]) (h' := h) (sg1 rfl rfl rfl) ?_
  obtain rfl := Option.some.inj hf
  exact Ex.iret rfl rfl (fun _ => by decide) hs
def F_312_3B (s : (Int32 × Int32 × Int32 × Int32 × sm_H)) : Option ((Int32 × Int32 × Int32 × Int32 × sm_H) ⊕ (Int32 × sm_H)) :=
  (F_305 s.1 s.2.2.2.2).bind fun q1 =>
  if q1.1 ≤ s.2.2.2.1 then (some (.inr (1, q1.2)))
  else (if (q1.2.1 67 21) ≤ ((s.2.2.1 + s.2.2.2.1) - s.2.1) then ((F_312_47 q1.2).map fun r => (.inr r))
  else ((ldI q1.2 82 64 ((s.2.2.1 + s.2.2.2.1) - s.2.1)).bind fun v2 =>
  (F_306 s.1 s.2.2.2.1 q1.2).bind fun q3 =>
  if v2 = q3.1 then ((some (s.2.2.2.1 + 1 : Int32)).bind fun v4 =>
  some (.inl (s.1, s.2.1, s.2.2.1, v4, q3.2)))
  else ((F_312_47 q3.2).map fun r => (.inr r))))
theorem B_312_3B {L : Nat} {xs : Nat → Int32} {d : Nat} (hd : 1 ≤ d) {res : Option Value × sm_H} {S1 : (Int32 × Int32 × Int32 × Int32 × sm_H) → Prop} (hS1 : ∀ s, S1 s → Ex (P_G L xs) (RUN L xs d) (sm_lk P_t312) 3 3 [some (.ref 67), some (.int s.1), some (.int s.2.1), some (.int s.2.2.1), some (.int s.2.2.2.1)] [] s.2.2.2.2 res) {s : (Int32 × Int32 × Int32 × Int32 × sm_H)}  {r : ((Int32 × Int32 × Int32 × Int32 × sm_H) ⊕ (Int32 × sm_H))} (hf : F_312_3B s = some r) (hs : (Sum.elim S1 (fun (r : Int32 × sm_H) => res = (some (.int r.1), r.2))) r) : Ex (P_G L xs) (RUN L xs d) (sm_lk P_t312) 3 3 [some (.ref 67), some (.int s.1), some (.int s.2.1), some (.int s.2.2.1), some (.int s.2.2.2.1)] [] s.2.2.2.2 res := by
  unfold F_312_3B at hf
  refine Ex.seg 3 (pc' := 7) (lc' := [some (.ref 67), some (.int s.1), some (.int s.2.1), some (.int s.2.2.1), some (.int s.2.2.2.1)]) (st' := [.int s.1, .ref 67, .int s.2.2.2.1]) (h' := s.2.2.2.2) (sg1 rfl rfl (sg1 rfl rfl (sg1 rfl rfl rfl))) ?_
  obtain ⟨q1, e_q1, hf⟩ := bnd hf
  refine Ex.callV (a := 67) (As := [.int s.1]) (r := [.int s.2.2.2.1]) (v := some (.int q1.1)) (h' := q1.2) rfl rfl (by decide) rfl (Nat.le_of_ble_eq_true rfl) rfl (E_305 (Nat.le_trans (by decide) hd) e_q1) rfl ?_
  refine Ex.icmp rfl rfl (fun (c0 : q1.1 ≤ s.2.2.2.1) => ?_) (fun (c0 : ¬ (q1.1 ≤ s.2.2.2.1)) => ?_)
  · rw [if_pos c0] at hf
    refine Ex.seg 1 (pc' := 56) (lc' := [some (.ref 67), some (.int s.1), some (.int s.2.1), some (.int s.2.2.1), some (.int s.2.2.2.1)]) (st' := [.int 1]) (h' := q1.2) (sg1 rfl rfl rfl) ?_
    obtain rfl := Option.some.inj hf
    exact Ex.iret rfl rfl (fun _ => by decide) hs
  · rw [if_neg c0] at hf
    refine Ex.seg 7 (pc' := 23) (lc' := [some (.ref 67), some (.int s.1), some (.int s.2.1), some (.int s.2.2.1), some (.int s.2.2.2.1)]) (st' := [.int (q1.2.1 67 21), .int ((s.2.2.1 + s.2.2.2.1) - s.2.1)]) (h' := q1.2) (sg1 rfl rfl (sg1 rfl rfl (sg1 rfl rfl (sg1 rfl rfl (sg1 rfl rfl (sg1 rfl rfl (sg1 rfl rfl rfl))))))) ?_
    refine Ex.icmp rfl rfl (fun (c0 : (q1.2.1 67 21) ≤ ((s.2.2.1 + s.2.2.2.1) - s.2.1)) => ?_) (fun (c0 : ¬ ((q1.2.1 67 21) ≤ ((s.2.2.1 + s.2.2.2.1) - s.2.1))) => ?_)
    · rw [if_pos c0] at hf
      obtain ⟨r0, hf0, rfl⟩ := Option.map_eq_some_iff.mp hf
      exact Ex.weak (sm_le_n (sm_le_n (sm_le_n (sm_le_n (sm_le_n sm_le_nil))))) (B_312_47 hd  hf0 hs)
    · rw [if_neg c0] at hf
      refine Ex.seg 7 (pc' := 36) (lc' := [some (.ref 67), some (.int s.1), some (.int s.2.1), some (.int s.2.2.1), some (.int s.2.2.2.1)]) (st' := [.int ((s.2.2.1 + s.2.2.2.1) - s.2.1), .ref 82]) (h' := q1.2) (sg1 rfl rfl (sg1 rfl rfl (sg1 rfl rfl (sg1 rfl rfl (sg1 rfl rfl (sg1 rfl rfl (sg1 rfl rfl rfl))))))) ?_
      obtain ⟨v2, e_v2, hf⟩ := bnd hf
      refine Ex.iald e_v2 rfl rfl ?_
      refine Ex.seg 3 (pc' := 41) (lc' := [some (.ref 67), some (.int s.1), some (.int s.2.1), some (.int s.2.2.1), some (.int s.2.2.2.1)]) (st' := [.int s.2.2.2.1, .int s.1, .ref 67, .int v2]) (h' := q1.2) (sg1 rfl rfl (sg1 rfl rfl (sg1 rfl rfl rfl))) ?_
      obtain ⟨q3, e_q3, hf⟩ := bnd hf
      refine Ex.callV (a := 67) (As := [.int s.1, .int s.2.2.2.1]) (r := [.int v2]) (v := some (.int q3.1)) (h' := q3.2) rfl rfl (by decide) rfl (Nat.le_of_ble_eq_true rfl) rfl (E_306 (Nat.le_trans (by decide) hd) e_q3) rfl ?_
      refine Ex.icmp rfl rfl (fun (c0 : v2 = q3.1) => ?_) (fun (c0 : ¬ (v2 = q3.1)) => ?_)
      · rw [if_pos c0] at hf
        refine Ex.seg 1 (pc' := 52) (lc' := [some (.ref 67), some (.int s.1), some (.int s.2.1), some (.int s.2.2.1), some (.int (s.2.2.2.1 + 1))]) (st' := []) (h' := q3.2) (sg1 rfl rfl rfl) ?_
        obtain ⟨v4, e_v4, hf⟩ := bnd hf
        rw [Option.some.inj e_v4]
        refine Ex.seg 1 (pc' := 3) (lc' := [some (.ref 67), some (.int s.1), some (.int s.2.1), some (.int s.2.2.1), some (.int v4)]) (st' := []) (h' := q3.2) (sg1 rfl rfl rfl) ?_
        obtain rfl := Option.some.inj hf
        exact Ex.weak (sm_le_s (sm_le_s (sm_le_s (sm_le_s (sm_le_s sm_le_nil))))) (hS1 _ hs)
      · rw [if_neg c0] at hf
        obtain ⟨r0, hf0, rfl⟩ := Option.map_eq_some_iff.mp hf
        exact Ex.weak (sm_le_n (sm_le_n (sm_le_n (sm_le_n (sm_le_n sm_le_nil))))) (B_312_47 hd  hf0 hs)
def F_312_3 (y1 : Int32) (y2 : Int32) (y3 : Int32) (y4 : Int32) (h : sm_H) : Option (Int32 × sm_H) := lp F_312_3B 1000000 (y1, y2, y3, y4, h)
theorem B_312_3 {L : Nat} {xs : Nat → Int32} {d : Nat} (hd : 1 ≤ d) {res : Option Value × sm_H} {y1 : Int32} {y2 : Int32} {y3 : Int32} {y4 : Int32}  {h : sm_H} {r : (Int32 × sm_H)} (hf : F_312_3 y1 y2 y3 y4 h = some r) (hs : (fun (r : Int32 × sm_H) => res = (some (.int r.1), r.2)) r) : Ex (P_G L xs) (RUN L xs d) (sm_lk P_t312) 3 3 [some (.ref 67), some (.int y1), some (.int y2), some (.int y3), some (.int y4)] [] h res := by
  unfold F_312_3 at hf
  exact lp_ok (P := fun (s : (Int32 × Int32 × Int32 × Int32 × sm_H)) => Ex (P_G L xs) (RUN L xs d) (sm_lk P_t312) 3 3 [some (.ref 67), some (.int s.1), some (.int s.2.1), some (.int s.2.2.1), some (.int s.2.2.2.1)] [] s.2.2.2.2 res) (S := (fun (r : Int32 × sm_H) => res = (some (.int r.1), r.2))) (fun s x hx hsx => by
    intros
    exact B_312_3B hd  (fun _ q => q) hx hsx) 1000000 _ r hf hs
def F_312_0 (x1 : Int32) (x2 : Int32) (x3 : Int32) (h : sm_H) : Option (Int32 × sm_H) :=
  F_312_3 x1 x2 x3 x2 h
theorem B_312_0 {L : Nat} {xs : Nat → Int32} {d : Nat} (hd : 1 ≤ d) {res : Option Value × sm_H} {x1 : Int32} {x2 : Int32} {x3 : Int32}  {h : sm_H} {r : (Int32 × sm_H)} (hf : F_312_0 x1 x2 x3 h = some r) (hs : (fun (r : Int32 × sm_H) => res = (some (.int r.1), r.2)) r) : Ex (P_G L xs) (RUN L xs d) (sm_lk P_t312) 3 0 [some (.ref 67), some (.int x1), some (.int x2), some (.int x3), none] [] h res := by
  unfold F_312_0 at hf
  refine Ex.seg 2 (pc' := 3) (lc' := [some (.ref 67), some (.int x1), some (.int x2), some (.int x3), some (.int x2)]) (st' := []) (h' := h) (sg1 rfl rfl (sg1 rfl rfl rfl)) ?_
  exact Ex.weak (sm_le_s (sm_le_s (sm_le_s (sm_le_s (sm_le_s sm_le_nil))))) (B_312_3 hd  hf hs)
/-- HandleHouseModel.areFirst(III)Z -/
abbrev F_312 (x1 : Int32) (x2 : Int32) (x3 : Int32) (h : sm_H) : Option (Int32 × sm_H) := F_312_0 x1 x2 x3 h
theorem E_312 {L : Nat} {xs : Nat → Int32} {d : Nat} (hd : 2 ≤ d) {x1 : Int32} {x2 : Int32} {x3 : Int32} {h : sm_H} {r : Int32 × sm_H} (hf : F_312 x1 x2 x3 h = some r) : RUN L xs d 312 [.ref 67, .int x1, .int x2, .int x3] h (some (.int r.1), r.2) := by
  obtain ⟨d, rfl⟩ : ∃ e, d = e + 1 := ⟨d - 1, by omega⟩
  exact ⟨Nat.le_of_ble_eq_true rfl, B_312_0 (by omega) hf rfl⟩
def F_313_0 (x0 : Int32) (h : sm_H) : Option (Int32 × sm_H) :=
  some (((-1) - x0), h)
theorem B_313_0 {L : Nat} {xs : Nat → Int32} {d : Nat} (hd : 0 ≤ d) {res : Option Value × sm_H} {x0 : Int32}  {h : sm_H} {r : (Int32 × sm_H)} (hf : F_313_0 x0 h = some r) (hs : (fun (r : Int32 × sm_H) => res = (some (.int r.1), r.2)) r) : Ex (P_G L xs) (RUN L xs d) (sm_lk P_t313) 0 0 [some (.int x0)] [] h res := by
  unfold F_313_0 at hf
  refine Ex.seg 3 (pc' := 3) (lc' := [some (.int x0)]) (st' := [.int ((-1) - x0)]) (h' := h) (sg1 rfl rfl (sg1 rfl rfl (sg1 rfl rfl rfl))) ?_
  obtain rfl := Option.some.inj hf
  exact Ex.iret rfl rfl (fun c0 => by cases c0) hs
/-- HandleHouseModel.simpler(I)I -/
abbrev F_313 (x0 : Int32) (h : sm_H) : Option (Int32 × sm_H) := F_313_0 x0 h
theorem E_313 {L : Nat} {xs : Nat → Int32} {d : Nat} (hd : 1 ≤ d) {x0 : Int32} {h : sm_H} {r : Int32 × sm_H} (hf : F_313 x0 h = some r) : RUN L xs d 313 [.int x0] h (some (.int r.1), r.2) := by
  obtain ⟨d, rfl⟩ : ∃ e, d = e + 1 := ⟨d - 1, by omega⟩
  exact ⟨Nat.le_of_ble_eq_true rfl, B_313_0 (by omega) hf rfl⟩
def F_314_2B (s : (Int32 × Int32 × sm_H)) : Option ((Int32 × Int32 × sm_H) ⊕ (Int32 × sm_H)) :=
  if s.1 ≤ s.2.1 then (some (.inr (1, s.2.2)))
  else ((ldI s.2.2 69 24 s.2.1).bind fun v1 =>
  (F_304 v1 s.2.2).bind fun q2 =>
  if q2.1 = 0 then (some (.inr (0, q2.2)))
  else ((some (s.2.1 + 1 : Int32)).bind fun v3 =>
  some (.inl (s.1, v3, q2.2))))
theorem B_314_2B {L : Nat} {xs : Nat → Int32} {d : Nat} (hd : 1 ≤ d) {res : Option Value × sm_H} {S1 : (Int32 × Int32 × sm_H) → Prop} (hS1 : ∀ s, S1 s → Ex (P_G L xs) (RUN L xs d) (sm_lk P_t314) 3 2 [some (.ref 67), none, some (.int s.1), some (.int s.2.1)] [] s.2.2 res) {s : (Int32 × Int32 × sm_H)}  {r : ((Int32 × Int32 × sm_H) ⊕ (Int32 × sm_H))} (hf : F_314_2B s = some r) (hs : (Sum.elim S1 (fun (r : Int32 × sm_H) => res = (some (.int r.1), r.2))) r) : Ex (P_G L xs) (RUN L xs d) (sm_lk P_t314) 3 2 [some (.ref 67), none, some (.int s.1), some (.int s.2.1)] [] s.2.2 res := by
  unfold F_314_2B at hf
  refine Ex.seg 2 (pc' := 4) (lc' := [some (.ref 67), none, some (.int s.1), some (.int s.2.1)]) (st' := [.int s.1, .int s.2.1]) (h' := s.2.2) (sg1 rfl rfl (sg1 rfl rfl rfl)) ?_
  refine Ex.icmp rfl rfl (fun (c0 : s.1 ≤ s.2.1) => ?_) (fun (c0 : ¬ (s.1 ≤ s.2.1)) => ?_)
  · rw [if_pos c0] at hf
    refine Ex.seg 1 (pc' := 29) (lc' := [some (.ref 67), none, some (.int s.1), some (.int s.2.1)]) (st' := [.int 1]) (h' := s.2.2) (sg1 rfl rfl rfl) ?_
    obtain rfl := Option.some.inj hf
    exact Ex.iret rfl rfl (fun _ => by decide) hs
  · rw [if_neg c0] at hf
    refine Ex.seg 4 (pc' := 13) (lc' := [some (.ref 67), none, some (.int s.1), some (.int s.2.1)]) (st' := [.int s.2.1, .ref 69, .ref 67]) (h' := s.2.2) (sg1 rfl rfl (sg1 rfl rfl (sg1 rfl rfl (sg1 rfl rfl rfl)))) ?_
    obtain ⟨v1, e_v1, hf⟩ := bnd hf
    refine Ex.iald e_v1 rfl rfl ?_
    obtain ⟨q2, e_q2, hf⟩ := bnd hf
    refine Ex.callV (a := 67) (As := [.int v1]) (r := []) (v := some (.int q2.1)) (h' := q2.2) rfl rfl (by decide) rfl (Nat.le_of_ble_eq_true rfl) rfl (E_304 (Nat.le_trans (by decide) hd) e_q2) rfl ?_
    refine Ex.ifc rfl rfl (fun (c0 : ¬ (q2.1 = 0)) => ?_) (fun (c0 : ¬ ¬ (q2.1 = 0)) => ?_)
    · rw [if_neg c0] at hf
      refine Ex.seg 1 (pc' := 25) (lc' := [some (.ref 67), none, some (.int s.1), some (.int (s.2.1 + 1))]) (st' := []) (h' := q2.2) (sg1 rfl rfl rfl) ?_
      obtain ⟨v3, e_v3, hf⟩ := bnd hf
      rw [Option.some.inj e_v3]
      refine Ex.seg 1 (pc' := 2) (lc' := [some (.ref 67), none, some (.int s.1), some (.int v3)]) (st' := []) (h' := q2.2) (sg1 rfl rfl rfl) ?_
      obtain rfl := Option.some.inj hf
      exact Ex.weak (sm_le_s (sm_le_s (sm_le_s (sm_le_s sm_le_nil)))) (hS1 _ hs)
    · rw [if_pos (Classical.not_not.mp c0)] at hf
      refine Ex.seg 1 (pc' := 21) (lc' := [some (.ref 67), none, some (.int s.1), some (.int s.2.1)]) (st' := [.int 0]) (h' := q2.2) (sg1 rfl rfl rfl) ?_
      obtain rfl := Option.some.inj hf
      exact Ex.iret rfl rfl (fun _ => by decide) hs
def F_314_2 (y2 : Int32) (y3 : Int32) (h : sm_H) : Option (Int32 × sm_H) := lp F_314_2B 1000000 (y2, y3, h)
theorem B_314_2 {L : Nat} {xs : Nat → Int32} {d : Nat} (hd : 1 ≤ d) {res : Option Value × sm_H} {y2 : Int32} {y3 : Int32}  {h : sm_H} {r : (Int32 × sm_H)} (hf : F_314_2 y2 y3 h = some r) (hs : (fun (r : Int32 × sm_H) => res = (some (.int r.1), r.2)) r) : Ex (P_G L xs) (RUN L xs d) (sm_lk P_t314) 3 2 [some (.ref 67), none, some (.int y2), some (.int y3)] [] h res := by
  unfold F_314_2 at hf
  exact lp_ok (P := fun (s : (Int32 × Int32 × sm_H)) => Ex (P_G L xs) (RUN L xs d) (sm_lk P_t314) 3 2 [some (.ref 67), none, some (.int s.1), some (.int s.2.1)] [] s.2.2 res) (S := (fun (r : Int32 × sm_H) => res = (some (.int r.1), r.2))) (fun s x hx hsx => by
    intros
    exact B_314_2B hd  (fun _ q => q) hx hsx) 1000000 _ r hf hs
def F_314_0 (x1 : Int32) (x2 : Int32) (h : sm_H) : Option (Int32 × sm_H) :=
  F_314_2 x2 x1 h
theorem B_314_0 {L : Nat} {xs : Nat → Int32} {d : Nat} (hd : 1 ≤ d) {res : Option Value × sm_H} {x1 : Int32} {x2 : Int32}  {h : sm_H} {r : (Int32 × sm_H)} (hf : F_314_0 x1 x2 h = some r) (hs : (fun (r : Int32 × sm_H) => res = (some (.int r.1), r.2)) r) : Ex (P_G L xs) (RUN L xs d) (sm_lk P_t314) 3 0 [some (.ref 67), some (.int x1), some (.int x2), none] [] h res := by
  unfold F_314_0 at hf
  refine Ex.seg 2 (pc' := 2) (lc' := [some (.ref 67), some (.int x1), some (.int x2), some (.int x1)]) (st' := []) (h' := h) (sg1 rfl rfl (sg1 rfl rfl rfl)) ?_
  exact Ex.weak (sm_le_s (sm_le_n (sm_le_s (sm_le_s sm_le_nil)))) (B_314_2 hd  hf hs)
/-- HandleHouseModel.areHandles(II)Z -/
abbrev F_314 (x1 : Int32) (x2 : Int32) (h : sm_H) : Option (Int32 × sm_H) := F_314_0 x1 x2 h
theorem E_314 {L : Nat} {xs : Nat → Int32} {d : Nat} (hd : 2 ≤ d) {x1 : Int32} {x2 : Int32} {h : sm_H} {r : Int32 × sm_H} (hf : F_314 x1 x2 h = some r) : RUN L xs d 314 [.ref 67, .int x1, .int x2] h (some (.int r.1), r.2) := by
  obtain ⟨d, rfl⟩ : ∃ e, d = e + 1 := ⟨d - 1, by omega⟩
  exact ⟨Nat.le_of_ble_eq_true rfl, B_314_0 (by omega) hf rfl⟩
def F_315_18 (z0 : Int32) (h : sm_H) : Option (Int32 × sm_H) :=
  if z0 = 0 ∨ z0 = 1 then some (z0, h) else none
theorem B_315_18 {L : Nat} {xs : Nat → Int32} {d : Nat} (hd : 0 ≤ d) {res : Option Value × sm_H} {z0 : Int32}  {h : sm_H} {r : (Int32 × sm_H)} (hf : F_315_18 z0 h = some r) (hs : (fun (r : Int32 × sm_H) => res = (some (.int r.1), r.2)) r) : Ex (P_G L xs) (RUN L xs d) (sm_lk P_t315) 3 18 [none, none, none, none, none, none] [.int z0] h res := by
  unfold F_315_18 at hf
  rcases Classical.em (z0 = 0 ∨ z0 = 1) with c0 | c0
  · rw [if_pos c0] at hf
    obtain rfl := Option.some.inj hf
    exact Ex.iret rfl rfl (fun _ => c0) hs
  · rw [if_neg c0] at hf
    cases hf
def F_315_13  (h : sm_H) : Option (Int32 × sm_H) :=
  F_315_18 1 h
theorem B_315_13 {L : Nat} {xs : Nat → Int32} {d : Nat} (hd : 0 ≤ d) {res : Option Value × sm_H}   {h : sm_H} {r : (Int32 × sm_H)} (hf : F_315_13  h = some r) (hs : (fun (r : Int32 × sm_H) => res = (some (.int r.1), r.2)) r) : Ex (P_G L xs) (RUN L xs d) (sm_lk P_t315) 3 13 [none, none, none, none, none, none] [] h res := by
  unfold F_315_13 at hf
  refine Ex.seg 2 (pc' := 18) (lc' := [none, none, none, none, none, none]) (st' := [.int 1]) (h' := h) (sg1 rfl rfl (sg1 rfl rfl rfl)) ?_
  exact Ex.weak (sm_le_s (sm_le_s (sm_le_s (sm_le_s (sm_le_s (sm_le_s sm_le_nil)))))) (B_315_18 hd  hf hs)
def F_315_0 (x0 : Int64) (x2 : Int64) (x4 : Int64) (h : sm_H) : Option (Int32 × sm_H) :=
  if (lg_cmp x0 x2) < 0 then (F_315_13 h)
  else (if (lg_cmp x0 x4) ≤ 0 then (F_315_18 0 h)
  else (F_315_13 h))
theorem B_315_0 {L : Nat} {xs : Nat → Int32} {d : Nat} (hd : 0 ≤ d) {res : Option Value × sm_H} {x0 : Int64} {x2 : Int64} {x4 : Int64}  {h : sm_H} {r : (Int32 × sm_H)} (hf : F_315_0 x0 x2 x4 h = some r) (hs : (fun (r : Int32 × sm_H) => res = (some (.int r.1), r.2)) r) : Ex (P_G L xs) (RUN L xs d) (sm_lk P_t315) 3 0 [some (.long x0), none, some (.long x2), none, some (.long x4), none] [] h res := by
  unfold F_315_0 at hf
  refine Ex.seg 3 (pc' := 3) (lc' := [some (.long x0), none, some (.long x2), none, some (.long x4), none]) (st' := [.int (lg_cmp x0 x2)]) (h' := h) (sg1 rfl rfl (sg1 rfl rfl (sg1 rfl rfl rfl))) ?_
  refine Ex.ifc rfl rfl (fun (c0 : (lg_cmp x0 x2) < 0) => ?_) (fun (c0 : ¬ ((lg_cmp x0 x2) < 0)) => ?_)
  · rw [if_pos c0] at hf
    exact Ex.weak (sm_le_n (sm_le_s (sm_le_n (sm_le_s (sm_le_n (sm_le_s sm_le_nil)))))) (B_315_13 hd  hf hs)
  · rw [if_neg c0] at hf
    refine Ex.seg 3 (pc' := 10) (lc' := [some (.long x0), none, some (.long x2), none, some (.long x4), none]) (st' := [.int (lg_cmp x0 x4)]) (h' := h) (sg1 rfl rfl (sg1 rfl rfl (sg1 rfl rfl rfl))) ?_
    refine Ex.ifc rfl rfl (fun (c0 : (lg_cmp x0 x4) ≤ 0) => ?_) (fun (c0 : ¬ ((lg_cmp x0 x4) ≤ 0)) => ?_)
    · rw [if_pos c0] at hf
      refine Ex.seg 1 (pc' := 18) (lc' := [some (.long x0), none, some (.long x2), none, some (.long x4), none]) (st' := [.int 0]) (h' := h) (sg1 rfl rfl rfl) ?_
      exact Ex.weak (sm_le_n (sm_le_s (sm_le_n (sm_le_s (sm_le_n (sm_le_s sm_le_nil)))))) (B_315_18 hd  hf hs)
    · rw [if_neg c0] at hf
      exact Ex.weak (sm_le_n (sm_le_s (sm_le_n (sm_le_s (sm_le_n (sm_le_s sm_le_nil)))))) (B_315_13 hd  hf hs)
/-- HandleHouseModel.outside(JJJ)Z -/
abbrev F_315 (x0 : Int64) (x2 : Int64) (x4 : Int64) (h : sm_H) : Option (Int32 × sm_H) := F_315_0 x0 x2 x4 h
theorem E_315 {L : Nat} {xs : Nat → Int32} {d : Nat} (hd : 1 ≤ d) {x0 : Int64} {x2 : Int64} {x4 : Int64} {h : sm_H} {r : Int32 × sm_H} (hf : F_315 x0 x2 x4 h = some r) : RUN L xs d 315 [.long x0, .long x2, .long x4] h (some (.int r.1), r.2) := by
  obtain ⟨d, rfl⟩ : ∃ e, d = e + 1 := ⟨d - 1, by omega⟩
  exact ⟨Nat.le_of_ble_eq_true rfl, B_315_0 (by omega) hf rfl⟩
def F_318_25  (h : sm_H) : Option (Int32 × sm_H) :=
  some (1, h)
theorem B_318_25 {L : Nat} {xs : Nat → Int32} {d : Nat} (hd : 2 ≤ d) {res : Option Value × sm_H}   {h : sm_H} {r : (Int32 × sm_H)} (hf : F_318_25  h = some r) (hs : (fun (r : Int32 × sm_H) => res = (some (.int r.1), r.2)) r) : Ex (P_G L xs) (RUN L xs d) (sm_lk P_t318) 0 25 [none, none, none, none] [] h res := by
  unfold F_318_25 at hf
  refine Ex.seg 1 (pc' := 26) (lc' := [none, none, none, none]) (st' := [.int 1]) (h' := h) (sg1 rfl rfl rfl) ?_
  obtain rfl := Option.some.inj hf
  exact Ex.iret rfl rfl (fun c0 => by cases c0) hs
def F_318_0 (x1 : Int32) (x2 : Int32) (h : sm_H) : Option (Int32 × sm_H) :=
  if (h.1 67 3) = 1 then ((F_314 0 1 h).bind fun q1 =>
  if q1.1 = 0 then (F_318_25 q1.2)
  else ((F_303 x2 q1.2).bind fun q2 =>
  if q2.1 = 0 then (F_318_25 q2.2)
  else ((ldI q2.2 69 24 0).bind fun v3 =>
  (F_305 v3 q2.2).bind fun q4 =>
  (F_315 (Int32.toInt64 x1) 0 (Int32.toInt64 q4.1) q4.2).bind fun q5 =>
  if q5.1 = 0 then ((ldI q5.2 73 300 x2).bind fun v6 =>
  if v6 = 0 then ((F_313 v3 q5.2).bind fun q13 =>
  some (q13.1, q13.2))
  else ((F_307 v3 q5.2).bind fun q7 =>
  (F_308 q7.1 q7.2).bind fun q8 =>
  (F_310 v3 0 x1 q8).bind fun q9 =>
  (F_311 x2 q9).bind fun q10 =>
  (F_305 v3 q10).bind fun q11 =>
  (F_310 v3 x1 q11.1 q11.2).bind fun q12 =>
  some (0, q12)))
  else (some (2, q5.2)))))
  else (F_318_25 h)
theorem B_318_0 {L : Nat} {xs : Nat → Int32} {d : Nat} (hd : 2 ≤ d) {res : Option Value × sm_H} {x1 : Int32} {x2 : Int32}  {h : sm_H} {r : (Int32 × sm_H)} (hf : F_318_0 x1 x2 h = some r) (hs : (fun (r : Int32 × sm_H) => res = (some (.int r.1), r.2)) r) : Ex (P_G L xs) (RUN L xs d) (sm_lk P_t318) 0 0 [some (.ref 67), some (.int x1), some (.int x2), none] [] h res := by
  unfold F_318_0 at hf
  refine Ex.seg 3 (pc' := 5) (lc' := [some (.ref 67), some (.int x1), some (.int x2), none]) (st' := [.int 1, .int (h.1 67 3)]) (h' := h) (sg1 rfl rfl (sg1 rfl rfl (sg1 rfl rfl rfl))) ?_
  refine Ex.icmp rfl rfl (fun (c0 : ¬ ((h.1 67 3) = 1)) => ?_) (fun (c0 : ¬ ¬ ((h.1 67 3) = 1)) => ?_)
  · rw [if_neg c0] at hf
    exact Ex.weak (sm_le_n (sm_le_n (sm_le_n (sm_le_s sm_le_nil)))) (B_318_25 hd  hf hs)
  · rw [if_pos (Classical.not_not.mp c0)] at hf
    refine Ex.seg 3 (pc' := 11) (lc' := [some (.ref 67), some (.int x1), some (.int x2), none]) (st' := [.int 1, .int 0, .ref 67]) (h' := h) (sg1 rfl rfl (sg1 rfl rfl (sg1 rfl rfl rfl))) ?_
    obtain ⟨q1, e_q1, hf⟩ := bnd hf
    refine Ex.callV (a := 67) (As := [.int 0, .int 1]) (r := []) (v := some (.int q1.1)) (h' := q1.2) rfl rfl (by decide) rfl (Nat.le_of_ble_eq_true rfl) rfl (E_314 (Nat.le_trans (by decide) hd) e_q1) rfl ?_
    refine Ex.ifc rfl rfl (fun (c0 : q1.1 = 0) => ?_) (fun (c0 : ¬ (q1.1 = 0)) => ?_)
    · rw [if_pos c0] at hf
      exact Ex.weak (sm_le_n (sm_le_n (sm_le_n (sm_le_s sm_le_nil)))) (B_318_25 hd  hf hs)
    · rw [if_neg c0] at hf
      refine Ex.seg 2 (pc' := 19) (lc' := [some (.ref 67), some (.int x1), some (.int x2), none]) (st' := [.int x2, .ref 67]) (h' := q1.2) (sg1 rfl rfl (sg1 rfl rfl rfl)) ?_
      obtain ⟨q2, e_q2, hf⟩ := bnd hf
      refine Ex.callV (a := 67) (As := [.int x2]) (r := []) (v := some (.int q2.1)) (h' := q2.2) rfl rfl (by decide) rfl (Nat.le_of_ble_eq_true rfl) rfl (E_303 (Nat.le_trans (by decide) hd) e_q2) rfl ?_
      refine Ex.ifc rfl rfl (fun (c0 : ¬ (q2.1 = 0)) => ?_) (fun (c0 : ¬ ¬ (q2.1 = 0)) => ?_)
      · rw [if_neg c0] at hf
        refine Ex.seg 3 (pc' := 32) (lc' := [some (.ref 67), some (.int x1), some (.int x2), none]) (st' := [.int 0, .ref 69]) (h' := q2.2) (sg1 rfl rfl (sg1 rfl rfl (sg1 rfl rfl rfl))) ?_
        obtain ⟨v3, e_v3, hf⟩ := bnd hf
        refine Ex.iald e_v3 rfl rfl ?_
        refine Ex.seg 6 (pc' := 39) (lc' := [some (.ref 67), some (.int x1), some (.int x2), some (.int v3)]) (st' := [.int v3, .ref 67, .long 0, .long (Int32.toInt64 x1)]) (h' := q2.2) (sg1 rfl rfl (sg1 rfl rfl (sg1 rfl rfl (sg1 rfl rfl (sg1 rfl rfl (sg1 rfl rfl rfl)))))) ?_
        obtain ⟨q4, e_q4, hf⟩ := bnd hf
        refine Ex.callV (a := 67) (As := [.int v3]) (r := [.long 0, .long (Int32.toInt64 x1)]) (v := some (.int q4.1)) (h' := q4.2) rfl rfl (by decide) rfl (Nat.le_of_ble_eq_true rfl) rfl (E_305 (Nat.le_trans (by decide) hd) e_q4) rfl ?_
        refine Ex.seg 1 (pc' := 43) (lc' := [some (.ref 67), some (.int x1), some (.int x2), some (.int v3)]) (st' := [.long (Int32.toInt64 q4.1), .long 0, .long (Int32.toInt64 x1)]) (h' := q4.2) (sg1 rfl rfl rfl) ?_
        obtain ⟨q5, e_q5, hf⟩ := bnd hf
        refine Ex.callS (As := [.long (Int32.toInt64 x1), .long 0, .long (Int32.toInt64 q4.1)]) (r := []) (v := some (.int q5.1)) (h' := q5.2) rfl rfl rfl rfl (Nat.le_of_ble_eq_true rfl) (E_315 (Nat.le_trans (by decide) hd) e_q5) rfl ?_
        refine Ex.ifc rfl rfl (fun (c0 : q5.1 = 0) => ?_) (fun (c0 : ¬ (q5.1 = 0)) => ?_)
        · rw [if_pos c0] at hf
          refine Ex.seg 3 (pc' := 56) (lc' := [some (.ref 67), some (.int x1), some (.int x2), some (.int v3)]) (st' := [.int x2, .ref 73]) (h' := q5.2) (sg1 rfl rfl (sg1 rfl rfl (sg1 rfl rfl rfl))) ?_
          obtain ⟨v6, e_v6, hf⟩ := bnd hf
          refine Ex.iald e_v6 rfl rfl ?_
          refine Ex.ifc rfl rfl (fun (c0 : ¬ (v6 = 0)) => ?_) (fun (c0 : ¬ ¬ (v6 = 0)) => ?_)
          · rw [if_neg c0] at hf
            refine Ex.seg 3 (pc' := 68) (lc' := [some (.ref 67), some (.int x1), some (.int x2), some (.int v3)]) (st' := [.int v3, .ref 67, .ref 67]) (h' := q5.2) (sg1 rfl rfl (sg1 rfl rfl (sg1 rfl rfl rfl))) ?_
            obtain ⟨q7, e_q7, hf⟩ := bnd hf
            refine Ex.callV (a := 67) (As := [.int v3]) (r := [.ref 67]) (v := some (.int q7.1)) (h' := q7.2) rfl rfl (by decide) rfl (Nat.le_of_ble_eq_true rfl) rfl (E_307 (Nat.le_trans (by decide) hd) e_q7) rfl ?_
            obtain ⟨q8, e_q8, hf⟩ := bnd hf
            refine Ex.callV (a := 67) (As := [.int q7.1]) (r := []) (v := none) (h' := q8) rfl rfl (by decide) rfl (Nat.le_of_ble_eq_true rfl) rfl (E_308 (Nat.le_trans (by decide) hd) e_q8) rfl ?_
            refine Ex.seg 4 (pc' := 78) (lc' := [some (.ref 67), some (.int x1), some (.int x2), some (.int v3)]) (st' := [.int x1, .int 0, .int v3, .ref 67]) (h' := q8) (sg1 rfl rfl (sg1 rfl rfl (sg1 rfl rfl (sg1 rfl rfl rfl)))) ?_
            obtain ⟨q9, e_q9, hf⟩ := bnd hf
            refine Ex.callV (a := 67) (As := [.int v3, .int 0, .int x1]) (r := []) (v := none) (h' := q9) rfl rfl (by decide) rfl (Nat.le_of_ble_eq_true rfl) rfl (E_310 (Nat.le_trans (by decide) hd) e_q9) rfl ?_
            refine Ex.seg 2 (pc' := 83) (lc' := [some (.ref 67), some (.int x1), some (.int x2), some (.int v3)]) (st' := [.int x2, .ref 67]) (h' := q9) (sg1 rfl rfl (sg1 rfl rfl rfl)) ?_
            obtain ⟨q10, e_q10, hf⟩ := bnd hf
            refine Ex.callV (a := 67) (As := [.int x2]) (r := []) (v := none) (h' := q10) rfl rfl (by decide) rfl (Nat.le_of_ble_eq_true rfl) rfl (E_311 (Nat.le_trans (by decide) hd) e_q10) rfl ?_
            refine Ex.seg 5 (pc' := 91) (lc' := [some (.ref 67), some (.int x1), some (.int x2), some (.int v3)]) (st' := [.int v3, .ref 67, .int x1, .int v3, .ref 67]) (h' := q10) (sg1 rfl rfl (sg1 rfl rfl (sg1 rfl rfl (sg1 rfl rfl (sg1 rfl rfl rfl))))) ?_
            obtain ⟨q11, e_q11, hf⟩ := bnd hf
            refine Ex.callV (a := 67) (As := [.int v3]) (r := [.int x1, .int v3, .ref 67]) (v := some (.int q11.1)) (h' := q11.2) rfl rfl (by decide) rfl (Nat.le_of_ble_eq_true rfl) rfl (E_305 (Nat.le_trans (by decide) hd) e_q11) rfl ?_
            obtain ⟨q12, e_q12, hf⟩ := bnd hf
            refine Ex.callV (a := 67) (As := [.int v3, .int x1, .int q11.1]) (r := []) (v := none) (h' := q12) rfl rfl (by decide) rfl (Nat.le_of_ble_eq_true rfl) rfl (E_310 (Nat.le_trans (by decide) hd) e_q12) rfl ?_
            refine Ex.seg 1 (pc' := 98) (lc' := [some (.ref 67), some (.int x1), some (.int x2), some (.int v3)]) (st' := [.int 0]) (h' := q12) (sg1 rfl rfl rfl) ?_
            obtain rfl := Option.some.inj hf
            exact Ex.iret rfl rfl (fun c0 => by cases c0) hs
          · rw [if_pos (Classical.not_not.mp c0)] at hf
            refine Ex.seg 1 (pc' := 61) (lc' := [some (.ref 67), some (.int x1), some (.int x2), some (.int v3)]) (st' := [.int v3]) (h' := q5.2) (sg1 rfl rfl rfl) ?_
            obtain ⟨q13, e_q13, hf⟩ := bnd hf
            refine Ex.callS (As := [.int v3]) (r := []) (v := some (.int q13.1)) (h' := q13.2) rfl rfl rfl rfl (Nat.le_of_ble_eq_true rfl) (E_313 (Nat.le_trans (by decide) hd) e_q13) rfl ?_
            obtain rfl := Option.some.inj hf
            exact Ex.iret rfl rfl (fun c0 => by cases c0) hs
        · rw [if_neg c0] at hf
          refine Ex.seg 1 (pc' := 50) (lc' := [some (.ref 67), some (.int x1), some (.int x2), some (.int v3)]) (st' := [.int 2]) (h' := q5.2) (sg1 rfl rfl rfl) ?_
          obtain rfl := Option.some.inj hf
          exact Ex.iret rfl rfl (fun c0 => by cases c0) hs
      · rw [if_pos (Classical.not_not.mp c0)] at hf
        exact Ex.weak (sm_le_n (sm_le_n (sm_le_n (sm_le_s sm_le_nil)))) (B_318_25 hd  hf hs)
/-- HandleHouseModel.checkDrop(II)I -/
abbrev F_318 (x1 : Int32) (x2 : Int32) (h : sm_H) : Option (Int32 × sm_H) := F_318_0 x1 x2 h
theorem E_318 {L : Nat} {xs : Nat → Int32} {d : Nat} (hd : 3 ≤ d) {x1 : Int32} {x2 : Int32} {h : sm_H} {r : Int32 × sm_H} (hf : F_318 x1 x2 h = some r) : RUN L xs d 318 [.ref 67, .int x1, .int x2] h (some (.int r.1), r.2) := by
  obtain ⟨d, rfl⟩ : ∃ e, d = e + 1 := ⟨d - 1, by omega⟩
  exact ⟨Nat.le_of_ble_eq_true rfl, B_318_0 (by omega) hf rfl⟩
def F_319_326 (y1 : Int32) (y2 : Int32) (y4 : Int32) (z0 : Int32) (h : sm_H) : Option ((Int32 × Int32 × Int32 × Int32 × sm_H) ⊕ (Int32 × sm_H)) :=
  (some (y4 + 1 : Int32)).bind fun v1 =>
  some (.inl (y1, y2, z0, v1, h))
theorem B_319_326 {L : Nat} {xs : Nat → Int32} {d : Nat} (hd : 2 ≤ d) {res : Option Value × sm_H} {S1 : (Int32 × Int32 × Int32 × Int32 × sm_H) → Prop} (hS1 : ∀ s, S1 s → Ex (P_G L xs) (RUN L xs d) (sm_lk P_t319) 0 294 [some (.ref 67), some (.int s.1), some (.int s.2.1), some (.int s.2.2.1), some (.int s.2.2.2.1), none] [] s.2.2.2.2 res) {y1 : Int32} {y2 : Int32} {y4 : Int32} {z0 : Int32}  {h : sm_H} {r : ((Int32 × Int32 × Int32 × Int32 × sm_H) ⊕ (Int32 × sm_H))} (hf : F_319_326 y1 y2 y4 z0 h = some r) (hs : (Sum.elim S1 (fun (r : Int32 × sm_H) => res = (some (.int r.1), r.2))) r) : Ex (P_G L xs) (RUN L xs d) (sm_lk P_t319) 0 326 [some (.ref 67), some (.int y1), some (.int y2), none, some (.int y4), none] [.int z0] h res := by
  unfold F_319_326 at hf
  refine Ex.seg 2 (pc' := 330) (lc' := [some (.ref 67), some (.int y1), some (.int y2), some (.int z0), some (.int (y4 + 1)), none]) (st' := []) (h' := h) (sg1 rfl rfl (sg1 rfl rfl rfl)) ?_
  obtain ⟨v1, e_v1, hf⟩ := bnd hf
  rw [Option.some.inj e_v1]
  refine Ex.seg 1 (pc' := 294) (lc' := [some (.ref 67), some (.int y1), some (.int y2), some (.int z0), some (.int v1), none]) (st' := []) (h' := h) (sg1 rfl rfl rfl) ?_
  obtain rfl := Option.some.inj hf
  exact Ex.weak (sm_le_s (sm_le_s (sm_le_s (sm_le_s (sm_le_s (sm_le_s sm_le_nil)))))) (hS1 _ hs)
def F_319_325 (y1 : Int32) (y2 : Int32) (y4 : Int32) (h : sm_H) : Option ((Int32 × Int32 × Int32 × Int32 × sm_H) ⊕ (Int32 × sm_H)) :=
  F_319_326 y1 y2 y4 0 h
theorem B_319_325 {L : Nat} {xs : Nat → Int32} {d : Nat} (hd : 2 ≤ d) {res : Option Value × sm_H} {S1 : (Int32 × Int32 × Int32 × Int32 × sm_H) → Prop} (hS1 : ∀ s, S1 s → Ex (P_G L xs) (RUN L xs d) (sm_lk P_t319) 0 294 [some (.ref 67), some (.int s.1), some (.int s.2.1), some (.int s.2.2.1), some (.int s.2.2.2.1), none] [] s.2.2.2.2 res) {y1 : Int32} {y2 : Int32} {y4 : Int32}  {h : sm_H} {r : ((Int32 × Int32 × Int32 × Int32 × sm_H) ⊕ (Int32 × sm_H))} (hf : F_319_325 y1 y2 y4 h = some r) (hs : (Sum.elim S1 (fun (r : Int32 × sm_H) => res = (some (.int r.1), r.2))) r) : Ex (P_G L xs) (RUN L xs d) (sm_lk P_t319) 0 325 [some (.ref 67), some (.int y1), some (.int y2), none, some (.int y4), none] [] h res := by
  unfold F_319_325 at hf
  refine Ex.seg 1 (pc' := 326) (lc' := [some (.ref 67), some (.int y1), some (.int y2), none, some (.int y4), none]) (st' := [.int 0]) (h' := h) (sg1 rfl rfl rfl) ?_
  exact Ex.weak (sm_le_s (sm_le_s (sm_le_s (sm_le_s (sm_le_s (sm_le_s sm_le_nil)))))) (B_319_326 hd hS1 hf hs)
def F_319_294B (s : (Int32 × Int32 × Int32 × Int32 × sm_H)) : Option ((Int32 × Int32 × Int32 × Int32 × sm_H) ⊕ (Int32 × sm_H)) :=
  if (s.2.2.2.2.1 67 3) ≤ s.2.2.2.1 then (if s.2.2.1 = 0 then ((ldI s.2.2.2.2 72 300 s.1).bind fun v2 =>
  (F_308 v2 s.2.2.2.2).bind fun q3 =>
  (F_311 s.1 q3).bind fun q4 =>
  some (.inr (0, q4)))
  else ((F_313 s.2.1 s.2.2.2.2).bind fun q5 =>
  some (.inr (q5.1, q5.2))))
  else (if s.2.2.1 = 0 then (F_319_325 s.1 s.2.1 s.2.2.2.1 s.2.2.2.2)
  else ((ldI s.2.2.2.2 69 24 s.2.2.2.1).bind fun v6 =>
  if v6 = (s.2.2.2.1 - 1) then (F_319_326 s.1 s.2.1 s.2.2.2.1 1 s.2.2.2.2)
  else (F_319_325 s.1 s.2.1 s.2.2.2.1 s.2.2.2.2)))
theorem B_319_294B {L : Nat} {xs : Nat → Int32} {d : Nat} (hd : 2 ≤ d) {res : Option Value × sm_H} {S1 : (Int32 × Int32 × Int32 × Int32 × sm_H) → Prop} (hS1 : ∀ s, S1 s → Ex (P_G L xs) (RUN L xs d) (sm_lk P_t319) 0 294 [some (.ref 67), some (.int s.1), some (.int s.2.1), some (.int s.2.2.1), some (.int s.2.2.2.1), none] [] s.2.2.2.2 res) {s : (Int32 × Int32 × Int32 × Int32 × sm_H)}  {r : ((Int32 × Int32 × Int32 × Int32 × sm_H) ⊕ (Int32 × sm_H))} (hf : F_319_294B s = some r) (hs : (Sum.elim S1 (fun (r : Int32 × sm_H) => res = (some (.int r.1), r.2))) r) : Ex (P_G L xs) (RUN L xs d) (sm_lk P_t319) 0 294 [some (.ref 67), some (.int s.1), some (.int s.2.1), some (.int s.2.2.1), some (.int s.2.2.2.1), none] [] s.2.2.2.2 res := by
  unfold F_319_294B at hf
  refine Ex.seg 3 (pc' := 300) (lc' := [some (.ref 67), some (.int s.1), some (.int s.2.1), some (.int s.2.2.1), some (.int s.2.2.2.1), none]) (st' := [.int (s.2.2.2.2.1 67 3), .int s.2.2.2.1]) (h' := s.2.2.2.2) (sg1 rfl rfl (sg1 rfl rfl (sg1 rfl rfl rfl))) ?_
  refine Ex.icmp rfl rfl (fun (c0 : (s.2.2.2.2.1 67 3) ≤ s.2.2.2.1) => ?_) (fun (c0 : ¬ ((s.2.2.2.2.1 67 3) ≤ s.2.2.2.1)) => ?_)
  · rw [if_pos c0] at hf
    refine Ex.seg 1 (pc' := 334) (lc' := [some (.ref 67), some (.int s.1), some (.int s.2.1), some (.int s.2.2.1), some (.int s.2.2.2.1), none]) (st' := [.int s.2.2.1]) (h' := s.2.2.2.2) (sg1 rfl rfl rfl) ?_
    refine Ex.ifc rfl rfl (fun (c0 : s.2.2.1 = 0) => ?_) (fun (c0 : ¬ (s.2.2.1 = 0)) => ?_)
    · rw [if_pos c0] at hf
      refine Ex.seg 4 (pc' := 348) (lc' := [some (.ref 67), some (.int s.1), some (.int s.2.1), some (.int s.2.2.1), some (.int s.2.2.2.1), none]) (st' := [.int s.1, .ref 72, .ref 67]) (h' := s.2.2.2.2) (sg1 rfl rfl (sg1 rfl rfl (sg1 rfl rfl (sg1 rfl rfl rfl)))) ?_
      obtain ⟨v2, e_v2, hf⟩ := bnd hf
      refine Ex.iald e_v2 rfl rfl ?_
      obtain ⟨q3, e_q3, hf⟩ := bnd hf
      refine Ex.callV (a := 67) (As := [.int v2]) (r := []) (v := none) (h' := q3) rfl rfl (by decide) rfl (Nat.le_of_ble_eq_true rfl) rfl (E_308 (Nat.le_trans (by decide) hd) e_q3) rfl ?_
      refine Ex.seg 2 (pc' := 354) (lc' := [some (.ref 67), some (.int s.1), some (.int s.2.1), some (.int s.2.2.1), some (.int s.2.2.2.1), none]) (st' := [.int s.1, .ref 67]) (h' := q3) (sg1 rfl rfl (sg1 rfl rfl rfl)) ?_
      obtain ⟨q4, e_q4, hf⟩ := bnd hf
      refine Ex.callV (a := 67) (As := [.int s.1]) (r := []) (v := none) (h' := q4) rfl rfl (by decide) rfl (Nat.le_of_ble_eq_true rfl) rfl (E_311 (Nat.le_trans (by decide) hd) e_q4) rfl ?_
      refine Ex.seg 1 (pc' := 358) (lc' := [some (.ref 67), some (.int s.1), some (.int s.2.1), some (.int s.2.2.1), some (.int s.2.2.2.1), none]) (st' := [.int 0]) (h' := q4) (sg1 rfl rfl rfl) ?_
      obtain rfl := Option.some.inj hf
      exact Ex.iret rfl rfl (fun c0 => by cases c0) hs
    · rw [if_neg c0] at hf
      refine Ex.seg 1 (pc' := 338) (lc' := [some (.ref 67), some (.int s.1), some (.int s.2.1), some (.int s.2.2.1), some (.int s.2.2.2.1), none]) (st' := [.int s.2.1]) (h' := s.2.2.2.2) (sg1 rfl rfl rfl) ?_
      obtain ⟨q5, e_q5, hf⟩ := bnd hf
      refine Ex.callS (As := [.int s.2.1]) (r := []) (v := some (.int q5.1)) (h' := q5.2) rfl rfl rfl rfl (Nat.le_of_ble_eq_true rfl) (E_313 (Nat.le_trans (by decide) hd) e_q5) rfl ?_
      obtain rfl := Option.some.inj hf
      exact Ex.iret rfl rfl (fun c0 => by cases c0) hs
  · rw [if_neg c0] at hf
    refine Ex.seg 1 (pc' := 304) (lc' := [some (.ref 67), some (.int s.1), some (.int s.2.1), some (.int s.2.2.1), some (.int s.2.2.2.1), none]) (st' := [.int s.2.2.1]) (h' := s.2.2.2.2) (sg1 rfl rfl rfl) ?_
    refine Ex.ifc rfl rfl (fun (c0 : s.2.2.1 = 0) => ?_) (fun (c0 : ¬ (s.2.2.1 = 0)) => ?_)
    · rw [if_pos c0] at hf
      exact Ex.weak (sm_le_s (sm_le_s (sm_le_s (sm_le_n (sm_le_s (sm_le_s sm_le_nil)))))) (B_319_325 hd hS1 hf hs)
    · rw [if_neg c0] at hf
      refine Ex.seg 3 (pc' := 313) (lc' := [some (.ref 67), some (.int s.1), some (.int s.2.1), some (.int s.2.2.1), some (.int s.2.2.2.1), none]) (st' := [.int s.2.2.2.1, .ref 69]) (h' := s.2.2.2.2) (sg1 rfl rfl (sg1 rfl rfl (sg1 rfl rfl rfl))) ?_
      obtain ⟨v6, e_v6, hf⟩ := bnd hf
      refine Ex.iald e_v6 rfl rfl ?_
      refine Ex.seg 3 (pc' := 318) (lc' := [some (.ref 67), some (.int s.1), some (.int s.2.1), some (.int s.2.2.1), some (.int s.2.2.2.1), none]) (st' := [.int (s.2.2.2.1 - 1), .int v6]) (h' := s.2.2.2.2) (sg1 rfl rfl (sg1 rfl rfl (sg1 rfl rfl rfl))) ?_
      refine Ex.icmp rfl rfl (fun (c0 : ¬ (v6 = (s.2.2.2.1 - 1))) => ?_) (fun (c0 : ¬ ¬ (v6 = (s.2.2.2.1 - 1))) => ?_)
      · rw [if_neg c0] at hf
        exact Ex.weak (sm_le_s (sm_le_s (sm_le_s (sm_le_n (sm_le_s (sm_le_s sm_le_nil)))))) (B_319_325 hd hS1 hf hs)
      · rw [if_pos (Classical.not_not.mp c0)] at hf
        refine Ex.seg 2 (pc' := 326) (lc' := [some (.ref 67), some (.int s.1), some (.int s.2.1), some (.int s.2.2.1), some (.int s.2.2.2.1), none]) (st' := [.int 1]) (h' := s.2.2.2.2) (sg1 rfl rfl (sg1 rfl rfl rfl)) ?_
        exact Ex.weak (sm_le_s (sm_le_s (sm_le_s (sm_le_n (sm_le_s (sm_le_s sm_le_nil)))))) (B_319_326 hd hS1 hf hs)
def F_319_294 (y1 : Int32) (y2 : Int32) (y3 : Int32) (y4 : Int32) (h : sm_H) : Option (Int32 × sm_H) := lp F_319_294B 1000000 (y1, y2, y3, y4, h)
theorem B_319_294 {L : Nat} {xs : Nat → Int32} {d : Nat} (hd : 2 ≤ d) {res : Option Value × sm_H} {y1 : Int32} {y2 : Int32} {y3 : Int32} {y4 : Int32}  {h : sm_H} {r : (Int32 × sm_H)} (hf : F_319_294 y1 y2 y3 y4 h = some r) (hs : (fun (r : Int32 × sm_H) => res = (some (.int r.1), r.2)) r) : Ex (P_G L xs) (RUN L xs d) (sm_lk P_t319) 0 294 [some (.ref 67), some (.int y1), some (.int y2), some (.int y3), some (.int y4), none] [] h res := by
  unfold F_319_294 at hf
  exact lp_ok (P := fun (s : (Int32 × Int32 × Int32 × Int32 × sm_H)) => Ex (P_G L xs) (RUN L xs d) (sm_lk P_t319) 0 294 [some (.ref 67), some (.int s.1), some (.int s.2.1), some (.int s.2.2.1), some (.int s.2.2.2.1), none] [] s.2.2.2.2 res) (S := (fun (r : Int32 × sm_H) => res = (some (.int r.1), r.2))) (fun s x hx hsx => by
    intros
    exact B_319_294B hd  (fun _ q => q) hx hsx) 1000000 _ r hf hs
def F_319_290 (y1 : Int32) (y2 : Int32) (z0 : Int32) (h : sm_H) : Option (Int32 × sm_H) :=
  F_319_294 y1 y2 z0 1 h
theorem B_319_290 {L : Nat} {xs : Nat → Int32} {d : Nat} (hd : 2 ≤ d) {res : Option Value × sm_H} {y1 : Int32} {y2 : Int32} {z0 : Int32}  {h : sm_H} {r : (Int32 × sm_H)} (hf : F_319_290 y1 y2 z0 h = some r) (hs : (fun (r : Int32 × sm_H) => res = (some (.int r.1), r.2)) r) : Ex (P_G L xs) (RUN L xs d) (sm_lk P_t319) 0 290 [some (.ref 67), some (.int y1), some (.int y2), none, none, none] [.int z0] h res := by
  unfold F_319_290 at hf
  refine Ex.seg 3 (pc' := 294) (lc' := [some (.ref 67), some (.int y1), some (.int y2), some (.int z0), some (.int 1), none]) (st' := []) (h' := h) (sg1 rfl rfl (sg1 rfl rfl (sg1 rfl rfl rfl))) ?_
  exact Ex.weak (sm_le_s (sm_le_s (sm_le_s (sm_le_s (sm_le_s (sm_le_s sm_le_nil)))))) (B_319_294 hd  hf hs)
def F_319_275 (y1 : Int32) (y2 : Int32) (h : sm_H) : Option (Int32 × sm_H) :=
  (ldI h 76 500 y2).bind fun v7 =>
  if v7 = y1 then (F_319_290 y1 y2 1 h)
  else (F_319_290 y1 y2 0 h)
theorem B_319_275 {L : Nat} {xs : Nat → Int32} {d : Nat} (hd : 2 ≤ d) {res : Option Value × sm_H} {y1 : Int32} {y2 : Int32}  {h : sm_H} {r : (Int32 × sm_H)} (hf : F_319_275 y1 y2 h = some r) (hs : (fun (r : Int32 × sm_H) => res = (some (.int r.1), r.2)) r) : Ex (P_G L xs) (RUN L xs d) (sm_lk P_t319) 0 275 [some (.ref 67), some (.int y1), some (.int y2), none, none, none] [] h res := by
  unfold F_319_275 at hf
  refine Ex.seg 3 (pc' := 280) (lc' := [some (.ref 67), some (.int y1), some (.int y2), none, none, none]) (st' := [.int y2, .ref 76]) (h' := h) (sg1 rfl rfl (sg1 rfl rfl (sg1 rfl rfl rfl))) ?_
  obtain ⟨v7, e_v7, hf⟩ := bnd hf
  refine Ex.iald e_v7 rfl rfl ?_
  refine Ex.seg 1 (pc' := 282) (lc' := [some (.ref 67), some (.int y1), some (.int y2), none, none, none]) (st' := [.int y1, .int v7]) (h' := h) (sg1 rfl rfl rfl) ?_
  refine Ex.icmp rfl rfl (fun (c0 : ¬ (v7 = y1)) => ?_) (fun (c0 : ¬ ¬ (v7 = y1)) => ?_)
  · rw [if_neg c0] at hf
    refine Ex.seg 1 (pc' := 290) (lc' := [some (.ref 67), some (.int y1), some (.int y2), none, none, none]) (st' := [.int 0]) (h' := h) (sg1 rfl rfl rfl) ?_
    exact Ex.weak (sm_le_s (sm_le_s (sm_le_s (sm_le_s (sm_le_s (sm_le_s sm_le_nil)))))) (B_319_290 hd  hf hs)
  · rw [if_pos (Classical.not_not.mp c0)] at hf
    refine Ex.seg 2 (pc' := 290) (lc' := [some (.ref 67), some (.int y1), some (.int y2), none, none, none]) (st' := [.int 1]) (h' := h) (sg1 rfl rfl (sg1 rfl rfl rfl)) ?_
    exact Ex.weak (sm_le_s (sm_le_s (sm_le_s (sm_le_s (sm_le_s (sm_le_s sm_le_nil)))))) (B_319_290 hd  hf hs)
def F_319_229B (s : (Int32 × Int32 × Int32 × Int32 × sm_H)) : Option ((Int32 × Int32 × Int32 × Int32 × sm_H) ⊕ (Int32 × sm_H)) :=
  if s.2.2.1 ≤ s.2.2.2.1 then ((stI s.2.2.2.2 69 24 0 s.2.1).bind fun h8 =>
  (some (sm_wI h8 67 3 (1 + s.2.2.1))).bind fun h9 =>
  (F_319_275 s.1 s.2.1 h9).map fun r => (.inr r))
  else ((ldI s.2.2.2.2 102 24 s.2.2.2.1).bind fun v10 =>
  (stI s.2.2.2.2 69 24 (1 + s.2.2.2.1) v10).bind fun h11 =>
  (some (s.2.2.2.1 + 1 : Int32)).bind fun v12 =>
  some (.inl (s.1, s.2.1, s.2.2.1, v12, h11)))
theorem B_319_229B {L : Nat} {xs : Nat → Int32} {d : Nat} (hd : 2 ≤ d) {res : Option Value × sm_H} {S1 : (Int32 × Int32 × Int32 × Int32 × sm_H) → Prop} (hS1 : ∀ s, S1 s → Ex (P_G L xs) (RUN L xs d) (sm_lk P_t319) 0 229 [some (.ref 67), some (.int s.1), none, some (.int s.2.1), some (.int s.2.2.1), some (.int s.2.2.2.1)] [] s.2.2.2.2 res) {s : (Int32 × Int32 × Int32 × Int32 × sm_H)}  {r : ((Int32 × Int32 × Int32 × Int32 × sm_H) ⊕ (Int32 × sm_H))} (hf : F_319_229B s = some r) (hs : (Sum.elim S1 (fun (r : Int32 × sm_H) => res = (some (.int r.1), r.2))) r) : Ex (P_G L xs) (RUN L xs d) (sm_lk P_t319) 0 229 [some (.ref 67), some (.int s.1), none, some (.int s.2.1), some (.int s.2.2.1), some (.int s.2.2.2.1)] [] s.2.2.2.2 res := by
  unfold F_319_229B at hf
  refine Ex.seg 2 (pc' := 233) (lc' := [some (.ref 67), some (.int s.1), none, some (.int s.2.1), some (.int s.2.2.1), some (.int s.2.2.2.1)]) (st' := [.int s.2.2.1, .int s.2.2.2.1]) (h' := s.2.2.2.2) (sg1 rfl rfl (sg1 rfl rfl rfl)) ?_
  refine Ex.icmp rfl rfl (fun (c0 : s.2.2.1 ≤ s.2.2.2.1) => ?_) (fun (c0 : ¬ (s.2.2.1 ≤ s.2.2.2.1)) => ?_)
  · rw [if_pos c0] at hf
    refine Ex.seg 4 (pc' := 264) (lc' := [some (.ref 67), some (.int s.1), none, some (.int s.2.1), some (.int s.2.2.1), some (.int s.2.2.2.1)]) (st' := [.int s.2.1, .int 0, .ref 69]) (h' := s.2.2.2.2) (sg1 rfl rfl (sg1 rfl rfl (sg1 rfl rfl (sg1 rfl rfl rfl)))) ?_
    obtain ⟨h8, e_h8, hf⟩ := bnd hf
    refine Ex.iast e_h8 rfl rfl ?_
    refine Ex.seg 5 (pc' := 273) (lc' := [some (.ref 67), some (.int s.1), none, some (.int s.2.1), some (.int s.2.2.1), some (.int s.2.2.2.1)]) (st' := []) (h' := (sm_wI h8 67 3 (1 + s.2.2.1))) (sg1 rfl rfl (sg1 rfl rfl (sg1 rfl rfl (sg1 rfl rfl (sg1 rfl rfl rfl))))) ?_
    obtain ⟨h9, e_h9, hf⟩ := bnd hf
    rw [Option.some.inj e_h9]
    refine Ex.seg 2 (pc' := 275) (lc' := [some (.ref 67), some (.int s.1), some (.int s.2.1), some (.int s.2.1), some (.int s.2.2.1), some (.int s.2.2.2.1)]) (st' := []) (h' := h9) (sg1 rfl rfl (sg1 rfl rfl rfl)) ?_
    obtain ⟨r0, hf0, rfl⟩ := Option.map_eq_some_iff.mp hf
    exact Ex.weak (sm_le_s (sm_le_s (sm_le_s (sm_le_n (sm_le_n (sm_le_n sm_le_nil)))))) (B_319_275 hd  hf0 hs)
  · rw [if_neg c0] at hf
    refine Ex.seg 8 (pc' := 250) (lc' := [some (.ref 67), some (.int s.1), none, some (.int s.2.1), some (.int s.2.2.1), some (.int s.2.2.2.1)]) (st' := [.int s.2.2.2.1, .ref 102, .int (1 + s.2.2.2.1), .ref 69]) (h' := s.2.2.2.2) (sg1 rfl rfl (sg1 rfl rfl (sg1 rfl rfl (sg1 rfl rfl (sg1 rfl rfl (sg1 rfl rfl (sg1 rfl rfl (sg1 rfl rfl rfl)))))))) ?_
    obtain ⟨v10, e_v10, hf⟩ := bnd hf
    refine Ex.iald e_v10 rfl rfl ?_
    obtain ⟨h11, e_h11, hf⟩ := bnd hf
    refine Ex.iast e_h11 rfl rfl ?_
    refine Ex.seg 1 (pc' := 255) (lc' := [some (.ref 67), some (.int s.1), none, some (.int s.2.1), some (.int s.2.2.1), some (.int (s.2.2.2.1 + 1))]) (st' := []) (h' := h11) (sg1 rfl rfl rfl) ?_
    obtain ⟨v12, e_v12, hf⟩ := bnd hf
    rw [Option.some.inj e_v12]
    refine Ex.seg 1 (pc' := 229) (lc' := [some (.ref 67), some (.int s.1), none, some (.int s.2.1), some (.int s.2.2.1), some (.int v12)]) (st' := []) (h' := h11) (sg1 rfl rfl rfl) ?_
    obtain rfl := Option.some.inj hf
    exact Ex.weak (sm_le_s (sm_le_s (sm_le_s (sm_le_s (sm_le_s (sm_le_s sm_le_nil)))))) (hS1 _ hs)
def F_319_229 (y1 : Int32) (y3 : Int32) (y4 : Int32) (y5 : Int32) (h : sm_H) : Option (Int32 × sm_H) := lp F_319_229B 1000000 (y1, y3, y4, y5, h)
theorem B_319_229 {L : Nat} {xs : Nat → Int32} {d : Nat} (hd : 2 ≤ d) {res : Option Value × sm_H} {y1 : Int32} {y3 : Int32} {y4 : Int32} {y5 : Int32}  {h : sm_H} {r : (Int32 × sm_H)} (hf : F_319_229 y1 y3 y4 y5 h = some r) (hs : (fun (r : Int32 × sm_H) => res = (some (.int r.1), r.2)) r) : Ex (P_G L xs) (RUN L xs d) (sm_lk P_t319) 0 229 [some (.ref 67), some (.int y1), none, some (.int y3), some (.int y4), some (.int y5)] [] h res := by
  unfold F_319_229 at hf
  exact lp_ok (P := fun (s : (Int32 × Int32 × Int32 × Int32 × sm_H)) => Ex (P_G L xs) (RUN L xs d) (sm_lk P_t319) 0 229 [some (.ref 67), some (.int s.1), none, some (.int s.2.1), some (.int s.2.2.1), some (.int s.2.2.2.1)] [] s.2.2.2.2 res) (S := (fun (r : Int32 × sm_H) => res = (some (.int r.1), r.2))) (fun s x hx hsx => by
    intros
    exact B_319_229B hd  (fun _ q => q) hx hsx) 1000000 _ r hf hs
def F_319_185B (s : (Int32 × Int32 × Int32 × Int32 × Int32 × sm_H)) : Option ((Int32 × Int32 × Int32 × Int32 × Int32 × sm_H) ⊕ (Int32 × sm_H)) :=
  if s.2.2.2.1 ≤ s.2.2.2.2.1 then ((F_319_229 s.1 s.2.2.1 s.2.2.2.1 0 s.2.2.2.2.2).map fun r => (.inr r))
  else ((ldI s.2.2.2.2.2 81 12000 (((24 * s.2.1) + 1) + s.2.2.2.2.1)).bind fun v13 =>
  (ldI s.2.2.2.2.2 69 24 (1 + v13)).bind fun v14 =>
  (stI s.2.2.2.2.2 102 24 s.2.2.2.2.1 v14).bind fun h15 =>
  (some (s.2.2.2.2.1 + 1 : Int32)).bind fun v16 =>
  some (.inl (s.1, s.2.1, s.2.2.1, s.2.2.2.1, v16, h15)))
theorem B_319_185B {L : Nat} {xs : Nat → Int32} {d : Nat} (hd : 2 ≤ d) {res : Option Value × sm_H} {S1 : (Int32 × Int32 × Int32 × Int32 × Int32 × sm_H) → Prop} (hS1 : ∀ s, S1 s → Ex (P_G L xs) (RUN L xs d) (sm_lk P_t319) 0 185 [some (.ref 67), some (.int s.1), some (.int s.2.1), some (.int s.2.2.1), some (.int s.2.2.2.1), some (.int s.2.2.2.2.1)] [] s.2.2.2.2.2 res) {s : (Int32 × Int32 × Int32 × Int32 × Int32 × sm_H)}  {r : ((Int32 × Int32 × Int32 × Int32 × Int32 × sm_H) ⊕ (Int32 × sm_H))} (hf : F_319_185B s = some r) (hs : (Sum.elim S1 (fun (r : Int32 × sm_H) => res = (some (.int r.1), r.2))) r) : Ex (P_G L xs) (RUN L xs d) (sm_lk P_t319) 0 185 [some (.ref 67), some (.int s.1), some (.int s.2.1), some (.int s.2.2.1), some (.int s.2.2.2.1), some (.int s.2.2.2.2.1)] [] s.2.2.2.2.2 res := by
  unfold F_319_185B at hf
  refine Ex.seg 2 (pc' := 189) (lc' := [some (.ref 67), some (.int s.1), some (.int s.2.1), some (.int s.2.2.1), some (.int s.2.2.2.1), some (.int s.2.2.2.2.1)]) (st' := [.int s.2.2.2.1, .int s.2.2.2.2.1]) (h' := s.2.2.2.2.2) (sg1 rfl rfl (sg1 rfl rfl rfl)) ?_
  refine Ex.icmp rfl rfl (fun (c0 : s.2.2.2.1 ≤ s.2.2.2.2.1) => ?_) (fun (c0 : ¬ (s.2.2.2.1 ≤ s.2.2.2.2.1)) => ?_)
  · rw [if_pos c0] at hf
    refine Ex.seg 2 (pc' := 229) (lc' := [some (.ref 67), some (.int s.1), some (.int s.2.1), some (.int s.2.2.1), some (.int s.2.2.2.1), some (.int 0)]) (st' := []) (h' := s.2.2.2.2.2) (sg1 rfl rfl (sg1 rfl rfl rfl)) ?_
    obtain ⟨r0, hf0, rfl⟩ := Option.map_eq_some_iff.mp hf
    exact Ex.weak (sm_le_s (sm_le_s (sm_le_n (sm_le_s (sm_le_s (sm_le_s sm_le_nil)))))) (B_319_229 hd  hf0 hs)
  · rw [if_neg c0] at hf
    refine Ex.seg 15 (pc' := 216) (lc' := [some (.ref 67), some (.int s.1), some (.int s.2.1), some (.int s.2.2.1), some (.int s.2.2.2.1), some (.int s.2.2.2.2.1)]) (st' := [.int (((24 * s.2.1) + 1) + s.2.2.2.2.1), .ref 81, .int 1, .ref 69, .int s.2.2.2.2.1, .ref 102]) (h' := s.2.2.2.2.2) (sg1 rfl rfl (sg1 rfl rfl (sg1 rfl rfl (sg1 rfl rfl (sg1 rfl rfl (sg1 rfl rfl (sg1 rfl rfl (sg1 rfl rfl (sg1 rfl rfl (sg1 rfl rfl (sg1 rfl rfl (sg1 rfl rfl (sg1 rfl rfl (sg1 rfl rfl (sg1 rfl rfl rfl))))))))))))))) ?_
    obtain ⟨v13, e_v13, hf⟩ := bnd hf
    refine Ex.iald e_v13 rfl rfl ?_
    refine Ex.seg 1 (pc' := 218) (lc' := [some (.ref 67), some (.int s.1), some (.int s.2.1), some (.int s.2.2.1), some (.int s.2.2.2.1), some (.int s.2.2.2.2.1)]) (st' := [.int (1 + v13), .ref 69, .int s.2.2.2.2.1, .ref 102]) (h' := s.2.2.2.2.2) (sg1 rfl rfl rfl) ?_
    obtain ⟨v14, e_v14, hf⟩ := bnd hf
    refine Ex.iald e_v14 rfl rfl ?_
    obtain ⟨h15, e_h15, hf⟩ := bnd hf
    refine Ex.iast e_h15 rfl rfl ?_
    refine Ex.seg 1 (pc' := 223) (lc' := [some (.ref 67), some (.int s.1), some (.int s.2.1), some (.int s.2.2.1), some (.int s.2.2.2.1), some (.int (s.2.2.2.2.1 + 1))]) (st' := []) (h' := h15) (sg1 rfl rfl rfl) ?_
    obtain ⟨v16, e_v16, hf⟩ := bnd hf
    rw [Option.some.inj e_v16]
    refine Ex.seg 1 (pc' := 185) (lc' := [some (.ref 67), some (.int s.1), some (.int s.2.1), some (.int s.2.2.1), some (.int s.2.2.2.1), some (.int v16)]) (st' := []) (h' := h15) (sg1 rfl rfl rfl) ?_
    obtain rfl := Option.some.inj hf
    exact Ex.weak (sm_le_s (sm_le_s (sm_le_s (sm_le_s (sm_le_s (sm_le_s sm_le_nil)))))) (hS1 _ hs)
def F_319_185 (y1 : Int32) (y2 : Int32) (y3 : Int32) (y4 : Int32) (y5 : Int32) (h : sm_H) : Option (Int32 × sm_H) := lp F_319_185B 1000000 (y1, y2, y3, y4, y5, h)
theorem B_319_185 {L : Nat} {xs : Nat → Int32} {d : Nat} (hd : 2 ≤ d) {res : Option Value × sm_H} {y1 : Int32} {y2 : Int32} {y3 : Int32} {y4 : Int32} {y5 : Int32}  {h : sm_H} {r : (Int32 × sm_H)} (hf : F_319_185 y1 y2 y3 y4 y5 h = some r) (hs : (fun (r : Int32 × sm_H) => res = (some (.int r.1), r.2)) r) : Ex (P_G L xs) (RUN L xs d) (sm_lk P_t319) 0 185 [some (.ref 67), some (.int y1), some (.int y2), some (.int y3), some (.int y4), some (.int y5)] [] h res := by
  unfold F_319_185 at hf
  exact lp_ok (P := fun (s : (Int32 × Int32 × Int32 × Int32 × Int32 × sm_H)) => Ex (P_G L xs) (RUN L xs d) (sm_lk P_t319) 0 185 [some (.ref 67), some (.int s.1), some (.int s.2.1), some (.int s.2.2.1), some (.int s.2.2.2.1), some (.int s.2.2.2.2.1)] [] s.2.2.2.2.2 res) (S := (fun (r : Int32 × sm_H) => res = (some (.int r.1), r.2))) (fun s x hx hsx => by
    intros
    exact B_319_185B hd  (fun _ q => q) hx hsx) 1000000 _ r hf hs
def F_319_112B (s : (Int32 × Int32 × Int32 × sm_H)) : Option ((Int32 × Int32 × Int32 × sm_H) ⊕ (Int32 × sm_H)) :=
  if (s.2.2.2.1 67 3) ≤ s.2.2.1 then ((ldI s.2.2.2 75 500 s.2.1).bind fun v17 =>
  if v17 = 5 then ((ldI s.2.2.2 81 12000 (24 * s.2.1)).bind fun v18 =>
  (F_305 v18 s.2.2.2).bind fun q19 =>
  (F_319_185 s.1 s.2.1 v18 q19.1 0 q19.2).map fun r => (.inr r))
  else ((F_319_275 s.1 s.2.1 s.2.2.2).map fun r => (.inr r)))
  else ((ldI s.2.2.2 69 24 s.2.2.1).bind fun v20 =>
  (ldI s.2.2.2 74 3000 ((10 * s.1) + v20)).bind fun v21 =>
  (F_306 s.2.1 (s.2.2.1 - 1) s.2.2.2).bind fun q22 =>
  if v21 = q22.1 then ((some (s.2.2.1 + 1 : Int32)).bind fun v23 =>
  some (.inl (s.1, s.2.1, v23, q22.2)))
  else (some (.inr (3, q22.2))))
theorem B_319_112B {L : Nat} {xs : Nat → Int32} {d : Nat} (hd : 2 ≤ d) {res : Option Value × sm_H} {S1 : (Int32 × Int32 × Int32 × sm_H) → Prop} (hS1 : ∀ s, S1 s → Ex (P_G L xs) (RUN L xs d) (sm_lk P_t319) 0 112 [some (.ref 67), some (.int s.1), some (.int s.2.1), some (.int s.2.2.1), none, none] [] s.2.2.2 res) {s : (Int32 × Int32 × Int32 × sm_H)}  {r : ((Int32 × Int32 × Int32 × sm_H) ⊕ (Int32 × sm_H))} (hf : F_319_112B s = some r) (hs : (Sum.elim S1 (fun (r : Int32 × sm_H) => res = (some (.int r.1), r.2))) r) : Ex (P_G L xs) (RUN L xs d) (sm_lk P_t319) 0 112 [some (.ref 67), some (.int s.1), some (.int s.2.1), some (.int s.2.2.1), none, none] [] s.2.2.2 res := by
  unfold F_319_112B at hf
  refine Ex.seg 3 (pc' := 117) (lc' := [some (.ref 67), some (.int s.1), some (.int s.2.1), some (.int s.2.2.1), none, none]) (st' := [.int (s.2.2.2.1 67 3), .int s.2.2.1]) (h' := s.2.2.2) (sg1 rfl rfl (sg1 rfl rfl (sg1 rfl rfl rfl))) ?_
  refine Ex.icmp rfl rfl (fun (c0 : (s.2.2.2.1 67 3) ≤ s.2.2.1) => ?_) (fun (c0 : ¬ ((s.2.2.2.1 67 3) ≤ s.2.2.1)) => ?_)
  · rw [if_pos c0] at hf
    refine Ex.seg 3 (pc' := 160) (lc' := [some (.ref 67), some (.int s.1), some (.int s.2.1), some (.int s.2.2.1), none, none]) (st' := [.int s.2.1, .ref 75]) (h' := s.2.2.2) (sg1 rfl rfl (sg1 rfl rfl (sg1 rfl rfl rfl))) ?_
    obtain ⟨v17, e_v17, hf⟩ := bnd hf
    refine Ex.iald e_v17 rfl rfl ?_
    refine Ex.seg 1 (pc' := 162) (lc' := [some (.ref 67), some (.int s.1), some (.int s.2.1), some (.int s.2.2.1), none, none]) (st' := [.int 5, .int v17]) (h' := s.2.2.2) (sg1 rfl rfl rfl) ?_
    refine Ex.icmp rfl rfl (fun (c0 : ¬ (v17 = 5)) => ?_) (fun (c0 : ¬ ¬ (v17 = 5)) => ?_)
    · rw [if_neg c0] at hf
      obtain ⟨r0, hf0, rfl⟩ := Option.map_eq_some_iff.mp hf
      exact Ex.weak (sm_le_s (sm_le_s (sm_le_s (sm_le_n (sm_le_s (sm_le_s sm_le_nil)))))) (B_319_275 hd  hf0 hs)
    · rw [if_pos (Classical.not_not.mp c0)] at hf
      refine Ex.seg 5 (pc' := 173) (lc' := [some (.ref 67), some (.int s.1), some (.int s.2.1), some (.int s.2.2.1), none, none]) (st' := [.int (24 * s.2.1), .ref 81]) (h' := s.2.2.2) (sg1 rfl rfl (sg1 rfl rfl (sg1 rfl rfl (sg1 rfl rfl (sg1 rfl rfl rfl))))) ?_
      obtain ⟨v18, e_v18, hf⟩ := bnd hf
      refine Ex.iald e_v18 rfl rfl ?_
      refine Ex.seg 3 (pc' := 177) (lc' := [some (.ref 67), some (.int s.1), some (.int s.2.1), some (.int v18), none, none]) (st' := [.int v18, .ref 67]) (h' := s.2.2.2) (sg1 rfl rfl (sg1 rfl rfl (sg1 rfl rfl rfl))) ?_
      obtain ⟨q19, e_q19, hf⟩ := bnd hf
      refine Ex.callV (a := 67) (As := [.int v18]) (r := []) (v := some (.int q19.1)) (h' := q19.2) rfl rfl (by decide) rfl (Nat.le_of_ble_eq_true rfl) rfl (E_305 (Nat.le_trans (by decide) hd) e_q19) rfl ?_
      refine Ex.seg 3 (pc' := 185) (lc' := [some (.ref 67), some (.int s.1), some (.int s.2.1), some (.int v18), some (.int q19.1), some (.int 0)]) (st' := []) (h' := q19.2) (sg1 rfl rfl (sg1 rfl rfl (sg1 rfl rfl rfl))) ?_
      obtain ⟨r0, hf0, rfl⟩ := Option.map_eq_some_iff.mp hf
      exact Ex.weak (sm_le_s (sm_le_s (sm_le_s (sm_le_s (sm_le_s (sm_le_s sm_le_nil)))))) (B_319_185 hd  hf0 hs)
  · rw [if_neg c0] at hf
    refine Ex.seg 8 (pc' := 133) (lc' := [some (.ref 67), some (.int s.1), some (.int s.2.1), some (.int s.2.2.1), none, none]) (st' := [.int s.2.2.1, .ref 69, .int (10 * s.1), .ref 74]) (h' := s.2.2.2) (sg1 rfl rfl (sg1 rfl rfl (sg1 rfl rfl (sg1 rfl rfl (sg1 rfl rfl (sg1 rfl rfl (sg1 rfl rfl (sg1 rfl rfl rfl)))))))) ?_
    obtain ⟨v20, e_v20, hf⟩ := bnd hf
    refine Ex.iald e_v20 rfl rfl ?_
    refine Ex.seg 1 (pc' := 135) (lc' := [some (.ref 67), some (.int s.1), some (.int s.2.1), some (.int s.2.2.1), none, none]) (st' := [.int ((10 * s.1) + v20), .ref 74]) (h' := s.2.2.2) (sg1 rfl rfl rfl) ?_
    obtain ⟨v21, e_v21, hf⟩ := bnd hf
    refine Ex.iald e_v21 rfl rfl ?_
    refine Ex.seg 5 (pc' := 141) (lc' := [some (.ref 67), some (.int s.1), some (.int s.2.1), some (.int s.2.2.1), none, none]) (st' := [.int (s.2.2.1 - 1), .int s.2.1, .ref 67, .int v21]) (h' := s.2.2.2) (sg1 rfl rfl (sg1 rfl rfl (sg1 rfl rfl (sg1 rfl rfl (sg1 rfl rfl rfl))))) ?_
    obtain ⟨q22, e_q22, hf⟩ := bnd hf
    refine Ex.callV (a := 67) (As := [.int s.2.1, .int (s.2.2.1 - 1)]) (r := [.int v21]) (v := some (.int q22.1)) (h' := q22.2) rfl rfl (by decide) rfl (Nat.le_of_ble_eq_true rfl) rfl (E_306 (Nat.le_trans (by decide) hd) e_q22) rfl ?_
    refine Ex.icmp rfl rfl (fun (c0 : v21 = q22.1) => ?_) (fun (c0 : ¬ (v21 = q22.1)) => ?_)
    · rw [if_pos c0] at hf
      refine Ex.seg 1 (pc' := 152) (lc' := [some (.ref 67), some (.int s.1), some (.int s.2.1), some (.int (s.2.2.1 + 1)), none, none]) (st' := []) (h' := q22.2) (sg1 rfl rfl rfl) ?_
      obtain ⟨v23, e_v23, hf⟩ := bnd hf
      rw [Option.some.inj e_v23]
      refine Ex.seg 1 (pc' := 112) (lc' := [some (.ref 67), some (.int s.1), some (.int s.2.1), some (.int v23), none, none]) (st' := []) (h' := q22.2) (sg1 rfl rfl rfl) ?_
      obtain rfl := Option.some.inj hf
      exact Ex.weak (sm_le_s (sm_le_s (sm_le_s (sm_le_s (sm_le_s (sm_le_s sm_le_nil)))))) (hS1 _ hs)
    · rw [if_neg c0] at hf
      refine Ex.seg 1 (pc' := 148) (lc' := [some (.ref 67), some (.int s.1), some (.int s.2.1), some (.int s.2.2.1), none, none]) (st' := [.int 3]) (h' := q22.2) (sg1 rfl rfl rfl) ?_
      obtain rfl := Option.some.inj hf
      exact Ex.iret rfl rfl (fun c0 => by cases c0) hs
def F_319_112 (y1 : Int32) (y2 : Int32) (y3 : Int32) (h : sm_H) : Option (Int32 × sm_H) := lp F_319_112B 1000000 (y1, y2, y3, h)
theorem B_319_112 {L : Nat} {xs : Nat → Int32} {d : Nat} (hd : 2 ≤ d) {res : Option Value × sm_H} {y1 : Int32} {y2 : Int32} {y3 : Int32}  {h : sm_H} {r : (Int32 × sm_H)} (hf : F_319_112 y1 y2 y3 h = some r) (hs : (fun (r : Int32 × sm_H) => res = (some (.int r.1), r.2)) r) : Ex (P_G L xs) (RUN L xs d) (sm_lk P_t319) 0 112 [some (.ref 67), some (.int y1), some (.int y2), some (.int y3), none, none] [] h res := by
  unfold F_319_112 at hf
  exact lp_ok (P := fun (s : (Int32 × Int32 × Int32 × sm_H)) => Ex (P_G L xs) (RUN L xs d) (sm_lk P_t319) 0 112 [some (.ref 67), some (.int s.1), some (.int s.2.1), some (.int s.2.2.1), none, none] [] s.2.2.2 res) (S := (fun (r : Int32 × sm_H) => res = (some (.int r.1), r.2))) (fun s x hx hsx => by
    intros
    exact B_319_112B hd  (fun _ q => q) hx hsx) 1000000 _ r hf hs
def F_319_55B (s : (Int32 × Int32 × Int32 × sm_H)) : Option ((Int32 × Int32 × Int32 × sm_H) ⊕ (Int32 × sm_H)) :=
  if (s.2.2.2.1 67 3) ≤ s.2.2.1 then ((ldI s.2.2.2 72 300 s.1).bind fun v24 =>
  (F_307 s.2.1 s.2.2.2).bind fun q25 =>
  if v24 = q25.1 then ((F_319_112 s.1 s.2.1 1 q25.2).map fun r => (.inr r))
  else (some (.inr (3, q25.2))))
  else ((ldI s.2.2.2 69 24 s.2.2.1).bind fun v26 =>
  (ldI s.2.2.2 73 300 s.1).bind fun v27 =>
  (F_315 (Int32.toInt64 v26) 0 (Int32.toInt64 (v27 - 1)) s.2.2.2).bind fun q28 =>
  if q28.1 = 0 then ((some (s.2.2.1 + 1 : Int32)).bind fun v29 =>
  some (.inl (s.1, s.2.1, v29, q28.2)))
  else (some (.inr (2, q28.2))))
theorem B_319_55B {L : Nat} {xs : Nat → Int32} {d : Nat} (hd : 2 ≤ d) {res : Option Value × sm_H} {S1 : (Int32 × Int32 × Int32 × sm_H) → Prop} (hS1 : ∀ s, S1 s → Ex (P_G L xs) (RUN L xs d) (sm_lk P_t319) 0 55 [some (.ref 67), some (.int s.1), some (.int s.2.1), some (.int s.2.2.1), none, none] [] s.2.2.2 res) {s : (Int32 × Int32 × Int32 × sm_H)}  {r : ((Int32 × Int32 × Int32 × sm_H) ⊕ (Int32 × sm_H))} (hf : F_319_55B s = some r) (hs : (Sum.elim S1 (fun (r : Int32 × sm_H) => res = (some (.int r.1), r.2))) r) : Ex (P_G L xs) (RUN L xs d) (sm_lk P_t319) 0 55 [some (.ref 67), some (.int s.1), some (.int s.2.1), some (.int s.2.2.1), none, none] [] s.2.2.2 res := by
  unfold F_319_55B at hf
  refine Ex.seg 3 (pc' := 60) (lc' := [some (.ref 67), some (.int s.1), some (.int s.2.1), some (.int s.2.2.1), none, none]) (st' := [.int (s.2.2.2.1 67 3), .int s.2.2.1]) (h' := s.2.2.2) (sg1 rfl rfl (sg1 rfl rfl (sg1 rfl rfl rfl))) ?_
  refine Ex.icmp rfl rfl (fun (c0 : (s.2.2.2.1 67 3) ≤ s.2.2.1) => ?_) (fun (c0 : ¬ ((s.2.2.2.1 67 3) ≤ s.2.2.1)) => ?_)
  · rw [if_pos c0] at hf
    refine Ex.seg 3 (pc' := 99) (lc' := [some (.ref 67), some (.int s.1), some (.int s.2.1), some (.int s.2.2.1), none, none]) (st' := [.int s.1, .ref 72]) (h' := s.2.2.2) (sg1 rfl rfl (sg1 rfl rfl (sg1 rfl rfl rfl))) ?_
    obtain ⟨v24, e_v24, hf⟩ := bnd hf
    refine Ex.iald e_v24 rfl rfl ?_
    refine Ex.seg 2 (pc' := 102) (lc' := [some (.ref 67), some (.int s.1), some (.int s.2.1), some (.int s.2.2.1), none, none]) (st' := [.int s.2.1, .ref 67, .int v24]) (h' := s.2.2.2) (sg1 rfl rfl (sg1 rfl rfl rfl)) ?_
    obtain ⟨q25, e_q25, hf⟩ := bnd hf
    refine Ex.callV (a := 67) (As := [.int s.2.1]) (r := [.int v24]) (v := some (.int q25.1)) (h' := q25.2) rfl rfl (by decide) rfl (Nat.le_of_ble_eq_true rfl) rfl (E_307 (Nat.le_trans (by decide) hd) e_q25) rfl ?_
    refine Ex.icmp rfl rfl (fun (c0 : v24 = q25.1) => ?_) (fun (c0 : ¬ (v24 = q25.1)) => ?_)
    · rw [if_pos c0] at hf
      refine Ex.seg 2 (pc' := 112) (lc' := [some (.ref 67), some (.int s.1), some (.int s.2.1), some (.int 1), none, none]) (st' := []) (h' := q25.2) (sg1 rfl rfl (sg1 rfl rfl rfl)) ?_
      obtain ⟨r0, hf0, rfl⟩ := Option.map_eq_some_iff.mp hf
      exact Ex.weak (sm_le_s (sm_le_s (sm_le_s (sm_le_s (sm_le_s (sm_le_s sm_le_nil)))))) (B_319_112 hd  hf0 hs)
    · rw [if_neg c0] at hf
      refine Ex.seg 1 (pc' := 109) (lc' := [some (.ref 67), some (.int s.1), some (.int s.2.1), some (.int s.2.2.1), none, none]) (st' := [.int 3]) (h' := q25.2) (sg1 rfl rfl rfl) ?_
      obtain rfl := Option.some.inj hf
      exact Ex.iret rfl rfl (fun c0 => by cases c0) hs
  · rw [if_neg c0] at hf
    refine Ex.seg 3 (pc' := 68) (lc' := [some (.ref 67), some (.int s.1), some (.int s.2.1), some (.int s.2.2.1), none, none]) (st' := [.int s.2.2.1, .ref 69]) (h' := s.2.2.2) (sg1 rfl rfl (sg1 rfl rfl (sg1 rfl rfl rfl))) ?_
    obtain ⟨v26, e_v26, hf⟩ := bnd hf
    refine Ex.iald e_v26 rfl rfl ?_
    refine Ex.seg 5 (pc' := 76) (lc' := [some (.ref 67), some (.int s.1), some (.int s.2.1), some (.int s.2.2.1), none, none]) (st' := [.int s.1, .ref 73, .long 0, .long (Int32.toInt64 v26)]) (h' := s.2.2.2) (sg1 rfl rfl (sg1 rfl rfl (sg1 rfl rfl (sg1 rfl rfl (sg1 rfl rfl rfl))))) ?_
    obtain ⟨v27, e_v27, hf⟩ := bnd hf
    refine Ex.iald e_v27 rfl rfl ?_
    refine Ex.seg 3 (pc' := 80) (lc' := [some (.ref 67), some (.int s.1), some (.int s.2.1), some (.int s.2.2.1), none, none]) (st' := [.long (Int32.toInt64 (v27 - 1)), .long 0, .long (Int32.toInt64 v26)]) (h' := s.2.2.2) (sg1 rfl rfl (sg1 rfl rfl (sg1 rfl rfl rfl))) ?_
    obtain ⟨q28, e_q28, hf⟩ := bnd hf
    refine Ex.callS (As := [.long (Int32.toInt64 v26), .long 0, .long (Int32.toInt64 (v27 - 1))]) (r := []) (v := some (.int q28.1)) (h' := q28.2) rfl rfl rfl rfl (Nat.le_of_ble_eq_true rfl) (E_315 (Nat.le_trans (by decide) hd) e_q28) rfl ?_
    refine Ex.ifc rfl rfl (fun (c0 : q28.1 = 0) => ?_) (fun (c0 : ¬ (q28.1 = 0)) => ?_)
    · rw [if_pos c0] at hf
      refine Ex.seg 1 (pc' := 91) (lc' := [some (.ref 67), some (.int s.1), some (.int s.2.1), some (.int (s.2.2.1 + 1)), none, none]) (st' := []) (h' := q28.2) (sg1 rfl rfl rfl) ?_
      obtain ⟨v29, e_v29, hf⟩ := bnd hf
      rw [Option.some.inj e_v29]
      refine Ex.seg 1 (pc' := 55) (lc' := [some (.ref 67), some (.int s.1), some (.int s.2.1), some (.int v29), none, none]) (st' := []) (h' := q28.2) (sg1 rfl rfl rfl) ?_
      obtain rfl := Option.some.inj hf
      exact Ex.weak (sm_le_s (sm_le_s (sm_le_s (sm_le_s (sm_le_s (sm_le_s sm_le_nil)))))) (hS1 _ hs)
    · rw [if_neg c0] at hf
      refine Ex.seg 1 (pc' := 87) (lc' := [some (.ref 67), some (.int s.1), some (.int s.2.1), some (.int s.2.2.1), none, none]) (st' := [.int 2]) (h' := q28.2) (sg1 rfl rfl rfl) ?_
      obtain rfl := Option.some.inj hf
      exact Ex.iret rfl rfl (fun c0 => by cases c0) hs
def F_319_55 (y1 : Int32) (y2 : Int32) (y3 : Int32) (h : sm_H) : Option (Int32 × sm_H) := lp F_319_55B 1000000 (y1, y2, y3, h)
theorem B_319_55 {L : Nat} {xs : Nat → Int32} {d : Nat} (hd : 2 ≤ d) {res : Option Value × sm_H} {y1 : Int32} {y2 : Int32} {y3 : Int32}  {h : sm_H} {r : (Int32 × sm_H)} (hf : F_319_55 y1 y2 y3 h = some r) (hs : (fun (r : Int32 × sm_H) => res = (some (.int r.1), r.2)) r) : Ex (P_G L xs) (RUN L xs d) (sm_lk P_t319) 0 55 [some (.ref 67), some (.int y1), some (.int y2), some (.int y3), none, none] [] h res := by
  unfold F_319_55 at hf
  exact lp_ok (P := fun (s : (Int32 × Int32 × Int32 × sm_H)) => Ex (P_G L xs) (RUN L xs d) (sm_lk P_t319) 0 55 [some (.ref 67), some (.int s.1), some (.int s.2.1), some (.int s.2.2.1), none, none] [] s.2.2.2 res) (S := (fun (r : Int32 × sm_H) => res = (some (.int r.1), r.2))) (fun s x hx hsx => by
    intros
    exact B_319_55B hd  (fun _ q => q) hx hsx) 1000000 _ r hf hs
def F_319_44  (h : sm_H) : Option (Int32 × sm_H) :=
  some (1, h)
theorem B_319_44 {L : Nat} {xs : Nat → Int32} {d : Nat} (hd : 2 ≤ d) {res : Option Value × sm_H}   {h : sm_H} {r : (Int32 × sm_H)} (hf : F_319_44  h = some r) (hs : (fun (r : Int32 × sm_H) => res = (some (.int r.1), r.2)) r) : Ex (P_G L xs) (RUN L xs d) (sm_lk P_t319) 0 44 [none, none, none, none, none, none] [] h res := by
  unfold F_319_44 at hf
  refine Ex.seg 1 (pc' := 45) (lc' := [none, none, none, none, none, none]) (st' := [.int 1]) (h' := h) (sg1 rfl rfl rfl) ?_
  obtain rfl := Option.some.inj hf
  exact Ex.iret rfl rfl (fun c0 => by cases c0) hs
def F_319_0 (x1 : Int32) (h : sm_H) : Option (Int32 × sm_H) :=
  if (h.1 67 3) < 1 then (F_319_44 h)
  else ((F_314 0 1 h).bind fun q30 =>
  if q30.1 = 0 then (F_319_44 q30.2)
  else ((F_303 x1 q30.2).bind fun q31 =>
  if q31.1 = 0 then (F_319_44 q31.2)
  else ((ldI q31.2 69 24 0).bind fun v32 =>
  (F_305 v32 q31.2).bind fun q33 =>
  if (q31.2.1 67 3) = (1 + q33.1) then ((ldI q33.2 69 24 0).bind fun v34 =>
  F_319_55 x1 v34 1 q33.2)
  else (F_319_44 q33.2))))
theorem B_319_0 {L : Nat} {xs : Nat → Int32} {d : Nat} (hd : 2 ≤ d) {res : Option Value × sm_H} {x1 : Int32}  {h : sm_H} {r : (Int32 × sm_H)} (hf : F_319_0 x1 h = some r) (hs : (fun (r : Int32 × sm_H) => res = (some (.int r.1), r.2)) r) : Ex (P_G L xs) (RUN L xs d) (sm_lk P_t319) 0 0 [some (.ref 67), some (.int x1), none, none, none, none] [] h res := by
  unfold F_319_0 at hf
  refine Ex.seg 3 (pc' := 5) (lc' := [some (.ref 67), some (.int x1), none, none, none, none]) (st' := [.int 1, .int (h.1 67 3)]) (h' := h) (sg1 rfl rfl (sg1 rfl rfl (sg1 rfl rfl rfl))) ?_
  refine Ex.icmp rfl rfl (fun (c0 : (h.1 67 3) < 1) => ?_) (fun (c0 : ¬ ((h.1 67 3) < 1)) => ?_)
  · rw [if_pos c0] at hf
    exact Ex.weak (sm_le_n (sm_le_n (sm_le_s (sm_le_s (sm_le_s (sm_le_s sm_le_nil)))))) (B_319_44 hd  hf hs)
  · rw [if_neg c0] at hf
    refine Ex.seg 3 (pc' := 11) (lc' := [some (.ref 67), some (.int x1), none, none, none, none]) (st' := [.int 1, .int 0, .ref 67]) (h' := h) (sg1 rfl rfl (sg1 rfl rfl (sg1 rfl rfl rfl))) ?_
    obtain ⟨q30, e_q30, hf⟩ := bnd hf
    refine Ex.callV (a := 67) (As := [.int 0, .int 1]) (r := []) (v := some (.int q30.1)) (h' := q30.2) rfl rfl (by decide) rfl (Nat.le_of_ble_eq_true rfl) rfl (E_314 (Nat.le_trans (by decide) hd) e_q30) rfl ?_
    refine Ex.ifc rfl rfl (fun (c0 : q30.1 = 0) => ?_) (fun (c0 : ¬ (q30.1 = 0)) => ?_)
    · rw [if_pos c0] at hf
      exact Ex.weak (sm_le_n (sm_le_n (sm_le_s (sm_le_s (sm_le_s (sm_le_s sm_le_nil)))))) (B_319_44 hd  hf hs)
    · rw [if_neg c0] at hf
      refine Ex.seg 2 (pc' := 19) (lc' := [some (.ref 67), some (.int x1), none, none, none, none]) (st' := [.int x1, .ref 67]) (h' := q30.2) (sg1 rfl rfl (sg1 rfl rfl rfl)) ?_
      obtain ⟨q31, e_q31, hf⟩ := bnd hf
      refine Ex.callV (a := 67) (As := [.int x1]) (r := []) (v := some (.int q31.1)) (h' := q31.2) rfl rfl (by decide) rfl (Nat.le_of_ble_eq_true rfl) rfl (E_303 (Nat.le_trans (by decide) hd) e_q31) rfl ?_
      refine Ex.ifc rfl rfl (fun (c0 : q31.1 = 0) => ?_) (fun (c0 : ¬ (q31.1 = 0)) => ?_)
      · rw [if_pos c0] at hf
        exact Ex.weak (sm_le_n (sm_le_n (sm_le_s (sm_le_s (sm_le_s (sm_le_s sm_le_nil)))))) (B_319_44 hd  hf hs)
      · rw [if_neg c0] at hf
        refine Ex.seg 7 (pc' := 36) (lc' := [some (.ref 67), some (.int x1), none, none, none, none]) (st' := [.int 0, .ref 69, .ref 67, .int 1, .int (q31.2.1 67 3)]) (h' := q31.2) (sg1 rfl rfl (sg1 rfl rfl (sg1 rfl rfl (sg1 rfl rfl (sg1 rfl rfl (sg1 rfl rfl (sg1 rfl rfl rfl))))))) ?_
        obtain ⟨v32, e_v32, hf⟩ := bnd hf
        refine Ex.iald e_v32 rfl rfl ?_
        obtain ⟨q33, e_q33, hf⟩ := bnd hf
        refine Ex.callV (a := 67) (As := [.int v32]) (r := [.int 1, .int (q31.2.1 67 3)]) (v := some (.int q33.1)) (h' := q33.2) rfl rfl (by decide) rfl (Nat.le_of_ble_eq_true rfl) rfl (E_305 (Nat.le_trans (by decide) hd) e_q33) rfl ?_
        refine Ex.seg 1 (pc' := 41) (lc' := [some (.ref 67), some (.int x1), none, none, none, none]) (st' := [.int (1 + q33.1), .int (q31.2.1 67 3)]) (h' := q33.2) (sg1 rfl rfl rfl) ?_
        refine Ex.icmp rfl rfl (fun (c0 : (q31.2.1 67 3) = (1 + q33.1)) => ?_) (fun (c0 : ¬ ((q31.2.1 67 3) = (1 + q33.1))) => ?_)
        · rw [if_pos c0] at hf
          refine Ex.seg 3 (pc' := 51) (lc' := [some (.ref 67), some (.int x1), none, none, none, none]) (st' := [.int 0, .ref 69]) (h' := q33.2) (sg1 rfl rfl (sg1 rfl rfl (sg1 rfl rfl rfl))) ?_
          obtain ⟨v34, e_v34, hf⟩ := bnd hf
          refine Ex.iald e_v34 rfl rfl ?_
          refine Ex.seg 3 (pc' := 55) (lc' := [some (.ref 67), some (.int x1), some (.int v34), some (.int 1), none, none]) (st' := []) (h' := q33.2) (sg1 rfl rfl (sg1 rfl rfl (sg1 rfl rfl rfl))) ?_
          exact Ex.weak (sm_le_s (sm_le_s (sm_le_s (sm_le_s (sm_le_s (sm_le_s sm_le_nil)))))) (B_319_55 hd  hf hs)
        · rw [if_neg c0] at hf
          exact Ex.weak (sm_le_n (sm_le_n (sm_le_s (sm_le_s (sm_le_s (sm_le_s sm_le_nil)))))) (B_319_44 hd  hf hs)
/-- HandleHouseModel.checkMove(I)I -/
abbrev F_319 (x1 : Int32) (h : sm_H) : Option (Int32 × sm_H) := F_319_0 x1 h
theorem E_319 {L : Nat} {xs : Nat → Int32} {d : Nat} (hd : 3 ≤ d) {x1 : Int32} {h : sm_H} {r : Int32 × sm_H} (hf : F_319 x1 h = some r) : RUN L xs d 319 [.ref 67, .int x1] h (some (.int r.1), r.2) := by
  obtain ⟨d, rfl⟩ : ∃ e, d = e + 1 := ⟨d - 1, by omega⟩
  exact ⟨Nat.le_of_ble_eq_true rfl, B_319_0 (by omega) hf rfl⟩
def F_321_90 (y1 : Int32) (y2 : Int32) (y3 : Int32) (y4 : Int32) (h : sm_H) : Option (Int32 × sm_H) :=
  (ldI h 75 500 y3).bind fun v1 =>
  if v1 = 2 then ((F_313 y2 h).bind fun q9 =>
  some (q9.1, q9.2))
  else ((F_307 y2 h).bind fun q2 =>
  (F_308 q2.1 q2.2).bind fun q3 =>
  (F_310 y2 0 y1 q3).bind fun q4 =>
  (F_305 y3 q4).bind fun q5 =>
  (F_310 y3 0 q5.1 q5.2).bind fun q6 =>
  (F_305 y2 q6).bind fun q7 =>
  (F_310 y2 (y1 + y4) q7.1 q7.2).bind fun q8 =>
  some (0, q8))
theorem B_321_90 {L : Nat} {xs : Nat → Int32} {d : Nat} (hd : 2 ≤ d) {res : Option Value × sm_H} {y1 : Int32} {y2 : Int32} {y3 : Int32} {y4 : Int32}  {h : sm_H} {r : (Int32 × sm_H)} (hf : F_321_90 y1 y2 y3 y4 h = some r) (hs : (fun (r : Int32 × sm_H) => res = (some (.int r.1), r.2)) r) : Ex (P_G L xs) (RUN L xs d) (sm_lk P_t321) 0 90 [some (.ref 67), some (.int y1), some (.int y2), some (.int y3), some (.int y4)] [] h res := by
  unfold F_321_90 at hf
  refine Ex.seg 3 (pc' := 95) (lc' := [some (.ref 67), some (.int y1), some (.int y2), some (.int y3), some (.int y4)]) (st' := [.int y3, .ref 75]) (h' := h) (sg1 rfl rfl (sg1 rfl rfl (sg1 rfl rfl rfl))) ?_
  obtain ⟨v1, e_v1, hf⟩ := bnd hf
  refine Ex.iald e_v1 rfl rfl ?_
  refine Ex.seg 1 (pc' := 97) (lc' := [some (.ref 67), some (.int y1), some (.int y2), some (.int y3), some (.int y4)]) (st' := [.int 2, .int v1]) (h' := h) (sg1 rfl rfl rfl) ?_
  refine Ex.icmp rfl rfl (fun (c0 : ¬ (v1 = 2)) => ?_) (fun (c0 : ¬ ¬ (v1 = 2)) => ?_)
  · rw [if_neg c0] at hf
    refine Ex.seg 3 (pc' := 108) (lc' := [some (.ref 67), some (.int y1), some (.int y2), some (.int y3), some (.int y4)]) (st' := [.int y2, .ref 67, .ref 67]) (h' := h) (sg1 rfl rfl (sg1 rfl rfl (sg1 rfl rfl rfl))) ?_
    obtain ⟨q2, e_q2, hf⟩ := bnd hf
    refine Ex.callV (a := 67) (As := [.int y2]) (r := [.ref 67]) (v := some (.int q2.1)) (h' := q2.2) rfl rfl (by decide) rfl (Nat.le_of_ble_eq_true rfl) rfl (E_307 (Nat.le_trans (by decide) hd) e_q2) rfl ?_
    obtain ⟨q3, e_q3, hf⟩ := bnd hf
    refine Ex.callV (a := 67) (As := [.int q2.1]) (r := []) (v := none) (h' := q3) rfl rfl (by decide) rfl (Nat.le_of_ble_eq_true rfl) rfl (E_308 (Nat.le_trans (by decide) hd) e_q3) rfl ?_
    refine Ex.seg 4 (pc' := 118) (lc' := [some (.ref 67), some (.int y1), some (.int y2), some (.int y3), some (.int y4)]) (st' := [.int y1, .int 0, .int y2, .ref 67]) (h' := q3) (sg1 rfl rfl (sg1 rfl rfl (sg1 rfl rfl (sg1 rfl rfl rfl)))) ?_
    obtain ⟨q4, e_q4, hf⟩ := bnd hf
    refine Ex.callV (a := 67) (As := [.int y2, .int 0, .int y1]) (r := []) (v := none) (h' := q4) rfl rfl (by decide) rfl (Nat.le_of_ble_eq_true rfl) rfl (E_310 (Nat.le_trans (by decide) hd) e_q4) rfl ?_
    refine Ex.seg 5 (pc' := 126) (lc' := [some (.ref 67), some (.int y1), some (.int y2), some (.int y3), some (.int y4)]) (st' := [.int y3, .ref 67, .int 0, .int y3, .ref 67]) (h' := q4) (sg1 rfl rfl (sg1 rfl rfl (sg1 rfl rfl (sg1 rfl rfl (sg1 rfl rfl rfl))))) ?_
    obtain ⟨q5, e_q5, hf⟩ := bnd hf
    refine Ex.callV (a := 67) (As := [.int y3]) (r := [.int 0, .int y3, .ref 67]) (v := some (.int q5.1)) (h' := q5.2) rfl rfl (by decide) rfl (Nat.le_of_ble_eq_true rfl) rfl (E_305 (Nat.le_trans (by decide) hd) e_q5) rfl ?_
    obtain ⟨q6, e_q6, hf⟩ := bnd hf
    refine Ex.callV (a := 67) (As := [.int y3, .int 0, .int q5.1]) (r := []) (v := none) (h' := q6) rfl rfl (by decide) rfl (Nat.le_of_ble_eq_true rfl) rfl (E_310 (Nat.le_trans (by decide) hd) e_q6) rfl ?_
    refine Ex.seg 7 (pc' := 140) (lc' := [some (.ref 67), some (.int y1), some (.int y2), some (.int y3), some (.int y4)]) (st' := [.int y2, .ref 67, .int (y1 + y4), .int y2, .ref 67]) (h' := q6) (sg1 rfl rfl (sg1 rfl rfl (sg1 rfl rfl (sg1 rfl rfl (sg1 rfl rfl (sg1 rfl rfl (sg1 rfl rfl rfl))))))) ?_
    obtain ⟨q7, e_q7, hf⟩ := bnd hf
    refine Ex.callV (a := 67) (As := [.int y2]) (r := [.int (y1 + y4), .int y2, .ref 67]) (v := some (.int q7.1)) (h' := q7.2) rfl rfl (by decide) rfl (Nat.le_of_ble_eq_true rfl) rfl (E_305 (Nat.le_trans (by decide) hd) e_q7) rfl ?_
    obtain ⟨q8, e_q8, hf⟩ := bnd hf
    refine Ex.callV (a := 67) (As := [.int y2, .int (y1 + y4), .int q7.1]) (r := []) (v := none) (h' := q8) rfl rfl (by decide) rfl (Nat.le_of_ble_eq_true rfl) rfl (E_310 (Nat.le_trans (by decide) hd) e_q8) rfl ?_
    refine Ex.seg 1 (pc' := 147) (lc' := [some (.ref 67), some (.int y1), some (.int y2), some (.int y3), some (.int y4)]) (st' := [.int 0]) (h' := q8) (sg1 rfl rfl rfl) ?_
    obtain rfl := Option.some.inj hf
    exact Ex.iret rfl rfl (fun c0 => by cases c0) hs
  · rw [if_pos (Classical.not_not.mp c0)] at hf
    refine Ex.seg 1 (pc' := 101) (lc' := [some (.ref 67), some (.int y1), some (.int y2), some (.int y3), some (.int y4)]) (st' := [.int y2]) (h' := h) (sg1 rfl rfl rfl) ?_
    obtain ⟨q9, e_q9, hf⟩ := bnd hf
    refine Ex.callS (As := [.int y2]) (r := []) (v := some (.int q9.1)) (h' := q9.2) rfl rfl rfl rfl (Nat.le_of_ble_eq_true rfl) (E_313 (Nat.le_trans (by decide) hd) e_q9) rfl ?_
    obtain rfl := Option.some.inj hf
    exact Ex.iret rfl rfl (fun c0 => by cases c0) hs
def F_321_46 (y1 : Int32) (y2 : Int32) (y3 : Int32) (z0 : Int32) (h : sm_H) : Option (Int32 × sm_H) :=
  (F_305 y2 h).bind fun q10 =>
  (F_315 (Int32.toInt64 y1) 0 (Int32.toInt64 (q10.1 - z0)) q10.2).bind fun q11 =>
  if q11.1 = 0 then (if z0 = 1 then ((F_306 y2 y1 q11.2).bind fun q12 =>
  (F_307 y3 q12.2).bind fun q13 =>
  if q12.1 = q13.1 then (F_321_90 y1 y2 y3 z0 q13.2)
  else (some (3, q13.2)))
  else (F_321_90 y1 y2 y3 z0 q11.2))
  else (some (2, q11.2))
theorem B_321_46 {L : Nat} {xs : Nat → Int32} {d : Nat} (hd : 2 ≤ d) {res : Option Value × sm_H} {y1 : Int32} {y2 : Int32} {y3 : Int32} {z0 : Int32}  {h : sm_H} {r : (Int32 × sm_H)} (hf : F_321_46 y1 y2 y3 z0 h = some r) (hs : (fun (r : Int32 × sm_H) => res = (some (.int r.1), r.2)) r) : Ex (P_G L xs) (RUN L xs d) (sm_lk P_t321) 0 46 [some (.ref 67), some (.int y1), some (.int y2), some (.int y3), none] [.int z0] h res := by
  unfold F_321_46 at hf
  refine Ex.seg 6 (pc' := 53) (lc' := [some (.ref 67), some (.int y1), some (.int y2), some (.int y3), some (.int z0)]) (st' := [.int y2, .ref 67, .long 0, .long (Int32.toInt64 y1)]) (h' := h) (sg1 rfl rfl (sg1 rfl rfl (sg1 rfl rfl (sg1 rfl rfl (sg1 rfl rfl (sg1 rfl rfl rfl)))))) ?_
  obtain ⟨q10, e_q10, hf⟩ := bnd hf
  refine Ex.callV (a := 67) (As := [.int y2]) (r := [.long 0, .long (Int32.toInt64 y1)]) (v := some (.int q10.1)) (h' := q10.2) rfl rfl (by decide) rfl (Nat.le_of_ble_eq_true rfl) rfl (E_305 (Nat.le_trans (by decide) hd) e_q10) rfl ?_
  refine Ex.seg 3 (pc' := 60) (lc' := [some (.ref 67), some (.int y1), some (.int y2), some (.int y3), some (.int z0)]) (st' := [.long (Int32.toInt64 (q10.1 - z0)), .long 0, .long (Int32.toInt64 y1)]) (h' := q10.2) (sg1 rfl rfl (sg1 rfl rfl (sg1 rfl rfl rfl))) ?_
  obtain ⟨q11, e_q11, hf⟩ := bnd hf
  refine Ex.callS (As := [.long (Int32.toInt64 y1), .long 0, .long (Int32.toInt64 (q10.1 - z0))]) (r := []) (v := some (.int q11.1)) (h' := q11.2) rfl rfl rfl rfl (Nat.le_of_ble_eq_true rfl) (E_315 (Nat.le_trans (by decide) hd) e_q11) rfl ?_
  refine Ex.ifc rfl rfl (fun (c0 : q11.1 = 0) => ?_) (fun (c0 : ¬ (q11.1 = 0)) => ?_)
  · rw [if_pos c0] at hf
    refine Ex.seg 2 (pc' := 71) (lc' := [some (.ref 67), some (.int y1), some (.int y2), some (.int y3), some (.int z0)]) (st' := [.int 1, .int z0]) (h' := q11.2) (sg1 rfl rfl (sg1 rfl rfl rfl)) ?_
    refine Ex.icmp rfl rfl (fun (c0 : ¬ (z0 = 1)) => ?_) (fun (c0 : ¬ ¬ (z0 = 1)) => ?_)
    · rw [if_neg c0] at hf
      exact Ex.weak (sm_le_s (sm_le_s (sm_le_s (sm_le_s (sm_le_s sm_le_nil))))) (B_321_90 hd  hf hs)
    · rw [if_pos (Classical.not_not.mp c0)] at hf
      refine Ex.seg 3 (pc' := 77) (lc' := [some (.ref 67), some (.int y1), some (.int y2), some (.int y3), some (.int z0)]) (st' := [.int y1, .int y2, .ref 67]) (h' := q11.2) (sg1 rfl rfl (sg1 rfl rfl (sg1 rfl rfl rfl))) ?_
      obtain ⟨q12, e_q12, hf⟩ := bnd hf
      refine Ex.callV (a := 67) (As := [.int y2, .int y1]) (r := []) (v := some (.int q12.1)) (h' := q12.2) rfl rfl (by decide) rfl (Nat.le_of_ble_eq_true rfl) rfl (E_306 (Nat.le_trans (by decide) hd) e_q12) rfl ?_
      refine Ex.seg 2 (pc' := 82) (lc' := [some (.ref 67), some (.int y1), some (.int y2), some (.int y3), some (.int z0)]) (st' := [.int y3, .ref 67, .int q12.1]) (h' := q12.2) (sg1 rfl rfl (sg1 rfl rfl rfl)) ?_
      obtain ⟨q13, e_q13, hf⟩ := bnd hf
      refine Ex.callV (a := 67) (As := [.int y3]) (r := [.int q12.1]) (v := some (.int q13.1)) (h' := q13.2) rfl rfl (by decide) rfl (Nat.le_of_ble_eq_true rfl) rfl (E_307 (Nat.le_trans (by decide) hd) e_q13) rfl ?_
      refine Ex.icmp rfl rfl (fun (c0 : q12.1 = q13.1) => ?_) (fun (c0 : ¬ (q12.1 = q13.1)) => ?_)
      · rw [if_pos c0] at hf
        exact Ex.weak (sm_le_s (sm_le_s (sm_le_s (sm_le_s (sm_le_s sm_le_nil))))) (B_321_90 hd  hf hs)
      · rw [if_neg c0] at hf
        refine Ex.seg 1 (pc' := 89) (lc' := [some (.ref 67), some (.int y1), some (.int y2), some (.int y3), some (.int z0)]) (st' := [.int 3]) (h' := q13.2) (sg1 rfl rfl rfl) ?_
        obtain rfl := Option.some.inj hf
        exact Ex.iret rfl rfl (fun c0 => by cases c0) hs
  · rw [if_neg c0] at hf
    refine Ex.seg 1 (pc' := 67) (lc' := [some (.ref 67), some (.int y1), some (.int y2), some (.int y3), some (.int z0)]) (st' := [.int 2]) (h' := q11.2) (sg1 rfl rfl rfl) ?_
    obtain rfl := Option.some.inj hf
    exact Ex.iret rfl rfl (fun c0 => by cases c0) hs
def F_321_17  (h : sm_H) : Option (Int32 × sm_H) :=
  some (1, h)
theorem B_321_17 {L : Nat} {xs : Nat → Int32} {d : Nat} (hd : 2 ≤ d) {res : Option Value × sm_H}   {h : sm_H} {r : (Int32 × sm_H)} (hf : F_321_17  h = some r) (hs : (fun (r : Int32 × sm_H) => res = (some (.int r.1), r.2)) r) : Ex (P_G L xs) (RUN L xs d) (sm_lk P_t321) 0 17 [none, none, none, none, none] [] h res := by
  unfold F_321_17 at hf
  refine Ex.seg 1 (pc' := 18) (lc' := [none, none, none, none, none]) (st' := [.int 1]) (h' := h) (sg1 rfl rfl rfl) ?_
  obtain rfl := Option.some.inj hf
  exact Ex.iret rfl rfl (fun c0 => by cases c0) hs
def F_321_0 (x1 : Int32) (h : sm_H) : Option (Int32 × sm_H) :=
  if (h.1 67 3) = 2 then ((F_314 0 2 h).bind fun q14 =>
  if q14.1 = 0 then (F_321_17 q14.2)
  else ((ldI q14.2 69 24 0).bind fun v15 =>
  (ldI q14.2 69 24 1).bind fun v16 =>
  (F_307 v16 q14.2).bind fun q17 =>
  if q17.1 = 0 then (F_321_46 x1 v15 v16 0 q17.2)
  else (F_321_46 x1 v15 v16 1 q17.2)))
  else (F_321_17 h)
theorem B_321_0 {L : Nat} {xs : Nat → Int32} {d : Nat} (hd : 2 ≤ d) {res : Option Value × sm_H} {x1 : Int32}  {h : sm_H} {r : (Int32 × sm_H)} (hf : F_321_0 x1 h = some r) (hs : (fun (r : Int32 × sm_H) => res = (some (.int r.1), r.2)) r) : Ex (P_G L xs) (RUN L xs d) (sm_lk P_t321) 0 0 [some (.ref 67), some (.int x1), none, none, none] [] h res := by
  unfold F_321_0 at hf
  refine Ex.seg 3 (pc' := 5) (lc' := [some (.ref 67), some (.int x1), none, none, none]) (st' := [.int 2, .int (h.1 67 3)]) (h' := h) (sg1 rfl rfl (sg1 rfl rfl (sg1 rfl rfl rfl))) ?_
  refine Ex.icmp rfl rfl (fun (c0 : ¬ ((h.1 67 3) = 2)) => ?_) (fun (c0 : ¬ ¬ ((h.1 67 3) = 2)) => ?_)
  · rw [if_neg c0] at hf
    exact Ex.weak (sm_le_n (sm_le_n (sm_le_s (sm_le_s (sm_le_s sm_le_nil))))) (B_321_17 hd  hf hs)
  · rw [if_pos (Classical.not_not.mp c0)] at hf
    refine Ex.seg 3 (pc' := 11) (lc' := [some (.ref 67), some (.int x1), none, none, none]) (st' := [.int 2, .int 0, .ref 67]) (h' := h) (sg1 rfl rfl (sg1 rfl rfl (sg1 rfl rfl rfl))) ?_
    obtain ⟨q14, e_q14, hf⟩ := bnd hf
    refine Ex.callV (a := 67) (As := [.int 0, .int 2]) (r := []) (v := some (.int q14.1)) (h' := q14.2) rfl rfl (by decide) rfl (Nat.le_of_ble_eq_true rfl) rfl (E_314 (Nat.le_trans (by decide) hd) e_q14) rfl ?_
    refine Ex.ifc rfl rfl (fun (c0 : ¬ (q14.1 = 0)) => ?_) (fun (c0 : ¬ ¬ (q14.1 = 0)) => ?_)
    · rw [if_neg c0] at hf
      refine Ex.seg 3 (pc' := 24) (lc' := [some (.ref 67), some (.int x1), none, none, none]) (st' := [.int 0, .ref 69]) (h' := q14.2) (sg1 rfl rfl (sg1 rfl rfl (sg1 rfl rfl rfl))) ?_
      obtain ⟨v15, e_v15, hf⟩ := bnd hf
      refine Ex.iald e_v15 rfl rfl ?_
      refine Ex.seg 4 (pc' := 31) (lc' := [some (.ref 67), some (.int x1), some (.int v15), none, none]) (st' := [.int 1, .ref 69]) (h' := q14.2) (sg1 rfl rfl (sg1 rfl rfl (sg1 rfl rfl (sg1 rfl rfl rfl)))) ?_
      obtain ⟨v16, e_v16, hf⟩ := bnd hf
      refine Ex.iald e_v16 rfl rfl ?_
      refine Ex.seg 3 (pc' := 35) (lc' := [some (.ref 67), some (.int x1), some (.int v15), some (.int v16), none]) (st' := [.int v16, .ref 67]) (h' := q14.2) (sg1 rfl rfl (sg1 rfl rfl (sg1 rfl rfl rfl))) ?_
      obtain ⟨q17, e_q17, hf⟩ := bnd hf
      refine Ex.callV (a := 67) (As := [.int v16]) (r := []) (v := some (.int q17.1)) (h' := q17.2) rfl rfl (by decide) rfl (Nat.le_of_ble_eq_true rfl) rfl (E_307 (Nat.le_trans (by decide) hd) e_q17) rfl ?_
      refine Ex.ifc rfl rfl (fun (c0 : ¬ (q17.1 = 0)) => ?_) (fun (c0 : ¬ ¬ (q17.1 = 0)) => ?_)
      · rw [if_neg c0] at hf
        refine Ex.seg 1 (pc' := 46) (lc' := [some (.ref 67), some (.int x1), some (.int v15), some (.int v16), none]) (st' := [.int 1]) (h' := q17.2) (sg1 rfl rfl rfl) ?_
        exact Ex.weak (sm_le_s (sm_le_s (sm_le_s (sm_le_s (sm_le_s sm_le_nil))))) (B_321_46 hd  hf hs)
      · rw [if_pos (Classical.not_not.mp c0)] at hf
        refine Ex.seg 2 (pc' := 46) (lc' := [some (.ref 67), some (.int x1), some (.int v15), some (.int v16), none]) (st' := [.int 0]) (h' := q17.2) (sg1 rfl rfl (sg1 rfl rfl rfl)) ?_
        exact Ex.weak (sm_le_s (sm_le_s (sm_le_s (sm_le_s (sm_le_s sm_le_nil))))) (B_321_46 hd  hf hs)
    · rw [if_pos (Classical.not_not.mp c0)] at hf
      exact Ex.weak (sm_le_n (sm_le_n (sm_le_s (sm_le_s (sm_le_s sm_le_nil))))) (B_321_17 hd  hf hs)
/-- HandleHouseModel.checkCollect(I)I -/
abbrev F_321 (x1 : Int32) (h : sm_H) : Option (Int32 × sm_H) := F_321_0 x1 h
theorem E_321 {L : Nat} {xs : Nat → Int32} {d : Nat} (hd : 3 ≤ d) {x1 : Int32} {h : sm_H} {r : Int32 × sm_H} (hf : F_321 x1 h = some r) : RUN L xs d 321 [.ref 67, .int x1] h (some (.int r.1), r.2) := by
  obtain ⟨d, rfl⟩ : ∃ e, d = e + 1 := ⟨d - 1, by omega⟩
  exact ⟨Nat.le_of_ble_eq_true rfl, B_321_0 (by omega) hf rfl⟩
def F_322_135 (z0 : Int32) (h : sm_H) : Option (Int32 × sm_H) :=
  some (z0, h)
theorem B_322_135 {L : Nat} {xs : Nat → Int32} {d : Nat} (hd : 2 ≤ d) {res : Option Value × sm_H} {z0 : Int32}  {h : sm_H} {r : (Int32 × sm_H)} (hf : F_322_135 z0 h = some r) (hs : (fun (r : Int32 × sm_H) => res = (some (.int r.1), r.2)) r) : Ex (P_G L xs) (RUN L xs d) (sm_lk P_t322) 0 135 [none, none, none, none, none] [.int z0] h res := by
  unfold F_322_135 at hf
  obtain rfl := Option.some.inj hf
  exact Ex.iret rfl rfl (fun c0 => by cases c0) hs
def F_322_90 (y1 : Int32) (y2 : Int32) (y3 : Int32) (y4 : Int32) (h : sm_H) : Option (Int32 × sm_H) :=
  (F_307 y2 h).bind fun q1 =>
  (F_308 q1.1 q1.2).bind fun q2 =>
  (F_310 y2 0 y1 q2).bind fun q3 =>
  (F_305 y2 q3).bind fun q4 =>
  (F_310 y2 (y1 + y4) q4.1 q4.2).bind fun q5 =>
  (F_312 y3 0 y1 q5).bind fun q6 =>
  if q6.1 = 0 then (F_322_135 3 q6.2)
  else (F_322_135 0 q6.2)
theorem B_322_90 {L : Nat} {xs : Nat → Int32} {d : Nat} (hd : 2 ≤ d) {res : Option Value × sm_H} {y1 : Int32} {y2 : Int32} {y3 : Int32} {y4 : Int32}  {h : sm_H} {r : (Int32 × sm_H)} (hf : F_322_90 y1 y2 y3 y4 h = some r) (hs : (fun (r : Int32 × sm_H) => res = (some (.int r.1), r.2)) r) : Ex (P_G L xs) (RUN L xs d) (sm_lk P_t322) 0 90 [some (.ref 67), some (.int y1), some (.int y2), some (.int y3), some (.int y4)] [] h res := by
  unfold F_322_90 at hf
  refine Ex.seg 3 (pc' := 93) (lc' := [some (.ref 67), some (.int y1), some (.int y2), some (.int y3), some (.int y4)]) (st' := [.int y2, .ref 67, .ref 67]) (h' := h) (sg1 rfl rfl (sg1 rfl rfl (sg1 rfl rfl rfl))) ?_
  obtain ⟨q1, e_q1, hf⟩ := bnd hf
  refine Ex.callV (a := 67) (As := [.int y2]) (r := [.ref 67]) (v := some (.int q1.1)) (h' := q1.2) rfl rfl (by decide) rfl (Nat.le_of_ble_eq_true rfl) rfl (E_307 (Nat.le_trans (by decide) hd) e_q1) rfl ?_
  obtain ⟨q2, e_q2, hf⟩ := bnd hf
  refine Ex.callV (a := 67) (As := [.int q1.1]) (r := []) (v := none) (h' := q2) rfl rfl (by decide) rfl (Nat.le_of_ble_eq_true rfl) rfl (E_308 (Nat.le_trans (by decide) hd) e_q2) rfl ?_
  refine Ex.seg 4 (pc' := 103) (lc' := [some (.ref 67), some (.int y1), some (.int y2), some (.int y3), some (.int y4)]) (st' := [.int y1, .int 0, .int y2, .ref 67]) (h' := q2) (sg1 rfl rfl (sg1 rfl rfl (sg1 rfl rfl (sg1 rfl rfl rfl)))) ?_
  obtain ⟨q3, e_q3, hf⟩ := bnd hf
  refine Ex.callV (a := 67) (As := [.int y2, .int 0, .int y1]) (r := []) (v := none) (h' := q3) rfl rfl (by decide) rfl (Nat.le_of_ble_eq_true rfl) rfl (E_310 (Nat.le_trans (by decide) hd) e_q3) rfl ?_
  refine Ex.seg 7 (pc' := 114) (lc' := [some (.ref 67), some (.int y1), some (.int y2), some (.int y3), some (.int y4)]) (st' := [.int y2, .ref 67, .int (y1 + y4), .int y2, .ref 67]) (h' := q3) (sg1 rfl rfl (sg1 rfl rfl (sg1 rfl rfl (sg1 rfl rfl (sg1 rfl rfl (sg1 rfl rfl (sg1 rfl rfl rfl))))))) ?_
  obtain ⟨q4, e_q4, hf⟩ := bnd hf
  refine Ex.callV (a := 67) (As := [.int y2]) (r := [.int (y1 + y4), .int y2, .ref 67]) (v := some (.int q4.1)) (h' := q4.2) rfl rfl (by decide) rfl (Nat.le_of_ble_eq_true rfl) rfl (E_305 (Nat.le_trans (by decide) hd) e_q4) rfl ?_
  obtain ⟨q5, e_q5, hf⟩ := bnd hf
  refine Ex.callV (a := 67) (As := [.int y2, .int (y1 + y4), .int q4.1]) (r := []) (v := none) (h' := q5) rfl rfl (by decide) rfl (Nat.le_of_ble_eq_true rfl) rfl (E_310 (Nat.le_trans (by decide) hd) e_q5) rfl ?_
  refine Ex.seg 4 (pc' := 124) (lc' := [some (.ref 67), some (.int y1), some (.int y2), some (.int y3), some (.int y4)]) (st' := [.int y1, .int 0, .int y3, .ref 67]) (h' := q5) (sg1 rfl rfl (sg1 rfl rfl (sg1 rfl rfl (sg1 rfl rfl rfl)))) ?_
  obtain ⟨q6, e_q6, hf⟩ := bnd hf
  refine Ex.callV (a := 67) (As := [.int y3, .int 0, .int y1]) (r := []) (v := some (.int q6.1)) (h' := q6.2) rfl rfl (by decide) rfl (Nat.le_of_ble_eq_true rfl) rfl (E_312 (Nat.le_trans (by decide) hd) e_q6) rfl ?_
  refine Ex.ifc rfl rfl (fun (c0 : q6.1 = 0) => ?_) (fun (c0 : ¬ (q6.1 = 0)) => ?_)
  · rw [if_pos c0] at hf
    refine Ex.seg 1 (pc' := 135) (lc' := [some (.ref 67), some (.int y1), some (.int y2), some (.int y3), some (.int y4)]) (st' := [.int 3]) (h' := q6.2) (sg1 rfl rfl rfl) ?_
    exact Ex.weak (sm_le_n (sm_le_n (sm_le_n (sm_le_n (sm_le_n sm_le_nil))))) (B_322_135 hd  hf hs)
  · rw [if_neg c0] at hf
    refine Ex.seg 2 (pc' := 135) (lc' := [some (.ref 67), some (.int y1), some (.int y2), some (.int y3), some (.int y4)]) (st' := [.int 0]) (h' := q6.2) (sg1 rfl rfl (sg1 rfl rfl rfl)) ?_
    exact Ex.weak (sm_le_n (sm_le_n (sm_le_n (sm_le_n (sm_le_n sm_le_nil))))) (B_322_135 hd  hf hs)
def F_322_46 (y1 : Int32) (y2 : Int32) (y3 : Int32) (z0 : Int32) (h : sm_H) : Option (Int32 × sm_H) :=
  (F_305 y2 h).bind fun q7 =>
  (F_315 (Int32.toInt64 y1) 0 (Int32.toInt64 (q7.1 - z0)) q7.2).bind fun q8 =>
  if q8.1 = 0 then (if z0 = 1 then ((F_306 y2 y1 q8.2).bind fun q9 =>
  (F_307 y3 q9.2).bind fun q10 =>
  if q9.1 = q10.1 then (F_322_90 y1 y2 y3 z0 q10.2)
  else (some (3, q10.2)))
  else (F_322_90 y1 y2 y3 z0 q8.2))
  else (some (2, q8.2))
theorem B_322_46 {L : Nat} {xs : Nat → Int32} {d : Nat} (hd : 2 ≤ d) {res : Option Value × sm_H} {y1 : Int32} {y2 : Int32} {y3 : Int32} {z0 : Int32}  {h : sm_H} {r : (Int32 × sm_H)} (hf : F_322_46 y1 y2 y3 z0 h = some r) (hs : (fun (r : Int32 × sm_H) => res = (some (.int r.1), r.2)) r) : Ex (P_G L xs) (RUN L xs d) (sm_lk P_t322) 0 46 [some (.ref 67), some (.int y1), some (.int y2), some (.int y3), none] [.int z0] h res := by
  unfold F_322_46 at hf
  refine Ex.seg 6 (pc' := 53) (lc' := [some (.ref 67), some (.int y1), some (.int y2), some (.int y3), some (.int z0)]) (st' := [.int y2, .ref 67, .long 0, .long (Int32.toInt64 y1)]) (h' := h) (sg1 rfl rfl (sg1 rfl rfl (sg1 rfl rfl (sg1 rfl rfl (sg1 rfl rfl (sg1 rfl rfl rfl)))))) ?_
  obtain ⟨q7, e_q7, hf⟩ := bnd hf
  refine Ex.callV (a := 67) (As := [.int y2]) (r := [.long 0, .long (Int32.toInt64 y1)]) (v := some (.int q7.1)) (h' := q7.2) rfl rfl (by decide) rfl (Nat.le_of_ble_eq_true rfl) rfl (E_305 (Nat.le_trans (by decide) hd) e_q7) rfl ?_
  refine Ex.seg 3 (pc' := 60) (lc' := [some (.ref 67), some (.int y1), some (.int y2), some (.int y3), some (.int z0)]) (st' := [.long (Int32.toInt64 (q7.1 - z0)), .long 0, .long (Int32.toInt64 y1)]) (h' := q7.2) (sg1 rfl rfl (sg1 rfl rfl (sg1 rfl rfl rfl))) ?_
  obtain ⟨q8, e_q8, hf⟩ := bnd hf
  refine Ex.callS (As := [.long (Int32.toInt64 y1), .long 0, .long (Int32.toInt64 (q7.1 - z0))]) (r := []) (v := some (.int q8.1)) (h' := q8.2) rfl rfl rfl rfl (Nat.le_of_ble_eq_true rfl) (E_315 (Nat.le_trans (by decide) hd) e_q8) rfl ?_
  refine Ex.ifc rfl rfl (fun (c0 : q8.1 = 0) => ?_) (fun (c0 : ¬ (q8.1 = 0)) => ?_)
  · rw [if_pos c0] at hf
    refine Ex.seg 2 (pc' := 71) (lc' := [some (.ref 67), some (.int y1), some (.int y2), some (.int y3), some (.int z0)]) (st' := [.int 1, .int z0]) (h' := q8.2) (sg1 rfl rfl (sg1 rfl rfl rfl)) ?_
    refine Ex.icmp rfl rfl (fun (c0 : ¬ (z0 = 1)) => ?_) (fun (c0 : ¬ ¬ (z0 = 1)) => ?_)
    · rw [if_neg c0] at hf
      exact Ex.weak (sm_le_s (sm_le_s (sm_le_s (sm_le_s (sm_le_s sm_le_nil))))) (B_322_90 hd  hf hs)
    · rw [if_pos (Classical.not_not.mp c0)] at hf
      refine Ex.seg 3 (pc' := 77) (lc' := [some (.ref 67), some (.int y1), some (.int y2), some (.int y3), some (.int z0)]) (st' := [.int y1, .int y2, .ref 67]) (h' := q8.2) (sg1 rfl rfl (sg1 rfl rfl (sg1 rfl rfl rfl))) ?_
      obtain ⟨q9, e_q9, hf⟩ := bnd hf
      refine Ex.callV (a := 67) (As := [.int y2, .int y1]) (r := []) (v := some (.int q9.1)) (h' := q9.2) rfl rfl (by decide) rfl (Nat.le_of_ble_eq_true rfl) rfl (E_306 (Nat.le_trans (by decide) hd) e_q9) rfl ?_
      refine Ex.seg 2 (pc' := 82) (lc' := [some (.ref 67), some (.int y1), some (.int y2), some (.int y3), some (.int z0)]) (st' := [.int y3, .ref 67, .int q9.1]) (h' := q9.2) (sg1 rfl rfl (sg1 rfl rfl rfl)) ?_
      obtain ⟨q10, e_q10, hf⟩ := bnd hf
      refine Ex.callV (a := 67) (As := [.int y3]) (r := [.int q9.1]) (v := some (.int q10.1)) (h' := q10.2) rfl rfl (by decide) rfl (Nat.le_of_ble_eq_true rfl) rfl (E_307 (Nat.le_trans (by decide) hd) e_q10) rfl ?_
      refine Ex.icmp rfl rfl (fun (c0 : q9.1 = q10.1) => ?_) (fun (c0 : ¬ (q9.1 = q10.1)) => ?_)
      · rw [if_pos c0] at hf
        exact Ex.weak (sm_le_s (sm_le_s (sm_le_s (sm_le_s (sm_le_s sm_le_nil))))) (B_322_90 hd  hf hs)
      · rw [if_neg c0] at hf
        refine Ex.seg 1 (pc' := 89) (lc' := [some (.ref 67), some (.int y1), some (.int y2), some (.int y3), some (.int z0)]) (st' := [.int 3]) (h' := q10.2) (sg1 rfl rfl rfl) ?_
        obtain rfl := Option.some.inj hf
        exact Ex.iret rfl rfl (fun c0 => by cases c0) hs
  · rw [if_neg c0] at hf
    refine Ex.seg 1 (pc' := 67) (lc' := [some (.ref 67), some (.int y1), some (.int y2), some (.int y3), some (.int z0)]) (st' := [.int 2]) (h' := q8.2) (sg1 rfl rfl rfl) ?_
    obtain rfl := Option.some.inj hf
    exact Ex.iret rfl rfl (fun c0 => by cases c0) hs
def F_322_17  (h : sm_H) : Option (Int32 × sm_H) :=
  some (1, h)
theorem B_322_17 {L : Nat} {xs : Nat → Int32} {d : Nat} (hd : 2 ≤ d) {res : Option Value × sm_H}   {h : sm_H} {r : (Int32 × sm_H)} (hf : F_322_17  h = some r) (hs : (fun (r : Int32 × sm_H) => res = (some (.int r.1), r.2)) r) : Ex (P_G L xs) (RUN L xs d) (sm_lk P_t322) 0 17 [none, none, none, none, none] [] h res := by
  unfold F_322_17 at hf
  refine Ex.seg 1 (pc' := 18) (lc' := [none, none, none, none, none]) (st' := [.int 1]) (h' := h) (sg1 rfl rfl rfl) ?_
  obtain rfl := Option.some.inj hf
  exact Ex.iret rfl rfl (fun c0 => by cases c0) hs
def F_322_0 (x1 : Int32) (h : sm_H) : Option (Int32 × sm_H) :=
  if (h.1 67 3) = 2 then ((F_314 0 2 h).bind fun q11 =>
  if q11.1 = 0 then (F_322_17 q11.2)
  else ((ldI q11.2 69 24 0).bind fun v12 =>
  (ldI q11.2 69 24 1).bind fun v13 =>
  (F_307 v13 q11.2).bind fun q14 =>
  if q14.1 = 0 then (F_322_46 x1 v12 v13 0 q14.2)
  else (F_322_46 x1 v12 v13 1 q14.2)))
  else (F_322_17 h)
theorem B_322_0 {L : Nat} {xs : Nat → Int32} {d : Nat} (hd : 2 ≤ d) {res : Option Value × sm_H} {x1 : Int32}  {h : sm_H} {r : (Int32 × sm_H)} (hf : F_322_0 x1 h = some r) (hs : (fun (r : Int32 × sm_H) => res = (some (.int r.1), r.2)) r) : Ex (P_G L xs) (RUN L xs d) (sm_lk P_t322) 0 0 [some (.ref 67), some (.int x1), none, none, none] [] h res := by
  unfold F_322_0 at hf
  refine Ex.seg 3 (pc' := 5) (lc' := [some (.ref 67), some (.int x1), none, none, none]) (st' := [.int 2, .int (h.1 67 3)]) (h' := h) (sg1 rfl rfl (sg1 rfl rfl (sg1 rfl rfl rfl))) ?_
  refine Ex.icmp rfl rfl (fun (c0 : ¬ ((h.1 67 3) = 2)) => ?_) (fun (c0 : ¬ ¬ ((h.1 67 3) = 2)) => ?_)
  · rw [if_neg c0] at hf
    exact Ex.weak (sm_le_n (sm_le_n (sm_le_s (sm_le_s (sm_le_s sm_le_nil))))) (B_322_17 hd  hf hs)
  · rw [if_pos (Classical.not_not.mp c0)] at hf
    refine Ex.seg 3 (pc' := 11) (lc' := [some (.ref 67), some (.int x1), none, none, none]) (st' := [.int 2, .int 0, .ref 67]) (h' := h) (sg1 rfl rfl (sg1 rfl rfl (sg1 rfl rfl rfl))) ?_
    obtain ⟨q11, e_q11, hf⟩ := bnd hf
    refine Ex.callV (a := 67) (As := [.int 0, .int 2]) (r := []) (v := some (.int q11.1)) (h' := q11.2) rfl rfl (by decide) rfl (Nat.le_of_ble_eq_true rfl) rfl (E_314 (Nat.le_trans (by decide) hd) e_q11) rfl ?_
    refine Ex.ifc rfl rfl (fun (c0 : ¬ (q11.1 = 0)) => ?_) (fun (c0 : ¬ ¬ (q11.1 = 0)) => ?_)
    · rw [if_neg c0] at hf
      refine Ex.seg 3 (pc' := 24) (lc' := [some (.ref 67), some (.int x1), none, none, none]) (st' := [.int 0, .ref 69]) (h' := q11.2) (sg1 rfl rfl (sg1 rfl rfl (sg1 rfl rfl rfl))) ?_
      obtain ⟨v12, e_v12, hf⟩ := bnd hf
      refine Ex.iald e_v12 rfl rfl ?_
      refine Ex.seg 4 (pc' := 31) (lc' := [some (.ref 67), some (.int x1), some (.int v12), none, none]) (st' := [.int 1, .ref 69]) (h' := q11.2) (sg1 rfl rfl (sg1 rfl rfl (sg1 rfl rfl (sg1 rfl rfl rfl)))) ?_
      obtain ⟨v13, e_v13, hf⟩ := bnd hf
      refine Ex.iald e_v13 rfl rfl ?_
      refine Ex.seg 3 (pc' := 35) (lc' := [some (.ref 67), some (.int x1), some (.int v12), some (.int v13), none]) (st' := [.int v13, .ref 67]) (h' := q11.2) (sg1 rfl rfl (sg1 rfl rfl (sg1 rfl rfl rfl))) ?_
      obtain ⟨q14, e_q14, hf⟩ := bnd hf
      refine Ex.callV (a := 67) (As := [.int v13]) (r := []) (v := some (.int q14.1)) (h' := q14.2) rfl rfl (by decide) rfl (Nat.le_of_ble_eq_true rfl) rfl (E_307 (Nat.le_trans (by decide) hd) e_q14) rfl ?_
      refine Ex.ifc rfl rfl (fun (c0 : ¬ (q14.1 = 0)) => ?_) (fun (c0 : ¬ ¬ (q14.1 = 0)) => ?_)
      · rw [if_neg c0] at hf
        refine Ex.seg 1 (pc' := 46) (lc' := [some (.ref 67), some (.int x1), some (.int v12), some (.int v13), none]) (st' := [.int 1]) (h' := q14.2) (sg1 rfl rfl rfl) ?_
        exact Ex.weak (sm_le_s (sm_le_s (sm_le_s (sm_le_s (sm_le_s sm_le_nil))))) (B_322_46 hd  hf hs)
      · rw [if_pos (Classical.not_not.mp c0)] at hf
        refine Ex.seg 2 (pc' := 46) (lc' := [some (.ref 67), some (.int x1), some (.int v12), some (.int v13), none]) (st' := [.int 0]) (h' := q14.2) (sg1 rfl rfl (sg1 rfl rfl rfl)) ?_
        exact Ex.weak (sm_le_s (sm_le_s (sm_le_s (sm_le_s (sm_le_s sm_le_nil))))) (B_322_46 hd  hf hs)
    · rw [if_pos (Classical.not_not.mp c0)] at hf
      exact Ex.weak (sm_le_n (sm_le_n (sm_le_s (sm_le_s (sm_le_s sm_le_nil))))) (B_322_17 hd  hf hs)
/-- HandleHouseModel.checkFold(I)I -/
abbrev F_322 (x1 : Int32) (h : sm_H) : Option (Int32 × sm_H) := F_322_0 x1 h
theorem E_322 {L : Nat} {xs : Nat → Int32} {d : Nat} (hd : 3 ≤ d) {x1 : Int32} {h : sm_H} {r : Int32 × sm_H} (hf : F_322 x1 h = some r) : RUN L xs d 322 [.ref 67, .int x1] h (some (.int r.1), r.2) := by
  obtain ⟨d, rfl⟩ : ∃ e, d = e + 1 := ⟨d - 1, by omega⟩
  exact ⟨Nat.le_of_ble_eq_true rfl, B_322_0 (by omega) hf rfl⟩
def F_323_85 (y1 : Int32) (y2 : Int32) (z0 : Int32) (h : sm_H) : Option (Int32 × sm_H) :=
  if z0 = 0 then (some (3, h))
  else ((ldI h 75 500 y2).bind fun v1 =>
  if v1 = 2 then ((F_313 y1 h).bind fun q6 =>
  some (q6.1, q6.2))
  else ((F_307 y2 h).bind fun q2 =>
  (F_308 q2.1 q2.2).bind fun q3 =>
  (F_305 y1 q3).bind fun q4 =>
  (F_310 y1 0 q4.1 q4.2).bind fun q5 =>
  some (0, q5)))
theorem B_323_85 {L : Nat} {xs : Nat → Int32} {d : Nat} (hd : 2 ≤ d) {res : Option Value × sm_H} {y1 : Int32} {y2 : Int32} {z0 : Int32}  {h : sm_H} {r : (Int32 × sm_H)} (hf : F_323_85 y1 y2 z0 h = some r) (hs : (fun (r : Int32 × sm_H) => res = (some (.int r.1), r.2)) r) : Ex (P_G L xs) (RUN L xs d) (sm_lk P_t323) 0 85 [some (.ref 67), some (.int y1), some (.int y2), none] [.int z0] h res := by
  unfold F_323_85 at hf
  refine Ex.seg 2 (pc' := 87) (lc' := [some (.ref 67), some (.int y1), some (.int y2), some (.int z0)]) (st' := [.int z0]) (h' := h) (sg1 rfl rfl (sg1 rfl rfl rfl)) ?_
  refine Ex.ifc rfl rfl (fun (c0 : ¬ (z0 = 0)) => ?_) (fun (c0 : ¬ ¬ (z0 = 0)) => ?_)
  · rw [if_neg c0] at hf
    refine Ex.seg 3 (pc' := 97) (lc' := [some (.ref 67), some (.int y1), some (.int y2), some (.int z0)]) (st' := [.int y2, .ref 75]) (h' := h) (sg1 rfl rfl (sg1 rfl rfl (sg1 rfl rfl rfl))) ?_
    obtain ⟨v1, e_v1, hf⟩ := bnd hf
    refine Ex.iald e_v1 rfl rfl ?_
    refine Ex.seg 1 (pc' := 99) (lc' := [some (.ref 67), some (.int y1), some (.int y2), some (.int z0)]) (st' := [.int 2, .int v1]) (h' := h) (sg1 rfl rfl rfl) ?_
    refine Ex.icmp rfl rfl (fun (c0 : ¬ (v1 = 2)) => ?_) (fun (c0 : ¬ ¬ (v1 = 2)) => ?_)
    · rw [if_neg c0] at hf
      refine Ex.seg 3 (pc' := 110) (lc' := [some (.ref 67), some (.int y1), some (.int y2), some (.int z0)]) (st' := [.int y2, .ref 67, .ref 67]) (h' := h) (sg1 rfl rfl (sg1 rfl rfl (sg1 rfl rfl rfl))) ?_
      obtain ⟨q2, e_q2, hf⟩ := bnd hf
      refine Ex.callV (a := 67) (As := [.int y2]) (r := [.ref 67]) (v := some (.int q2.1)) (h' := q2.2) rfl rfl (by decide) rfl (Nat.le_of_ble_eq_true rfl) rfl (E_307 (Nat.le_trans (by decide) hd) e_q2) rfl ?_
      obtain ⟨q3, e_q3, hf⟩ := bnd hf
      refine Ex.callV (a := 67) (As := [.int q2.1]) (r := []) (v := none) (h' := q3) rfl rfl (by decide) rfl (Nat.le_of_ble_eq_true rfl) rfl (E_308 (Nat.le_trans (by decide) hd) e_q3) rfl ?_
      refine Ex.seg 5 (pc' := 121) (lc' := [some (.ref 67), some (.int y1), some (.int y2), some (.int z0)]) (st' := [.int y1, .ref 67, .int 0, .int y1, .ref 67]) (h' := q3) (sg1 rfl rfl (sg1 rfl rfl (sg1 rfl rfl (sg1 rfl rfl (sg1 rfl rfl rfl))))) ?_
      obtain ⟨q4, e_q4, hf⟩ := bnd hf
      refine Ex.callV (a := 67) (As := [.int y1]) (r := [.int 0, .int y1, .ref 67]) (v := some (.int q4.1)) (h' := q4.2) rfl rfl (by decide) rfl (Nat.le_of_ble_eq_true rfl) rfl (E_305 (Nat.le_trans (by decide) hd) e_q4) rfl ?_
      obtain ⟨q5, e_q5, hf⟩ := bnd hf
      refine Ex.callV (a := 67) (As := [.int y1, .int 0, .int q4.1]) (r := []) (v := none) (h' := q5) rfl rfl (by decide) rfl (Nat.le_of_ble_eq_true rfl) rfl (E_310 (Nat.le_trans (by decide) hd) e_q5) rfl ?_
      refine Ex.seg 1 (pc' := 128) (lc' := [some (.ref 67), some (.int y1), some (.int y2), some (.int z0)]) (st' := [.int 0]) (h' := q5) (sg1 rfl rfl rfl) ?_
      obtain rfl := Option.some.inj hf
      exact Ex.iret rfl rfl (fun c0 => by cases c0) hs
    · rw [if_pos (Classical.not_not.mp c0)] at hf
      refine Ex.seg 1 (pc' := 103) (lc' := [some (.ref 67), some (.int y1), some (.int y2), some (.int z0)]) (st' := [.int y1]) (h' := h) (sg1 rfl rfl rfl) ?_
      obtain ⟨q6, e_q6, hf⟩ := bnd hf
      refine Ex.callS (As := [.int y1]) (r := []) (v := some (.int q6.1)) (h' := q6.2) rfl rfl rfl rfl (Nat.le_of_ble_eq_true rfl) (E_313 (Nat.le_trans (by decide) hd) e_q6) rfl ?_
      obtain rfl := Option.some.inj hf
      exact Ex.iret rfl rfl (fun c0 => by cases c0) hs
  · rw [if_pos (Classical.not_not.mp c0)] at hf
    refine Ex.seg 1 (pc' := 91) (lc' := [some (.ref 67), some (.int y1), some (.int y2), some (.int z0)]) (st' := [.int 3]) (h' := h) (sg1 rfl rfl rfl) ?_
    obtain rfl := Option.some.inj hf
    exact Ex.iret rfl rfl (fun c0 => by cases c0) hs
def F_323_84 (y1 : Int32) (y2 : Int32) (h : sm_H) : Option (Int32 × sm_H) :=
  F_323_85 y1 y2 0 h
theorem B_323_84 {L : Nat} {xs : Nat → Int32} {d : Nat} (hd : 2 ≤ d) {res : Option Value × sm_H} {y1 : Int32} {y2 : Int32}  {h : sm_H} {r : (Int32 × sm_H)} (hf : F_323_84 y1 y2 h = some r) (hs : (fun (r : Int32 × sm_H) => res = (some (.int r.1), r.2)) r) : Ex (P_G L xs) (RUN L xs d) (sm_lk P_t323) 0 84 [some (.ref 67), some (.int y1), some (.int y2), none] [] h res := by
  unfold F_323_84 at hf
  refine Ex.seg 1 (pc' := 85) (lc' := [some (.ref 67), some (.int y1), some (.int y2), none]) (st' := [.int 0]) (h' := h) (sg1 rfl rfl rfl) ?_
  exact Ex.weak (sm_le_s (sm_le_s (sm_le_s (sm_le_s sm_le_nil)))) (B_323_85 hd  hf hs)
def F_323_17  (h : sm_H) : Option (Int32 × sm_H) :=
  some (1, h)
theorem B_323_17 {L : Nat} {xs : Nat → Int32} {d : Nat} (hd : 2 ≤ d) {res : Option Value × sm_H}   {h : sm_H} {r : (Int32 × sm_H)} (hf : F_323_17  h = some r) (hs : (fun (r : Int32 × sm_H) => res = (some (.int r.1), r.2)) r) : Ex (P_G L xs) (RUN L xs d) (sm_lk P_t323) 0 17 [none, none, none, none] [] h res := by
  unfold F_323_17 at hf
  refine Ex.seg 1 (pc' := 18) (lc' := [none, none, none, none]) (st' := [.int 1]) (h' := h) (sg1 rfl rfl rfl) ?_
  obtain rfl := Option.some.inj hf
  exact Ex.iret rfl rfl (fun c0 => by cases c0) hs
def F_323_0  (h : sm_H) : Option (Int32 × sm_H) :=
  if (h.1 67 3) = 2 then ((F_314 0 2 h).bind fun q7 =>
  if q7.1 = 0 then (F_323_17 q7.2)
  else ((ldI q7.2 69 24 0).bind fun v8 =>
  (ldI q7.2 69 24 1).bind fun v9 =>
  (F_307 v8 q7.2).bind fun q10 =>
  if q10.1 = 0 then ((F_305 v9 q10.2).bind fun q14 =>
  if q14.1 = 0 then (F_323_85 v8 v9 1 q14.2)
  else (F_323_85 v8 v9 0 q14.2))
  else ((F_305 v9 q10.2).bind fun q11 =>
  if q11.1 = 1 then ((F_306 v9 0 q11.2).bind fun q12 =>
  (F_307 v8 q12.2).bind fun q13 =>
  if q12.1 = q13.1 then (F_323_85 v8 v9 1 q13.2)
  else (F_323_84 v8 v9 q13.2))
  else (F_323_84 v8 v9 q11.2))))
  else (F_323_17 h)
theorem B_323_0 {L : Nat} {xs : Nat → Int32} {d : Nat} (hd : 2 ≤ d) {res : Option Value × sm_H}   {h : sm_H} {r : (Int32 × sm_H)} (hf : F_323_0  h = some r) (hs : (fun (r : Int32 × sm_H) => res = (some (.int r.1), r.2)) r) : Ex (P_G L xs) (RUN L xs d) (sm_lk P_t323) 0 0 [some (.ref 67), none, none, none] [] h res := by
  unfold F_323_0 at hf
  refine Ex.seg 3 (pc' := 5) (lc' := [some (.ref 67), none, none, none]) (st' := [.int 2, .int (h.1 67 3)]) (h' := h) (sg1 rfl rfl (sg1 rfl rfl (sg1 rfl rfl rfl))) ?_
  refine Ex.icmp rfl rfl (fun (c0 : ¬ ((h.1 67 3) = 2)) => ?_) (fun (c0 : ¬ ¬ ((h.1 67 3) = 2)) => ?_)
  · rw [if_neg c0] at hf
    exact Ex.weak (sm_le_n (sm_le_s (sm_le_s (sm_le_s sm_le_nil)))) (B_323_17 hd  hf hs)
  · rw [if_pos (Classical.not_not.mp c0)] at hf
    refine Ex.seg 3 (pc' := 11) (lc' := [some (.ref 67), none, none, none]) (st' := [.int 2, .int 0, .ref 67]) (h' := h) (sg1 rfl rfl (sg1 rfl rfl (sg1 rfl rfl rfl))) ?_
    obtain ⟨q7, e_q7, hf⟩ := bnd hf
    refine Ex.callV (a := 67) (As := [.int 0, .int 2]) (r := []) (v := some (.int q7.1)) (h' := q7.2) rfl rfl (by decide) rfl (Nat.le_of_ble_eq_true rfl) rfl (E_314 (Nat.le_trans (by decide) hd) e_q7) rfl ?_
    refine Ex.ifc rfl rfl (fun (c0 : ¬ (q7.1 = 0)) => ?_) (fun (c0 : ¬ ¬ (q7.1 = 0)) => ?_)
    · rw [if_neg c0] at hf
      refine Ex.seg 3 (pc' := 24) (lc' := [some (.ref 67), none, none, none]) (st' := [.int 0, .ref 69]) (h' := q7.2) (sg1 rfl rfl (sg1 rfl rfl (sg1 rfl rfl rfl))) ?_
      obtain ⟨v8, e_v8, hf⟩ := bnd hf
      refine Ex.iald e_v8 rfl rfl ?_
      refine Ex.seg 4 (pc' := 31) (lc' := [some (.ref 67), some (.int v8), none, none]) (st' := [.int 1, .ref 69]) (h' := q7.2) (sg1 rfl rfl (sg1 rfl rfl (sg1 rfl rfl (sg1 rfl rfl rfl)))) ?_
      obtain ⟨v9, e_v9, hf⟩ := bnd hf
      refine Ex.iald e_v9 rfl rfl ?_
      refine Ex.seg 3 (pc' := 35) (lc' := [some (.ref 67), some (.int v8), some (.int v9), none]) (st' := [.int v8, .ref 67]) (h' := q7.2) (sg1 rfl rfl (sg1 rfl rfl (sg1 rfl rfl rfl))) ?_
      obtain ⟨q10, e_q10, hf⟩ := bnd hf
      refine Ex.callV (a := 67) (As := [.int v8]) (r := []) (v := some (.int q10.1)) (h' := q10.2) rfl rfl (by decide) rfl (Nat.le_of_ble_eq_true rfl) rfl (E_307 (Nat.le_trans (by decide) hd) e_q10) rfl ?_
      refine Ex.ifc rfl rfl (fun (c0 : ¬ (q10.1 = 0)) => ?_) (fun (c0 : ¬ ¬ (q10.1 = 0)) => ?_)
      · rw [if_neg c0] at hf
        refine Ex.seg 2 (pc' := 59) (lc' := [some (.ref 67), some (.int v8), some (.int v9), none]) (st' := [.int v9, .ref 67]) (h' := q10.2) (sg1 rfl rfl (sg1 rfl rfl rfl)) ?_
        obtain ⟨q11, e_q11, hf⟩ := bnd hf
        refine Ex.callV (a := 67) (As := [.int v9]) (r := []) (v := some (.int q11.1)) (h' := q11.2) rfl rfl (by decide) rfl (Nat.le_of_ble_eq_true rfl) rfl (E_305 (Nat.le_trans (by decide) hd) e_q11) rfl ?_
        refine Ex.seg 1 (pc' := 63) (lc' := [some (.ref 67), some (.int v8), some (.int v9), none]) (st' := [.int 1, .int q11.1]) (h' := q11.2) (sg1 rfl rfl rfl) ?_
        refine Ex.icmp rfl rfl (fun (c0 : ¬ (q11.1 = 1)) => ?_) (fun (c0 : ¬ ¬ (q11.1 = 1)) => ?_)
        · rw [if_neg c0] at hf
          exact Ex.weak (sm_le_s (sm_le_s (sm_le_s (sm_le_s sm_le_nil)))) (B_323_84 hd  hf hs)
        · rw [if_pos (Classical.not_not.mp c0)] at hf
          refine Ex.seg 3 (pc' := 69) (lc' := [some (.ref 67), some (.int v8), some (.int v9), none]) (st' := [.int 0, .int v9, .ref 67]) (h' := q11.2) (sg1 rfl rfl (sg1 rfl rfl (sg1 rfl rfl rfl))) ?_
          obtain ⟨q12, e_q12, hf⟩ := bnd hf
          refine Ex.callV (a := 67) (As := [.int v9, .int 0]) (r := []) (v := some (.int q12.1)) (h' := q12.2) rfl rfl (by decide) rfl (Nat.le_of_ble_eq_true rfl) rfl (E_306 (Nat.le_trans (by decide) hd) e_q12) rfl ?_
          refine Ex.seg 2 (pc' := 74) (lc' := [some (.ref 67), some (.int v8), some (.int v9), none]) (st' := [.int v8, .ref 67, .int q12.1]) (h' := q12.2) (sg1 rfl rfl (sg1 rfl rfl rfl)) ?_
          obtain ⟨q13, e_q13, hf⟩ := bnd hf
          refine Ex.callV (a := 67) (As := [.int v8]) (r := [.int q12.1]) (v := some (.int q13.1)) (h' := q13.2) rfl rfl (by decide) rfl (Nat.le_of_ble_eq_true rfl) rfl (E_307 (Nat.le_trans (by decide) hd) e_q13) rfl ?_
          refine Ex.icmp rfl rfl (fun (c0 : ¬ (q12.1 = q13.1)) => ?_) (fun (c0 : ¬ ¬ (q12.1 = q13.1)) => ?_)
          · rw [if_neg c0] at hf
            exact Ex.weak (sm_le_s (sm_le_s (sm_le_s (sm_le_s sm_le_nil)))) (B_323_84 hd  hf hs)
          · rw [if_pos (Classical.not_not.mp c0)] at hf
            refine Ex.seg 2 (pc' := 85) (lc' := [some (.ref 67), some (.int v8), some (.int v9), none]) (st' := [.int 1]) (h' := q13.2) (sg1 rfl rfl (sg1 rfl rfl rfl)) ?_
            exact Ex.weak (sm_le_s (sm_le_s (sm_le_s (sm_le_s sm_le_nil)))) (B_323_85 hd  hf hs)
      · rw [if_pos (Classical.not_not.mp c0)] at hf
        refine Ex.seg 2 (pc' := 43) (lc' := [some (.ref 67), some (.int v8), some (.int v9), none]) (st' := [.int v9, .ref 67]) (h' := q10.2) (sg1 rfl rfl (sg1 rfl rfl rfl)) ?_
        obtain ⟨q14, e_q14, hf⟩ := bnd hf
        refine Ex.callV (a := 67) (As := [.int v9]) (r := []) (v := some (.int q14.1)) (h' := q14.2) rfl rfl (by decide) rfl (Nat.le_of_ble_eq_true rfl) rfl (E_305 (Nat.le_trans (by decide) hd) e_q14) rfl ?_
        refine Ex.ifc rfl rfl (fun (c0 : ¬ (q14.1 = 0)) => ?_) (fun (c0 : ¬ ¬ (q14.1 = 0)) => ?_)
        · rw [if_neg c0] at hf
          refine Ex.seg 2 (pc' := 85) (lc' := [some (.ref 67), some (.int v8), some (.int v9), none]) (st' := [.int 0]) (h' := q14.2) (sg1 rfl rfl (sg1 rfl rfl rfl)) ?_
          exact Ex.weak (sm_le_s (sm_le_s (sm_le_s (sm_le_s sm_le_nil)))) (B_323_85 hd  hf hs)
        · rw [if_pos (Classical.not_not.mp c0)] at hf
          refine Ex.seg 2 (pc' := 85) (lc' := [some (.ref 67), some (.int v8), some (.int v9), none]) (st' := [.int 1]) (h' := q14.2) (sg1 rfl rfl (sg1 rfl rfl rfl)) ?_
          exact Ex.weak (sm_le_s (sm_le_s (sm_le_s (sm_le_s sm_le_nil)))) (B_323_85 hd  hf hs)
    · rw [if_pos (Classical.not_not.mp c0)] at hf
      exact Ex.weak (sm_le_n (sm_le_s (sm_le_s (sm_le_s sm_le_nil)))) (B_323_17 hd  hf hs)
/-- HandleHouseModel.checkResult()I -/
abbrev F_323  (h : sm_H) : Option (Int32 × sm_H) := F_323_0  h
theorem E_323 {L : Nat} {xs : Nat → Int32} {d : Nat} (hd : 3 ≤ d)  {h : sm_H} {r : Int32 × sm_H} (hf : F_323  h = some r) : RUN L xs d 323 [.ref 67] h (some (.int r.1), r.2) := by
  obtain ⟨d, rfl⟩ : ∃ e, d = e + 1 := ⟨d - 1, by omega⟩
  exact ⟨Nat.le_of_ble_eq_true rfl, B_323_0 (by omega) hf rfl⟩
def F_324_59B (s : (Int32 × Int32 × Int32 × Int32 × sm_H)) : Option ((Int32 × Int32 × Int32 × Int32 × sm_H) ⊕ (Int32 × sm_H)) :=
  (F_305 s.2.2.1 s.2.2.2.2).bind fun q1 =>
  if q1.1 ≤ s.2.2.2.1 then ((F_307 s.2.2.1 q1.2).bind fun q2 =>
  (F_308 q2.1 q2.2).bind fun q3 =>
  (F_305 s.2.2.1 q3).bind fun q4 =>
  (F_310 s.2.2.1 0 (q4.1 - s.2.1) q4.2).bind fun q5 =>
  (F_309 s.1 q5).bind fun q6 =>
  some (.inr (0, q6)))
  else ((F_306 s.2.2.1 s.2.2.2.1 q1.2).bind fun q7 =>
  (F_294 s.1 q7.2).bind fun q8 =>
  if q7.1 = q8.1 then ((some (s.2.2.2.1 + 1 : Int32)).bind fun v9 =>
  some (.inl (s.1, s.2.1, s.2.2.1, v9, q8.2)))
  else (some (.inr (3, q8.2))))
theorem B_324_59B {L : Nat} {xs : Nat → Int32} {d : Nat} (hd : 2 ≤ d) {res : Option Value × sm_H} {S1 : (Int32 × Int32 × Int32 × Int32 × sm_H) → Prop} (hS1 : ∀ s, S1 s → Ex (P_G L xs) (RUN L xs d) (sm_lk P_t324) 0 59 [some (.ref 67), some (.int s.1), some (.int s.2.1), some (.int s.2.2.1), some (.int s.2.2.2.1)] [] s.2.2.2.2 res) {s : (Int32 × Int32 × Int32 × Int32 × sm_H)}  {r : ((Int32 × Int32 × Int32 × Int32 × sm_H) ⊕ (Int32 × sm_H))} (hf : F_324_59B s = some r) (hs : (Sum.elim S1 (fun (r : Int32 × sm_H) => res = (some (.int r.1), r.2))) r) : Ex (P_G L xs) (RUN L xs d) (sm_lk P_t324) 0 59 [some (.ref 67), some (.int s.1), some (.int s.2.1), some (.int s.2.2.1), some (.int s.2.2.2.1)] [] s.2.2.2.2 res := by
  unfold F_324_59B at hf
  refine Ex.seg 3 (pc' := 63) (lc' := [some (.ref 67), some (.int s.1), some (.int s.2.1), some (.int s.2.2.1), some (.int s.2.2.2.1)]) (st' := [.int s.2.2.1, .ref 67, .int s.2.2.2.1]) (h' := s.2.2.2.2) (sg1 rfl rfl (sg1 rfl rfl (sg1 rfl rfl rfl))) ?_
  obtain ⟨q1, e_q1, hf⟩ := bnd hf
  refine Ex.callV (a := 67) (As := [.int s.2.2.1]) (r := [.int s.2.2.2.1]) (v := some (.int q1.1)) (h' := q1.2) rfl rfl (by decide) rfl (Nat.le_of_ble_eq_true rfl) rfl (E_305 (Nat.le_trans (by decide) hd) e_q1) rfl ?_
  refine Ex.icmp rfl rfl (fun (c0 : q1.1 ≤ s.2.2.2.1) => ?_) (fun (c0 : ¬ (q1.1 ≤ s.2.2.2.1)) => ?_)
  · rw [if_pos c0] at hf
    refine Ex.seg 3 (pc' := 94) (lc' := [some (.ref 67), some (.int s.1), some (.int s.2.1), some (.int s.2.2.1), some (.int s.2.2.2.1)]) (st' := [.int s.2.2.1, .ref 67, .ref 67]) (h' := q1.2) (sg1 rfl rfl (sg1 rfl rfl (sg1 rfl rfl rfl))) ?_
    obtain ⟨q2, e_q2, hf⟩ := bnd hf
    refine Ex.callV (a := 67) (As := [.int s.2.2.1]) (r := [.ref 67]) (v := some (.int q2.1)) (h' := q2.2) rfl rfl (by decide) rfl (Nat.le_of_ble_eq_true rfl) rfl (E_307 (Nat.le_trans (by decide) hd) e_q2) rfl ?_
    obtain ⟨q3, e_q3, hf⟩ := bnd hf
    refine Ex.callV (a := 67) (As := [.int q2.1]) (r := []) (v := none) (h' := q3) rfl rfl (by decide) rfl (Nat.le_of_ble_eq_true rfl) rfl (E_308 (Nat.le_trans (by decide) hd) e_q3) rfl ?_
    refine Ex.seg 5 (pc' := 105) (lc' := [some (.ref 67), some (.int s.1), some (.int s.2.1), some (.int s.2.2.1), some (.int s.2.2.2.1)]) (st' := [.int s.2.2.1, .ref 67, .int 0, .int s.2.2.1, .ref 67]) (h' := q3) (sg1 rfl rfl (sg1 rfl rfl (sg1 rfl rfl (sg1 rfl rfl (sg1 rfl rfl rfl))))) ?_
    obtain ⟨q4, e_q4, hf⟩ := bnd hf
    refine Ex.callV (a := 67) (As := [.int s.2.2.1]) (r := [.int 0, .int s.2.2.1, .ref 67]) (v := some (.int q4.1)) (h' := q4.2) rfl rfl (by decide) rfl (Nat.le_of_ble_eq_true rfl) rfl (E_305 (Nat.le_trans (by decide) hd) e_q4) rfl ?_
    refine Ex.seg 2 (pc' := 110) (lc' := [some (.ref 67), some (.int s.1), some (.int s.2.1), some (.int s.2.2.1), some (.int s.2.2.2.1)]) (st' := [.int (q4.1 - s.2.1), .int 0, .int s.2.2.1, .ref 67]) (h' := q4.2) (sg1 rfl rfl (sg1 rfl rfl rfl)) ?_
    obtain ⟨q5, e_q5, hf⟩ := bnd hf
    refine Ex.callV (a := 67) (As := [.int s.2.2.1, .int 0, .int (q4.1 - s.2.1)]) (r := []) (v := none) (h' := q5) rfl rfl (by decide) rfl (Nat.le_of_ble_eq_true rfl) rfl (E_310 (Nat.le_trans (by decide) hd) e_q5) rfl ?_
    refine Ex.seg 2 (pc' := 115) (lc' := [some (.ref 67), some (.int s.1), some (.int s.2.1), some (.int s.2.2.1), some (.int s.2.2.2.1)]) (st' := [.int s.1, .ref 67]) (h' := q5) (sg1 rfl rfl (sg1 rfl rfl rfl)) ?_
    obtain ⟨q6, e_q6, hf⟩ := bnd hf
    refine Ex.callV (a := 67) (As := [.int s.1]) (r := []) (v := none) (h' := q6) rfl rfl (by decide) rfl (Nat.le_of_ble_eq_true rfl) rfl (E_309 (Nat.le_trans (by decide) hd) e_q6) rfl ?_
    refine Ex.seg 1 (pc' := 119) (lc' := [some (.ref 67), some (.int s.1), some (.int s.2.1), some (.int s.2.2.1), some (.int s.2.2.2.1)]) (st' := [.int 0]) (h' := q6) (sg1 rfl rfl rfl) ?_
    obtain rfl := Option.some.inj hf
    exact Ex.iret rfl rfl (fun c0 => by cases c0) hs
  · rw [if_neg c0] at hf
    refine Ex.seg 3 (pc' := 73) (lc' := [some (.ref 67), some (.int s.1), some (.int s.2.1), some (.int s.2.2.1), some (.int s.2.2.2.1)]) (st' := [.int s.2.2.2.1, .int s.2.2.1, .ref 67]) (h' := q1.2) (sg1 rfl rfl (sg1 rfl rfl (sg1 rfl rfl rfl))) ?_
    obtain ⟨q7, e_q7, hf⟩ := bnd hf
    refine Ex.callV (a := 67) (As := [.int s.2.2.1, .int s.2.2.2.1]) (r := []) (v := some (.int q7.1)) (h' := q7.2) rfl rfl (by decide) rfl (Nat.le_of_ble_eq_true rfl) rfl (E_306 (Nat.le_trans (by decide) hd) e_q7) rfl ?_
    refine Ex.seg 1 (pc' := 77) (lc' := [some (.ref 67), some (.int s.1), some (.int s.2.1), some (.int s.2.2.1), some (.int s.2.2.2.1)]) (st' := [.int s.1, .int q7.1]) (h' := q7.2) (sg1 rfl rfl rfl) ?_
    obtain ⟨q8, e_q8, hf⟩ := bnd hf
    refine Ex.callS (As := [.int s.1]) (r := [.int q7.1]) (v := some (.int q8.1)) (h' := q8.2) rfl rfl rfl rfl (Nat.le_of_ble_eq_true rfl) (E_294 (Nat.le_trans (by decide) hd) e_q8) rfl ?_
    refine Ex.icmp rfl rfl (fun (c0 : q7.1 = q8.1) => ?_) (fun (c0 : ¬ (q7.1 = q8.1)) => ?_)
    · rw [if_pos c0] at hf
      refine Ex.seg 1 (pc' := 88) (lc' := [some (.ref 67), some (.int s.1), some (.int s.2.1), some (.int s.2.2.1), some (.int (s.2.2.2.1 + 1))]) (st' := []) (h' := q8.2) (sg1 rfl rfl rfl) ?_
      obtain ⟨v9, e_v9, hf⟩ := bnd hf
      rw [Option.some.inj e_v9]
      refine Ex.seg 1 (pc' := 59) (lc' := [some (.ref 67), some (.int s.1), some (.int s.2.1), some (.int s.2.2.1), some (.int v9)]) (st' := []) (h' := q8.2) (sg1 rfl rfl rfl) ?_
      obtain rfl := Option.some.inj hf
      exact Ex.weak (sm_le_s (sm_le_s (sm_le_s (sm_le_s (sm_le_s sm_le_nil))))) (hS1 _ hs)
    · rw [if_neg c0] at hf
      refine Ex.seg 1 (pc' := 84) (lc' := [some (.ref 67), some (.int s.1), some (.int s.2.1), some (.int s.2.2.1), some (.int s.2.2.2.1)]) (st' := [.int 3]) (h' := q8.2) (sg1 rfl rfl rfl) ?_
      obtain rfl := Option.some.inj hf
      exact Ex.iret rfl rfl (fun c0 => by cases c0) hs
def F_324_59 (y1 : Int32) (y2 : Int32) (y3 : Int32) (y4 : Int32) (h : sm_H) : Option (Int32 × sm_H) := lp F_324_59B 1000000 (y1, y2, y3, y4, h)
theorem B_324_59 {L : Nat} {xs : Nat → Int32} {d : Nat} (hd : 2 ≤ d) {res : Option Value × sm_H} {y1 : Int32} {y2 : Int32} {y3 : Int32} {y4 : Int32}  {h : sm_H} {r : (Int32 × sm_H)} (hf : F_324_59 y1 y2 y3 y4 h = some r) (hs : (fun (r : Int32 × sm_H) => res = (some (.int r.1), r.2)) r) : Ex (P_G L xs) (RUN L xs d) (sm_lk P_t324) 0 59 [some (.ref 67), some (.int y1), some (.int y2), some (.int y3), some (.int y4)] [] h res := by
  unfold F_324_59 at hf
  exact lp_ok (P := fun (s : (Int32 × Int32 × Int32 × Int32 × sm_H)) => Ex (P_G L xs) (RUN L xs d) (sm_lk P_t324) 0 59 [some (.ref 67), some (.int s.1), some (.int s.2.1), some (.int s.2.2.1), some (.int s.2.2.2.1)] [] s.2.2.2.2 res) (S := (fun (r : Int32 × sm_H) => res = (some (.int r.1), r.2))) (fun s x hx hsx => by
    intros
    exact B_324_59B hd  (fun _ q => q) hx hsx) 1000000 _ r hf hs
def F_324_24  (h : sm_H) : Option (Int32 × sm_H) :=
  some (1, h)
theorem B_324_24 {L : Nat} {xs : Nat → Int32} {d : Nat} (hd : 2 ≤ d) {res : Option Value × sm_H}   {h : sm_H} {r : (Int32 × sm_H)} (hf : F_324_24  h = some r) (hs : (fun (r : Int32 × sm_H) => res = (some (.int r.1), r.2)) r) : Ex (P_G L xs) (RUN L xs d) (sm_lk P_t324) 0 24 [none, none, none, none, none] [] h res := by
  unfold F_324_24 at hf
  refine Ex.seg 1 (pc' := 25) (lc' := [none, none, none, none, none]) (st' := [.int 1]) (h' := h) (sg1 rfl rfl rfl) ?_
  obtain rfl := Option.some.inj hf
  exact Ex.iret rfl rfl (fun c0 => by cases c0) hs
def F_324_0 (x1 : Int32) (x2 : Int32) (h : sm_H) : Option (Int32 × sm_H) :=
  if (h.1 67 3) = 1 then ((F_314 0 1 h).bind fun q10 =>
  if q10.1 = 0 then (F_324_24 q10.2)
  else ((F_293 x1 q10.2).bind fun q11 =>
  if q11.1 = 0 then (F_324_24 q11.2)
  else ((ldI q11.2 69 24 0).bind fun v12 =>
  (F_305 v12 q11.2).bind fun q13 =>
  (F_315 (Int32.toInt64 x2) 0 (Int32.toInt64 q13.1) q13.2).bind fun q14 =>
  if q14.1 = 0 then ((F_305 v12 q14.2).bind fun q15 =>
  (some ((q15.1 - x2) : Int32)).bind fun v16 =>
  F_324_59 x1 x2 v12 v16 q15.2)
  else (some (2, q14.2)))))
  else (F_324_24 h)
theorem B_324_0 {L : Nat} {xs : Nat → Int32} {d : Nat} (hd : 2 ≤ d) {res : Option Value × sm_H} {x1 : Int32} {x2 : Int32}  {h : sm_H} {r : (Int32 × sm_H)} (hf : F_324_0 x1 x2 h = some r) (hs : (fun (r : Int32 × sm_H) => res = (some (.int r.1), r.2)) r) : Ex (P_G L xs) (RUN L xs d) (sm_lk P_t324) 0 0 [some (.ref 67), some (.int x1), some (.int x2), none, none] [] h res := by
  unfold F_324_0 at hf
  refine Ex.seg 3 (pc' := 5) (lc' := [some (.ref 67), some (.int x1), some (.int x2), none, none]) (st' := [.int 1, .int (h.1 67 3)]) (h' := h) (sg1 rfl rfl (sg1 rfl rfl (sg1 rfl rfl rfl))) ?_
  refine Ex.icmp rfl rfl (fun (c0 : ¬ ((h.1 67 3) = 1)) => ?_) (fun (c0 : ¬ ¬ ((h.1 67 3) = 1)) => ?_)
  · rw [if_neg c0] at hf
    exact Ex.weak (sm_le_n (sm_le_n (sm_le_n (sm_le_s (sm_le_s sm_le_nil))))) (B_324_24 hd  hf hs)
  · rw [if_pos (Classical.not_not.mp c0)] at hf
    refine Ex.seg 3 (pc' := 11) (lc' := [some (.ref 67), some (.int x1), some (.int x2), none, none]) (st' := [.int 1, .int 0, .ref 67]) (h' := h) (sg1 rfl rfl (sg1 rfl rfl (sg1 rfl rfl rfl))) ?_
    obtain ⟨q10, e_q10, hf⟩ := bnd hf
    refine Ex.callV (a := 67) (As := [.int 0, .int 1]) (r := []) (v := some (.int q10.1)) (h' := q10.2) rfl rfl (by decide) rfl (Nat.le_of_ble_eq_true rfl) rfl (E_314 (Nat.le_trans (by decide) hd) e_q10) rfl ?_
    refine Ex.ifc rfl rfl (fun (c0 : q10.1 = 0) => ?_) (fun (c0 : ¬ (q10.1 = 0)) => ?_)
    · rw [if_pos c0] at hf
      exact Ex.weak (sm_le_n (sm_le_n (sm_le_n (sm_le_s (sm_le_s sm_le_nil))))) (B_324_24 hd  hf hs)
    · rw [if_neg c0] at hf
      refine Ex.seg 1 (pc' := 18) (lc' := [some (.ref 67), some (.int x1), some (.int x2), none, none]) (st' := [.int x1]) (h' := q10.2) (sg1 rfl rfl rfl) ?_
      obtain ⟨q11, e_q11, hf⟩ := bnd hf
      refine Ex.callS (As := [.int x1]) (r := []) (v := some (.int q11.1)) (h' := q11.2) rfl rfl rfl rfl (Nat.le_of_ble_eq_true rfl) (E_293 (Nat.le_trans (by decide) hd) e_q11) rfl ?_
      refine Ex.ifc rfl rfl (fun (c0 : ¬ (q11.1 = 0)) => ?_) (fun (c0 : ¬ ¬ (q11.1 = 0)) => ?_)
      · rw [if_neg c0] at hf
        refine Ex.seg 3 (pc' := 31) (lc' := [some (.ref 67), some (.int x1), some (.int x2), none, none]) (st' := [.int 0, .ref 69]) (h' := q11.2) (sg1 rfl rfl (sg1 rfl rfl (sg1 rfl rfl rfl))) ?_
        obtain ⟨v12, e_v12, hf⟩ := bnd hf
        refine Ex.iald e_v12 rfl rfl ?_
        refine Ex.seg 6 (pc' := 38) (lc' := [some (.ref 67), some (.int x1), some (.int x2), some (.int v12), none]) (st' := [.int v12, .ref 67, .long 0, .long (Int32.toInt64 x2)]) (h' := q11.2) (sg1 rfl rfl (sg1 rfl rfl (sg1 rfl rfl (sg1 rfl rfl (sg1 rfl rfl (sg1 rfl rfl rfl)))))) ?_
        obtain ⟨q13, e_q13, hf⟩ := bnd hf
        refine Ex.callV (a := 67) (As := [.int v12]) (r := [.long 0, .long (Int32.toInt64 x2)]) (v := some (.int q13.1)) (h' := q13.2) rfl rfl (by decide) rfl (Nat.le_of_ble_eq_true rfl) rfl (E_305 (Nat.le_trans (by decide) hd) e_q13) rfl ?_
        refine Ex.seg 1 (pc' := 42) (lc' := [some (.ref 67), some (.int x1), some (.int x2), some (.int v12), none]) (st' := [.long (Int32.toInt64 q13.1), .long 0, .long (Int32.toInt64 x2)]) (h' := q13.2) (sg1 rfl rfl rfl) ?_
        obtain ⟨q14, e_q14, hf⟩ := bnd hf
        refine Ex.callS (As := [.long (Int32.toInt64 x2), .long 0, .long (Int32.toInt64 q13.1)]) (r := []) (v := some (.int q14.1)) (h' := q14.2) rfl rfl rfl rfl (Nat.le_of_ble_eq_true rfl) (E_315 (Nat.le_trans (by decide) hd) e_q14) rfl ?_
        refine Ex.ifc rfl rfl (fun (c0 : q14.1 = 0) => ?_) (fun (c0 : ¬ (q14.1 = 0)) => ?_)
        · rw [if_pos c0] at hf
          refine Ex.seg 2 (pc' := 52) (lc' := [some (.ref 67), some (.int x1), some (.int x2), some (.int v12), none]) (st' := [.int v12, .ref 67]) (h' := q14.2) (sg1 rfl rfl (sg1 rfl rfl rfl)) ?_
          obtain ⟨q15, e_q15, hf⟩ := bnd hf
          refine Ex.callV (a := 67) (As := [.int v12]) (r := []) (v := some (.int q15.1)) (h' := q15.2) rfl rfl (by decide) rfl (Nat.le_of_ble_eq_true rfl) rfl (E_305 (Nat.le_trans (by decide) hd) e_q15) rfl ?_
          refine Ex.seg 3 (pc' := 59) (lc' := [some (.ref 67), some (.int x1), some (.int x2), some (.int v12), some (.int (q15.1 - x2))]) (st' := []) (h' := q15.2) (sg1 rfl rfl (sg1 rfl rfl (sg1 rfl rfl rfl))) ?_
          obtain ⟨v16, e_v16, hf⟩ := bnd hf
          rw [Option.some.inj e_v16]
          exact Ex.weak (sm_le_s (sm_le_s (sm_le_s (sm_le_s (sm_le_s sm_le_nil))))) (B_324_59 hd  hf hs)
        · rw [if_neg c0] at hf
          refine Ex.seg 1 (pc' := 49) (lc' := [some (.ref 67), some (.int x1), some (.int x2), some (.int v12), none]) (st' := [.int 2]) (h' := q14.2) (sg1 rfl rfl rfl) ?_
          obtain rfl := Option.some.inj hf
          exact Ex.iret rfl rfl (fun c0 => by cases c0) hs
      · rw [if_pos (Classical.not_not.mp c0)] at hf
        exact Ex.weak (sm_le_n (sm_le_n (sm_le_n (sm_le_s (sm_le_s sm_le_nil))))) (B_324_24 hd  hf hs)
/-- HandleHouseModel.checkSpread(II)I -/
abbrev F_324 (x1 : Int32) (x2 : Int32) (h : sm_H) : Option (Int32 × sm_H) := F_324_0 x1 x2 h
theorem E_324 {L : Nat} {xs : Nat → Int32} {d : Nat} (hd : 3 ≤ d) {x1 : Int32} {x2 : Int32} {h : sm_H} {r : Int32 × sm_H} (hf : F_324 x1 x2 h = some r) : RUN L xs d 324 [.ref 67, .int x1, .int x2] h (some (.int r.1), r.2) := by
  obtain ⟨d, rfl⟩ : ∃ e, d = e + 1 := ⟨d - 1, by omega⟩
  exact ⟨Nat.le_of_ble_eq_true rfl, B_324_0 (by omega) hf rfl⟩
def F_325_87B (s : (Int32 × Int32 × Int32 × Int32 × sm_H)) : Option ((Int32 × Int32 × Int32 × Int32 × sm_H) ⊕ (Int32 × sm_H)) :=
  if s.1 ≤ s.2.2.2.1 then (some (.inr (0, s.2.2.2.2)))
  else ((F_306 s.2.1 (s.2.2.1 - 1) s.2.2.2.2).bind fun q1 =>
  (F_294 q1.1 q1.2).bind fun q2 =>
  (F_309 q2.1 q2.2).bind fun q3 =>
  (some (s.2.2.2.1 + 1 : Int32)).bind fun v4 =>
  some (.inl (s.1, s.2.1, s.2.2.1, v4, q3)))
theorem B_325_87B {L : Nat} {xs : Nat → Int32} {d : Nat} (hd : 2 ≤ d) {res : Option Value × sm_H} {S1 : (Int32 × Int32 × Int32 × Int32 × sm_H) → Prop} (hS1 : ∀ s, S1 s → Ex (P_G L xs) (RUN L xs d) (sm_lk P_t325) 0 87 [some (.ref 67), some (.int s.1), some (.int s.2.1), some (.int s.2.2.1), some (.int s.2.2.2.1)] [] s.2.2.2.2 res) {s : (Int32 × Int32 × Int32 × Int32 × sm_H)}  {r : ((Int32 × Int32 × Int32 × Int32 × sm_H) ⊕ (Int32 × sm_H))} (hf : F_325_87B s = some r) (hs : (Sum.elim S1 (fun (r : Int32 × sm_H) => res = (some (.int r.1), r.2))) r) : Ex (P_G L xs) (RUN L xs d) (sm_lk P_t325) 0 87 [some (.ref 67), some (.int s.1), some (.int s.2.1), some (.int s.2.2.1), some (.int s.2.2.2.1)] [] s.2.2.2.2 res := by
  unfold F_325_87B at hf
  refine Ex.seg 2 (pc' := 90) (lc' := [some (.ref 67), some (.int s.1), some (.int s.2.1), some (.int s.2.2.1), some (.int s.2.2.2.1)]) (st' := [.int s.1, .int s.2.2.2.1]) (h' := s.2.2.2.2) (sg1 rfl rfl (sg1 rfl rfl rfl)) ?_
  refine Ex.icmp rfl rfl (fun (c0 : s.1 ≤ s.2.2.2.1) => ?_) (fun (c0 : ¬ (s.1 ≤ s.2.2.2.1)) => ?_)
  · rw [if_pos c0] at hf
    refine Ex.seg 1 (pc' := 115) (lc' := [some (.ref 67), some (.int s.1), some (.int s.2.1), some (.int s.2.2.1), some (.int s.2.2.2.1)]) (st' := [.int 0]) (h' := s.2.2.2.2) (sg1 rfl rfl rfl) ?_
    obtain rfl := Option.some.inj hf
    exact Ex.iret rfl rfl (fun c0 => by cases c0) hs
  · rw [if_neg c0] at hf
    refine Ex.seg 6 (pc' := 99) (lc' := [some (.ref 67), some (.int s.1), some (.int s.2.1), some (.int s.2.2.1), some (.int s.2.2.2.1)]) (st' := [.int (s.2.2.1 - 1), .int s.2.1, .ref 67, .ref 67]) (h' := s.2.2.2.2) (sg1 rfl rfl (sg1 rfl rfl (sg1 rfl rfl (sg1 rfl rfl (sg1 rfl rfl (sg1 rfl rfl rfl)))))) ?_
    obtain ⟨q1, e_q1, hf⟩ := bnd hf
    refine Ex.callV (a := 67) (As := [.int s.2.1, .int (s.2.2.1 - 1)]) (r := [.ref 67]) (v := some (.int q1.1)) (h' := q1.2) rfl rfl (by decide) rfl (Nat.le_of_ble_eq_true rfl) rfl (E_306 (Nat.le_trans (by decide) hd) e_q1) rfl ?_
    obtain ⟨q2, e_q2, hf⟩ := bnd hf
    refine Ex.callS (As := [.int q1.1]) (r := [.ref 67]) (v := some (.int q2.1)) (h' := q2.2) rfl rfl rfl rfl (Nat.le_of_ble_eq_true rfl) (E_294 (Nat.le_trans (by decide) hd) e_q2) rfl ?_
    obtain ⟨q3, e_q3, hf⟩ := bnd hf
    refine Ex.callV (a := 67) (As := [.int q2.1]) (r := []) (v := none) (h' := q3) rfl rfl (by decide) rfl (Nat.le_of_ble_eq_true rfl) rfl (E_309 (Nat.le_trans (by decide) hd) e_q3) rfl ?_
    refine Ex.seg 1 (pc' := 111) (lc' := [some (.ref 67), some (.int s.1), some (.int s.2.1), some (.int s.2.2.1), some (.int (s.2.2.2.1 + 1))]) (st' := []) (h' := q3) (sg1 rfl rfl rfl) ?_
    obtain ⟨v4, e_v4, hf⟩ := bnd hf
    rw [Option.some.inj e_v4]
    refine Ex.seg 1 (pc' := 87) (lc' := [some (.ref 67), some (.int s.1), some (.int s.2.1), some (.int s.2.2.1), some (.int v4)]) (st' := []) (h' := q3) (sg1 rfl rfl rfl) ?_
    obtain rfl := Option.some.inj hf
    exact Ex.weak (sm_le_s (sm_le_s (sm_le_s (sm_le_s (sm_le_s sm_le_nil))))) (hS1 _ hs)
def F_325_87 (y1 : Int32) (y2 : Int32) (y3 : Int32) (y4 : Int32) (h : sm_H) : Option (Int32 × sm_H) := lp F_325_87B 1000000 (y1, y2, y3, y4, h)
theorem B_325_87 {L : Nat} {xs : Nat → Int32} {d : Nat} (hd : 2 ≤ d) {res : Option Value × sm_H} {y1 : Int32} {y2 : Int32} {y3 : Int32} {y4 : Int32}  {h : sm_H} {r : (Int32 × sm_H)} (hf : F_325_87 y1 y2 y3 y4 h = some r) (hs : (fun (r : Int32 × sm_H) => res = (some (.int r.1), r.2)) r) : Ex (P_G L xs) (RUN L xs d) (sm_lk P_t325) 0 87 [some (.ref 67), some (.int y1), some (.int y2), some (.int y3), some (.int y4)] [] h res := by
  unfold F_325_87 at hf
  exact lp_ok (P := fun (s : (Int32 × Int32 × Int32 × Int32 × sm_H)) => Ex (P_G L xs) (RUN L xs d) (sm_lk P_t325) 0 87 [some (.ref 67), some (.int s.1), some (.int s.2.1), some (.int s.2.2.1), some (.int s.2.2.2.1)] [] s.2.2.2.2 res) (S := (fun (r : Int32 × sm_H) => res = (some (.int r.1), r.2))) (fun s x hx hsx => by
    intros
    exact B_325_87B hd  (fun _ q => q) hx hsx) 1000000 _ r hf hs
def F_325_64  (h : sm_H) : Option (Int32 × sm_H) :=
  some (3, h)
theorem B_325_64 {L : Nat} {xs : Nat → Int32} {d : Nat} (hd : 2 ≤ d) {res : Option Value × sm_H}   {h : sm_H} {r : (Int32 × sm_H)} (hf : F_325_64  h = some r) (hs : (fun (r : Int32 × sm_H) => res = (some (.int r.1), r.2)) r) : Ex (P_G L xs) (RUN L xs d) (sm_lk P_t325) 0 64 [none, none, none, none, none] [] h res := by
  unfold F_325_64 at hf
  refine Ex.seg 1 (pc' := 65) (lc' := [none, none, none, none, none]) (st' := [.int 3]) (h' := h) (sg1 rfl rfl rfl) ?_
  obtain rfl := Option.some.inj hf
  exact Ex.iret rfl rfl (fun c0 => by cases c0) hs
def F_325_17  (h : sm_H) : Option (Int32 × sm_H) :=
  some (1, h)
theorem B_325_17 {L : Nat} {xs : Nat → Int32} {d : Nat} (hd : 2 ≤ d) {res : Option Value × sm_H}   {h : sm_H} {r : (Int32 × sm_H)} (hf : F_325_17  h = some r) (hs : (fun (r : Int32 × sm_H) => res = (some (.int r.1), r.2)) r) : Ex (P_G L xs) (RUN L xs d) (sm_lk P_t325) 0 17 [none, none, none, none, none] [] h res := by
  unfold F_325_17 at hf
  refine Ex.seg 1 (pc' := 18) (lc' := [none, none, none, none, none]) (st' := [.int 1]) (h' := h) (sg1 rfl rfl rfl) ?_
  obtain rfl := Option.some.inj hf
  exact Ex.iret rfl rfl (fun c0 => by cases c0) hs
def F_325_0 (x1 : Int32) (h : sm_H) : Option (Int32 × sm_H) :=
  if (h.1 67 3) = 1 then ((F_314 0 1 h).bind fun q5 =>
  if q5.1 = 0 then (F_325_17 q5.2)
  else ((ldI q5.2 69 24 0).bind fun v6 =>
  (F_305 v6 q5.2).bind fun q7 =>
  (F_315 (Int32.toInt64 x1) 0 10 q7.2).bind fun q8 =>
  if q8.1 = 0 then (if q7.1 = 0 then (F_325_64 q8.2)
  else ((F_306 v6 (q7.1 - 1) q8.2).bind fun q9 =>
  (F_293 q9.1 q9.2).bind fun q10 =>
  if q10.1 = 0 then (F_325_64 q10.2)
  else ((F_307 v6 q10.2).bind fun q11 =>
  (F_308 q11.1 q11.2).bind fun q12 =>
  (F_310 v6 0 (q7.1 - 1) q12).bind fun q13 =>
  F_325_87 x1 v6 q7.1 0 q13)))
  else (some (2, q8.2))))
  else (F_325_17 h)
theorem B_325_0 {L : Nat} {xs : Nat → Int32} {d : Nat} (hd : 2 ≤ d) {res : Option Value × sm_H} {x1 : Int32}  {h : sm_H} {r : (Int32 × sm_H)} (hf : F_325_0 x1 h = some r) (hs : (fun (r : Int32 × sm_H) => res = (some (.int r.1), r.2)) r) : Ex (P_G L xs) (RUN L xs d) (sm_lk P_t325) 0 0 [some (.ref 67), some (.int x1), none, none, none] [] h res := by
  unfold F_325_0 at hf
  refine Ex.seg 3 (pc' := 5) (lc' := [some (.ref 67), some (.int x1), none, none, none]) (st' := [.int 1, .int (h.1 67 3)]) (h' := h) (sg1 rfl rfl (sg1 rfl rfl (sg1 rfl rfl rfl))) ?_
  refine Ex.icmp rfl rfl (fun (c0 : ¬ ((h.1 67 3) = 1)) => ?_) (fun (c0 : ¬ ¬ ((h.1 67 3) = 1)) => ?_)
  · rw [if_neg c0] at hf
    exact Ex.weak (sm_le_n (sm_le_n (sm_le_s (sm_le_s (sm_le_s sm_le_nil))))) (B_325_17 hd  hf hs)
  · rw [if_pos (Classical.not_not.mp c0)] at hf
    refine Ex.seg 3 (pc' := 11) (lc' := [some (.ref 67), some (.int x1), none, none, none]) (st' := [.int 1, .int 0, .ref 67]) (h' := h) (sg1 rfl rfl (sg1 rfl rfl (sg1 rfl rfl rfl))) ?_
    obtain ⟨q5, e_q5, hf⟩ := bnd hf
    refine Ex.callV (a := 67) (As := [.int 0, .int 1]) (r := []) (v := some (.int q5.1)) (h' := q5.2) rfl rfl (by decide) rfl (Nat.le_of_ble_eq_true rfl) rfl (E_314 (Nat.le_trans (by decide) hd) e_q5) rfl ?_
    refine Ex.ifc rfl rfl (fun (c0 : ¬ (q5.1 = 0)) => ?_) (fun (c0 : ¬ ¬ (q5.1 = 0)) => ?_)
    · rw [if_neg c0] at hf
      refine Ex.seg 3 (pc' := 24) (lc' := [some (.ref 67), some (.int x1), none, none, none]) (st' := [.int 0, .ref 69]) (h' := q5.2) (sg1 rfl rfl (sg1 rfl rfl (sg1 rfl rfl rfl))) ?_
      obtain ⟨v6, e_v6, hf⟩ := bnd hf
      refine Ex.iald e_v6 rfl rfl ?_
      refine Ex.seg 3 (pc' := 28) (lc' := [some (.ref 67), some (.int x1), some (.int v6), none, none]) (st' := [.int v6, .ref 67]) (h' := q5.2) (sg1 rfl rfl (sg1 rfl rfl (sg1 rfl rfl rfl))) ?_
      obtain ⟨q7, e_q7, hf⟩ := bnd hf
      refine Ex.callV (a := 67) (As := [.int v6]) (r := []) (v := some (.int q7.1)) (h' := q7.2) rfl rfl (by decide) rfl (Nat.le_of_ble_eq_true rfl) rfl (E_305 (Nat.le_trans (by decide) hd) e_q7) rfl ?_
      refine Ex.seg 5 (pc' := 38) (lc' := [some (.ref 67), some (.int x1), some (.int v6), some (.int q7.1), none]) (st' := [.long 10, .long 0, .long (Int32.toInt64 x1)]) (h' := q7.2) (sg1 rfl rfl (sg1 rfl rfl (sg1 rfl rfl (sg1 rfl rfl (sg1 rfl rfl rfl))))) ?_
      obtain ⟨q8, e_q8, hf⟩ := bnd hf
      refine Ex.callS (As := [.long (Int32.toInt64 x1), .long 0, .long 10]) (r := []) (v := some (.int q8.1)) (h' := q8.2) rfl rfl rfl rfl (Nat.le_of_ble_eq_true rfl) (E_315 (Nat.le_trans (by decide) hd) e_q8) rfl ?_
      refine Ex.ifc rfl rfl (fun (c0 : q8.1 = 0) => ?_) (fun (c0 : ¬ (q8.1 = 0)) => ?_)
      · rw [if_pos c0] at hf
        refine Ex.seg 1 (pc' := 47) (lc' := [some (.ref 67), some (.int x1), some (.int v6), some (.int q7.1), none]) (st' := [.int q7.1]) (h' := q8.2) (sg1 rfl rfl rfl) ?_
        refine Ex.ifc rfl rfl (fun (c0 : q7.1 = 0) => ?_) (fun (c0 : ¬ (q7.1 = 0)) => ?_)
        · rw [if_pos c0] at hf
          exact Ex.weak (sm_le_n (sm_le_n (sm_le_n (sm_le_n (sm_le_s sm_le_nil))))) (B_325_64 hd  hf hs)
        · rw [if_neg c0] at hf
          refine Ex.seg 5 (pc' := 55) (lc' := [some (.ref 67), some (.int x1), some (.int v6), some (.int q7.1), none]) (st' := [.int (q7.1 - 1), .int v6, .ref 67]) (h' := q8.2) (sg1 rfl rfl (sg1 rfl rfl (sg1 rfl rfl (sg1 rfl rfl (sg1 rfl rfl rfl))))) ?_
          obtain ⟨q9, e_q9, hf⟩ := bnd hf
          refine Ex.callV (a := 67) (As := [.int v6, .int (q7.1 - 1)]) (r := []) (v := some (.int q9.1)) (h' := q9.2) rfl rfl (by decide) rfl (Nat.le_of_ble_eq_true rfl) rfl (E_306 (Nat.le_trans (by decide) hd) e_q9) rfl ?_
          obtain ⟨q10, e_q10, hf⟩ := bnd hf
          refine Ex.callS (As := [.int q9.1]) (r := []) (v := some (.int q10.1)) (h' := q10.2) rfl rfl rfl rfl (Nat.le_of_ble_eq_true rfl) (E_293 (Nat.le_trans (by decide) hd) e_q10) rfl ?_
          refine Ex.ifc rfl rfl (fun (c0 : ¬ (q10.1 = 0)) => ?_) (fun (c0 : ¬ ¬ (q10.1 = 0)) => ?_)
          · rw [if_neg c0] at hf
            refine Ex.seg 3 (pc' := 69) (lc' := [some (.ref 67), some (.int x1), some (.int v6), some (.int q7.1), none]) (st' := [.int v6, .ref 67, .ref 67]) (h' := q10.2) (sg1 rfl rfl (sg1 rfl rfl (sg1 rfl rfl rfl))) ?_
            obtain ⟨q11, e_q11, hf⟩ := bnd hf
            refine Ex.callV (a := 67) (As := [.int v6]) (r := [.ref 67]) (v := some (.int q11.1)) (h' := q11.2) rfl rfl (by decide) rfl (Nat.le_of_ble_eq_true rfl) rfl (E_307 (Nat.le_trans (by decide) hd) e_q11) rfl ?_
            obtain ⟨q12, e_q12, hf⟩ := bnd hf
            refine Ex.callV (a := 67) (As := [.int q11.1]) (r := []) (v := none) (h' := q12) rfl rfl (by decide) rfl (Nat.le_of_ble_eq_true rfl) rfl (E_308 (Nat.le_trans (by decide) hd) e_q12) rfl ?_
            refine Ex.seg 6 (pc' := 81) (lc' := [some (.ref 67), some (.int x1), some (.int v6), some (.int q7.1), none]) (st' := [.int (q7.1 - 1), .int 0, .int v6, .ref 67]) (h' := q12) (sg1 rfl rfl (sg1 rfl rfl (sg1 rfl rfl (sg1 rfl rfl (sg1 rfl rfl (sg1 rfl rfl rfl)))))) ?_
            obtain ⟨q13, e_q13, hf⟩ := bnd hf
            refine Ex.callV (a := 67) (As := [.int v6, .int 0, .int (q7.1 - 1)]) (r := []) (v := none) (h' := q13) rfl rfl (by decide) rfl (Nat.le_of_ble_eq_true rfl) rfl (E_310 (Nat.le_trans (by decide) hd) e_q13) rfl ?_
            refine Ex.seg 2 (pc' := 87) (lc' := [some (.ref 67), some (.int x1), some (.int v6), some (.int q7.1), some (.int 0)]) (st' := []) (h' := q13) (sg1 rfl rfl (sg1 rfl rfl rfl)) ?_
            exact Ex.weak (sm_le_s (sm_le_s (sm_le_s (sm_le_s (sm_le_s sm_le_nil))))) (B_325_87 hd  hf hs)
          · rw [if_pos (Classical.not_not.mp c0)] at hf
            exact Ex.weak (sm_le_n (sm_le_n (sm_le_n (sm_le_n (sm_le_s sm_le_nil))))) (B_325_64 hd  hf hs)
      · rw [if_neg c0] at hf
        refine Ex.seg 1 (pc' := 45) (lc' := [some (.ref 67), some (.int x1), some (.int v6), some (.int q7.1), none]) (st' := [.int 2]) (h' := q8.2) (sg1 rfl rfl rfl) ?_
        obtain rfl := Option.some.inj hf
        exact Ex.iret rfl rfl (fun c0 => by cases c0) hs
    · rw [if_pos (Classical.not_not.mp c0)] at hf
      exact Ex.weak (sm_le_n (sm_le_n (sm_le_s (sm_le_s (sm_le_s sm_le_nil))))) (B_325_17 hd  hf hs)
/-- HandleHouseModel.checkGather(I)I -/
abbrev F_325 (x1 : Int32) (h : sm_H) : Option (Int32 × sm_H) := F_325_0 x1 h
theorem E_325 {L : Nat} {xs : Nat → Int32} {d : Nat} (hd : 3 ≤ d) {x1 : Int32} {h : sm_H} {r : Int32 × sm_H} (hf : F_325 x1 h = some r) : RUN L xs d 325 [.ref 67, .int x1] h (some (.int r.1), r.2) := by
  obtain ⟨d, rfl⟩ : ∃ e, d = e + 1 := ⟨d - 1, by omega⟩
  exact ⟨Nat.le_of_ble_eq_true rfl, B_325_0 (by omega) hf rfl⟩
def F_328_99 (z0 : Int32) (h : sm_H) : Option (Int32 × sm_H) :=
  some (z0, h)
theorem B_328_99 {L : Nat} {xs : Nat → Int32} {d : Nat} (hd : 2 ≤ d) {res : Option Value × sm_H} {z0 : Int32}  {h : sm_H} {r : (Int32 × sm_H)} (hf : F_328_99 z0 h = some r) (hs : (fun (r : Int32 × sm_H) => res = (some (.int r.1), r.2)) r) : Ex (P_G L xs) (RUN L xs d) (sm_lk P_t328) 0 99 [none, none, none] [.int z0] h res := by
  unfold F_328_99 at hf
  obtain rfl := Option.some.inj hf
  exact Ex.iret rfl rfl (fun c0 => by cases c0) hs
def F_328_62  (h : sm_H) : Option (Int32 × sm_H) :=
  some (3, h)
theorem B_328_62 {L : Nat} {xs : Nat → Int32} {d : Nat} (hd : 2 ≤ d) {res : Option Value × sm_H}   {h : sm_H} {r : (Int32 × sm_H)} (hf : F_328_62  h = some r) (hs : (fun (r : Int32 × sm_H) => res = (some (.int r.1), r.2)) r) : Ex (P_G L xs) (RUN L xs d) (sm_lk P_t328) 0 62 [none, none, none] [] h res := by
  unfold F_328_62 at hf
  refine Ex.seg 1 (pc' := 63) (lc' := [none, none, none]) (st' := [.int 3]) (h' := h) (sg1 rfl rfl rfl) ?_
  obtain rfl := Option.some.inj hf
  exact Ex.iret rfl rfl (fun c0 => by cases c0) hs
def F_328_17  (h : sm_H) : Option (Int32 × sm_H) :=
  some (1, h)
theorem B_328_17 {L : Nat} {xs : Nat → Int32} {d : Nat} (hd : 2 ≤ d) {res : Option Value × sm_H}   {h : sm_H} {r : (Int32 × sm_H)} (hf : F_328_17  h = some r) (hs : (fun (r : Int32 × sm_H) => res = (some (.int r.1), r.2)) r) : Ex (P_G L xs) (RUN L xs d) (sm_lk P_t328) 0 17 [none, none, none] [] h res := by
  unfold F_328_17 at hf
  refine Ex.seg 1 (pc' := 18) (lc' := [none, none, none]) (st' := [.int 1]) (h' := h) (sg1 rfl rfl rfl) ?_
  obtain rfl := Option.some.inj hf
  exact Ex.iret rfl rfl (fun c0 => by cases c0) hs
def F_328_0  (h : sm_H) : Option (Int32 × sm_H) :=
  if (h.1 67 3) = 3 then ((F_314 0 3 h).bind fun q1 =>
  if q1.1 = 0 then (F_328_17 q1.2)
  else ((ldI q1.2 69 24 0).bind fun v2 =>
  (ldI q1.2 69 24 1).bind fun v3 =>
  (ldI q1.2 76 500 v3).bind fun v4 =>
  (ldI q1.2 69 24 2).bind fun v5 =>
  (ldI q1.2 76 500 v5).bind fun v6 =>
  if v4 = v6 then ((F_307 v2 q1.2).bind fun q7 =>
  if q7.1 = 1 then ((F_307 v3 q7.2).bind fun q8 =>
  (F_308 q8.1 q8.2).bind fun q9 =>
  (F_305 v3 q9).bind fun q10 =>
  (F_310 v3 0 q10.1 q10.2).bind fun q11 =>
  (F_312 v2 0 0 q11).bind fun q12 =>
  if q12.1 = 0 then (F_328_99 3 q12.2)
  else (F_328_99 0 q12.2))
  else (F_328_62 q7.2))
  else (F_328_62 q1.2)))
  else (F_328_17 h)
theorem B_328_0 {L : Nat} {xs : Nat → Int32} {d : Nat} (hd : 2 ≤ d) {res : Option Value × sm_H}   {h : sm_H} {r : (Int32 × sm_H)} (hf : F_328_0  h = some r) (hs : (fun (r : Int32 × sm_H) => res = (some (.int r.1), r.2)) r) : Ex (P_G L xs) (RUN L xs d) (sm_lk P_t328) 0 0 [some (.ref 67), none, none] [] h res := by
  unfold F_328_0 at hf
  refine Ex.seg 3 (pc' := 5) (lc' := [some (.ref 67), none, none]) (st' := [.int 3, .int (h.1 67 3)]) (h' := h) (sg1 rfl rfl (sg1 rfl rfl (sg1 rfl rfl rfl))) ?_
  refine Ex.icmp rfl rfl (fun (c0 : ¬ ((h.1 67 3) = 3)) => ?_) (fun (c0 : ¬ ¬ ((h.1 67 3) = 3)) => ?_)
  · rw [if_neg c0] at hf
    exact Ex.weak (sm_le_n (sm_le_s (sm_le_s sm_le_nil))) (B_328_17 hd  hf hs)
  · rw [if_pos (Classical.not_not.mp c0)] at hf
    refine Ex.seg 3 (pc' := 11) (lc' := [some (.ref 67), none, none]) (st' := [.int 3, .int 0, .ref 67]) (h' := h) (sg1 rfl rfl (sg1 rfl rfl (sg1 rfl rfl rfl))) ?_
    obtain ⟨q1, e_q1, hf⟩ := bnd hf
    refine Ex.callV (a := 67) (As := [.int 0, .int 3]) (r := []) (v := some (.int q1.1)) (h' := q1.2) rfl rfl (by decide) rfl (Nat.le_of_ble_eq_true rfl) rfl (E_314 (Nat.le_trans (by decide) hd) e_q1) rfl ?_
    refine Ex.ifc rfl rfl (fun (c0 : ¬ (q1.1 = 0)) => ?_) (fun (c0 : ¬ ¬ (q1.1 = 0)) => ?_)
    · rw [if_neg c0] at hf
      refine Ex.seg 3 (pc' := 24) (lc' := [some (.ref 67), none, none]) (st' := [.int 0, .ref 69]) (h' := q1.2) (sg1 rfl rfl (sg1 rfl rfl (sg1 rfl rfl rfl))) ?_
      obtain ⟨v2, e_v2, hf⟩ := bnd hf
      refine Ex.iald e_v2 rfl rfl ?_
      refine Ex.seg 4 (pc' := 31) (lc' := [some (.ref 67), some (.int v2), none]) (st' := [.int 1, .ref 69]) (h' := q1.2) (sg1 rfl rfl (sg1 rfl rfl (sg1 rfl rfl (sg1 rfl rfl rfl)))) ?_
      obtain ⟨v3, e_v3, hf⟩ := bnd hf
      refine Ex.iald e_v3 rfl rfl ?_
      refine Ex.seg 4 (pc' := 38) (lc' := [some (.ref 67), some (.int v2), some (.int v3)]) (st' := [.int v3, .ref 76]) (h' := q1.2) (sg1 rfl rfl (sg1 rfl rfl (sg1 rfl rfl (sg1 rfl rfl rfl)))) ?_
      obtain ⟨v4, e_v4, hf⟩ := bnd hf
      refine Ex.iald e_v4 rfl rfl ?_
      refine Ex.seg 5 (pc' := 48) (lc' := [some (.ref 67), some (.int v2), some (.int v3)]) (st' := [.int 2, .ref 69, .ref 76, .int v4]) (h' := q1.2) (sg1 rfl rfl (sg1 rfl rfl (sg1 rfl rfl (sg1 rfl rfl (sg1 rfl rfl rfl))))) ?_
      obtain ⟨v5, e_v5, hf⟩ := bnd hf
      refine Ex.iald e_v5 rfl rfl ?_
      obtain ⟨v6, e_v6, hf⟩ := bnd hf
      refine Ex.iald e_v6 rfl rfl ?_
      refine Ex.icmp rfl rfl (fun (c0 : ¬ (v4 = v6)) => ?_) (fun (c0 : ¬ ¬ (v4 = v6)) => ?_)
      · rw [if_neg c0] at hf
        exact Ex.weak (sm_le_n (sm_le_n (sm_le_n sm_le_nil))) (B_328_62 hd  hf hs)
      · rw [if_pos (Classical.not_not.mp c0)] at hf
        refine Ex.seg 2 (pc' := 55) (lc' := [some (.ref 67), some (.int v2), some (.int v3)]) (st' := [.int v2, .ref 67]) (h' := q1.2) (sg1 rfl rfl (sg1 rfl rfl rfl)) ?_
        obtain ⟨q7, e_q7, hf⟩ := bnd hf
        refine Ex.callV (a := 67) (As := [.int v2]) (r := []) (v := some (.int q7.1)) (h' := q7.2) rfl rfl (by decide) rfl (Nat.le_of_ble_eq_true rfl) rfl (E_307 (Nat.le_trans (by decide) hd) e_q7) rfl ?_
        refine Ex.seg 1 (pc' := 59) (lc' := [some (.ref 67), some (.int v2), some (.int v3)]) (st' := [.int 1, .int q7.1]) (h' := q7.2) (sg1 rfl rfl rfl) ?_
        refine Ex.icmp rfl rfl (fun (c0 : q7.1 = 1) => ?_) (fun (c0 : ¬ (q7.1 = 1)) => ?_)
        · rw [if_pos c0] at hf
          refine Ex.seg 3 (pc' := 67) (lc' := [some (.ref 67), some (.int v2), some (.int v3)]) (st' := [.int v3, .ref 67, .ref 67]) (h' := q7.2) (sg1 rfl rfl (sg1 rfl rfl (sg1 rfl rfl rfl))) ?_
          obtain ⟨q8, e_q8, hf⟩ := bnd hf
          refine Ex.callV (a := 67) (As := [.int v3]) (r := [.ref 67]) (v := some (.int q8.1)) (h' := q8.2) rfl rfl (by decide) rfl (Nat.le_of_ble_eq_true rfl) rfl (E_307 (Nat.le_trans (by decide) hd) e_q8) rfl ?_
          obtain ⟨q9, e_q9, hf⟩ := bnd hf
          refine Ex.callV (a := 67) (As := [.int q8.1]) (r := []) (v := none) (h' := q9) rfl rfl (by decide) rfl (Nat.le_of_ble_eq_true rfl) rfl (E_308 (Nat.le_trans (by decide) hd) e_q9) rfl ?_
          refine Ex.seg 5 (pc' := 78) (lc' := [some (.ref 67), some (.int v2), some (.int v3)]) (st' := [.int v3, .ref 67, .int 0, .int v3, .ref 67]) (h' := q9) (sg1 rfl rfl (sg1 rfl rfl (sg1 rfl rfl (sg1 rfl rfl (sg1 rfl rfl rfl))))) ?_
          obtain ⟨q10, e_q10, hf⟩ := bnd hf
          refine Ex.callV (a := 67) (As := [.int v3]) (r := [.int 0, .int v3, .ref 67]) (v := some (.int q10.1)) (h' := q10.2) rfl rfl (by decide) rfl (Nat.le_of_ble_eq_true rfl) rfl (E_305 (Nat.le_trans (by decide) hd) e_q10) rfl ?_
          obtain ⟨q11, e_q11, hf⟩ := bnd hf
          refine Ex.callV (a := 67) (As := [.int v3, .int 0, .int q10.1]) (r := []) (v := none) (h' := q11) rfl rfl (by decide) rfl (Nat.le_of_ble_eq_true rfl) rfl (E_310 (Nat.le_trans (by decide) hd) e_q11) rfl ?_
          refine Ex.seg 4 (pc' := 88) (lc' := [some (.ref 67), some (.int v2), some (.int v3)]) (st' := [.int 0, .int 0, .int v2, .ref 67]) (h' := q11) (sg1 rfl rfl (sg1 rfl rfl (sg1 rfl rfl (sg1 rfl rfl rfl)))) ?_
          obtain ⟨q12, e_q12, hf⟩ := bnd hf
          refine Ex.callV (a := 67) (As := [.int v2, .int 0, .int 0]) (r := []) (v := some (.int q12.1)) (h' := q12.2) rfl rfl (by decide) rfl (Nat.le_of_ble_eq_true rfl) rfl (E_312 (Nat.le_trans (by decide) hd) e_q12) rfl ?_
          refine Ex.ifc rfl rfl (fun (c0 : q12.1 = 0) => ?_) (fun (c0 : ¬ (q12.1 = 0)) => ?_)
          · rw [if_pos c0] at hf
            refine Ex.seg 1 (pc' := 99) (lc' := [some (.ref 67), some (.int v2), some (.int v3)]) (st' := [.int 3]) (h' := q12.2) (sg1 rfl rfl rfl) ?_
            exact Ex.weak (sm_le_n (sm_le_n (sm_le_n sm_le_nil))) (B_328_99 hd  hf hs)
          · rw [if_neg c0] at hf
            refine Ex.seg 2 (pc' := 99) (lc' := [some (.ref 67), some (.int v2), some (.int v3)]) (st' := [.int 0]) (h' := q12.2) (sg1 rfl rfl (sg1 rfl rfl rfl)) ?_
            exact Ex.weak (sm_le_n (sm_le_n (sm_le_n sm_le_nil))) (B_328_99 hd  hf hs)
        · rw [if_neg c0] at hf
          exact Ex.weak (sm_le_n (sm_le_n (sm_le_n sm_le_nil))) (B_328_62 hd  hf hs)
    · rw [if_pos (Classical.not_not.mp c0)] at hf
      exact Ex.weak (sm_le_n (sm_le_s (sm_le_s sm_le_nil))) (B_328_17 hd  hf hs)
/-- HandleHouseModel.checkGuard()I -/
abbrev F_328  (h : sm_H) : Option (Int32 × sm_H) := F_328_0  h
theorem E_328 {L : Nat} {xs : Nat → Int32} {d : Nat} (hd : 3 ≤ d)  {h : sm_H} {r : Int32 × sm_H} (hf : F_328  h = some r) : RUN L xs d 328 [.ref 67] h (some (.int r.1), r.2) := by
  obtain ⟨d, rfl⟩ : ∃ e, d = e + 1 := ⟨d - 1, by omega⟩
  exact ⟨Nat.le_of_ble_eq_true rfl, B_328_0 (by omega) hf rfl⟩
def F_329_129 (z0 : Int32) (h : sm_H) : Option (Int32 × sm_H) :=
  some (z0, h)
theorem B_329_129 {L : Nat} {xs : Nat → Int32} {d : Nat} (hd : 2 ≤ d) {res : Option Value × sm_H} {z0 : Int32}  {h : sm_H} {r : (Int32 × sm_H)} (hf : F_329_129 z0 h = some r) (hs : (fun (r : Int32 × sm_H) => res = (some (.int r.1), r.2)) r) : Ex (P_G L xs) (RUN L xs d) (sm_lk P_t329) 0 129 [none, none, none, none, none] [.int z0] h res := by
  unfold F_329_129 at hf
  obtain rfl := Option.some.inj hf
  exact Ex.iret rfl rfl (fun c0 => by cases c0) hs
def F_329_117 (z0 : Int32) (h : sm_H) : Option (Int32 × sm_H) :=
  if z0 = 0 then (F_329_129 3 h)
  else (F_329_129 0 h)
theorem B_329_117 {L : Nat} {xs : Nat → Int32} {d : Nat} (hd : 2 ≤ d) {res : Option Value × sm_H} {z0 : Int32}  {h : sm_H} {r : (Int32 × sm_H)} (hf : F_329_117 z0 h = some r) (hs : (fun (r : Int32 × sm_H) => res = (some (.int r.1), r.2)) r) : Ex (P_G L xs) (RUN L xs d) (sm_lk P_t329) 0 117 [none, none, none, none, none] [.int z0] h res := by
  unfold F_329_117 at hf
  refine Ex.seg 2 (pc' := 121) (lc' := [none, none, none, none, some (.int z0)]) (st' := [.int z0]) (h' := h) (sg1 rfl rfl (sg1 rfl rfl rfl)) ?_
  refine Ex.ifc rfl rfl (fun (c0 : z0 = 0) => ?_) (fun (c0 : ¬ (z0 = 0)) => ?_)
  · rw [if_pos c0] at hf
    refine Ex.seg 1 (pc' := 129) (lc' := [none, none, none, none, some (.int z0)]) (st' := [.int 3]) (h' := h) (sg1 rfl rfl rfl) ?_
    exact Ex.weak (sm_le_s (sm_le_s (sm_le_s (sm_le_s (sm_le_n sm_le_nil))))) (B_329_129 hd  hf hs)
  · rw [if_neg c0] at hf
    refine Ex.seg 2 (pc' := 129) (lc' := [none, none, none, none, some (.int z0)]) (st' := [.int 0]) (h' := h) (sg1 rfl rfl (sg1 rfl rfl rfl)) ?_
    exact Ex.weak (sm_le_s (sm_le_s (sm_le_s (sm_le_s (sm_le_n sm_le_nil))))) (B_329_129 hd  hf hs)
def F_329_116  (h : sm_H) : Option (Int32 × sm_H) :=
  F_329_117 0 h
theorem B_329_116 {L : Nat} {xs : Nat → Int32} {d : Nat} (hd : 2 ≤ d) {res : Option Value × sm_H}   {h : sm_H} {r : (Int32 × sm_H)} (hf : F_329_116  h = some r) (hs : (fun (r : Int32 × sm_H) => res = (some (.int r.1), r.2)) r) : Ex (P_G L xs) (RUN L xs d) (sm_lk P_t329) 0 116 [none, none, none, none, none] [] h res := by
  unfold F_329_116 at hf
  refine Ex.seg 1 (pc' := 117) (lc' := [none, none, none, none, none]) (st' := [.int 0]) (h' := h) (sg1 rfl rfl rfl) ?_
  exact Ex.weak (sm_le_s (sm_le_s (sm_le_s (sm_le_s (sm_le_s sm_le_nil))))) (B_329_117 hd  hf hs)
def F_329_35  (h : sm_H) : Option (Int32 × sm_H) :=
  some (1, h)
theorem B_329_35 {L : Nat} {xs : Nat → Int32} {d : Nat} (hd : 2 ≤ d) {res : Option Value × sm_H}   {h : sm_H} {r : (Int32 × sm_H)} (hf : F_329_35  h = some r) (hs : (fun (r : Int32 × sm_H) => res = (some (.int r.1), r.2)) r) : Ex (P_G L xs) (RUN L xs d) (sm_lk P_t329) 0 35 [none, none, none, none, none] [] h res := by
  unfold F_329_35 at hf
  refine Ex.seg 1 (pc' := 36) (lc' := [none, none, none, none, none]) (st' := [.int 1]) (h' := h) (sg1 rfl rfl rfl) ?_
  obtain rfl := Option.some.inj hf
  exact Ex.iret rfl rfl (fun c0 => by cases c0) hs
def F_329_0 (x1 : Int32) (h : sm_H) : Option (Int32 × sm_H) :=
  if (h.1 67 3) = 2 then ((F_314 0 2 h).bind fun q1 =>
  if q1.1 = 0 then (F_329_35 q1.2)
  else ((F_289 x1 q1.2).bind fun q2 =>
  if q2.1 = 0 then (F_329_35 q2.2)
  else ((F_295 x1 19 q2.2).bind fun q3 =>
  if q3.1 = 0 then (F_329_35 q3.2)
  else ((ldI q3.2 69 24 0).bind fun v4 =>
  (ldI q3.2 69 24 1).bind fun v5 =>
  (F_307 v4 q3.2).bind fun q6 =>
  (F_308 q6.1 q6.2).bind fun q7 =>
  (F_305 v4 q7).bind fun q8 =>
  (F_310 v4 0 q8.1 q8.2).bind fun q9 =>
  (F_305 v5 q9).bind fun q10 =>
  if q10.1 ≤ 0 then (F_329_116 q10.2)
  else ((F_306 v5 0 q10.2).bind fun q11 =>
  if q11.1 = x1 then ((F_307 v5 q11.2).bind fun q12 =>
  (F_307 v4 q12.2).bind fun q13 =>
  if q12.1 = q13.1 then ((F_312 v5 1 0 q13.2).bind fun q14 =>
  if q14.1 = 0 then (F_329_116 q14.2)
  else (F_329_117 1 q14.2))
  else (F_329_116 q13.2))
  else (F_329_116 q11.2))))))
  else (F_329_35 h)
theorem B_329_0 {L : Nat} {xs : Nat → Int32} {d : Nat} (hd : 2 ≤ d) {res : Option Value × sm_H} {x1 : Int32}  {h : sm_H} {r : (Int32 × sm_H)} (hf : F_329_0 x1 h = some r) (hs : (fun (r : Int32 × sm_H) => res = (some (.int r.1), r.2)) r) : Ex (P_G L xs) (RUN L xs d) (sm_lk P_t329) 0 0 [some (.ref 67), some (.int x1), none, none, none] [] h res := by
  unfold F_329_0 at hf
  refine Ex.seg 3 (pc' := 5) (lc' := [some (.ref 67), some (.int x1), none, none, none]) (st' := [.int 2, .int (h.1 67 3)]) (h' := h) (sg1 rfl rfl (sg1 rfl rfl (sg1 rfl rfl rfl))) ?_
  refine Ex.icmp rfl rfl (fun (c0 : ¬ ((h.1 67 3) = 2)) => ?_) (fun (c0 : ¬ ¬ ((h.1 67 3) = 2)) => ?_)
  · rw [if_neg c0] at hf
    exact Ex.weak (sm_le_n (sm_le_n (sm_le_s (sm_le_s (sm_le_s sm_le_nil))))) (B_329_35 hd  hf hs)
  · rw [if_pos (Classical.not_not.mp c0)] at hf
    refine Ex.seg 3 (pc' := 11) (lc' := [some (.ref 67), some (.int x1), none, none, none]) (st' := [.int 2, .int 0, .ref 67]) (h' := h) (sg1 rfl rfl (sg1 rfl rfl (sg1 rfl rfl rfl))) ?_
    obtain ⟨q1, e_q1, hf⟩ := bnd hf
    refine Ex.callV (a := 67) (As := [.int 0, .int 2]) (r := []) (v := some (.int q1.1)) (h' := q1.2) rfl rfl (by decide) rfl (Nat.le_of_ble_eq_true rfl) rfl (E_314 (Nat.le_trans (by decide) hd) e_q1) rfl ?_
    refine Ex.ifc rfl rfl (fun (c0 : q1.1 = 0) => ?_) (fun (c0 : ¬ (q1.1 = 0)) => ?_)
    · rw [if_pos c0] at hf
      exact Ex.weak (sm_le_n (sm_le_n (sm_le_s (sm_le_s (sm_le_s sm_le_nil))))) (B_329_35 hd  hf hs)
    · rw [if_neg c0] at hf
      refine Ex.seg 2 (pc' := 19) (lc' := [some (.ref 67), some (.int x1), none, none, none]) (st' := [.int x1, .ref 67]) (h' := q1.2) (sg1 rfl rfl (sg1 rfl rfl rfl)) ?_
      obtain ⟨q2, e_q2, hf⟩ := bnd hf
      refine Ex.callV (a := 67) (As := [.int x1]) (r := []) (v := some (.int q2.1)) (h' := q2.2) rfl rfl (by decide) rfl (Nat.le_of_ble_eq_true rfl) rfl (E_289 (Nat.le_trans (by decide) hd) e_q2) rfl ?_
      refine Ex.ifc rfl rfl (fun (c0 : q2.1 = 0) => ?_) (fun (c0 : ¬ (q2.1 = 0)) => ?_)
      · rw [if_pos c0] at hf
        exact Ex.weak (sm_le_n (sm_le_n (sm_le_s (sm_le_s (sm_le_s sm_le_nil))))) (B_329_35 hd  hf hs)
      · rw [if_neg c0] at hf
        refine Ex.seg 3 (pc' := 29) (lc' := [some (.ref 67), some (.int x1), none, none, none]) (st' := [.int 19, .int x1, .ref 67]) (h' := q2.2) (sg1 rfl rfl (sg1 rfl rfl (sg1 rfl rfl rfl))) ?_
        obtain ⟨q3, e_q3, hf⟩ := bnd hf
        refine Ex.callV (a := 67) (As := [.int x1, .int 19]) (r := []) (v := some (.int q3.1)) (h' := q3.2) rfl rfl (by decide) rfl (Nat.le_of_ble_eq_true rfl) rfl (E_295 (Nat.le_trans (by decide) hd) e_q3) rfl ?_
        refine Ex.ifc rfl rfl (fun (c0 : ¬ (q3.1 = 0)) => ?_) (fun (c0 : ¬ ¬ (q3.1 = 0)) => ?_)
        · rw [if_neg c0] at hf
          refine Ex.seg 3 (pc' := 42) (lc' := [some (.ref 67), some (.int x1), none, none, none]) (st' := [.int 0, .ref 69]) (h' := q3.2) (sg1 rfl rfl (sg1 rfl rfl (sg1 rfl rfl rfl))) ?_
          obtain ⟨v4, e_v4, hf⟩ := bnd hf
          refine Ex.iald e_v4 rfl rfl ?_
          refine Ex.seg 4 (pc' := 49) (lc' := [some (.ref 67), some (.int x1), some (.int v4), none, none]) (st' := [.int 1, .ref 69]) (h' := q3.2) (sg1 rfl rfl (sg1 rfl rfl (sg1 rfl rfl (sg1 rfl rfl rfl)))) ?_
          obtain ⟨v5, e_v5, hf⟩ := bnd hf
          refine Ex.iald e_v5 rfl rfl ?_
          refine Ex.seg 4 (pc' := 54) (lc' := [some (.ref 67), some (.int x1), some (.int v4), some (.int v5), none]) (st' := [.int v4, .ref 67, .ref 67]) (h' := q3.2) (sg1 rfl rfl (sg1 rfl rfl (sg1 rfl rfl (sg1 rfl rfl rfl)))) ?_
          obtain ⟨q6, e_q6, hf⟩ := bnd hf
          refine Ex.callV (a := 67) (As := [.int v4]) (r := [.ref 67]) (v := some (.int q6.1)) (h' := q6.2) rfl rfl (by decide) rfl (Nat.le_of_ble_eq_true rfl) rfl (E_307 (Nat.le_trans (by decide) hd) e_q6) rfl ?_
          obtain ⟨q7, e_q7, hf⟩ := bnd hf
          refine Ex.callV (a := 67) (As := [.int q6.1]) (r := []) (v := none) (h' := q7) rfl rfl (by decide) rfl (Nat.le_of_ble_eq_true rfl) rfl (E_308 (Nat.le_trans (by decide) hd) e_q7) rfl ?_
          refine Ex.seg 5 (pc' := 65) (lc' := [some (.ref 67), some (.int x1), some (.int v4), some (.int v5), none]) (st' := [.int v4, .ref 67, .int 0, .int v4, .ref 67]) (h' := q7) (sg1 rfl rfl (sg1 rfl rfl (sg1 rfl rfl (sg1 rfl rfl (sg1 rfl rfl rfl))))) ?_
          obtain ⟨q8, e_q8, hf⟩ := bnd hf
          refine Ex.callV (a := 67) (As := [.int v4]) (r := [.int 0, .int v4, .ref 67]) (v := some (.int q8.1)) (h' := q8.2) rfl rfl (by decide) rfl (Nat.le_of_ble_eq_true rfl) rfl (E_305 (Nat.le_trans (by decide) hd) e_q8) rfl ?_
          obtain ⟨q9, e_q9, hf⟩ := bnd hf
          refine Ex.callV (a := 67) (As := [.int v4, .int 0, .int q8.1]) (r := []) (v := none) (h' := q9) rfl rfl (by decide) rfl (Nat.le_of_ble_eq_true rfl) rfl (E_310 (Nat.le_trans (by decide) hd) e_q9) rfl ?_
          refine Ex.seg 2 (pc' := 73) (lc' := [some (.ref 67), some (.int x1), some (.int v4), some (.int v5), none]) (st' := [.int v5, .ref 67]) (h' := q9) (sg1 rfl rfl (sg1 rfl rfl rfl)) ?_
          obtain ⟨q10, e_q10, hf⟩ := bnd hf
          refine Ex.callV (a := 67) (As := [.int v5]) (r := []) (v := some (.int q10.1)) (h' := q10.2) rfl rfl (by decide) rfl (Nat.le_of_ble_eq_true rfl) rfl (E_305 (Nat.le_trans (by decide) hd) e_q10) rfl ?_
          refine Ex.ifc rfl rfl (fun (c0 : q10.1 ≤ 0) => ?_) (fun (c0 : ¬ (q10.1 ≤ 0)) => ?_)
          · rw [if_pos c0] at hf
            exact Ex.weak (sm_le_n (sm_le_n (sm_le_n (sm_le_n (sm_le_s sm_le_nil))))) (B_329_116 hd  hf hs)
          · rw [if_neg c0] at hf
            refine Ex.seg 3 (pc' := 82) (lc' := [some (.ref 67), some (.int x1), some (.int v4), some (.int v5), none]) (st' := [.int 0, .int v5, .ref 67]) (h' := q10.2) (sg1 rfl rfl (sg1 rfl rfl (sg1 rfl rfl rfl))) ?_
            obtain ⟨q11, e_q11, hf⟩ := bnd hf
            refine Ex.callV (a := 67) (As := [.int v5, .int 0]) (r := []) (v := some (.int q11.1)) (h' := q11.2) rfl rfl (by decide) rfl (Nat.le_of_ble_eq_true rfl) rfl (E_306 (Nat.le_trans (by decide) hd) e_q11) rfl ?_
            refine Ex.seg 1 (pc' := 86) (lc' := [some (.ref 67), some (.int x1), some (.int v4), some (.int v5), none]) (st' := [.int x1, .int q11.1]) (h' := q11.2) (sg1 rfl rfl rfl) ?_
            refine Ex.icmp rfl rfl (fun (c0 : ¬ (q11.1 = x1)) => ?_) (fun (c0 : ¬ ¬ (q11.1 = x1)) => ?_)
            · rw [if_neg c0] at hf
              exact Ex.weak (sm_le_n (sm_le_n (sm_le_n (sm_le_n (sm_le_s sm_le_nil))))) (B_329_116 hd  hf hs)
            · rw [if_pos (Classical.not_not.mp c0)] at hf
              refine Ex.seg 2 (pc' := 91) (lc' := [some (.ref 67), some (.int x1), some (.int v4), some (.int v5), none]) (st' := [.int v5, .ref 67]) (h' := q11.2) (sg1 rfl rfl (sg1 rfl rfl rfl)) ?_
              obtain ⟨q12, e_q12, hf⟩ := bnd hf
              refine Ex.callV (a := 67) (As := [.int v5]) (r := []) (v := some (.int q12.1)) (h' := q12.2) rfl rfl (by decide) rfl (Nat.le_of_ble_eq_true rfl) rfl (E_307 (Nat.le_trans (by decide) hd) e_q12) rfl ?_
              refine Ex.seg 2 (pc' := 96) (lc' := [some (.ref 67), some (.int x1), some (.int v4), some (.int v5), none]) (st' := [.int v4, .ref 67, .int q12.1]) (h' := q12.2) (sg1 rfl rfl (sg1 rfl rfl rfl)) ?_
              obtain ⟨q13, e_q13, hf⟩ := bnd hf
              refine Ex.callV (a := 67) (As := [.int v4]) (r := [.int q12.1]) (v := some (.int q13.1)) (h' := q13.2) rfl rfl (by decide) rfl (Nat.le_of_ble_eq_true rfl) rfl (E_307 (Nat.le_trans (by decide) hd) e_q13) rfl ?_
              refine Ex.icmp rfl rfl (fun (c0 : ¬ (q12.1 = q13.1)) => ?_) (fun (c0 : ¬ ¬ (q12.1 = q13.1)) => ?_)
              · rw [if_neg c0] at hf
                exact Ex.weak (sm_le_n (sm_le_n (sm_le_n (sm_le_n (sm_le_s sm_le_nil))))) (B_329_116 hd  hf hs)
              · rw [if_pos (Classical.not_not.mp c0)] at hf
                refine Ex.seg 4 (pc' := 106) (lc' := [some (.ref 67), some (.int x1), some (.int v4), some (.int v5), none]) (st' := [.int 0, .int 1, .int v5, .ref 67]) (h' := q13.2) (sg1 rfl rfl (sg1 rfl rfl (sg1 rfl rfl (sg1 rfl rfl rfl)))) ?_
                obtain ⟨q14, e_q14, hf⟩ := bnd hf
                refine Ex.callV (a := 67) (As := [.int v5, .int 1, .int 0]) (r := []) (v := some (.int q14.1)) (h' := q14.2) rfl rfl (by decide) rfl (Nat.le_of_ble_eq_true rfl) rfl (E_312 (Nat.le_trans (by decide) hd) e_q14) rfl ?_
                refine Ex.ifc rfl rfl (fun (c0 : q14.1 = 0) => ?_) (fun (c0 : ¬ (q14.1 = 0)) => ?_)
                · rw [if_pos c0] at hf
                  exact Ex.weak (sm_le_n (sm_le_n (sm_le_n (sm_le_n (sm_le_s sm_le_nil))))) (B_329_116 hd  hf hs)
                · rw [if_neg c0] at hf
                  refine Ex.seg 2 (pc' := 117) (lc' := [some (.ref 67), some (.int x1), some (.int v4), some (.int v5), none]) (st' := [.int 1]) (h' := q14.2) (sg1 rfl rfl (sg1 rfl rfl rfl)) ?_
                  exact Ex.weak (sm_le_n (sm_le_n (sm_le_n (sm_le_n (sm_le_s sm_le_nil))))) (B_329_117 hd  hf hs)
        · rw [if_pos (Classical.not_not.mp c0)] at hf
          exact Ex.weak (sm_le_n (sm_le_n (sm_le_s (sm_le_s (sm_le_s sm_le_nil))))) (B_329_35 hd  hf hs)
/-- HandleHouseModel.checkCatch(I)I -/
abbrev F_329 (x1 : Int32) (h : sm_H) : Option (Int32 × sm_H) := F_329_0 x1 h
theorem E_329 {L : Nat} {xs : Nat → Int32} {d : Nat} (hd : 3 ≤ d) {x1 : Int32} {h : sm_H} {r : Int32 × sm_H} (hf : F_329 x1 h = some r) : RUN L xs d 329 [.ref 67, .int x1] h (some (.int r.1), r.2) := by
  obtain ⟨d, rfl⟩ : ∃ e, d = e + 1 := ⟨d - 1, by omega⟩
  exact ⟨Nat.le_of_ble_eq_true rfl, B_329_0 (by omega) hf rfl⟩
def F_330_146 (z0 : Int32) (h : sm_H) : Option (Int32 × sm_H) :=
  some (z0, h)
theorem B_330_146 {L : Nat} {xs : Nat → Int32} {d : Nat} (hd : 2 ≤ d) {res : Option Value × sm_H} {z0 : Int32}  {h : sm_H} {r : (Int32 × sm_H)} (hf : F_330_146 z0 h = some r) (hs : (fun (r : Int32 × sm_H) => res = (some (.int r.1), r.2)) r) : Ex (P_G L xs) (RUN L xs d) (sm_lk P_t330) 0 146 [none, none, none, none, none] [.int z0] h res := by
  unfold F_330_146 at hf
  obtain rfl := Option.some.inj hf
  exact Ex.iret rfl rfl (fun c0 => by cases c0) hs
def F_330_134 (z0 : Int32) (h : sm_H) : Option (Int32 × sm_H) :=
  if z0 = 0 then (F_330_146 3 h)
  else (F_330_146 0 h)
theorem B_330_134 {L : Nat} {xs : Nat → Int32} {d : Nat} (hd : 2 ≤ d) {res : Option Value × sm_H} {z0 : Int32}  {h : sm_H} {r : (Int32 × sm_H)} (hf : F_330_134 z0 h = some r) (hs : (fun (r : Int32 × sm_H) => res = (some (.int r.1), r.2)) r) : Ex (P_G L xs) (RUN L xs d) (sm_lk P_t330) 0 134 [none, none, none, none, none] [.int z0] h res := by
  unfold F_330_134 at hf
  refine Ex.seg 2 (pc' := 138) (lc' := [none, none, none, none, some (.int z0)]) (st' := [.int z0]) (h' := h) (sg1 rfl rfl (sg1 rfl rfl rfl)) ?_
  refine Ex.ifc rfl rfl (fun (c0 : z0 = 0) => ?_) (fun (c0 : ¬ (z0 = 0)) => ?_)
  · rw [if_pos c0] at hf
    refine Ex.seg 1 (pc' := 146) (lc' := [none, none, none, none, some (.int z0)]) (st' := [.int 3]) (h' := h) (sg1 rfl rfl rfl) ?_
    exact Ex.weak (sm_le_s (sm_le_s (sm_le_s (sm_le_s (sm_le_n sm_le_nil))))) (B_330_146 hd  hf hs)
  · rw [if_neg c0] at hf
    refine Ex.seg 2 (pc' := 146) (lc' := [none, none, none, none, some (.int z0)]) (st' := [.int 0]) (h' := h) (sg1 rfl rfl (sg1 rfl rfl rfl)) ?_
    exact Ex.weak (sm_le_s (sm_le_s (sm_le_s (sm_le_s (sm_le_n sm_le_nil))))) (B_330_146 hd  hf hs)
def F_330_133  (h : sm_H) : Option (Int32 × sm_H) :=
  F_330_134 0 h
theorem B_330_133 {L : Nat} {xs : Nat → Int32} {d : Nat} (hd : 2 ≤ d) {res : Option Value × sm_H}   {h : sm_H} {r : (Int32 × sm_H)} (hf : F_330_133  h = some r) (hs : (fun (r : Int32 × sm_H) => res = (some (.int r.1), r.2)) r) : Ex (P_G L xs) (RUN L xs d) (sm_lk P_t330) 0 133 [none, none, none, none, none] [] h res := by
  unfold F_330_133 at hf
  refine Ex.seg 1 (pc' := 134) (lc' := [none, none, none, none, none]) (st' := [.int 0]) (h' := h) (sg1 rfl rfl rfl) ?_
  exact Ex.weak (sm_le_s (sm_le_s (sm_le_s (sm_le_s (sm_le_s sm_le_nil))))) (B_330_134 hd  hf hs)
def F_330_106 (y1 : Int32) (y2 : Int32) (y3 : Int32) (h : sm_H) : Option (Int32 × sm_H) :=
  (F_307 y2 h).bind fun q1 =>
  (F_307 y1 q1.2).bind fun q2 =>
  if q1.1 = q2.1 then ((F_312 y2 y3 0 q2.2).bind fun q3 =>
  if q3.1 = 0 then (F_330_133 q3.2)
  else (F_330_134 1 q3.2))
  else (F_330_133 q2.2)
theorem B_330_106 {L : Nat} {xs : Nat → Int32} {d : Nat} (hd : 2 ≤ d) {res : Option Value × sm_H} {y1 : Int32} {y2 : Int32} {y3 : Int32}  {h : sm_H} {r : (Int32 × sm_H)} (hf : F_330_106 y1 y2 y3 h = some r) (hs : (fun (r : Int32 × sm_H) => res = (some (.int r.1), r.2)) r) : Ex (P_G L xs) (RUN L xs d) (sm_lk P_t330) 0 106 [some (.ref 67), some (.int y1), some (.int y2), some (.int y3), none] [] h res := by
  unfold F_330_106 at hf
  refine Ex.seg 2 (pc' := 108) (lc' := [some (.ref 67), some (.int y1), some (.int y2), some (.int y3), none]) (st' := [.int y2, .ref 67]) (h' := h) (sg1 rfl rfl (sg1 rfl rfl rfl)) ?_
  obtain ⟨q1, e_q1, hf⟩ := bnd hf
  refine Ex.callV (a := 67) (As := [.int y2]) (r := []) (v := some (.int q1.1)) (h' := q1.2) rfl rfl (by decide) rfl (Nat.le_of_ble_eq_true rfl) rfl (E_307 (Nat.le_trans (by decide) hd) e_q1) rfl ?_
  refine Ex.seg 2 (pc' := 113) (lc' := [some (.ref 67), some (.int y1), some (.int y2), some (.int y3), none]) (st' := [.int y1, .ref 67, .int q1.1]) (h' := q1.2) (sg1 rfl rfl (sg1 rfl rfl rfl)) ?_
  obtain ⟨q2, e_q2, hf⟩ := bnd hf
  refine Ex.callV (a := 67) (As := [.int y1]) (r := [.int q1.1]) (v := some (.int q2.1)) (h' := q2.2) rfl rfl (by decide) rfl (Nat.le_of_ble_eq_true rfl) rfl (E_307 (Nat.le_trans (by decide) hd) e_q2) rfl ?_
  refine Ex.icmp rfl rfl (fun (c0 : ¬ (q1.1 = q2.1)) => ?_) (fun (c0 : ¬ ¬ (q1.1 = q2.1)) => ?_)
  · rw [if_neg c0] at hf
    exact Ex.weak (sm_le_n (sm_le_n (sm_le_n (sm_le_n (sm_le_s sm_le_nil))))) (B_330_133 hd  hf hs)
  · rw [if_pos (Classical.not_not.mp c0)] at hf
    refine Ex.seg 4 (pc' := 123) (lc' := [some (.ref 67), some (.int y1), some (.int y2), some (.int y3), none]) (st' := [.int 0, .int y3, .int y2, .ref 67]) (h' := q2.2) (sg1 rfl rfl (sg1 rfl rfl (sg1 rfl rfl (sg1 rfl rfl rfl)))) ?_
    obtain ⟨q3, e_q3, hf⟩ := bnd hf
    refine Ex.callV (a := 67) (As := [.int y2, .int y3, .int 0]) (r := []) (v := some (.int q3.1)) (h' := q3.2) rfl rfl (by decide) rfl (Nat.le_of_ble_eq_true rfl) rfl (E_312 (Nat.le_trans (by decide) hd) e_q3) rfl ?_
    refine Ex.ifc rfl rfl (fun (c0 : q3.1 = 0) => ?_) (fun (c0 : ¬ (q3.1 = 0)) => ?_)
    · rw [if_pos c0] at hf
      exact Ex.weak (sm_le_n (sm_le_n (sm_le_n (sm_le_n (sm_le_s sm_le_nil))))) (B_330_133 hd  hf hs)
    · rw [if_neg c0] at hf
      refine Ex.seg 2 (pc' := 134) (lc' := [some (.ref 67), some (.int y1), some (.int y2), some (.int y3), none]) (st' := [.int 1]) (h' := q3.2) (sg1 rfl rfl (sg1 rfl rfl rfl)) ?_
      exact Ex.weak (sm_le_n (sm_le_n (sm_le_n (sm_le_n (sm_le_s sm_le_nil))))) (B_330_134 hd  hf hs)
def F_330_46 (y1 : Int32) (y2 : Int32) (z0 : Int32) (h : sm_H) : Option (Int32 × sm_H) :=
  (F_307 y1 h).bind fun q4 =>
  (F_308 q4.1 q4.2).bind fun q5 =>
  (F_305 y1 q5).bind fun q6 =>
  (F_310 y1 0 q6.1 q6.2).bind fun q7 =>
  (F_305 y2 q7).bind fun q8 =>
  if q8.1 < z0 then (F_330_133 q8.2)
  else ((F_306 y2 0 q8.2).bind fun q9 =>
  if q9.1 = 19 then (if z0 = 1 then (F_330_106 y1 y2 z0 q9.2)
  else ((F_306 y2 1 q9.2).bind fun q10 =>
  (F_307 y1 q10.2).bind fun q11 =>
  if q10.1 = q11.1 then (F_330_106 y1 y2 z0 q11.2)
  else (F_330_133 q11.2)))
  else (F_330_133 q9.2))
theorem B_330_46 {L : Nat} {xs : Nat → Int32} {d : Nat} (hd : 2 ≤ d) {res : Option Value × sm_H} {y1 : Int32} {y2 : Int32} {z0 : Int32}  {h : sm_H} {r : (Int32 × sm_H)} (hf : F_330_46 y1 y2 z0 h = some r) (hs : (fun (r : Int32 × sm_H) => res = (some (.int r.1), r.2)) r) : Ex (P_G L xs) (RUN L xs d) (sm_lk P_t330) 0 46 [some (.ref 67), some (.int y1), some (.int y2), none, none] [.int z0] h res := by
  unfold F_330_46 at hf
  refine Ex.seg 4 (pc' := 50) (lc' := [some (.ref 67), some (.int y1), some (.int y2), some (.int z0), none]) (st' := [.int y1, .ref 67, .ref 67]) (h' := h) (sg1 rfl rfl (sg1 rfl rfl (sg1 rfl rfl (sg1 rfl rfl rfl)))) ?_
  obtain ⟨q4, e_q4, hf⟩ := bnd hf
  refine Ex.callV (a := 67) (As := [.int y1]) (r := [.ref 67]) (v := some (.int q4.1)) (h' := q4.2) rfl rfl (by decide) rfl (Nat.le_of_ble_eq_true rfl) rfl (E_307 (Nat.le_trans (by decide) hd) e_q4) rfl ?_
  obtain ⟨q5, e_q5, hf⟩ := bnd hf
  refine Ex.callV (a := 67) (As := [.int q4.1]) (r := []) (v := none) (h' := q5) rfl rfl (by decide) rfl (Nat.le_of_ble_eq_true rfl) rfl (E_308 (Nat.le_trans (by decide) hd) e_q5) rfl ?_
  refine Ex.seg 5 (pc' := 61) (lc' := [some (.ref 67), some (.int y1), some (.int y2), some (.int z0), none]) (st' := [.int y1, .ref 67, .int 0, .int y1, .ref 67]) (h' := q5) (sg1 rfl rfl (sg1 rfl rfl (sg1 rfl rfl (sg1 rfl rfl (sg1 rfl rfl rfl))))) ?_
  obtain ⟨q6, e_q6, hf⟩ := bnd hf
  refine Ex.callV (a := 67) (As := [.int y1]) (r := [.int 0, .int y1, .ref 67]) (v := some (.int q6.1)) (h' := q6.2) rfl rfl (by decide) rfl (Nat.le_of_ble_eq_true rfl) rfl (E_305 (Nat.le_trans (by decide) hd) e_q6) rfl ?_
  obtain ⟨q7, e_q7, hf⟩ := bnd hf
  refine Ex.callV (a := 67) (As := [.int y1, .int 0, .int q6.1]) (r := []) (v := none) (h' := q7) rfl rfl (by decide) rfl (Nat.le_of_ble_eq_true rfl) rfl (E_310 (Nat.le_trans (by decide) hd) e_q7) rfl ?_
  refine Ex.seg 2 (pc' := 69) (lc' := [some (.ref 67), some (.int y1), some (.int y2), some (.int z0), none]) (st' := [.int y2, .ref 67]) (h' := q7) (sg1 rfl rfl (sg1 rfl rfl rfl)) ?_
  obtain ⟨q8, e_q8, hf⟩ := bnd hf
  refine Ex.callV (a := 67) (As := [.int y2]) (r := []) (v := some (.int q8.1)) (h' := q8.2) rfl rfl (by decide) rfl (Nat.le_of_ble_eq_true rfl) rfl (E_305 (Nat.le_trans (by decide) hd) e_q8) rfl ?_
  refine Ex.seg 1 (pc' := 73) (lc' := [some (.ref 67), some (.int y1), some (.int y2), some (.int z0), none]) (st' := [.int z0, .int q8.1]) (h' := q8.2) (sg1 rfl rfl rfl) ?_
  refine Ex.icmp rfl rfl (fun (c0 : q8.1 < z0) => ?_) (fun (c0 : ¬ (q8.1 < z0)) => ?_)
  · rw [if_pos c0] at hf
    exact Ex.weak (sm_le_n (sm_le_n (sm_le_n (sm_le_n (sm_le_s sm_le_nil))))) (B_330_133 hd  hf hs)
  · rw [if_neg c0] at hf
    refine Ex.seg 3 (pc' := 79) (lc' := [some (.ref 67), some (.int y1), some (.int y2), some (.int z0), none]) (st' := [.int 0, .int y2, .ref 67]) (h' := q8.2) (sg1 rfl rfl (sg1 rfl rfl (sg1 rfl rfl rfl))) ?_
    obtain ⟨q9, e_q9, hf⟩ := bnd hf
    refine Ex.callV (a := 67) (As := [.int y2, .int 0]) (r := []) (v := some (.int q9.1)) (h' := q9.2) rfl rfl (by decide) rfl (Nat.le_of_ble_eq_true rfl) rfl (E_306 (Nat.le_trans (by decide) hd) e_q9) rfl ?_
    refine Ex.seg 1 (pc' := 84) (lc' := [some (.ref 67), some (.int y1), some (.int y2), some (.int z0), none]) (st' := [.int 19, .int q9.1]) (h' := q9.2) (sg1 rfl rfl rfl) ?_
    refine Ex.icmp rfl rfl (fun (c0 : ¬ (q9.1 = 19)) => ?_) (fun (c0 : ¬ ¬ (q9.1 = 19)) => ?_)
    · rw [if_neg c0] at hf
      exact Ex.weak (sm_le_n (sm_le_n (sm_le_n (sm_le_n (sm_le_s sm_le_nil))))) (B_330_133 hd  hf hs)
    · rw [if_pos (Classical.not_not.mp c0)] at hf
      refine Ex.seg 2 (pc' := 89) (lc' := [some (.ref 67), some (.int y1), some (.int y2), some (.int z0), none]) (st' := [.int 1, .int z0]) (h' := q9.2) (sg1 rfl rfl (sg1 rfl rfl rfl)) ?_
      refine Ex.icmp rfl rfl (fun (c0 : z0 = 1) => ?_) (fun (c0 : ¬ (z0 = 1)) => ?_)
      · rw [if_pos c0] at hf
        exact Ex.weak (sm_le_s (sm_le_s (sm_le_s (sm_le_s (sm_le_s sm_le_nil))))) (B_330_106 hd  hf hs)
      · rw [if_neg c0] at hf
        refine Ex.seg 3 (pc' := 95) (lc' := [some (.ref 67), some (.int y1), some (.int y2), some (.int z0), none]) (st' := [.int 1, .int y2, .ref 67]) (h' := q9.2) (sg1 rfl rfl (sg1 rfl rfl (sg1 rfl rfl rfl))) ?_
        obtain ⟨q10, e_q10, hf⟩ := bnd hf
        refine Ex.callV (a := 67) (As := [.int y2, .int 1]) (r := []) (v := some (.int q10.1)) (h' := q10.2) rfl rfl (by decide) rfl (Nat.le_of_ble_eq_true rfl) rfl (E_306 (Nat.le_trans (by decide) hd) e_q10) rfl ?_
        refine Ex.seg 2 (pc' := 100) (lc' := [some (.ref 67), some (.int y1), some (.int y2), some (.int z0), none]) (st' := [.int y1, .ref 67, .int q10.1]) (h' := q10.2) (sg1 rfl rfl (sg1 rfl rfl rfl)) ?_
        obtain ⟨q11, e_q11, hf⟩ := bnd hf
        refine Ex.callV (a := 67) (As := [.int y1]) (r := [.int q10.1]) (v := some (.int q11.1)) (h' := q11.2) rfl rfl (by decide) rfl (Nat.le_of_ble_eq_true rfl) rfl (E_307 (Nat.le_trans (by decide) hd) e_q11) rfl ?_
        refine Ex.icmp rfl rfl (fun (c0 : ¬ (q10.1 = q11.1)) => ?_) (fun (c0 : ¬ ¬ (q10.1 = q11.1)) => ?_)
        · rw [if_neg c0] at hf
          exact Ex.weak (sm_le_n (sm_le_n (sm_le_n (sm_le_n (sm_le_s sm_le_nil))))) (B_330_133 hd  hf hs)
        · rw [if_pos (Classical.not_not.mp c0)] at hf
          exact Ex.weak (sm_le_s (sm_le_s (sm_le_s (sm_le_s (sm_le_s sm_le_nil))))) (B_330_106 hd  hf hs)
def F_330_17  (h : sm_H) : Option (Int32 × sm_H) :=
  some (1, h)
theorem B_330_17 {L : Nat} {xs : Nat → Int32} {d : Nat} (hd : 2 ≤ d) {res : Option Value × sm_H}   {h : sm_H} {r : (Int32 × sm_H)} (hf : F_330_17  h = some r) (hs : (fun (r : Int32 × sm_H) => res = (some (.int r.1), r.2)) r) : Ex (P_G L xs) (RUN L xs d) (sm_lk P_t330) 0 17 [none, none, none, none, none] [] h res := by
  unfold F_330_17 at hf
  refine Ex.seg 1 (pc' := 18) (lc' := [none, none, none, none, none]) (st' := [.int 1]) (h' := h) (sg1 rfl rfl rfl) ?_
  obtain rfl := Option.some.inj hf
  exact Ex.iret rfl rfl (fun c0 => by cases c0) hs
def F_330_0  (h : sm_H) : Option (Int32 × sm_H) :=
  if (h.1 67 3) = 2 then ((F_314 0 2 h).bind fun q12 =>
  if q12.1 = 0 then (F_330_17 q12.2)
  else ((ldI q12.2 69 24 0).bind fun v13 =>
  (ldI q12.2 69 24 1).bind fun v14 =>
  (F_307 v13 q12.2).bind fun q15 =>
  if q15.1 = 0 then (F_330_46 v13 v14 1 q15.2)
  else (F_330_46 v13 v14 2 q15.2)))
  else (F_330_17 h)
theorem B_330_0 {L : Nat} {xs : Nat → Int32} {d : Nat} (hd : 2 ≤ d) {res : Option Value × sm_H}   {h : sm_H} {r : (Int32 × sm_H)} (hf : F_330_0  h = some r) (hs : (fun (r : Int32 × sm_H) => res = (some (.int r.1), r.2)) r) : Ex (P_G L xs) (RUN L xs d) (sm_lk P_t330) 0 0 [some (.ref 67), none, none, none, none] [] h res := by
  unfold F_330_0 at hf
  refine Ex.seg 3 (pc' := 5) (lc' := [some (.ref 67), none, none, none, none]) (st' := [.int 2, .int (h.1 67 3)]) (h' := h) (sg1 rfl rfl (sg1 rfl rfl (sg1 rfl rfl rfl))) ?_
  refine Ex.icmp rfl rfl (fun (c0 : ¬ ((h.1 67 3) = 2)) => ?_) (fun (c0 : ¬ ¬ ((h.1 67 3) = 2)) => ?_)
  · rw [if_neg c0] at hf
    exact Ex.weak (sm_le_n (sm_le_s (sm_le_s (sm_le_s (sm_le_s sm_le_nil))))) (B_330_17 hd  hf hs)
  · rw [if_pos (Classical.not_not.mp c0)] at hf
    refine Ex.seg 3 (pc' := 11) (lc' := [some (.ref 67), none, none, none, none]) (st' := [.int 2, .int 0, .ref 67]) (h' := h) (sg1 rfl rfl (sg1 rfl rfl (sg1 rfl rfl rfl))) ?_
    obtain ⟨q12, e_q12, hf⟩ := bnd hf
    refine Ex.callV (a := 67) (As := [.int 0, .int 2]) (r := []) (v := some (.int q12.1)) (h' := q12.2) rfl rfl (by decide) rfl (Nat.le_of_ble_eq_true rfl) rfl (E_314 (Nat.le_trans (by decide) hd) e_q12) rfl ?_
    refine Ex.ifc rfl rfl (fun (c0 : ¬ (q12.1 = 0)) => ?_) (fun (c0 : ¬ ¬ (q12.1 = 0)) => ?_)
    · rw [if_neg c0] at hf
      refine Ex.seg 3 (pc' := 24) (lc' := [some (.ref 67), none, none, none, none]) (st' := [.int 0, .ref 69]) (h' := q12.2) (sg1 rfl rfl (sg1 rfl rfl (sg1 rfl rfl rfl))) ?_
      obtain ⟨v13, e_v13, hf⟩ := bnd hf
      refine Ex.iald e_v13 rfl rfl ?_
      refine Ex.seg 4 (pc' := 31) (lc' := [some (.ref 67), some (.int v13), none, none, none]) (st' := [.int 1, .ref 69]) (h' := q12.2) (sg1 rfl rfl (sg1 rfl rfl (sg1 rfl rfl (sg1 rfl rfl rfl)))) ?_
      obtain ⟨v14, e_v14, hf⟩ := bnd hf
      refine Ex.iald e_v14 rfl rfl ?_
      refine Ex.seg 3 (pc' := 35) (lc' := [some (.ref 67), some (.int v13), some (.int v14), none, none]) (st' := [.int v13, .ref 67]) (h' := q12.2) (sg1 rfl rfl (sg1 rfl rfl (sg1 rfl rfl rfl))) ?_
      obtain ⟨q15, e_q15, hf⟩ := bnd hf
      refine Ex.callV (a := 67) (As := [.int v13]) (r := []) (v := some (.int q15.1)) (h' := q15.2) rfl rfl (by decide) rfl (Nat.le_of_ble_eq_true rfl) rfl (E_307 (Nat.le_trans (by decide) hd) e_q15) rfl ?_
      refine Ex.ifc rfl rfl (fun (c0 : ¬ (q15.1 = 0)) => ?_) (fun (c0 : ¬ ¬ (q15.1 = 0)) => ?_)
      · rw [if_neg c0] at hf
        refine Ex.seg 1 (pc' := 46) (lc' := [some (.ref 67), some (.int v13), some (.int v14), none, none]) (st' := [.int 2]) (h' := q15.2) (sg1 rfl rfl rfl) ?_
        exact Ex.weak (sm_le_s (sm_le_s (sm_le_s (sm_le_s (sm_le_s sm_le_nil))))) (B_330_46 hd  hf hs)
      · rw [if_pos (Classical.not_not.mp c0)] at hf
        refine Ex.seg 2 (pc' := 46) (lc' := [some (.ref 67), some (.int v13), some (.int v14), none, none]) (st' := [.int 1]) (h' := q15.2) (sg1 rfl rfl (sg1 rfl rfl rfl)) ?_
        exact Ex.weak (sm_le_s (sm_le_s (sm_le_s (sm_le_s (sm_le_s sm_le_nil))))) (B_330_46 hd  hf hs)
    · rw [if_pos (Classical.not_not.mp c0)] at hf
      exact Ex.weak (sm_le_n (sm_le_s (sm_le_s (sm_le_s (sm_le_s sm_le_nil))))) (B_330_17 hd  hf hs)
/-- HandleHouseModel.checkFinally()I -/
abbrev F_330  (h : sm_H) : Option (Int32 × sm_H) := F_330_0  h
theorem E_330 {L : Nat} {xs : Nat → Int32} {d : Nat} (hd : 3 ≤ d)  {h : sm_H} {r : Int32 × sm_H} (hf : F_330  h = some r) : RUN L xs d 330 [.ref 67] h (some (.int r.1), r.2) := by
  obtain ⟨d, rfl⟩ : ∃ e, d = e + 1 := ⟨d - 1, by omega⟩
  exact ⟨Nat.le_of_ble_eq_true rfl, B_330_0 (by omega) hf rfl⟩
def F_331_85  (h : sm_H) : Option (Int32 × sm_H) :=
  some (3, h)
theorem B_331_85 {L : Nat} {xs : Nat → Int32} {d : Nat} (hd : 2 ≤ d) {res : Option Value × sm_H}   {h : sm_H} {r : (Int32 × sm_H)} (hf : F_331_85  h = some r) (hs : (fun (r : Int32 × sm_H) => res = (some (.int r.1), r.2)) r) : Ex (P_G L xs) (RUN L xs d) (sm_lk P_t331) 0 85 [none, none, none] [] h res := by
  unfold F_331_85 at hf
  refine Ex.seg 1 (pc' := 86) (lc' := [none, none, none]) (st' := [.int 3]) (h' := h) (sg1 rfl rfl rfl) ?_
  obtain rfl := Option.some.inj hf
  exact Ex.iret rfl rfl (fun c0 => by cases c0) hs
def F_331_31B (s : (Int32 × Int32 × sm_H)) : Option ((Int32 × Int32 × sm_H) ⊕ (Int32 × sm_H)) :=
  if (s.2.2.1 67 3) ≤ s.2.1 then ((F_305 s.1 s.2.2).bind fun q1 =>
  if q1.1 = 0 then ((F_331_85 q1.2).map fun r => (.inr r))
  else ((F_306 s.1 0 q1.2).bind fun q2 =>
  if q2.1 = 5 then ((F_307 s.1 q2.2).bind fun q3 =>
  (F_308 q3.1 q3.2).bind fun q4 =>
  (F_305 s.1 q4).bind fun q5 =>
  (F_310 s.1 0 q5.1 q5.2).bind fun q6 =>
  some (.inr (0, q6)))
  else ((F_331_85 q2.2).map fun r => (.inr r))))
  else ((ldI s.2.2 69 24 s.2.1).bind fun v7 =>
  (ldI s.2.2 76 500 v7).bind fun v8 =>
  (ldI s.2.2 76 500 s.1).bind fun v9 =>
  if v8 = v9 then ((some (s.2.1 + 1 : Int32)).bind fun v10 =>
  some (.inl (s.1, v10, s.2.2)))
  else (some (.inr (3, s.2.2))))
theorem B_331_31B {L : Nat} {xs : Nat → Int32} {d : Nat} (hd : 2 ≤ d) {res : Option Value × sm_H} {S1 : (Int32 × Int32 × sm_H) → Prop} (hS1 : ∀ s, S1 s → Ex (P_G L xs) (RUN L xs d) (sm_lk P_t331) 0 31 [some (.ref 67), some (.int s.1), some (.int s.2.1)] [] s.2.2 res) {s : (Int32 × Int32 × sm_H)}  {r : ((Int32 × Int32 × sm_H) ⊕ (Int32 × sm_H))} (hf : F_331_31B s = some r) (hs : (Sum.elim S1 (fun (r : Int32 × sm_H) => res = (some (.int r.1), r.2))) r) : Ex (P_G L xs) (RUN L xs d) (sm_lk P_t331) 0 31 [some (.ref 67), some (.int s.1), some (.int s.2.1)] [] s.2.2 res := by
  unfold F_331_31B at hf
  refine Ex.seg 3 (pc' := 36) (lc' := [some (.ref 67), some (.int s.1), some (.int s.2.1)]) (st' := [.int (s.2.2.1 67 3), .int s.2.1]) (h' := s.2.2) (sg1 rfl rfl (sg1 rfl rfl (sg1 rfl rfl rfl))) ?_
  refine Ex.icmp rfl rfl (fun (c0 : (s.2.2.1 67 3) ≤ s.2.1) => ?_) (fun (c0 : ¬ ((s.2.2.1 67 3) ≤ s.2.1)) => ?_)
  · rw [if_pos c0] at hf
    refine Ex.seg 2 (pc' := 69) (lc' := [some (.ref 67), some (.int s.1), some (.int s.2.1)]) (st' := [.int s.1, .ref 67]) (h' := s.2.2) (sg1 rfl rfl (sg1 rfl rfl rfl)) ?_
    obtain ⟨q1, e_q1, hf⟩ := bnd hf
    refine Ex.callV (a := 67) (As := [.int s.1]) (r := []) (v := some (.int q1.1)) (h' := q1.2) rfl rfl (by decide) rfl (Nat.le_of_ble_eq_true rfl) rfl (E_305 (Nat.le_trans (by decide) hd) e_q1) rfl ?_
    refine Ex.ifc rfl rfl (fun (c0 : q1.1 = 0) => ?_) (fun (c0 : ¬ (q1.1 = 0)) => ?_)
    · rw [if_pos c0] at hf
      obtain ⟨r0, hf0, rfl⟩ := Option.map_eq_some_iff.mp hf
      exact Ex.weak (sm_le_n (sm_le_n (sm_le_n sm_le_nil))) (B_331_85 hd  hf0 hs)
    · rw [if_neg c0] at hf
      refine Ex.seg 3 (pc' := 78) (lc' := [some (.ref 67), some (.int s.1), some (.int s.2.1)]) (st' := [.int 0, .int s.1, .ref 67]) (h' := q1.2) (sg1 rfl rfl (sg1 rfl rfl (sg1 rfl rfl rfl))) ?_
      obtain ⟨q2, e_q2, hf⟩ := bnd hf
      refine Ex.callV (a := 67) (As := [.int s.1, .int 0]) (r := []) (v := some (.int q2.1)) (h' := q2.2) rfl rfl (by decide) rfl (Nat.le_of_ble_eq_true rfl) rfl (E_306 (Nat.le_trans (by decide) hd) e_q2) rfl ?_
      refine Ex.seg 1 (pc' := 82) (lc' := [some (.ref 67), some (.int s.1), some (.int s.2.1)]) (st' := [.int 5, .int q2.1]) (h' := q2.2) (sg1 rfl rfl rfl) ?_
      refine Ex.icmp rfl rfl (fun (c0 : q2.1 = 5) => ?_) (fun (c0 : ¬ (q2.1 = 5)) => ?_)
      · rw [if_pos c0] at hf
        refine Ex.seg 3 (pc' := 90) (lc' := [some (.ref 67), some (.int s.1), some (.int s.2.1)]) (st' := [.int s.1, .ref 67, .ref 67]) (h' := q2.2) (sg1 rfl rfl (sg1 rfl rfl (sg1 rfl rfl rfl))) ?_
        obtain ⟨q3, e_q3, hf⟩ := bnd hf
        refine Ex.callV (a := 67) (As := [.int s.1]) (r := [.ref 67]) (v := some (.int q3.1)) (h' := q3.2) rfl rfl (by decide) rfl (Nat.le_of_ble_eq_true rfl) rfl (E_307 (Nat.le_trans (by decide) hd) e_q3) rfl ?_
        obtain ⟨q4, e_q4, hf⟩ := bnd hf
        refine Ex.callV (a := 67) (As := [.int q3.1]) (r := []) (v := none) (h' := q4) rfl rfl (by decide) rfl (Nat.le_of_ble_eq_true rfl) rfl (E_308 (Nat.le_trans (by decide) hd) e_q4) rfl ?_
        refine Ex.seg 5 (pc' := 101) (lc' := [some (.ref 67), some (.int s.1), some (.int s.2.1)]) (st' := [.int s.1, .ref 67, .int 0, .int s.1, .ref 67]) (h' := q4) (sg1 rfl rfl (sg1 rfl rfl (sg1 rfl rfl (sg1 rfl rfl (sg1 rfl rfl rfl))))) ?_
        obtain ⟨q5, e_q5, hf⟩ := bnd hf
        refine Ex.callV (a := 67) (As := [.int s.1]) (r := [.int 0, .int s.1, .ref 67]) (v := some (.int q5.1)) (h' := q5.2) rfl rfl (by decide) rfl (Nat.le_of_ble_eq_true rfl) rfl (E_305 (Nat.le_trans (by decide) hd) e_q5) rfl ?_
        obtain ⟨q6, e_q6, hf⟩ := bnd hf
        refine Ex.callV (a := 67) (As := [.int s.1, .int 0, .int q5.1]) (r := []) (v := none) (h' := q6) rfl rfl (by decide) rfl (Nat.le_of_ble_eq_true rfl) rfl (E_310 (Nat.le_trans (by decide) hd) e_q6) rfl ?_
        refine Ex.seg 1 (pc' := 108) (lc' := [some (.ref 67), some (.int s.1), some (.int s.2.1)]) (st' := [.int 0]) (h' := q6) (sg1 rfl rfl rfl) ?_
        obtain rfl := Option.some.inj hf
        exact Ex.iret rfl rfl (fun c0 => by cases c0) hs
      · rw [if_neg c0] at hf
        obtain ⟨r0, hf0, rfl⟩ := Option.map_eq_some_iff.mp hf
        exact Ex.weak (sm_le_n (sm_le_n (sm_le_n sm_le_nil))) (B_331_85 hd  hf0 hs)
  · rw [if_neg c0] at hf
    refine Ex.seg 5 (pc' := 48) (lc' := [some (.ref 67), some (.int s.1), some (.int s.2.1)]) (st' := [.int s.2.1, .ref 69, .ref 76]) (h' := s.2.2) (sg1 rfl rfl (sg1 rfl rfl (sg1 rfl rfl (sg1 rfl rfl (sg1 rfl rfl rfl))))) ?_
    obtain ⟨v7, e_v7, hf⟩ := bnd hf
    refine Ex.iald e_v7 rfl rfl ?_
    obtain ⟨v8, e_v8, hf⟩ := bnd hf
    refine Ex.iald e_v8 rfl rfl ?_
    refine Ex.seg 3 (pc' := 55) (lc' := [some (.ref 67), some (.int s.1), some (.int s.2.1)]) (st' := [.int s.1, .ref 76, .int v8]) (h' := s.2.2) (sg1 rfl rfl (sg1 rfl rfl (sg1 rfl rfl rfl))) ?_
    obtain ⟨v9, e_v9, hf⟩ := bnd hf
    refine Ex.iald e_v9 rfl rfl ?_
    refine Ex.icmp rfl rfl (fun (c0 : v8 = v9) => ?_) (fun (c0 : ¬ (v8 = v9)) => ?_)
    · rw [if_pos c0] at hf
      refine Ex.seg 1 (pc' := 64) (lc' := [some (.ref 67), some (.int s.1), some (.int (s.2.1 + 1))]) (st' := []) (h' := s.2.2) (sg1 rfl rfl rfl) ?_
      obtain ⟨v10, e_v10, hf⟩ := bnd hf
      rw [Option.some.inj e_v10]
      refine Ex.seg 1 (pc' := 31) (lc' := [some (.ref 67), some (.int s.1), some (.int v10)]) (st' := []) (h' := s.2.2) (sg1 rfl rfl rfl) ?_
      obtain rfl := Option.some.inj hf
      exact Ex.weak (sm_le_s (sm_le_s (sm_le_s sm_le_nil))) (hS1 _ hs)
    · rw [if_neg c0] at hf
      refine Ex.seg 1 (pc' := 60) (lc' := [some (.ref 67), some (.int s.1), some (.int s.2.1)]) (st' := [.int 3]) (h' := s.2.2) (sg1 rfl rfl rfl) ?_
      obtain rfl := Option.some.inj hf
      exact Ex.iret rfl rfl (fun c0 => by cases c0) hs
def F_331_31 (y1 : Int32) (y2 : Int32) (h : sm_H) : Option (Int32 × sm_H) := lp F_331_31B 1000000 (y1, y2, h)
theorem B_331_31 {L : Nat} {xs : Nat → Int32} {d : Nat} (hd : 2 ≤ d) {res : Option Value × sm_H} {y1 : Int32} {y2 : Int32}  {h : sm_H} {r : (Int32 × sm_H)} (hf : F_331_31 y1 y2 h = some r) (hs : (fun (r : Int32 × sm_H) => res = (some (.int r.1), r.2)) r) : Ex (P_G L xs) (RUN L xs d) (sm_lk P_t331) 0 31 [some (.ref 67), some (.int y1), some (.int y2)] [] h res := by
  unfold F_331_31 at hf
  exact lp_ok (P := fun (s : (Int32 × Int32 × sm_H)) => Ex (P_G L xs) (RUN L xs d) (sm_lk P_t331) 0 31 [some (.ref 67), some (.int s.1), some (.int s.2.1)] [] s.2.2 res) (S := (fun (r : Int32 × sm_H) => res = (some (.int r.1), r.2))) (fun s x hx hsx => by
    intros
    exact B_331_31B hd  (fun _ q => q) hx hsx) 1000000 _ r hf hs
def F_331_20  (h : sm_H) : Option (Int32 × sm_H) :=
  some (1, h)
theorem B_331_20 {L : Nat} {xs : Nat → Int32} {d : Nat} (hd : 2 ≤ d) {res : Option Value × sm_H}   {h : sm_H} {r : (Int32 × sm_H)} (hf : F_331_20  h = some r) (hs : (fun (r : Int32 × sm_H) => res = (some (.int r.1), r.2)) r) : Ex (P_G L xs) (RUN L xs d) (sm_lk P_t331) 0 20 [none, none, none] [] h res := by
  unfold F_331_20 at hf
  refine Ex.seg 1 (pc' := 21) (lc' := [none, none, none]) (st' := [.int 1]) (h' := h) (sg1 rfl rfl rfl) ?_
  obtain rfl := Option.some.inj hf
  exact Ex.iret rfl rfl (fun c0 => by cases c0) hs
def F_331_0  (h : sm_H) : Option (Int32 × sm_H) :=
  if (h.1 67 3) < 1 then (F_331_20 h)
  else ((F_314 0 (h.1 67 3) h).bind fun q11 =>
  if q11.1 = 0 then (F_331_20 q11.2)
  else ((ldI q11.2 69 24 0).bind fun v12 =>
  F_331_31 v12 1 q11.2))
theorem B_331_0 {L : Nat} {xs : Nat → Int32} {d : Nat} (hd : 2 ≤ d) {res : Option Value × sm_H}   {h : sm_H} {r : (Int32 × sm_H)} (hf : F_331_0  h = some r) (hs : (fun (r : Int32 × sm_H) => res = (some (.int r.1), r.2)) r) : Ex (P_G L xs) (RUN L xs d) (sm_lk P_t331) 0 0 [some (.ref 67), none, none] [] h res := by
  unfold F_331_0 at hf
  refine Ex.seg 3 (pc' := 5) (lc' := [some (.ref 67), none, none]) (st' := [.int 1, .int (h.1 67 3)]) (h' := h) (sg1 rfl rfl (sg1 rfl rfl (sg1 rfl rfl rfl))) ?_
  refine Ex.icmp rfl rfl (fun (c0 : (h.1 67 3) < 1) => ?_) (fun (c0 : ¬ ((h.1 67 3) < 1)) => ?_)
  · rw [if_pos c0] at hf
    exact Ex.weak (sm_le_n (sm_le_s (sm_le_s sm_le_nil))) (B_331_20 hd  hf hs)
  · rw [if_neg c0] at hf
    refine Ex.seg 4 (pc' := 14) (lc' := [some (.ref 67), none, none]) (st' := [.int (h.1 67 3), .int 0, .ref 67]) (h' := h) (sg1 rfl rfl (sg1 rfl rfl (sg1 rfl rfl (sg1 rfl rfl rfl)))) ?_
    obtain ⟨q11, e_q11, hf⟩ := bnd hf
    refine Ex.callV (a := 67) (As := [.int 0, .int (h.1 67 3)]) (r := []) (v := some (.int q11.1)) (h' := q11.2) rfl rfl (by decide) rfl (Nat.le_of_ble_eq_true rfl) rfl (E_314 (Nat.le_trans (by decide) hd) e_q11) rfl ?_
    refine Ex.ifc rfl rfl (fun (c0 : ¬ (q11.1 = 0)) => ?_) (fun (c0 : ¬ ¬ (q11.1 = 0)) => ?_)
    · rw [if_neg c0] at hf
      refine Ex.seg 3 (pc' := 27) (lc' := [some (.ref 67), none, none]) (st' := [.int 0, .ref 69]) (h' := q11.2) (sg1 rfl rfl (sg1 rfl rfl (sg1 rfl rfl rfl))) ?_
      obtain ⟨v12, e_v12, hf⟩ := bnd hf
      refine Ex.iald e_v12 rfl rfl ?_
      refine Ex.seg 3 (pc' := 31) (lc' := [some (.ref 67), some (.int v12), some (.int 1)]) (st' := []) (h' := q11.2) (sg1 rfl rfl (sg1 rfl rfl (sg1 rfl rfl rfl))) ?_
      exact Ex.weak (sm_le_s (sm_le_s (sm_le_s sm_le_nil))) (B_331_31 hd  hf hs)
    · rw [if_pos (Classical.not_not.mp c0)] at hf
      exact Ex.weak (sm_le_n (sm_le_s (sm_le_s sm_le_nil))) (B_331_20 hd  hf hs)
/-- HandleHouseModel.checkSwitch()I -/
abbrev F_331  (h : sm_H) : Option (Int32 × sm_H) := F_331_0  h
theorem E_331 {L : Nat} {xs : Nat → Int32} {d : Nat} (hd : 3 ≤ d)  {h : sm_H} {r : Int32 × sm_H} (hf : F_331  h = some r) : RUN L xs d 331 [.ref 67] h (some (.int r.1), r.2) := by
  obtain ⟨d, rfl⟩ : ∃ e, d = e + 1 := ⟨d - 1, by omega⟩
  exact ⟨Nat.le_of_ble_eq_true rfl, B_331_0 (by omega) hf rfl⟩
def F_332_27 (z0 : Int32) (h : sm_H) : Option (Int32 × sm_H) :=
  some (z0, h)
theorem B_332_27 {L : Nat} {xs : Nat → Int32} {d : Nat} (hd : 1 ≤ d) {res : Option Value × sm_H} {z0 : Int32}  {h : sm_H} {r : (Int32 × sm_H)} (hf : F_332_27 z0 h = some r) (hs : (fun (r : Int32 × sm_H) => res = (some (.int r.1), r.2)) r) : Ex (P_G L xs) (RUN L xs d) (sm_lk P_t332) 0 27 [none, none, none] [.int z0] h res := by
  unfold F_332_27 at hf
  obtain rfl := Option.some.inj hf
  exact Ex.iret rfl rfl (fun c0 => by cases c0) hs
def F_332_0 (x1 : Int32) (x2 : Int32) (h : sm_H) : Option (Int32 × sm_H) :=
  if x2 = (-1) then (if x1 = (-1) then (F_332_27 0 h)
  else ((F_307 x1 h).bind fun q1 =>
  F_332_27 q1.1 q1.2))
  else ((F_307 x2 h).bind fun q2 =>
  F_332_27 q2.1 q2.2)
theorem B_332_0 {L : Nat} {xs : Nat → Int32} {d : Nat} (hd : 1 ≤ d) {res : Option Value × sm_H} {x1 : Int32} {x2 : Int32}  {h : sm_H} {r : (Int32 × sm_H)} (hf : F_332_0 x1 x2 h = some r) (hs : (fun (r : Int32 × sm_H) => res = (some (.int r.1), r.2)) r) : Ex (P_G L xs) (RUN L xs d) (sm_lk P_t332) 0 0 [some (.ref 67), some (.int x1), some (.int x2)] [] h res := by
  unfold F_332_0 at hf
  refine Ex.seg 2 (pc' := 2) (lc' := [some (.ref 67), some (.int x1), some (.int x2)]) (st' := [.int (-1), .int x2]) (h' := h) (sg1 rfl rfl (sg1 rfl rfl rfl)) ?_
  refine Ex.icmp rfl rfl (fun (c0 : x2 = (-1)) => ?_) (fun (c0 : ¬ (x2 = (-1))) => ?_)
  · rw [if_pos c0] at hf
    refine Ex.seg 2 (pc' := 15) (lc' := [some (.ref 67), some (.int x1), some (.int x2)]) (st' := [.int (-1), .int x1]) (h' := h) (sg1 rfl rfl (sg1 rfl rfl rfl)) ?_
    refine Ex.icmp rfl rfl (fun (c0 : x1 = (-1)) => ?_) (fun (c0 : ¬ (x1 = (-1))) => ?_)
    · rw [if_pos c0] at hf
      refine Ex.seg 1 (pc' := 27) (lc' := [some (.ref 67), some (.int x1), some (.int x2)]) (st' := [.int 0]) (h' := h) (sg1 rfl rfl rfl) ?_
      exact Ex.weak (sm_le_n (sm_le_n (sm_le_n sm_le_nil))) (B_332_27 hd  hf hs)
    · rw [if_neg c0] at hf
      refine Ex.seg 2 (pc' := 20) (lc' := [some (.ref 67), some (.int x1), some (.int x2)]) (st' := [.int x1, .ref 67]) (h' := h) (sg1 rfl rfl (sg1 rfl rfl rfl)) ?_
      obtain ⟨q1, e_q1, hf⟩ := bnd hf
      refine Ex.callV (a := 67) (As := [.int x1]) (r := []) (v := some (.int q1.1)) (h' := q1.2) rfl rfl (by decide) rfl (Nat.le_of_ble_eq_true rfl) rfl (E_307 (Nat.le_trans (by decide) hd) e_q1) rfl ?_
      refine Ex.seg 1 (pc' := 27) (lc' := [some (.ref 67), some (.int x1), some (.int x2)]) (st' := [.int q1.1]) (h' := q1.2) (sg1 rfl rfl rfl) ?_
      exact Ex.weak (sm_le_n (sm_le_n (sm_le_n sm_le_nil))) (B_332_27 hd  hf hs)
  · rw [if_neg c0] at hf
    refine Ex.seg 2 (pc' := 7) (lc' := [some (.ref 67), some (.int x1), some (.int x2)]) (st' := [.int x2, .ref 67]) (h' := h) (sg1 rfl rfl (sg1 rfl rfl rfl)) ?_
    obtain ⟨q2, e_q2, hf⟩ := bnd hf
    refine Ex.callV (a := 67) (As := [.int x2]) (r := []) (v := some (.int q2.1)) (h' := q2.2) rfl rfl (by decide) rfl (Nat.le_of_ble_eq_true rfl) rfl (E_307 (Nat.le_trans (by decide) hd) e_q2) rfl ?_
    refine Ex.seg 1 (pc' := 27) (lc' := [some (.ref 67), some (.int x1), some (.int x2)]) (st' := [.int q2.1]) (h' := q2.2) (sg1 rfl rfl rfl) ?_
    exact Ex.weak (sm_le_n (sm_le_n (sm_le_n sm_le_nil))) (B_332_27 hd  hf hs)
/-- HandleHouseModel.variableOf(II)I -/
abbrev F_332 (x1 : Int32) (x2 : Int32) (h : sm_H) : Option (Int32 × sm_H) := F_332_0 x1 x2 h
theorem E_332 {L : Nat} {xs : Nat → Int32} {d : Nat} (hd : 2 ≤ d) {x1 : Int32} {x2 : Int32} {h : sm_H} {r : Int32 × sm_H} (hf : F_332 x1 x2 h = some r) : RUN L xs d 332 [.ref 67, .int x1, .int x2] h (some (.int r.1), r.2) := by
  obtain ⟨d, rfl⟩ : ∃ e, d = e + 1 := ⟨d - 1, by omega⟩
  exact ⟨Nat.le_of_ble_eq_true rfl, B_332_0 (by omega) hf rfl⟩
def F_334_131  (h : sm_H) : Option (Int32 × sm_H) :=
  some (0, h)
theorem B_334_131 {L : Nat} {xs : Nat → Int32} {d : Nat} (hd : 1 ≤ d) {res : Option Value × sm_H}   {h : sm_H} {r : (Int32 × sm_H)} (hf : F_334_131  h = some r) (hs : (fun (r : Int32 × sm_H) => res = (some (.int r.1), r.2)) r) : Ex (P_G L xs) (RUN L xs d) (sm_lk P_t334) 0 131 [none, none, none, none] [] h res := by
  unfold F_334_131 at hf
  refine Ex.seg 1 (pc' := 132) (lc' := [none, none, none, none]) (st' := [.int 0]) (h' := h) (sg1 rfl rfl rfl) ?_
  obtain rfl := Option.some.inj hf
  exact Ex.iret rfl rfl (fun c0 => by cases c0) hs
def F_334_120 (y1 : Int32) (y3 : Int32) (h : sm_H) : Option (Int32 × sm_H) :=
  if y1 = 25 then ((F_309 y3 h).bind fun q1 =>
  F_334_131 q1)
  else (F_334_131 h)
theorem B_334_120 {L : Nat} {xs : Nat → Int32} {d : Nat} (hd : 1 ≤ d) {res : Option Value × sm_H} {y1 : Int32} {y3 : Int32}  {h : sm_H} {r : (Int32 × sm_H)} (hf : F_334_120 y1 y3 h = some r) (hs : (fun (r : Int32 × sm_H) => res = (some (.int r.1), r.2)) r) : Ex (P_G L xs) (RUN L xs d) (sm_lk P_t334) 0 120 [some (.ref 67), some (.int y1), none, some (.int y3)] [] h res := by
  unfold F_334_120 at hf
  refine Ex.seg 2 (pc' := 123) (lc' := [some (.ref 67), some (.int y1), none, some (.int y3)]) (st' := [.int 25, .int y1]) (h' := h) (sg1 rfl rfl (sg1 rfl rfl rfl)) ?_
  refine Ex.icmp rfl rfl (fun (c0 : ¬ (y1 = 25)) => ?_) (fun (c0 : ¬ ¬ (y1 = 25)) => ?_)
  · rw [if_neg c0] at hf
    exact Ex.weak (sm_le_n (sm_le_n (sm_le_s (sm_le_n sm_le_nil)))) (B_334_131 hd  hf hs)
  · rw [if_pos (Classical.not_not.mp c0)] at hf
    refine Ex.seg 2 (pc' := 128) (lc' := [some (.ref 67), some (.int y1), none, some (.int y3)]) (st' := [.int y3, .ref 67]) (h' := h) (sg1 rfl rfl (sg1 rfl rfl rfl)) ?_
    obtain ⟨q1, e_q1, hf⟩ := bnd hf
    refine Ex.callV (a := 67) (As := [.int y3]) (r := []) (v := none) (h' := q1) rfl rfl (by decide) rfl (Nat.le_of_ble_eq_true rfl) rfl (E_309 (Nat.le_trans (by decide) hd) e_q1) rfl ?_
    exact Ex.weak (sm_le_n (sm_le_n (sm_le_s (sm_le_n sm_le_nil)))) (B_334_131 hd  hf hs)
def F_334_75 (y1 : Int32) (y2 : Int32) (y3 : Int32) (z1 : Int32) (h : sm_H) : Option (Int32 × sm_H) :=
  (F_308 z1 h).bind fun q2 =>
  if y1 = 20 then ((F_309 5 q2).bind fun q6 =>
  some (0, q6))
  else ((F_309 y2 q2).bind fun q3 =>
  if y1 = 21 then (some (0, q3))
  else ((F_309 5 q3).bind fun q4 =>
  if y1 = 22 then (F_334_120 y1 y3 q4)
  else ((F_309 y3 q4).bind fun q5 =>
  F_334_120 y1 y3 q5)))
theorem B_334_75 {L : Nat} {xs : Nat → Int32} {d : Nat} (hd : 1 ≤ d) {res : Option Value × sm_H} {y1 : Int32} {y2 : Int32} {y3 : Int32} {z1 : Int32}  {h : sm_H} {r : (Int32 × sm_H)} (hf : F_334_75 y1 y2 y3 z1 h = some r) (hs : (fun (r : Int32 × sm_H) => res = (some (.int r.1), r.2)) r) : Ex (P_G L xs) (RUN L xs d) (sm_lk P_t334) 0 75 [some (.ref 67), some (.int y1), some (.int y2), some (.int y3)] [.int z1, .ref 67] h res := by
  unfold F_334_75 at hf
  obtain ⟨q2, e_q2, hf⟩ := bnd hf
  refine Ex.callV (a := 67) (As := [.int z1]) (r := []) (v := none) (h' := q2) rfl rfl (by decide) rfl (Nat.le_of_ble_eq_true rfl) rfl (E_308 (Nat.le_trans (by decide) hd) e_q2) rfl ?_
  refine Ex.seg 2 (pc' := 81) (lc' := [some (.ref 67), some (.int y1), some (.int y2), some (.int y3)]) (st' := [.int 20, .int y1]) (h' := q2) (sg1 rfl rfl (sg1 rfl rfl rfl)) ?_
  refine Ex.icmp rfl rfl (fun (c0 : ¬ (y1 = 20)) => ?_) (fun (c0 : ¬ ¬ (y1 = 20)) => ?_)
  · rw [if_neg c0] at hf
    refine Ex.seg 2 (pc' := 93) (lc' := [some (.ref 67), some (.int y1), some (.int y2), some (.int y3)]) (st' := [.int y2, .ref 67]) (h' := q2) (sg1 rfl rfl (sg1 rfl rfl rfl)) ?_
    obtain ⟨q3, e_q3, hf⟩ := bnd hf
    refine Ex.callV (a := 67) (As := [.int y2]) (r := []) (v := none) (h' := q3) rfl rfl (by decide) rfl (Nat.le_of_ble_eq_true rfl) rfl (E_309 (Nat.le_trans (by decide) hd) e_q3) rfl ?_
    refine Ex.seg 2 (pc' := 99) (lc' := [some (.ref 67), some (.int y1), some (.int y2), some (.int y3)]) (st' := [.int 21, .int y1]) (h' := q3) (sg1 rfl rfl (sg1 rfl rfl rfl)) ?_
    refine Ex.icmp rfl rfl (fun (c0 : ¬ (y1 = 21)) => ?_) (fun (c0 : ¬ ¬ (y1 = 21)) => ?_)
    · rw [if_neg c0] at hf
      refine Ex.seg 2 (pc' := 106) (lc' := [some (.ref 67), some (.int y1), some (.int y2), some (.int y3)]) (st' := [.int 5, .ref 67]) (h' := q3) (sg1 rfl rfl (sg1 rfl rfl rfl)) ?_
      obtain ⟨q4, e_q4, hf⟩ := bnd hf
      refine Ex.callV (a := 67) (As := [.int 5]) (r := []) (v := none) (h' := q4) rfl rfl (by decide) rfl (Nat.le_of_ble_eq_true rfl) rfl (E_309 (Nat.le_trans (by decide) hd) e_q4) rfl ?_
      refine Ex.seg 2 (pc' := 112) (lc' := [some (.ref 67), some (.int y1), some (.int y2), some (.int y3)]) (st' := [.int 22, .int y1]) (h' := q4) (sg1 rfl rfl (sg1 rfl rfl rfl)) ?_
      refine Ex.icmp rfl rfl (fun (c0 : y1 = 22) => ?_) (fun (c0 : ¬ (y1 = 22)) => ?_)
      · rw [if_pos c0] at hf
        exact Ex.weak (sm_le_s (sm_le_s (sm_le_n (sm_le_s sm_le_nil)))) (B_334_120 hd  hf hs)
      · rw [if_neg c0] at hf
        refine Ex.seg 2 (pc' := 117) (lc' := [some (.ref 67), some (.int y1), some (.int y2), some (.int y3)]) (st' := [.int y3, .ref 67]) (h' := q4) (sg1 rfl rfl (sg1 rfl rfl rfl)) ?_
        obtain ⟨q5, e_q5, hf⟩ := bnd hf
        refine Ex.callV (a := 67) (As := [.int y3]) (r := []) (v := none) (h' := q5) rfl rfl (by decide) rfl (Nat.le_of_ble_eq_true rfl) rfl (E_309 (Nat.le_trans (by decide) hd) e_q5) rfl ?_
        exact Ex.weak (sm_le_s (sm_le_s (sm_le_n (sm_le_s sm_le_nil)))) (B_334_120 hd  hf hs)
    · rw [if_pos (Classical.not_not.mp c0)] at hf
      refine Ex.seg 1 (pc' := 103) (lc' := [some (.ref 67), some (.int y1), some (.int y2), some (.int y3)]) (st' := [.int 0]) (h' := q3) (sg1 rfl rfl rfl) ?_
      obtain rfl := Option.some.inj hf
      exact Ex.iret rfl rfl (fun c0 => by cases c0) hs
  · rw [if_pos (Classical.not_not.mp c0)] at hf
    refine Ex.seg 2 (pc' := 86) (lc' := [some (.ref 67), some (.int y1), some (.int y2), some (.int y3)]) (st' := [.int 5, .ref 67]) (h' := q2) (sg1 rfl rfl (sg1 rfl rfl rfl)) ?_
    obtain ⟨q6, e_q6, hf⟩ := bnd hf
    refine Ex.callV (a := 67) (As := [.int 5]) (r := []) (v := none) (h' := q6) rfl rfl (by decide) rfl (Nat.le_of_ble_eq_true rfl) rfl (E_309 (Nat.le_trans (by decide) hd) e_q6) rfl ?_
    refine Ex.seg 1 (pc' := 90) (lc' := [some (.ref 67), some (.int y1), some (.int y2), some (.int y3)]) (st' := [.int 0]) (h' := q6) (sg1 rfl rfl rfl) ?_
    obtain rfl := Option.some.inj hf
    exact Ex.iret rfl rfl (fun c0 => by cases c0) hs
def F_334_28 (y1 : Int32) (y2 : Int32) (h : sm_H) : Option (Int32 × sm_H) :=
  (F_294 y2 h).bind fun q7 =>
  if y1 = 20 then (F_334_75 y1 y2 q7.1 y2 q7.2)
  else (if y1 = 21 then (F_334_75 y1 y2 q7.1 5 q7.2)
  else (if y1 = 23 then (F_334_75 y1 y2 q7.1 0 q7.2)
  else (if y1 = 25 then (F_334_75 y1 y2 q7.1 1 q7.2)
  else (F_334_75 y1 y2 q7.1 q7.1 q7.2))))
theorem B_334_28 {L : Nat} {xs : Nat → Int32} {d : Nat} (hd : 1 ≤ d) {res : Option Value × sm_H} {y1 : Int32} {y2 : Int32}  {h : sm_H} {r : (Int32 × sm_H)} (hf : F_334_28 y1 y2 h = some r) (hs : (fun (r : Int32 × sm_H) => res = (some (.int r.1), r.2)) r) : Ex (P_G L xs) (RUN L xs d) (sm_lk P_t334) 0 28 [some (.ref 67), some (.int y1), some (.int y2), none] [] h res := by
  unfold F_334_28 at hf
  refine Ex.seg 1 (pc' := 29) (lc' := [some (.ref 67), some (.int y1), some (.int y2), none]) (st' := [.int y2]) (h' := h) (sg1 rfl rfl rfl) ?_
  obtain ⟨q7, e_q7, hf⟩ := bnd hf
  refine Ex.callS (As := [.int y2]) (r := []) (v := some (.int q7.1)) (h' := q7.2) rfl rfl rfl rfl (Nat.le_of_ble_eq_true rfl) (E_294 (Nat.le_trans (by decide) hd) e_q7) rfl ?_
  refine Ex.seg 4 (pc' := 37) (lc' := [some (.ref 67), some (.int y1), some (.int y2), some (.int q7.1)]) (st' := [.int 20, .int y1, .ref 67]) (h' := q7.2) (sg1 rfl rfl (sg1 rfl rfl (sg1 rfl rfl (sg1 rfl rfl rfl)))) ?_
  refine Ex.icmp rfl rfl (fun (c0 : ¬ (y1 = 20)) => ?_) (fun (c0 : ¬ ¬ (y1 = 20)) => ?_)
  · rw [if_neg c0] at hf
    refine Ex.seg 2 (pc' := 47) (lc' := [some (.ref 67), some (.int y1), some (.int y2), some (.int q7.1)]) (st' := [.int 21, .int y1, .ref 67]) (h' := q7.2) (sg1 rfl rfl (sg1 rfl rfl rfl)) ?_
    refine Ex.icmp rfl rfl (fun (c0 : ¬ (y1 = 21)) => ?_) (fun (c0 : ¬ ¬ (y1 = 21)) => ?_)
    · rw [if_neg c0] at hf
      refine Ex.seg 2 (pc' := 57) (lc' := [some (.ref 67), some (.int y1), some (.int y2), some (.int q7.1)]) (st' := [.int 23, .int y1, .ref 67]) (h' := q7.2) (sg1 rfl rfl (sg1 rfl rfl rfl)) ?_
      refine Ex.icmp rfl rfl (fun (c0 : ¬ (y1 = 23)) => ?_) (fun (c0 : ¬ ¬ (y1 = 23)) => ?_)
      · rw [if_neg c0] at hf
        refine Ex.seg 2 (pc' := 67) (lc' := [some (.ref 67), some (.int y1), some (.int y2), some (.int q7.1)]) (st' := [.int 25, .int y1, .ref 67]) (h' := q7.2) (sg1 rfl rfl (sg1 rfl rfl rfl)) ?_
        refine Ex.icmp rfl rfl (fun (c0 : ¬ (y1 = 25)) => ?_) (fun (c0 : ¬ ¬ (y1 = 25)) => ?_)
        · rw [if_neg c0] at hf
          refine Ex.seg 1 (pc' := 75) (lc' := [some (.ref 67), some (.int y1), some (.int y2), some (.int q7.1)]) (st' := [.int q7.1, .ref 67]) (h' := q7.2) (sg1 rfl rfl rfl) ?_
          exact Ex.weak (sm_le_s (sm_le_s (sm_le_s (sm_le_s sm_le_nil)))) (B_334_75 hd  hf hs)
        · rw [if_pos (Classical.not_not.mp c0)] at hf
          refine Ex.seg 2 (pc' := 75) (lc' := [some (.ref 67), some (.int y1), some (.int y2), some (.int q7.1)]) (st' := [.int 1, .ref 67]) (h' := q7.2) (sg1 rfl rfl (sg1 rfl rfl rfl)) ?_
          exact Ex.weak (sm_le_s (sm_le_s (sm_le_s (sm_le_s sm_le_nil)))) (B_334_75 hd  hf hs)
      · rw [if_pos (Classical.not_not.mp c0)] at hf
        refine Ex.seg 2 (pc' := 75) (lc' := [some (.ref 67), some (.int y1), some (.int y2), some (.int q7.1)]) (st' := [.int 0, .ref 67]) (h' := q7.2) (sg1 rfl rfl (sg1 rfl rfl rfl)) ?_
        exact Ex.weak (sm_le_s (sm_le_s (sm_le_s (sm_le_s sm_le_nil)))) (B_334_75 hd  hf hs)
    · rw [if_pos (Classical.not_not.mp c0)] at hf
      refine Ex.seg 2 (pc' := 75) (lc' := [some (.ref 67), some (.int y1), some (.int y2), some (.int q7.1)]) (st' := [.int 5, .ref 67]) (h' := q7.2) (sg1 rfl rfl (sg1 rfl rfl rfl)) ?_
      exact Ex.weak (sm_le_s (sm_le_s (sm_le_s (sm_le_s sm_le_nil)))) (B_334_75 hd  hf hs)
  · rw [if_pos (Classical.not_not.mp c0)] at hf
    refine Ex.seg 2 (pc' := 75) (lc' := [some (.ref 67), some (.int y1), some (.int y2), some (.int q7.1)]) (st' := [.int y2, .ref 67]) (h' := q7.2) (sg1 rfl rfl (sg1 rfl rfl rfl)) ?_
    exact Ex.weak (sm_le_s (sm_le_s (sm_le_s (sm_le_s sm_le_nil)))) (B_334_75 hd  hf hs)
def F_334_26  (h : sm_H) : Option (Int32 × sm_H) :=
  some (1, h)
theorem B_334_26 {L : Nat} {xs : Nat → Int32} {d : Nat} (hd : 1 ≤ d) {res : Option Value × sm_H}   {h : sm_H} {r : (Int32 × sm_H)} (hf : F_334_26  h = some r) (hs : (fun (r : Int32 × sm_H) => res = (some (.int r.1), r.2)) r) : Ex (P_G L xs) (RUN L xs d) (sm_lk P_t334) 0 26 [none, none, none, none] [] h res := by
  unfold F_334_26 at hf
  refine Ex.seg 1 (pc' := 27) (lc' := [none, none, none, none]) (st' := [.int 1]) (h' := h) (sg1 rfl rfl rfl) ?_
  obtain rfl := Option.some.inj hf
  exact Ex.iret rfl rfl (fun c0 => by cases c0) hs
def F_334_0 (x1 : Int32) (x2 : Int32) (h : sm_H) : Option (Int32 × sm_H) :=
  if (h.1 67 3) = 0 then ((F_293 x2 h).bind fun q8 =>
  if q8.1 = 0 then (F_334_26 q8.2)
  else (if x1 = 26 then (if x2 = 17 then (F_334_26 q8.2)
  else (F_334_28 x1 x2 q8.2))
  else (F_334_28 x1 x2 q8.2)))
  else (F_334_26 h)
theorem B_334_0 {L : Nat} {xs : Nat → Int32} {d : Nat} (hd : 1 ≤ d) {res : Option Value × sm_H} {x1 : Int32} {x2 : Int32}  {h : sm_H} {r : (Int32 × sm_H)} (hf : F_334_0 x1 x2 h = some r) (hs : (fun (r : Int32 × sm_H) => res = (some (.int r.1), r.2)) r) : Ex (P_G L xs) (RUN L xs d) (sm_lk P_t334) 0 0 [some (.ref 67), some (.int x1), some (.int x2), none] [] h res := by
  unfold F_334_0 at hf
  refine Ex.seg 2 (pc' := 4) (lc' := [some (.ref 67), some (.int x1), some (.int x2), none]) (st' := [.int (h.1 67 3)]) (h' := h) (sg1 rfl rfl (sg1 rfl rfl rfl)) ?_
  refine Ex.ifc rfl rfl (fun (c0 : ¬ ((h.1 67 3) = 0)) => ?_) (fun (c0 : ¬ ¬ ((h.1 67 3) = 0)) => ?_)
  · rw [if_neg c0] at hf
    exact Ex.weak (sm_le_n (sm_le_n (sm_le_n (sm_le_s sm_le_nil)))) (B_334_26 hd  hf hs)
  · rw [if_pos (Classical.not_not.mp c0)] at hf
    refine Ex.seg 1 (pc' := 8) (lc' := [some (.ref 67), some (.int x1), some (.int x2), none]) (st' := [.int x2]) (h' := h) (sg1 rfl rfl rfl) ?_
    obtain ⟨q8, e_q8, hf⟩ := bnd hf
    refine Ex.callS (As := [.int x2]) (r := []) (v := some (.int q8.1)) (h' := q8.2) rfl rfl rfl rfl (Nat.le_of_ble_eq_true rfl) (E_293 (Nat.le_trans (by decide) hd) e_q8) rfl ?_
    refine Ex.ifc rfl rfl (fun (c0 : q8.1 = 0) => ?_) (fun (c0 : ¬ (q8.1 = 0)) => ?_)
    · rw [if_pos c0] at hf
      exact Ex.weak (sm_le_n (sm_le_n (sm_le_n (sm_le_s sm_le_nil)))) (B_334_26 hd  hf hs)
    · rw [if_neg c0] at hf
      refine Ex.seg 2 (pc' := 17) (lc' := [some (.ref 67), some (.int x1), some (.int x2), none]) (st' := [.int 26, .int x1]) (h' := q8.2) (sg1 rfl rfl (sg1 rfl rfl rfl)) ?_
      refine Ex.icmp rfl rfl (fun (c0 : ¬ (x1 = 26)) => ?_) (fun (c0 : ¬ ¬ (x1 = 26)) => ?_)
      · rw [if_neg c0] at hf
        exact Ex.weak (sm_le_s (sm_le_s (sm_le_s (sm_le_s sm_le_nil)))) (B_334_28 hd  hf hs)
      · rw [if_pos (Classical.not_not.mp c0)] at hf
        refine Ex.seg 2 (pc' := 23) (lc' := [some (.ref 67), some (.int x1), some (.int x2), none]) (st' := [.int 17, .int x2]) (h' := q8.2) (sg1 rfl rfl (sg1 rfl rfl rfl)) ?_
        refine Ex.icmp rfl rfl (fun (c0 : ¬ (x2 = 17)) => ?_) (fun (c0 : ¬ ¬ (x2 = 17)) => ?_)
        · rw [if_neg c0] at hf
          exact Ex.weak (sm_le_s (sm_le_s (sm_le_s (sm_le_s sm_le_nil)))) (B_334_28 hd  hf hs)
        · rw [if_pos (Classical.not_not.mp c0)] at hf
          exact Ex.weak (sm_le_n (sm_le_n (sm_le_n (sm_le_s sm_le_nil)))) (B_334_26 hd  hf hs)
/-- HandleHouseModel.checkRow(II)I -/
abbrev F_334 (x1 : Int32) (x2 : Int32) (h : sm_H) : Option (Int32 × sm_H) := F_334_0 x1 x2 h
theorem E_334 {L : Nat} {xs : Nat → Int32} {d : Nat} (hd : 2 ≤ d) {x1 : Int32} {x2 : Int32} {h : sm_H} {r : Int32 × sm_H} (hf : F_334 x1 x2 h = some r) : RUN L xs d 334 [.ref 67, .int x1, .int x2] h (some (.int r.1), r.2) := by
  obtain ⟨d, rfl⟩ : ∃ e, d = e + 1 := ⟨d - 1, by omega⟩
  exact ⟨Nat.le_of_ble_eq_true rfl, B_334_0 (by omega) hf rfl⟩
def F_337_78 (z0 : Int32) (h : sm_H) : Option (Int32 × sm_H) :=
  if z0 = 0 ∨ z0 = 1 then some (z0, h) else none
theorem B_337_78 {L : Nat} {xs : Nat → Int32} {d : Nat} (hd : 0 ≤ d) {res : Option Value × sm_H} {z0 : Int32}  {h : sm_H} {r : (Int32 × sm_H)} (hf : F_337_78 z0 h = some r) (hs : (fun (r : Int32 × sm_H) => res = (some (.int r.1), r.2)) r) : Ex (P_G L xs) (RUN L xs d) (sm_lk P_t337) 3 78 [none] [.int z0] h res := by
  unfold F_337_78 at hf
  rcases Classical.em (z0 = 0 ∨ z0 = 1) with c0 | c0
  · rw [if_pos c0] at hf
    obtain rfl := Option.some.inj hf
    exact Ex.iret rfl rfl (fun _ => c0) hs
  · rw [if_neg c0] at hf
    cases hf
def F_337_73  (h : sm_H) : Option (Int32 × sm_H) :=
  F_337_78 1 h
theorem B_337_73 {L : Nat} {xs : Nat → Int32} {d : Nat} (hd : 0 ≤ d) {res : Option Value × sm_H}   {h : sm_H} {r : (Int32 × sm_H)} (hf : F_337_73  h = some r) (hs : (fun (r : Int32 × sm_H) => res = (some (.int r.1), r.2)) r) : Ex (P_G L xs) (RUN L xs d) (sm_lk P_t337) 3 73 [none] [] h res := by
  unfold F_337_73 at hf
  refine Ex.seg 2 (pc' := 78) (lc' := [none]) (st' := [.int 1]) (h' := h) (sg1 rfl rfl (sg1 rfl rfl rfl)) ?_
  exact Ex.weak (sm_le_s sm_le_nil) (B_337_78 hd  hf hs)
def F_337_67 (y0 : Int32) (h : sm_H) : Option (Int32 × sm_H) :=
  if y0 < 35 then (F_337_78 0 h)
  else (F_337_73 h)
theorem B_337_67 {L : Nat} {xs : Nat → Int32} {d : Nat} (hd : 0 ≤ d) {res : Option Value × sm_H} {y0 : Int32}  {h : sm_H} {r : (Int32 × sm_H)} (hf : F_337_67 y0 h = some r) (hs : (fun (r : Int32 × sm_H) => res = (some (.int r.1), r.2)) r) : Ex (P_G L xs) (RUN L xs d) (sm_lk P_t337) 3 67 [some (.int y0)] [] h res := by
  unfold F_337_67 at hf
  refine Ex.seg 2 (pc' := 70) (lc' := [some (.int y0)]) (st' := [.int 35, .int y0]) (h' := h) (sg1 rfl rfl (sg1 rfl rfl rfl)) ?_
  refine Ex.icmp rfl rfl (fun (c0 : y0 < 35) => ?_) (fun (c0 : ¬ (y0 < 35)) => ?_)
  · rw [if_pos c0] at hf
    refine Ex.seg 1 (pc' := 78) (lc' := [some (.int y0)]) (st' := [.int 0]) (h' := h) (sg1 rfl rfl rfl) ?_
    exact Ex.weak (sm_le_n sm_le_nil) (B_337_78 hd  hf hs)
  · rw [if_neg c0] at hf
    exact Ex.weak (sm_le_n sm_le_nil) (B_337_73 hd  hf hs)
def F_337_55 (y0 : Int32) (h : sm_H) : Option (Int32 × sm_H) :=
  if y0 < 29 then (F_337_67 y0 h)
  else (if y0 ≤ 31 then (F_337_73 h)
  else (F_337_67 y0 h))
theorem B_337_55 {L : Nat} {xs : Nat → Int32} {d : Nat} (hd : 0 ≤ d) {res : Option Value × sm_H} {y0 : Int32}  {h : sm_H} {r : (Int32 × sm_H)} (hf : F_337_55 y0 h = some r) (hs : (fun (r : Int32 × sm_H) => res = (some (.int r.1), r.2)) r) : Ex (P_G L xs) (RUN L xs d) (sm_lk P_t337) 3 55 [some (.int y0)] [] h res := by
  unfold F_337_55 at hf
  refine Ex.seg 2 (pc' := 58) (lc' := [some (.int y0)]) (st' := [.int 29, .int y0]) (h' := h) (sg1 rfl rfl (sg1 rfl rfl rfl)) ?_
  refine Ex.icmp rfl rfl (fun (c0 : y0 < 29) => ?_) (fun (c0 : ¬ (y0 < 29)) => ?_)
  · rw [if_pos c0] at hf
    exact Ex.weak (sm_le_s sm_le_nil) (B_337_67 hd  hf hs)
  · rw [if_neg c0] at hf
    refine Ex.seg 2 (pc' := 64) (lc' := [some (.int y0)]) (st' := [.int 31, .int y0]) (h' := h) (sg1 rfl rfl (sg1 rfl rfl rfl)) ?_
    refine Ex.icmp rfl rfl (fun (c0 : y0 ≤ 31) => ?_) (fun (c0 : ¬ (y0 ≤ 31)) => ?_)
    · rw [if_pos c0] at hf
      exact Ex.weak (sm_le_n sm_le_nil) (B_337_73 hd  hf hs)
    · rw [if_neg c0] at hf
      exact Ex.weak (sm_le_s sm_le_nil) (B_337_67 hd  hf hs)
def F_337_31 (y0 : Int32) (h : sm_H) : Option (Int32 × sm_H) :=
  if y0 = 10 then (F_337_73 h)
  else (if y0 = 15 then (F_337_73 h)
  else (if y0 < 19 then (F_337_55 y0 h)
  else (if y0 ≤ 26 then (F_337_73 h)
  else (F_337_55 y0 h))))
theorem B_337_31 {L : Nat} {xs : Nat → Int32} {d : Nat} (hd : 0 ≤ d) {res : Option Value × sm_H} {y0 : Int32}  {h : sm_H} {r : (Int32 × sm_H)} (hf : F_337_31 y0 h = some r) (hs : (fun (r : Int32 × sm_H) => res = (some (.int r.1), r.2)) r) : Ex (P_G L xs) (RUN L xs d) (sm_lk P_t337) 3 31 [some (.int y0)] [] h res := by
  unfold F_337_31 at hf
  refine Ex.seg 2 (pc' := 34) (lc' := [some (.int y0)]) (st' := [.int 10, .int y0]) (h' := h) (sg1 rfl rfl (sg1 rfl rfl rfl)) ?_
  refine Ex.icmp rfl rfl (fun (c0 : y0 = 10) => ?_) (fun (c0 : ¬ (y0 = 10)) => ?_)
  · rw [if_pos c0] at hf
    exact Ex.weak (sm_le_n sm_le_nil) (B_337_73 hd  hf hs)
  · rw [if_neg c0] at hf
    refine Ex.seg 2 (pc' := 40) (lc' := [some (.int y0)]) (st' := [.int 15, .int y0]) (h' := h) (sg1 rfl rfl (sg1 rfl rfl rfl)) ?_
    refine Ex.icmp rfl rfl (fun (c0 : y0 = 15) => ?_) (fun (c0 : ¬ (y0 = 15)) => ?_)
    · rw [if_pos c0] at hf
      exact Ex.weak (sm_le_n sm_le_nil) (B_337_73 hd  hf hs)
    · rw [if_neg c0] at hf
      refine Ex.seg 2 (pc' := 46) (lc' := [some (.int y0)]) (st' := [.int 19, .int y0]) (h' := h) (sg1 rfl rfl (sg1 rfl rfl rfl)) ?_
      refine Ex.icmp rfl rfl (fun (c0 : y0 < 19) => ?_) (fun (c0 : ¬ (y0 < 19)) => ?_)
      · rw [if_pos c0] at hf
        exact Ex.weak (sm_le_s sm_le_nil) (B_337_55 hd  hf hs)
      · rw [if_neg c0] at hf
        refine Ex.seg 2 (pc' := 52) (lc' := [some (.int y0)]) (st' := [.int 26, .int y0]) (h' := h) (sg1 rfl rfl (sg1 rfl rfl rfl)) ?_
        refine Ex.icmp rfl rfl (fun (c0 : y0 ≤ 26) => ?_) (fun (c0 : ¬ (y0 ≤ 26)) => ?_)
        · rw [if_pos c0] at hf
          exact Ex.weak (sm_le_n sm_le_nil) (B_337_73 hd  hf hs)
        · rw [if_neg c0] at hf
          exact Ex.weak (sm_le_s sm_le_nil) (B_337_55 hd  hf hs)
def F_337_0 (x0 : Int32) (h : sm_H) : Option (Int32 × sm_H) :=
  if x0 = 0 then (F_337_73 h)
  else (if x0 = 2 then (F_337_73 h)
  else (if x0 = 3 then (F_337_73 h)
  else (if x0 = 4 then (F_337_73 h)
  else (if x0 < 6 then (F_337_31 x0 h)
  else (if x0 ≤ 8 then (F_337_73 h)
  else (F_337_31 x0 h))))))
theorem B_337_0 {L : Nat} {xs : Nat → Int32} {d : Nat} (hd : 0 ≤ d) {res : Option Value × sm_H} {x0 : Int32}  {h : sm_H} {r : (Int32 × sm_H)} (hf : F_337_0 x0 h = some r) (hs : (fun (r : Int32 × sm_H) => res = (some (.int r.1), r.2)) r) : Ex (P_G L xs) (RUN L xs d) (sm_lk P_t337) 3 0 [some (.int x0)] [] h res := by
  unfold F_337_0 at hf
  refine Ex.seg 1 (pc' := 1) (lc' := [some (.int x0)]) (st' := [.int x0]) (h' := h) (sg1 rfl rfl rfl) ?_
  refine Ex.ifc rfl rfl (fun (c0 : x0 = 0) => ?_) (fun (c0 : ¬ (x0 = 0)) => ?_)
  · rw [if_pos c0] at hf
    exact Ex.weak (sm_le_n sm_le_nil) (B_337_73 hd  hf hs)
  · rw [if_neg c0] at hf
    refine Ex.seg 2 (pc' := 6) (lc' := [some (.int x0)]) (st' := [.int 2, .int x0]) (h' := h) (sg1 rfl rfl (sg1 rfl rfl rfl)) ?_
    refine Ex.icmp rfl rfl (fun (c0 : x0 = 2) => ?_) (fun (c0 : ¬ (x0 = 2)) => ?_)
    · rw [if_pos c0] at hf
      exact Ex.weak (sm_le_n sm_le_nil) (B_337_73 hd  hf hs)
    · rw [if_neg c0] at hf
      refine Ex.seg 2 (pc' := 11) (lc' := [some (.int x0)]) (st' := [.int 3, .int x0]) (h' := h) (sg1 rfl rfl (sg1 rfl rfl rfl)) ?_
      refine Ex.icmp rfl rfl (fun (c0 : x0 = 3) => ?_) (fun (c0 : ¬ (x0 = 3)) => ?_)
      · rw [if_pos c0] at hf
        exact Ex.weak (sm_le_n sm_le_nil) (B_337_73 hd  hf hs)
      · rw [if_neg c0] at hf
        refine Ex.seg 2 (pc' := 16) (lc' := [some (.int x0)]) (st' := [.int 4, .int x0]) (h' := h) (sg1 rfl rfl (sg1 rfl rfl rfl)) ?_
        refine Ex.icmp rfl rfl (fun (c0 : x0 = 4) => ?_) (fun (c0 : ¬ (x0 = 4)) => ?_)
        · rw [if_pos c0] at hf
          exact Ex.weak (sm_le_n sm_le_nil) (B_337_73 hd  hf hs)
        · rw [if_neg c0] at hf
          refine Ex.seg 2 (pc' := 22) (lc' := [some (.int x0)]) (st' := [.int 6, .int x0]) (h' := h) (sg1 rfl rfl (sg1 rfl rfl rfl)) ?_
          refine Ex.icmp rfl rfl (fun (c0 : x0 < 6) => ?_) (fun (c0 : ¬ (x0 < 6)) => ?_)
          · rw [if_pos c0] at hf
            exact Ex.weak (sm_le_s sm_le_nil) (B_337_31 hd  hf hs)
          · rw [if_neg c0] at hf
            refine Ex.seg 2 (pc' := 28) (lc' := [some (.int x0)]) (st' := [.int 8, .int x0]) (h' := h) (sg1 rfl rfl (sg1 rfl rfl rfl)) ?_
            refine Ex.icmp rfl rfl (fun (c0 : x0 ≤ 8) => ?_) (fun (c0 : ¬ (x0 ≤ 8)) => ?_)
            · rw [if_pos c0] at hf
              exact Ex.weak (sm_le_n sm_le_nil) (B_337_73 hd  hf hs)
            · rw [if_neg c0] at hf
              exact Ex.weak (sm_le_s sm_le_nil) (B_337_31 hd  hf hs)
/-- HandleHouseModel.hasA(I)Z -/
abbrev F_337 (x0 : Int32) (h : sm_H) : Option (Int32 × sm_H) := F_337_0 x0 h
theorem E_337 {L : Nat} {xs : Nat → Int32} {d : Nat} (hd : 1 ≤ d) {x0 : Int32} {h : sm_H} {r : Int32 × sm_H} (hf : F_337 x0 h = some r) : RUN L xs d 337 [.int x0] h (some (.int r.1), r.2) := by
  obtain ⟨d, rfl⟩ : ∃ e, d = e + 1 := ⟨d - 1, by omega⟩
  exact ⟨Nat.le_of_ble_eq_true rfl, B_337_0 (by omega) hf rfl⟩
def F_338_69 (z0 : Int32) (h : sm_H) : Option (Int32 × sm_H) :=
  if z0 = 0 ∨ z0 = 1 then some (z0, h) else none
theorem B_338_69 {L : Nat} {xs : Nat → Int32} {d : Nat} (hd : 0 ≤ d) {res : Option Value × sm_H} {z0 : Int32}  {h : sm_H} {r : (Int32 × sm_H)} (hf : F_338_69 z0 h = some r) (hs : (fun (r : Int32 × sm_H) => res = (some (.int r.1), r.2)) r) : Ex (P_G L xs) (RUN L xs d) (sm_lk P_t338) 3 69 [none] [.int z0] h res := by
  unfold F_338_69 at hf
  rcases Classical.em (z0 = 0 ∨ z0 = 1) with c0 | c0
  · rw [if_pos c0] at hf
    obtain rfl := Option.some.inj hf
    exact Ex.iret rfl rfl (fun _ => c0) hs
  · rw [if_neg c0] at hf
    cases hf
def F_338_64  (h : sm_H) : Option (Int32 × sm_H) :=
  F_338_69 1 h
theorem B_338_64 {L : Nat} {xs : Nat → Int32} {d : Nat} (hd : 0 ≤ d) {res : Option Value × sm_H}   {h : sm_H} {r : (Int32 × sm_H)} (hf : F_338_64  h = some r) (hs : (fun (r : Int32 × sm_H) => res = (some (.int r.1), r.2)) r) : Ex (P_G L xs) (RUN L xs d) (sm_lk P_t338) 3 64 [none] [] h res := by
  unfold F_338_64 at hf
  refine Ex.seg 2 (pc' := 69) (lc' := [none]) (st' := [.int 1]) (h' := h) (sg1 rfl rfl (sg1 rfl rfl rfl)) ?_
  exact Ex.weak (sm_le_s sm_le_nil) (B_338_69 hd  hf hs)
def F_338_68  (h : sm_H) : Option (Int32 × sm_H) :=
  F_338_69 0 h
theorem B_338_68 {L : Nat} {xs : Nat → Int32} {d : Nat} (hd : 0 ≤ d) {res : Option Value × sm_H}   {h : sm_H} {r : (Int32 × sm_H)} (hf : F_338_68  h = some r) (hs : (fun (r : Int32 × sm_H) => res = (some (.int r.1), r.2)) r) : Ex (P_G L xs) (RUN L xs d) (sm_lk P_t338) 3 68 [none] [] h res := by
  unfold F_338_68 at hf
  refine Ex.seg 1 (pc' := 69) (lc' := [none]) (st' := [.int 0]) (h' := h) (sg1 rfl rfl rfl) ?_
  exact Ex.weak (sm_le_s sm_le_nil) (B_338_69 hd  hf hs)
def F_338_22 (y0 : Int32) (h : sm_H) : Option (Int32 × sm_H) :=
  if y0 = 18 then (F_338_64 h)
  else (if y0 = 19 then (F_338_64 h)
  else (if y0 = 27 then (F_338_64 h)
  else (if y0 = 28 then (F_338_64 h)
  else (if y0 = 34 then (F_338_64 h)
  else (if y0 < 35 then (F_338_68 h)
  else (if 37 < y0 then (F_338_68 h)
  else (F_338_64 h)))))))
theorem B_338_22 {L : Nat} {xs : Nat → Int32} {d : Nat} (hd : 0 ≤ d) {res : Option Value × sm_H} {y0 : Int32}  {h : sm_H} {r : (Int32 × sm_H)} (hf : F_338_22 y0 h = some r) (hs : (fun (r : Int32 × sm_H) => res = (some (.int r.1), r.2)) r) : Ex (P_G L xs) (RUN L xs d) (sm_lk P_t338) 3 22 [some (.int y0)] [] h res := by
  unfold F_338_22 at hf
  refine Ex.seg 2 (pc' := 25) (lc' := [some (.int y0)]) (st' := [.int 18, .int y0]) (h' := h) (sg1 rfl rfl (sg1 rfl rfl rfl)) ?_
  refine Ex.icmp rfl rfl (fun (c0 : y0 = 18) => ?_) (fun (c0 : ¬ (y0 = 18)) => ?_)
  · rw [if_pos c0] at hf
    exact Ex.weak (sm_le_n sm_le_nil) (B_338_64 hd  hf hs)
  · rw [if_neg c0] at hf
    refine Ex.seg 2 (pc' := 31) (lc' := [some (.int y0)]) (st' := [.int 19, .int y0]) (h' := h) (sg1 rfl rfl (sg1 rfl rfl rfl)) ?_
    refine Ex.icmp rfl rfl (fun (c0 : y0 = 19) => ?_) (fun (c0 : ¬ (y0 = 19)) => ?_)
    · rw [if_pos c0] at hf
      exact Ex.weak (sm_le_n sm_le_nil) (B_338_64 hd  hf hs)
    · rw [if_neg c0] at hf
      refine Ex.seg 2 (pc' := 37) (lc' := [some (.int y0)]) (st' := [.int 27, .int y0]) (h' := h) (sg1 rfl rfl (sg1 rfl rfl rfl)) ?_
      refine Ex.icmp rfl rfl (fun (c0 : y0 = 27) => ?_) (fun (c0 : ¬ (y0 = 27)) => ?_)
      · rw [if_pos c0] at hf
        exact Ex.weak (sm_le_n sm_le_nil) (B_338_64 hd  hf hs)
      · rw [if_neg c0] at hf
        refine Ex.seg 2 (pc' := 43) (lc' := [some (.int y0)]) (st' := [.int 28, .int y0]) (h' := h) (sg1 rfl rfl (sg1 rfl rfl rfl)) ?_
        refine Ex.icmp rfl rfl (fun (c0 : y0 = 28) => ?_) (fun (c0 : ¬ (y0 = 28)) => ?_)
        · rw [if_pos c0] at hf
          exact Ex.weak (sm_le_n sm_le_nil) (B_338_64 hd  hf hs)
        · rw [if_neg c0] at hf
          refine Ex.seg 2 (pc' := 49) (lc' := [some (.int y0)]) (st' := [.int 34, .int y0]) (h' := h) (sg1 rfl rfl (sg1 rfl rfl rfl)) ?_
          refine Ex.icmp rfl rfl (fun (c0 : y0 = 34) => ?_) (fun (c0 : ¬ (y0 = 34)) => ?_)
          · rw [if_pos c0] at hf
            exact Ex.weak (sm_le_n sm_le_nil) (B_338_64 hd  hf hs)
          · rw [if_neg c0] at hf
            refine Ex.seg 2 (pc' := 55) (lc' := [some (.int y0)]) (st' := [.int 35, .int y0]) (h' := h) (sg1 rfl rfl (sg1 rfl rfl rfl)) ?_
            refine Ex.icmp rfl rfl (fun (c0 : y0 < 35) => ?_) (fun (c0 : ¬ (y0 < 35)) => ?_)
            · rw [if_pos c0] at hf
              exact Ex.weak (sm_le_n sm_le_nil) (B_338_68 hd  hf hs)
            · rw [if_neg c0] at hf
              refine Ex.seg 2 (pc' := 61) (lc' := [some (.int y0)]) (st' := [.int 37, .int y0]) (h' := h) (sg1 rfl rfl (sg1 rfl rfl rfl)) ?_
              refine Ex.icmp rfl rfl (fun (c0 : 37 < y0) => ?_) (fun (c0 : ¬ (37 < y0)) => ?_)
              · rw [if_pos c0] at hf
                exact Ex.weak (sm_le_n sm_le_nil) (B_338_68 hd  hf hs)
              · rw [if_neg c0] at hf
                exact Ex.weak (sm_le_n sm_le_nil) (B_338_64 hd  hf hs)
def F_338_10 (y0 : Int32) (h : sm_H) : Option (Int32 × sm_H) :=
  if y0 < 10 then (F_338_22 y0 h)
  else (if y0 ≤ 13 then (F_338_64 h)
  else (F_338_22 y0 h))
theorem B_338_10 {L : Nat} {xs : Nat → Int32} {d : Nat} (hd : 0 ≤ d) {res : Option Value × sm_H} {y0 : Int32}  {h : sm_H} {r : (Int32 × sm_H)} (hf : F_338_10 y0 h = some r) (hs : (fun (r : Int32 × sm_H) => res = (some (.int r.1), r.2)) r) : Ex (P_G L xs) (RUN L xs d) (sm_lk P_t338) 3 10 [some (.int y0)] [] h res := by
  unfold F_338_10 at hf
  refine Ex.seg 2 (pc' := 13) (lc' := [some (.int y0)]) (st' := [.int 10, .int y0]) (h' := h) (sg1 rfl rfl (sg1 rfl rfl rfl)) ?_
  refine Ex.icmp rfl rfl (fun (c0 : y0 < 10) => ?_) (fun (c0 : ¬ (y0 < 10)) => ?_)
  · rw [if_pos c0] at hf
    exact Ex.weak (sm_le_s sm_le_nil) (B_338_22 hd  hf hs)
  · rw [if_neg c0] at hf
    refine Ex.seg 2 (pc' := 19) (lc' := [some (.int y0)]) (st' := [.int 13, .int y0]) (h' := h) (sg1 rfl rfl (sg1 rfl rfl rfl)) ?_
    refine Ex.icmp rfl rfl (fun (c0 : y0 ≤ 13) => ?_) (fun (c0 : ¬ (y0 ≤ 13)) => ?_)
    · rw [if_pos c0] at hf
      exact Ex.weak (sm_le_n sm_le_nil) (B_338_64 hd  hf hs)
    · rw [if_neg c0] at hf
      exact Ex.weak (sm_le_s sm_le_nil) (B_338_22 hd  hf hs)
def F_338_0 (x0 : Int32) (h : sm_H) : Option (Int32 × sm_H) :=
  if x0 < 3 then (F_338_10 x0 h)
  else (if x0 ≤ 5 then (F_338_64 h)
  else (F_338_10 x0 h))
theorem B_338_0 {L : Nat} {xs : Nat → Int32} {d : Nat} (hd : 0 ≤ d) {res : Option Value × sm_H} {x0 : Int32}  {h : sm_H} {r : (Int32 × sm_H)} (hf : F_338_0 x0 h = some r) (hs : (fun (r : Int32 × sm_H) => res = (some (.int r.1), r.2)) r) : Ex (P_G L xs) (RUN L xs d) (sm_lk P_t338) 3 0 [some (.int x0)] [] h res := by
  unfold F_338_0 at hf
  refine Ex.seg 2 (pc' := 2) (lc' := [some (.int x0)]) (st' := [.int 3, .int x0]) (h' := h) (sg1 rfl rfl (sg1 rfl rfl rfl)) ?_
  refine Ex.icmp rfl rfl (fun (c0 : x0 < 3) => ?_) (fun (c0 : ¬ (x0 < 3)) => ?_)
  · rw [if_pos c0] at hf
    exact Ex.weak (sm_le_s sm_le_nil) (B_338_10 hd  hf hs)
  · rw [if_neg c0] at hf
    refine Ex.seg 2 (pc' := 7) (lc' := [some (.int x0)]) (st' := [.int 5, .int x0]) (h' := h) (sg1 rfl rfl (sg1 rfl rfl rfl)) ?_
    refine Ex.icmp rfl rfl (fun (c0 : x0 ≤ 5) => ?_) (fun (c0 : ¬ (x0 ≤ 5)) => ?_)
    · rw [if_pos c0] at hf
      exact Ex.weak (sm_le_n sm_le_nil) (B_338_64 hd  hf hs)
    · rw [if_neg c0] at hf
      exact Ex.weak (sm_le_s sm_le_nil) (B_338_10 hd  hf hs)
/-- HandleHouseModel.hasB(I)Z -/
abbrev F_338 (x0 : Int32) (h : sm_H) : Option (Int32 × sm_H) := F_338_0 x0 h
theorem E_338 {L : Nat} {xs : Nat → Int32} {d : Nat} (hd : 1 ≤ d) {x0 : Int32} {h : sm_H} {r : Int32 × sm_H} (hf : F_338 x0 h = some r) : RUN L xs d 338 [.int x0] h (some (.int r.1), r.2) := by
  obtain ⟨d, rfl⟩ : ∃ e, d = e + 1 := ⟨d - 1, by omega⟩
  exact ⟨Nat.le_of_ble_eq_true rfl, B_338_0 (by omega) hf rfl⟩
def F_339_132 (y1 : Int32) (y2 : Int32) (y3 : Int32) (y4 : Int64) (y6 : Int32) (y7 : Int32) (h : sm_H) : Option ((Int32 × Int32 × Int32 × Int64 × Int32 × sm_H) ⊕ (Int32 × sm_H)) :=
  if y7 = 0 then ((some (y6 + 1 : Int32)).bind fun v1 =>
  some (.inl (y1, y2, y3, y4, v1, h)))
  else (some (.inr (y6, h)))
theorem B_339_132 {L : Nat} {xs : Nat → Int32} {d : Nat} (hd : 0 ≤ d) {res : Option Value × sm_H} {S1 : (Int32 × Int32 × Int32 × Int64 × Int32 × sm_H) → Prop} (hS1 : ∀ s, S1 s → Ex (P_G L xs) (RUN L xs d) (sm_lk P_t339) 0 3 [some (.ref 67), some (.int s.1), some (.int s.2.1), some (.int s.2.2.1), some (.long s.2.2.2.1), none, some (.int s.2.2.2.2.1), none, none] [] s.2.2.2.2.2 res) {y1 : Int32} {y2 : Int32} {y3 : Int32} {y4 : Int64} {y6 : Int32} {y7 : Int32}  {h : sm_H} {r : ((Int32 × Int32 × Int32 × Int64 × Int32 × sm_H) ⊕ (Int32 × sm_H))} (hf : F_339_132 y1 y2 y3 y4 y6 y7 h = some r) (hs : (Sum.elim S1 (fun (r : Int32 × sm_H) => res = (some (.int r.1), r.2))) r) : Ex (P_G L xs) (RUN L xs d) (sm_lk P_t339) 0 132 [some (.ref 67), some (.int y1), some (.int y2), some (.int y3), some (.long y4), none, some (.int y6), some (.int y7), none] [] h res := by
  unfold F_339_132 at hf
  refine Ex.seg 1 (pc' := 134) (lc' := [some (.ref 67), some (.int y1), some (.int y2), some (.int y3), some (.long y4), none, some (.int y6), some (.int y7), none]) (st' := [.int y7]) (h' := h) (sg1 rfl rfl rfl) ?_
  refine Ex.ifc rfl rfl (fun (c0 : y7 = 0) => ?_) (fun (c0 : ¬ (y7 = 0)) => ?_)
  · rw [if_pos c0] at hf
    refine Ex.seg 1 (pc' := 143) (lc' := [some (.ref 67), some (.int y1), some (.int y2), some (.int y3), some (.long y4), none, some (.int (y6 + 1)), some (.int y7), none]) (st' := []) (h' := h) (sg1 rfl rfl rfl) ?_
    obtain ⟨v1, e_v1, hf⟩ := bnd hf
    rw [Option.some.inj e_v1]
    refine Ex.seg 1 (pc' := 3) (lc' := [some (.ref 67), some (.int y1), some (.int y2), some (.int y3), some (.long y4), none, some (.int v1), some (.int y7), none]) (st' := []) (h' := h) (sg1 rfl rfl rfl) ?_
    obtain rfl := Option.some.inj hf
    exact Ex.weak (sm_le_s (sm_le_s (sm_le_s (sm_le_s (sm_le_s (sm_le_s (sm_le_s (sm_le_n (sm_le_s sm_le_nil))))))))) (hS1 _ hs)
  · rw [if_neg c0] at hf
    refine Ex.seg 1 (pc' := 139) (lc' := [some (.ref 67), some (.int y1), some (.int y2), some (.int y3), some (.long y4), none, some (.int y6), some (.int y7), none]) (st' := [.int y6]) (h' := h) (sg1 rfl rfl rfl) ?_
    obtain rfl := Option.some.inj hf
    exact Ex.iret rfl rfl (fun c0 => by cases c0) hs
def F_339_124 (y1 : Int32) (y2 : Int32) (y3 : Int32) (y4 : Int64) (y6 : Int32) (y8 : Int32) (z0 : Int32) (h : sm_H) : Option ((Int32 × Int32 × Int32 × Int64 × Int32 × Int32 × Int32 × sm_H) ⊕ ((Int32 × Int32 × Int32 × Int64 × Int32 × sm_H) ⊕ (Int32 × sm_H))) :=
  (some (y8 + 1 : Int32)).bind fun v2 =>
  some (.inl (y1, y2, y3, y4, y6, z0, v2, h))
theorem B_339_124 {L : Nat} {xs : Nat → Int32} {d : Nat} (hd : 0 ≤ d) {res : Option Value × sm_H} {S1 : (Int32 × Int32 × Int32 × Int64 × Int32 × sm_H) → Prop} (hS1 : ∀ s, S1 s → Ex (P_G L xs) (RUN L xs d) (sm_lk P_t339) 0 3 [some (.ref 67), some (.int s.1), some (.int s.2.1), some (.int s.2.2.1), some (.long s.2.2.2.1), none, some (.int s.2.2.2.2.1), none, none] [] s.2.2.2.2.2 res) {S2 : (Int32 × Int32 × Int32 × Int64 × Int32 × Int32 × Int32 × sm_H) → Prop} (hS2 : ∀ s, S2 s → Ex (P_G L xs) (RUN L xs d) (sm_lk P_t339) 0 82 [some (.ref 67), some (.int s.1), some (.int s.2.1), some (.int s.2.2.1), some (.long s.2.2.2.1), none, some (.int s.2.2.2.2.1), some (.int s.2.2.2.2.2.1), some (.int s.2.2.2.2.2.2.1)] [] s.2.2.2.2.2.2.2 res) {y1 : Int32} {y2 : Int32} {y3 : Int32} {y4 : Int64} {y6 : Int32} {y8 : Int32} {z0 : Int32}  {h : sm_H} {r : ((Int32 × Int32 × Int32 × Int64 × Int32 × Int32 × Int32 × sm_H) ⊕ ((Int32 × Int32 × Int32 × Int64 × Int32 × sm_H) ⊕ (Int32 × sm_H)))} (hf : F_339_124 y1 y2 y3 y4 y6 y8 z0 h = some r) (hs : (Sum.elim S2 (Sum.elim S1 (fun (r : Int32 × sm_H) => res = (some (.int r.1), r.2)))) r) : Ex (P_G L xs) (RUN L xs d) (sm_lk P_t339) 0 124 [some (.ref 67), some (.int y1), some (.int y2), some (.int y3), some (.long y4), none, some (.int y6), none, some (.int y8)] [.int z0] h res := by
  unfold F_339_124 at hf
  refine Ex.seg 2 (pc' := 129) (lc' := [some (.ref 67), some (.int y1), some (.int y2), some (.int y3), some (.long y4), none, some (.int y6), some (.int z0), some (.int (y8 + 1))]) (st' := []) (h' := h) (sg1 rfl rfl (sg1 rfl rfl rfl)) ?_
  obtain ⟨v2, e_v2, hf⟩ := bnd hf
  rw [Option.some.inj e_v2]
  refine Ex.seg 1 (pc' := 82) (lc' := [some (.ref 67), some (.int y1), some (.int y2), some (.int y3), some (.long y4), none, some (.int y6), some (.int z0), some (.int v2)]) (st' := []) (h' := h) (sg1 rfl rfl rfl) ?_
  obtain rfl := Option.some.inj hf
  exact Ex.weak (sm_le_s (sm_le_s (sm_le_s (sm_le_s (sm_le_s (sm_le_s (sm_le_s (sm_le_s (sm_le_s sm_le_nil))))))))) (hS2 _ hs)
def F_339_82B (s : (Int32 × Int32 × Int32 × Int64 × Int32 × Int32 × Int32 × sm_H)) : Option ((Int32 × Int32 × Int32 × Int64 × Int32 × Int32 × Int32 × sm_H) ⊕ ((Int32 × Int32 × Int32 × Int64 × Int32 × sm_H) ⊕ (Int32 × sm_H))) :=
  if (s.2.2.2.2.2.2.2.1 67 3) ≤ s.2.2.2.2.2.2.1 then ((F_339_132 s.1 s.2.1 s.2.2.1 s.2.2.2.1 s.2.2.2.2.1 s.2.2.2.2.2.1 s.2.2.2.2.2.2.2).map fun r => (.inr r))
  else (if s.2.2.2.2.2.1 = 0 then ((F_339_132 s.1 s.2.1 s.2.2.1 s.2.2.2.1 s.2.2.2.2.1 s.2.2.2.2.2.1 s.2.2.2.2.2.2.2).map fun r => (.inr r))
  else ((ldI s.2.2.2.2.2.2.2 81 12000 ((24 * s.2.2.2.2.1) + s.2.2.2.2.2.2.1)).bind fun v3 =>
  (ldI s.2.2.2.2.2.2.2 69 24 s.2.2.2.2.2.2.1).bind fun v4 =>
  if v3 = v4 then (F_339_124 s.1 s.2.1 s.2.2.1 s.2.2.2.1 s.2.2.2.2.1 s.2.2.2.2.2.2.1 1 s.2.2.2.2.2.2.2)
  else (F_339_124 s.1 s.2.1 s.2.2.1 s.2.2.2.1 s.2.2.2.2.1 s.2.2.2.2.2.2.1 0 s.2.2.2.2.2.2.2)))
theorem B_339_82B {L : Nat} {xs : Nat → Int32} {d : Nat} (hd : 0 ≤ d) {res : Option Value × sm_H} {S1 : (Int32 × Int32 × Int32 × Int64 × Int32 × sm_H) → Prop} (hS1 : ∀ s, S1 s → Ex (P_G L xs) (RUN L xs d) (sm_lk P_t339) 0 3 [some (.ref 67), some (.int s.1), some (.int s.2.1), some (.int s.2.2.1), some (.long s.2.2.2.1), none, some (.int s.2.2.2.2.1), none, none] [] s.2.2.2.2.2 res) {S2 : (Int32 × Int32 × Int32 × Int64 × Int32 × Int32 × Int32 × sm_H) → Prop} (hS2 : ∀ s, S2 s → Ex (P_G L xs) (RUN L xs d) (sm_lk P_t339) 0 82 [some (.ref 67), some (.int s.1), some (.int s.2.1), some (.int s.2.2.1), some (.long s.2.2.2.1), none, some (.int s.2.2.2.2.1), some (.int s.2.2.2.2.2.1), some (.int s.2.2.2.2.2.2.1)] [] s.2.2.2.2.2.2.2 res) {s : (Int32 × Int32 × Int32 × Int64 × Int32 × Int32 × Int32 × sm_H)}  {r : ((Int32 × Int32 × Int32 × Int64 × Int32 × Int32 × Int32 × sm_H) ⊕ ((Int32 × Int32 × Int32 × Int64 × Int32 × sm_H) ⊕ (Int32 × sm_H)))} (hf : F_339_82B s = some r) (hs : (Sum.elim S2 (Sum.elim S1 (fun (r : Int32 × sm_H) => res = (some (.int r.1), r.2)))) r) : Ex (P_G L xs) (RUN L xs d) (sm_lk P_t339) 0 82 [some (.ref 67), some (.int s.1), some (.int s.2.1), some (.int s.2.2.1), some (.long s.2.2.2.1), none, some (.int s.2.2.2.2.1), some (.int s.2.2.2.2.2.1), some (.int s.2.2.2.2.2.2.1)] [] s.2.2.2.2.2.2.2 res := by
  unfold F_339_82B at hf
  refine Ex.seg 3 (pc' := 88) (lc' := [some (.ref 67), some (.int s.1), some (.int s.2.1), some (.int s.2.2.1), some (.long s.2.2.2.1), none, some (.int s.2.2.2.2.1), some (.int s.2.2.2.2.2.1), some (.int s.2.2.2.2.2.2.1)]) (st' := [.int (s.2.2.2.2.2.2.2.1 67 3), .int s.2.2.2.2.2.2.1]) (h' := s.2.2.2.2.2.2.2) (sg1 rfl rfl (sg1 rfl rfl (sg1 rfl rfl rfl))) ?_
  refine Ex.icmp rfl rfl (fun (c0 : (s.2.2.2.2.2.2.2.1 67 3) ≤ s.2.2.2.2.2.2.1) => ?_) (fun (c0 : ¬ ((s.2.2.2.2.2.2.2.1 67 3) ≤ s.2.2.2.2.2.2.1)) => ?_)
  · rw [if_pos c0] at hf
    obtain ⟨r0, hf0, rfl⟩ := Option.map_eq_some_iff.mp hf
    exact Ex.weak (sm_le_s (sm_le_s (sm_le_s (sm_le_s (sm_le_s (sm_le_s (sm_le_s (sm_le_s (sm_le_n sm_le_nil))))))))) (B_339_132 hd hS1 hf0 hs)
  · rw [if_neg c0] at hf
    refine Ex.seg 1 (pc' := 93) (lc' := [some (.ref 67), some (.int s.1), some (.int s.2.1), some (.int s.2.2.1), some (.long s.2.2.2.1), none, some (.int s.2.2.2.2.1), some (.int s.2.2.2.2.2.1), some (.int s.2.2.2.2.2.2.1)]) (st' := [.int s.2.2.2.2.2.1]) (h' := s.2.2.2.2.2.2.2) (sg1 rfl rfl rfl) ?_
    refine Ex.ifc rfl rfl (fun (c0 : s.2.2.2.2.2.1 = 0) => ?_) (fun (c0 : ¬ (s.2.2.2.2.2.1 = 0)) => ?_)
    · rw [if_pos c0] at hf
      obtain ⟨r0, hf0, rfl⟩ := Option.map_eq_some_iff.mp hf
      exact Ex.weak (sm_le_s (sm_le_s (sm_le_s (sm_le_s (sm_le_s (sm_le_s (sm_le_s (sm_le_s (sm_le_n sm_le_nil))))))))) (B_339_132 hd hS1 hf0 hs)
    · rw [if_neg c0] at hf
      refine Ex.seg 7 (pc' := 108) (lc' := [some (.ref 67), some (.int s.1), some (.int s.2.1), some (.int s.2.2.1), some (.long s.2.2.2.1), none, some (.int s.2.2.2.2.1), some (.int s.2.2.2.2.2.1), some (.int s.2.2.2.2.2.2.1)]) (st' := [.int ((24 * s.2.2.2.2.1) + s.2.2.2.2.2.2.1), .ref 81]) (h' := s.2.2.2.2.2.2.2) (sg1 rfl rfl (sg1 rfl rfl (sg1 rfl rfl (sg1 rfl rfl (sg1 rfl rfl (sg1 rfl rfl (sg1 rfl rfl rfl))))))) ?_
      obtain ⟨v3, e_v3, hf⟩ := bnd hf
      refine Ex.iald e_v3 rfl rfl ?_
      refine Ex.seg 3 (pc' := 115) (lc' := [some (.ref 67), some (.int s.1), some (.int s.2.1), some (.int s.2.2.1), some (.long s.2.2.2.1), none, some (.int s.2.2.2.2.1), some (.int s.2.2.2.2.2.1), some (.int s.2.2.2.2.2.2.1)]) (st' := [.int s.2.2.2.2.2.2.1, .ref 69, .int v3]) (h' := s.2.2.2.2.2.2.2) (sg1 rfl rfl (sg1 rfl rfl (sg1 rfl rfl rfl))) ?_
      obtain ⟨v4, e_v4, hf⟩ := bnd hf
      refine Ex.iald e_v4 rfl rfl ?_
      refine Ex.icmp rfl rfl (fun (c0 : ¬ (v3 = v4)) => ?_) (fun (c0 : ¬ ¬ (v3 = v4)) => ?_)
      · rw [if_neg c0] at hf
        refine Ex.seg 1 (pc' := 124) (lc' := [some (.ref 67), some (.int s.1), some (.int s.2.1), some (.int s.2.2.1), some (.long s.2.2.2.1), none, some (.int s.2.2.2.2.1), some (.int s.2.2.2.2.2.1), some (.int s.2.2.2.2.2.2.1)]) (st' := [.int 0]) (h' := s.2.2.2.2.2.2.2) (sg1 rfl rfl rfl) ?_
        exact Ex.weak (sm_le_s (sm_le_s (sm_le_s (sm_le_s (sm_le_s (sm_le_s (sm_le_s (sm_le_n (sm_le_s sm_le_nil))))))))) (B_339_124 hd hS1 hS2 hf hs)
      · rw [if_pos (Classical.not_not.mp c0)] at hf
        refine Ex.seg 2 (pc' := 124) (lc' := [some (.ref 67), some (.int s.1), some (.int s.2.1), some (.int s.2.2.1), some (.long s.2.2.2.1), none, some (.int s.2.2.2.2.1), some (.int s.2.2.2.2.2.1), some (.int s.2.2.2.2.2.2.1)]) (st' := [.int 1]) (h' := s.2.2.2.2.2.2.2) (sg1 rfl rfl (sg1 rfl rfl rfl)) ?_
        exact Ex.weak (sm_le_s (sm_le_s (sm_le_s (sm_le_s (sm_le_s (sm_le_s (sm_le_s (sm_le_n (sm_le_s sm_le_nil))))))))) (B_339_124 hd hS1 hS2 hf hs)
def F_339_82 (y1 : Int32) (y2 : Int32) (y3 : Int32) (y4 : Int64) (y6 : Int32) (y7 : Int32) (y8 : Int32) (h : sm_H) : Option ((Int32 × Int32 × Int32 × Int64 × Int32 × sm_H) ⊕ (Int32 × sm_H)) := lp F_339_82B 1000000 (y1, y2, y3, y4, y6, y7, y8, h)
theorem B_339_82 {L : Nat} {xs : Nat → Int32} {d : Nat} (hd : 0 ≤ d) {res : Option Value × sm_H} {S1 : (Int32 × Int32 × Int32 × Int64 × Int32 × sm_H) → Prop} (hS1 : ∀ s, S1 s → Ex (P_G L xs) (RUN L xs d) (sm_lk P_t339) 0 3 [some (.ref 67), some (.int s.1), some (.int s.2.1), some (.int s.2.2.1), some (.long s.2.2.2.1), none, some (.int s.2.2.2.2.1), none, none] [] s.2.2.2.2.2 res) {y1 : Int32} {y2 : Int32} {y3 : Int32} {y4 : Int64} {y6 : Int32} {y7 : Int32} {y8 : Int32}  {h : sm_H} {r : ((Int32 × Int32 × Int32 × Int64 × Int32 × sm_H) ⊕ (Int32 × sm_H))} (hf : F_339_82 y1 y2 y3 y4 y6 y7 y8 h = some r) (hs : (Sum.elim S1 (fun (r : Int32 × sm_H) => res = (some (.int r.1), r.2))) r) : Ex (P_G L xs) (RUN L xs d) (sm_lk P_t339) 0 82 [some (.ref 67), some (.int y1), some (.int y2), some (.int y3), some (.long y4), none, some (.int y6), some (.int y7), some (.int y8)] [] h res := by
  unfold F_339_82 at hf
  exact lp_ok (P := fun (s : (Int32 × Int32 × Int32 × Int64 × Int32 × Int32 × Int32 × sm_H)) => Ex (P_G L xs) (RUN L xs d) (sm_lk P_t339) 0 82 [some (.ref 67), some (.int s.1), some (.int s.2.1), some (.int s.2.2.1), some (.long s.2.2.2.1), none, some (.int s.2.2.2.2.1), some (.int s.2.2.2.2.2.1), some (.int s.2.2.2.2.2.2.1)] [] s.2.2.2.2.2.2.2 res) (S := (Sum.elim S1 (fun (r : Int32 × sm_H) => res = (some (.int r.1), r.2)))) (fun s x hx hsx => by
    intros
    exact B_339_82B hd hS1 (fun _ q => q) hx hsx) 1000000 _ r hf hs
def F_339_77 (y1 : Int32) (y2 : Int32) (y3 : Int32) (y4 : Int64) (y6 : Int32) (z0 : Int32) (h : sm_H) : Option ((Int32 × Int32 × Int32 × Int64 × Int32 × sm_H) ⊕ (Int32 × sm_H)) :=
  F_339_82 y1 y2 y3 y4 y6 z0 0 h
theorem B_339_77 {L : Nat} {xs : Nat → Int32} {d : Nat} (hd : 0 ≤ d) {res : Option Value × sm_H} {S1 : (Int32 × Int32 × Int32 × Int64 × Int32 × sm_H) → Prop} (hS1 : ∀ s, S1 s → Ex (P_G L xs) (RUN L xs d) (sm_lk P_t339) 0 3 [some (.ref 67), some (.int s.1), some (.int s.2.1), some (.int s.2.2.1), some (.long s.2.2.2.1), none, some (.int s.2.2.2.2.1), none, none] [] s.2.2.2.2.2 res) {y1 : Int32} {y2 : Int32} {y3 : Int32} {y4 : Int64} {y6 : Int32} {z0 : Int32}  {h : sm_H} {r : ((Int32 × Int32 × Int32 × Int64 × Int32 × sm_H) ⊕ (Int32 × sm_H))} (hf : F_339_77 y1 y2 y3 y4 y6 z0 h = some r) (hs : (Sum.elim S1 (fun (r : Int32 × sm_H) => res = (some (.int r.1), r.2))) r) : Ex (P_G L xs) (RUN L xs d) (sm_lk P_t339) 0 77 [some (.ref 67), some (.int y1), some (.int y2), some (.int y3), some (.long y4), none, some (.int y6), none, none] [.int z0] h res := by
  unfold F_339_77 at hf
  refine Ex.seg 3 (pc' := 82) (lc' := [some (.ref 67), some (.int y1), some (.int y2), some (.int y3), some (.long y4), none, some (.int y6), some (.int z0), some (.int 0)]) (st' := []) (h' := h) (sg1 rfl rfl (sg1 rfl rfl (sg1 rfl rfl rfl))) ?_
  exact Ex.weak (sm_le_s (sm_le_s (sm_le_s (sm_le_s (sm_le_s (sm_le_s (sm_le_s (sm_le_s (sm_le_s sm_le_nil))))))))) (B_339_82 hd hS1 hf hs)
def F_339_76 (y1 : Int32) (y2 : Int32) (y3 : Int32) (y4 : Int64) (y6 : Int32) (h : sm_H) : Option ((Int32 × Int32 × Int32 × Int64 × Int32 × sm_H) ⊕ (Int32 × sm_H)) :=
  F_339_77 y1 y2 y3 y4 y6 0 h
theorem B_339_76 {L : Nat} {xs : Nat → Int32} {d : Nat} (hd : 0 ≤ d) {res : Option Value × sm_H} {S1 : (Int32 × Int32 × Int32 × Int64 × Int32 × sm_H) → Prop} (hS1 : ∀ s, S1 s → Ex (P_G L xs) (RUN L xs d) (sm_lk P_t339) 0 3 [some (.ref 67), some (.int s.1), some (.int s.2.1), some (.int s.2.2.1), some (.long s.2.2.2.1), none, some (.int s.2.2.2.2.1), none, none] [] s.2.2.2.2.2 res) {y1 : Int32} {y2 : Int32} {y3 : Int32} {y4 : Int64} {y6 : Int32}  {h : sm_H} {r : ((Int32 × Int32 × Int32 × Int64 × Int32 × sm_H) ⊕ (Int32 × sm_H))} (hf : F_339_76 y1 y2 y3 y4 y6 h = some r) (hs : (Sum.elim S1 (fun (r : Int32 × sm_H) => res = (some (.int r.1), r.2))) r) : Ex (P_G L xs) (RUN L xs d) (sm_lk P_t339) 0 76 [some (.ref 67), some (.int y1), some (.int y2), some (.int y3), some (.long y4), none, some (.int y6), none, none] [] h res := by
  unfold F_339_76 at hf
  refine Ex.seg 1 (pc' := 77) (lc' := [some (.ref 67), some (.int y1), some (.int y2), some (.int y3), some (.long y4), none, some (.int y6), none, none]) (st' := [.int 0]) (h' := h) (sg1 rfl rfl rfl) ?_
  exact Ex.weak (sm_le_s (sm_le_s (sm_le_s (sm_le_s (sm_le_s (sm_le_s (sm_le_s (sm_le_s (sm_le_s sm_le_nil))))))))) (B_339_77 hd hS1 hf hs)
def F_339_3B (s : (Int32 × Int32 × Int32 × Int64 × Int32 × sm_H)) : Option ((Int32 × Int32 × Int32 × Int64 × Int32 × sm_H) ⊕ (Int32 × sm_H)) :=
  if (s.2.2.2.2.2.1 67 18) ≤ s.2.2.2.2.1 then (some (.inr ((-1), s.2.2.2.2.2)))
  else ((ldI s.2.2.2.2.2 75 500 s.2.2.2.2.1).bind fun v5 =>
  if v5 = s.1 then ((ldI s.2.2.2.2.2 77 500 s.2.2.2.2.1).bind fun v6 =>
  if v6 = s.2.1 then ((ldI s.2.2.2.2.2 78 500 s.2.2.2.2.1).bind fun v7 =>
  if v7 = s.2.2.1 then ((ldJ s.2.2.2.2.2 79 500 s.2.2.2.2.1).bind fun v8 =>
  if (lg_cmp v8 s.2.2.2.1) = 0 then ((ldI s.2.2.2.2.2 80 500 s.2.2.2.2.1).bind fun v9 =>
  if v9 = (s.2.2.2.2.2.1 67 3) then (F_339_77 s.1 s.2.1 s.2.2.1 s.2.2.2.1 s.2.2.2.2.1 1 s.2.2.2.2.2)
  else (F_339_76 s.1 s.2.1 s.2.2.1 s.2.2.2.1 s.2.2.2.2.1 s.2.2.2.2.2))
  else (F_339_76 s.1 s.2.1 s.2.2.1 s.2.2.2.1 s.2.2.2.2.1 s.2.2.2.2.2))
  else (F_339_76 s.1 s.2.1 s.2.2.1 s.2.2.2.1 s.2.2.2.2.1 s.2.2.2.2.2))
  else (F_339_76 s.1 s.2.1 s.2.2.1 s.2.2.2.1 s.2.2.2.2.1 s.2.2.2.2.2))
  else (F_339_76 s.1 s.2.1 s.2.2.1 s.2.2.2.1 s.2.2.2.2.1 s.2.2.2.2.2))
theorem B_339_3B {L : Nat} {xs : Nat → Int32} {d : Nat} (hd : 0 ≤ d) {res : Option Value × sm_H} {S1 : (Int32 × Int32 × Int32 × Int64 × Int32 × sm_H) → Prop} (hS1 : ∀ s, S1 s → Ex (P_G L xs) (RUN L xs d) (sm_lk P_t339) 0 3 [some (.ref 67), some (.int s.1), some (.int s.2.1), some (.int s.2.2.1), some (.long s.2.2.2.1), none, some (.int s.2.2.2.2.1), none, none] [] s.2.2.2.2.2 res) {s : (Int32 × Int32 × Int32 × Int64 × Int32 × sm_H)}  {r : ((Int32 × Int32 × Int32 × Int64 × Int32 × sm_H) ⊕ (Int32 × sm_H))} (hf : F_339_3B s = some r) (hs : (Sum.elim S1 (fun (r : Int32 × sm_H) => res = (some (.int r.1), r.2))) r) : Ex (P_G L xs) (RUN L xs d) (sm_lk P_t339) 0 3 [some (.ref 67), some (.int s.1), some (.int s.2.1), some (.int s.2.2.1), some (.long s.2.2.2.1), none, some (.int s.2.2.2.2.1), none, none] [] s.2.2.2.2.2 res := by
  unfold F_339_3B at hf
  refine Ex.seg 3 (pc' := 9) (lc' := [some (.ref 67), some (.int s.1), some (.int s.2.1), some (.int s.2.2.1), some (.long s.2.2.2.1), none, some (.int s.2.2.2.2.1), none, none]) (st' := [.int (s.2.2.2.2.2.1 67 18), .int s.2.2.2.2.1]) (h' := s.2.2.2.2.2) (sg1 rfl rfl (sg1 rfl rfl (sg1 rfl rfl rfl))) ?_
  refine Ex.icmp rfl rfl (fun (c0 : (s.2.2.2.2.2.1 67 18) ≤ s.2.2.2.2.1) => ?_) (fun (c0 : ¬ ((s.2.2.2.2.2.1 67 18) ≤ s.2.2.2.2.1)) => ?_)
  · rw [if_pos c0] at hf
    refine Ex.seg 1 (pc' := 147) (lc' := [some (.ref 67), some (.int s.1), some (.int s.2.1), some (.int s.2.2.1), some (.long s.2.2.2.1), none, some (.int s.2.2.2.2.1), none, none]) (st' := [.int (-1)]) (h' := s.2.2.2.2.2) (sg1 rfl rfl rfl) ?_
    obtain rfl := Option.some.inj hf
    exact Ex.iret rfl rfl (fun c0 => by cases c0) hs
  · rw [if_neg c0] at hf
    refine Ex.seg 3 (pc' := 18) (lc' := [some (.ref 67), some (.int s.1), some (.int s.2.1), some (.int s.2.2.1), some (.long s.2.2.2.1), none, some (.int s.2.2.2.2.1), none, none]) (st' := [.int s.2.2.2.2.1, .ref 75]) (h' := s.2.2.2.2.2) (sg1 rfl rfl (sg1 rfl rfl (sg1 rfl rfl rfl))) ?_
    obtain ⟨v5, e_v5, hf⟩ := bnd hf
    refine Ex.iald e_v5 rfl rfl ?_
    refine Ex.seg 1 (pc' := 20) (lc' := [some (.ref 67), some (.int s.1), some (.int s.2.1), some (.int s.2.2.1), some (.long s.2.2.2.1), none, some (.int s.2.2.2.2.1), none, none]) (st' := [.int s.1, .int v5]) (h' := s.2.2.2.2.2) (sg1 rfl rfl rfl) ?_
    refine Ex.icmp rfl rfl (fun (c0 : ¬ (v5 = s.1)) => ?_) (fun (c0 : ¬ ¬ (v5 = s.1)) => ?_)
    · rw [if_neg c0] at hf
      exact Ex.weak (sm_le_s (sm_le_s (sm_le_s (sm_le_s (sm_le_s (sm_le_s (sm_le_s (sm_le_s (sm_le_s sm_le_nil))))))))) (B_339_76 hd hS1 hf hs)
    · rw [if_pos (Classical.not_not.mp c0)] at hf
      refine Ex.seg 3 (pc' := 29) (lc' := [some (.ref 67), some (.int s.1), some (.int s.2.1), some (.int s.2.2.1), some (.long s.2.2.2.1), none, some (.int s.2.2.2.2.1), none, none]) (st' := [.int s.2.2.2.2.1, .ref 77]) (h' := s.2.2.2.2.2) (sg1 rfl rfl (sg1 rfl rfl (sg1 rfl rfl rfl))) ?_
      obtain ⟨v6, e_v6, hf⟩ := bnd hf
      refine Ex.iald e_v6 rfl rfl ?_
      refine Ex.seg 1 (pc' := 31) (lc' := [some (.ref 67), some (.int s.1), some (.int s.2.1), some (.int s.2.2.1), some (.long s.2.2.2.1), none, some (.int s.2.2.2.2.1), none, none]) (st' := [.int s.2.1, .int v6]) (h' := s.2.2.2.2.2) (sg1 rfl rfl rfl) ?_
      refine Ex.icmp rfl rfl (fun (c0 : ¬ (v6 = s.2.1)) => ?_) (fun (c0 : ¬ ¬ (v6 = s.2.1)) => ?_)
      · rw [if_neg c0] at hf
        exact Ex.weak (sm_le_s (sm_le_s (sm_le_s (sm_le_s (sm_le_s (sm_le_s (sm_le_s (sm_le_s (sm_le_s sm_le_nil))))))))) (B_339_76 hd hS1 hf hs)
      · rw [if_pos (Classical.not_not.mp c0)] at hf
        refine Ex.seg 3 (pc' := 40) (lc' := [some (.ref 67), some (.int s.1), some (.int s.2.1), some (.int s.2.2.1), some (.long s.2.2.2.1), none, some (.int s.2.2.2.2.1), none, none]) (st' := [.int s.2.2.2.2.1, .ref 78]) (h' := s.2.2.2.2.2) (sg1 rfl rfl (sg1 rfl rfl (sg1 rfl rfl rfl))) ?_
        obtain ⟨v7, e_v7, hf⟩ := bnd hf
        refine Ex.iald e_v7 rfl rfl ?_
        refine Ex.seg 1 (pc' := 42) (lc' := [some (.ref 67), some (.int s.1), some (.int s.2.1), some (.int s.2.2.1), some (.long s.2.2.2.1), none, some (.int s.2.2.2.2.1), none, none]) (st' := [.int s.2.2.1, .int v7]) (h' := s.2.2.2.2.2) (sg1 rfl rfl rfl) ?_
        refine Ex.icmp rfl rfl (fun (c0 : ¬ (v7 = s.2.2.1)) => ?_) (fun (c0 : ¬ ¬ (v7 = s.2.2.1)) => ?_)
        · rw [if_neg c0] at hf
          exact Ex.weak (sm_le_s (sm_le_s (sm_le_s (sm_le_s (sm_le_s (sm_le_s (sm_le_s (sm_le_s (sm_le_s sm_le_nil))))))))) (B_339_76 hd hS1 hf hs)
        · rw [if_pos (Classical.not_not.mp c0)] at hf
          refine Ex.seg 3 (pc' := 51) (lc' := [some (.ref 67), some (.int s.1), some (.int s.2.1), some (.int s.2.2.1), some (.long s.2.2.2.1), none, some (.int s.2.2.2.2.1), none, none]) (st' := [.int s.2.2.2.2.1, .ref 79]) (h' := s.2.2.2.2.2) (sg1 rfl rfl (sg1 rfl rfl (sg1 rfl rfl rfl))) ?_
          obtain ⟨v8, e_v8, hf⟩ := bnd hf
          refine Ex.lald e_v8 rfl rfl ?_
          refine Ex.seg 2 (pc' := 55) (lc' := [some (.ref 67), some (.int s.1), some (.int s.2.1), some (.int s.2.2.1), some (.long s.2.2.2.1), none, some (.int s.2.2.2.2.1), none, none]) (st' := [.int (lg_cmp v8 s.2.2.2.1)]) (h' := s.2.2.2.2.2) (sg1 rfl rfl (sg1 rfl rfl rfl)) ?_
          refine Ex.ifc rfl rfl (fun (c0 : ¬ ((lg_cmp v8 s.2.2.2.1) = 0)) => ?_) (fun (c0 : ¬ ¬ ((lg_cmp v8 s.2.2.2.1) = 0)) => ?_)
          · rw [if_neg c0] at hf
            exact Ex.weak (sm_le_s (sm_le_s (sm_le_s (sm_le_s (sm_le_s (sm_le_s (sm_le_s (sm_le_s (sm_le_s sm_le_nil))))))))) (B_339_76 hd hS1 hf hs)
          · rw [if_pos (Classical.not_not.mp c0)] at hf
            refine Ex.seg 3 (pc' := 64) (lc' := [some (.ref 67), some (.int s.1), some (.int s.2.1), some (.int s.2.2.1), some (.long s.2.2.2.1), none, some (.int s.2.2.2.2.1), none, none]) (st' := [.int s.2.2.2.2.1, .ref 80]) (h' := s.2.2.2.2.2) (sg1 rfl rfl (sg1 rfl rfl (sg1 rfl rfl rfl))) ?_
            obtain ⟨v9, e_v9, hf⟩ := bnd hf
            refine Ex.iald e_v9 rfl rfl ?_
            refine Ex.seg 2 (pc' := 69) (lc' := [some (.ref 67), some (.int s.1), some (.int s.2.1), some (.int s.2.2.1), some (.long s.2.2.2.1), none, some (.int s.2.2.2.2.1), none, none]) (st' := [.int (s.2.2.2.2.2.1 67 3), .int v9]) (h' := s.2.2.2.2.2) (sg1 rfl rfl (sg1 rfl rfl rfl)) ?_
            refine Ex.icmp rfl rfl (fun (c0 : ¬ (v9 = (s.2.2.2.2.2.1 67 3))) => ?_) (fun (c0 : ¬ ¬ (v9 = (s.2.2.2.2.2.1 67 3))) => ?_)
            · rw [if_neg c0] at hf
              exact Ex.weak (sm_le_s (sm_le_s (sm_le_s (sm_le_s (sm_le_s (sm_le_s (sm_le_s (sm_le_s (sm_le_s sm_le_nil))))))))) (B_339_76 hd hS1 hf hs)
            · rw [if_pos (Classical.not_not.mp c0)] at hf
              refine Ex.seg 2 (pc' := 77) (lc' := [some (.ref 67), some (.int s.1), some (.int s.2.1), some (.int s.2.2.1), some (.long s.2.2.2.1), none, some (.int s.2.2.2.2.1), none, none]) (st' := [.int 1]) (h' := s.2.2.2.2.2) (sg1 rfl rfl (sg1 rfl rfl rfl)) ?_
              exact Ex.weak (sm_le_s (sm_le_s (sm_le_s (sm_le_s (sm_le_s (sm_le_s (sm_le_s (sm_le_s (sm_le_s sm_le_nil))))))))) (B_339_77 hd hS1 hf hs)
def F_339_3 (y1 : Int32) (y2 : Int32) (y3 : Int32) (y4 : Int64) (y6 : Int32) (h : sm_H) : Option (Int32 × sm_H) := lp F_339_3B 1000000 (y1, y2, y3, y4, y6, h)
theorem B_339_3 {L : Nat} {xs : Nat → Int32} {d : Nat} (hd : 0 ≤ d) {res : Option Value × sm_H} {y1 : Int32} {y2 : Int32} {y3 : Int32} {y4 : Int64} {y6 : Int32}  {h : sm_H} {r : (Int32 × sm_H)} (hf : F_339_3 y1 y2 y3 y4 y6 h = some r) (hs : (fun (r : Int32 × sm_H) => res = (some (.int r.1), r.2)) r) : Ex (P_G L xs) (RUN L xs d) (sm_lk P_t339) 0 3 [some (.ref 67), some (.int y1), some (.int y2), some (.int y3), some (.long y4), none, some (.int y6), none, none] [] h res := by
  unfold F_339_3 at hf
  exact lp_ok (P := fun (s : (Int32 × Int32 × Int32 × Int64 × Int32 × sm_H)) => Ex (P_G L xs) (RUN L xs d) (sm_lk P_t339) 0 3 [some (.ref 67), some (.int s.1), some (.int s.2.1), some (.int s.2.2.1), some (.long s.2.2.2.1), none, some (.int s.2.2.2.2.1), none, none] [] s.2.2.2.2.2 res) (S := (fun (r : Int32 × sm_H) => res = (some (.int r.1), r.2))) (fun s x hx hsx => by
    intros
    exact B_339_3B hd  (fun _ q => q) hx hsx) 1000000 _ r hf hs
def F_339_0 (x1 : Int32) (x2 : Int32) (x3 : Int32) (x4 : Int64) (h : sm_H) : Option (Int32 × sm_H) :=
  F_339_3 x1 x2 x3 x4 0 h
theorem B_339_0 {L : Nat} {xs : Nat → Int32} {d : Nat} (hd : 0 ≤ d) {res : Option Value × sm_H} {x1 : Int32} {x2 : Int32} {x3 : Int32} {x4 : Int64}  {h : sm_H} {r : (Int32 × sm_H)} (hf : F_339_0 x1 x2 x3 x4 h = some r) (hs : (fun (r : Int32 × sm_H) => res = (some (.int r.1), r.2)) r) : Ex (P_G L xs) (RUN L xs d) (sm_lk P_t339) 0 0 [some (.ref 67), some (.int x1), some (.int x2), some (.int x3), some (.long x4), none, none, none, none] [] h res := by
  unfold F_339_0 at hf
  refine Ex.seg 2 (pc' := 3) (lc' := [some (.ref 67), some (.int x1), some (.int x2), some (.int x3), some (.long x4), none, some (.int 0), none, none]) (st' := []) (h' := h) (sg1 rfl rfl (sg1 rfl rfl rfl)) ?_
  exact Ex.weak (sm_le_s (sm_le_s (sm_le_s (sm_le_s (sm_le_s (sm_le_s (sm_le_s (sm_le_s (sm_le_s sm_le_nil))))))))) (B_339_3 hd  hf hs)
/-- HandleHouseModel.findHandle(IIIJ)I -/
abbrev F_339 (x1 : Int32) (x2 : Int32) (x3 : Int32) (x4 : Int64) (h : sm_H) : Option (Int32 × sm_H) := F_339_0 x1 x2 x3 x4 h
theorem E_339 {L : Nat} {xs : Nat → Int32} {d : Nat} (hd : 1 ≤ d) {x1 : Int32} {x2 : Int32} {x3 : Int32} {x4 : Int64} {h : sm_H} {r : Int32 × sm_H} (hf : F_339 x1 x2 x3 x4 h = some r) : RUN L xs d 339 [.ref 67, .int x1, .int x2, .int x3, .long x4] h (some (.int r.1), r.2) := by
  obtain ⟨d, rfl⟩ : ∃ e, d = e + 1 := ⟨d - 1, by omega⟩
  exact ⟨Nat.le_of_ble_eq_true rfl, B_339_0 (by omega) hf rfl⟩
def F_340_143B (s : (Int32 × Int32 × sm_H)) : Option ((Int32 × Int32 × sm_H) ⊕ (Int32 × sm_H)) :=
  if (s.2.2.1 67 3) ≤ s.2.1 then ((some (sm_wI s.2.2 67 18 ((s.2.2.1 67 18) + 1))).bind fun h1 =>
  some (.inr (s.1, h1)))
  else ((ldI s.2.2 69 24 s.2.1).bind fun v2 =>
  (stI s.2.2 81 12000 ((24 * s.1) + s.2.1) v2).bind fun h3 =>
  (some (s.2.1 + 1 : Int32)).bind fun v4 =>
  some (.inl (s.1, v4, h3)))
theorem B_340_143B {L : Nat} {xs : Nat → Int32} {d : Nat} (hd : 2 ≤ d) {res : Option Value × sm_H} {S1 : (Int32 × Int32 × sm_H) → Prop} (hS1 : ∀ s, S1 s → Ex (P_G L xs) (RUN L xs d) (sm_lk P_t340) 0 143 [some (.ref 67), none, none, none, none, none, some (.int s.1), some (.int s.2.1)] [] s.2.2 res) {s : (Int32 × Int32 × sm_H)}  {r : ((Int32 × Int32 × sm_H) ⊕ (Int32 × sm_H))} (hf : F_340_143B s = some r) (hs : (Sum.elim S1 (fun (r : Int32 × sm_H) => res = (some (.int r.1), r.2))) r) : Ex (P_G L xs) (RUN L xs d) (sm_lk P_t340) 0 143 [some (.ref 67), none, none, none, none, none, some (.int s.1), some (.int s.2.1)] [] s.2.2 res := by
  unfold F_340_143B at hf
  refine Ex.seg 3 (pc' := 149) (lc' := [some (.ref 67), none, none, none, none, none, some (.int s.1), some (.int s.2.1)]) (st' := [.int (s.2.2.1 67 3), .int s.2.1]) (h' := s.2.2) (sg1 rfl rfl (sg1 rfl rfl (sg1 rfl rfl rfl))) ?_
  refine Ex.icmp rfl rfl (fun (c0 : (s.2.2.1 67 3) ≤ s.2.1) => ?_) (fun (c0 : ¬ ((s.2.2.1 67 3) ≤ s.2.1)) => ?_)
  · rw [if_pos c0] at hf
    refine Ex.seg 6 (pc' := 188) (lc' := [some (.ref 67), none, none, none, none, none, some (.int s.1), some (.int s.2.1)]) (st' := []) (h' := (sm_wI s.2.2 67 18 ((s.2.2.1 67 18) + 1))) (sg1 rfl rfl (sg1 rfl rfl (sg1 rfl rfl (sg1 rfl rfl (sg1 rfl rfl (sg1 rfl rfl rfl)))))) ?_
    obtain ⟨h1, e_h1, hf⟩ := bnd hf
    rw [Option.some.inj e_h1]
    refine Ex.seg 1 (pc' := 190) (lc' := [some (.ref 67), none, none, none, none, none, some (.int s.1), some (.int s.2.1)]) (st' := [.int s.1]) (h' := h1) (sg1 rfl rfl rfl) ?_
    obtain rfl := Option.some.inj hf
    exact Ex.iret rfl rfl (fun c0 => by cases c0) hs
  · rw [if_neg c0] at hf
    refine Ex.seg 10 (pc' := 170) (lc' := [some (.ref 67), none, none, none, none, none, some (.int s.1), some (.int s.2.1)]) (st' := [.int s.2.1, .ref 69, .int ((24 * s.1) + s.2.1), .ref 81]) (h' := s.2.2) (sg1 rfl rfl (sg1 rfl rfl (sg1 rfl rfl (sg1 rfl rfl (sg1 rfl rfl (sg1 rfl rfl (sg1 rfl rfl (sg1 rfl rfl (sg1 rfl rfl (sg1 rfl rfl rfl)))))))))) ?_
    obtain ⟨v2, e_v2, hf⟩ := bnd hf
    refine Ex.iald e_v2 rfl rfl ?_
    obtain ⟨h3, e_h3, hf⟩ := bnd hf
    refine Ex.iast e_h3 rfl rfl ?_
    refine Ex.seg 1 (pc' := 175) (lc' := [some (.ref 67), none, none, none, none, none, some (.int s.1), some (.int (s.2.1 + 1))]) (st' := []) (h' := h3) (sg1 rfl rfl rfl) ?_
    obtain ⟨v4, e_v4, hf⟩ := bnd hf
    rw [Option.some.inj e_v4]
    refine Ex.seg 1 (pc' := 143) (lc' := [some (.ref 67), none, none, none, none, none, some (.int s.1), some (.int v4)]) (st' := []) (h' := h3) (sg1 rfl rfl rfl) ?_
    obtain rfl := Option.some.inj hf
    exact Ex.weak (sm_le_s (sm_le_s (sm_le_s (sm_le_s (sm_le_s (sm_le_s (sm_le_s (sm_le_s sm_le_nil)))))))) (hS1 _ hs)
def F_340_143 (y6 : Int32) (y7 : Int32) (h : sm_H) : Option (Int32 × sm_H) := lp F_340_143B 1000000 (y6, y7, h)
theorem B_340_143 {L : Nat} {xs : Nat → Int32} {d : Nat} (hd : 2 ≤ d) {res : Option Value × sm_H} {y6 : Int32} {y7 : Int32}  {h : sm_H} {r : (Int32 × sm_H)} (hf : F_340_143 y6 y7 h = some r) (hs : (fun (r : Int32 × sm_H) => res = (some (.int r.1), r.2)) r) : Ex (P_G L xs) (RUN L xs d) (sm_lk P_t340) 0 143 [some (.ref 67), none, none, none, none, none, some (.int y6), some (.int y7)] [] h res := by
  unfold F_340_143 at hf
  exact lp_ok (P := fun (s : (Int32 × Int32 × sm_H)) => Ex (P_G L xs) (RUN L xs d) (sm_lk P_t340) 0 143 [some (.ref 67), none, none, none, none, none, some (.int s.1), some (.int s.2.1)] [] s.2.2 res) (S := (fun (r : Int32 × sm_H) => res = (some (.int r.1), r.2))) (fun s x hx hsx => by
    intros
    exact B_340_143B hd  (fun _ q => q) hx hsx) 1000000 _ r hf hs
def F_340_42 (y1 : Int32) (y2 : Int32) (y3 : Int32) (y4 : Int64) (h : sm_H) : Option (Int32 × sm_H) :=
  (F_339 y1 y2 y3 y4 h).bind fun q5 =>
  if q5.1 = (-1) then (if (q5.2.1 67 18) = 500 then ((some (sm_wI q5.2 67 19 5)).bind fun h14 =>
  some ((-1), h14))
  else ((some ((q5.2.1 67 18) : Int32)).bind fun v6 =>
  (F_302 q5.2).bind fun q7 =>
  (stI q7.2 76 500 v6 q7.1).bind fun h8 =>
  (stI h8 75 500 v6 y1).bind fun h9 =>
  (stI h9 77 500 v6 y2).bind fun h10 =>
  (stI h10 78 500 v6 y3).bind fun h11 =>
  (stJ h11 79 500 v6 y4).bind fun h12 =>
  (stI h12 80 500 v6 (h12.1 67 3)).bind fun h13 =>
  F_340_143 v6 0 h13))
  else (some (q5.1, q5.2))
theorem B_340_42 {L : Nat} {xs : Nat → Int32} {d : Nat} (hd : 2 ≤ d) {res : Option Value × sm_H} {y1 : Int32} {y2 : Int32} {y3 : Int32} {y4 : Int64}  {h : sm_H} {r : (Int32 × sm_H)} (hf : F_340_42 y1 y2 y3 y4 h = some r) (hs : (fun (r : Int32 × sm_H) => res = (some (.int r.1), r.2)) r) : Ex (P_G L xs) (RUN L xs d) (sm_lk P_t340) 0 42 [some (.ref 67), some (.int y1), some (.int y2), some (.int y3), some (.long y4), none, none, none] [] h res := by
  unfold F_340_42 at hf
  refine Ex.seg 5 (pc' := 48) (lc' := [some (.ref 67), some (.int y1), some (.int y2), some (.int y3), some (.long y4), none, none, none]) (st' := [.long y4, .int y3, .int y2, .int y1, .ref 67]) (h' := h) (sg1 rfl rfl (sg1 rfl rfl (sg1 rfl rfl (sg1 rfl rfl (sg1 rfl rfl rfl))))) ?_
  obtain ⟨q5, e_q5, hf⟩ := bnd hf
  refine Ex.callV (a := 67) (As := [.int y1, .int y2, .int y3, .long y4]) (r := []) (v := some (.int q5.1)) (h' := q5.2) rfl rfl (by decide) rfl (Nat.le_of_ble_eq_true rfl) rfl (E_339 (Nat.le_trans (by decide) hd) e_q5) rfl ?_
  refine Ex.seg 3 (pc' := 56) (lc' := [some (.ref 67), some (.int y1), some (.int y2), some (.int y3), some (.long y4), none, some (.int q5.1), none]) (st' := [.int (-1), .int q5.1]) (h' := q5.2) (sg1 rfl rfl (sg1 rfl rfl (sg1 rfl rfl rfl))) ?_
  refine Ex.icmp rfl rfl (fun (c0 : q5.1 = (-1)) => ?_) (fun (c0 : ¬ (q5.1 = (-1))) => ?_)
  · rw [if_pos c0] at hf
    refine Ex.seg 3 (pc' := 69) (lc' := [some (.ref 67), some (.int y1), some (.int y2), some (.int y3), some (.long y4), none, some (.int q5.1), none]) (st' := [.int 500, .int (q5.2.1 67 18)]) (h' := q5.2) (sg1 rfl rfl (sg1 rfl rfl (sg1 rfl rfl rfl))) ?_
    refine Ex.icmp rfl rfl (fun (c0 : ¬ ((q5.2.1 67 18) = 500)) => ?_) (fun (c0 : ¬ ¬ ((q5.2.1 67 18) = 500)) => ?_)
    · rw [if_neg c0] at hf
      refine Ex.seg 3 (pc' := 85) (lc' := [some (.ref 67), some (.int y1), some (.int y2), some (.int y3), some (.long y4), none, some (.int (q5.2.1 67 18)), none]) (st' := []) (h' := q5.2) (sg1 rfl rfl (sg1 rfl rfl (sg1 rfl rfl rfl))) ?_
      obtain ⟨v6, e_v6, hf⟩ := bnd hf
      rw [Option.some.inj e_v6]
      refine Ex.seg 4 (pc' := 92) (lc' := [some (.ref 67), some (.int y1), some (.int y2), some (.int y3), some (.long y4), none, some (.int v6), none]) (st' := [.ref 67, .int v6, .ref 76]) (h' := q5.2) (sg1 rfl rfl (sg1 rfl rfl (sg1 rfl rfl (sg1 rfl rfl rfl)))) ?_
      obtain ⟨q7, e_q7, hf⟩ := bnd hf
      refine Ex.callV (a := 67) (As := []) (r := [.int v6, .ref 76]) (v := some (.int q7.1)) (h' := q7.2) rfl rfl (by decide) rfl (Nat.le_of_ble_eq_true rfl) rfl (E_302 (Nat.le_trans (by decide) hd) e_q7) rfl ?_
      obtain ⟨h8, e_h8, hf⟩ := bnd hf
      refine Ex.iast e_h8 rfl rfl ?_
      refine Ex.seg 4 (pc' := 103) (lc' := [some (.ref 67), some (.int y1), some (.int y2), some (.int y3), some (.long y4), none, some (.int v6), none]) (st' := [.int y1, .int v6, .ref 75]) (h' := h8) (sg1 rfl rfl (sg1 rfl rfl (sg1 rfl rfl (sg1 rfl rfl rfl)))) ?_
      obtain ⟨h9, e_h9, hf⟩ := bnd hf
      refine Ex.iast e_h9 rfl rfl ?_
      refine Ex.seg 4 (pc' := 111) (lc' := [some (.ref 67), some (.int y1), some (.int y2), some (.int y3), some (.long y4), none, some (.int v6), none]) (st' := [.int y2, .int v6, .ref 77]) (h' := h9) (sg1 rfl rfl (sg1 rfl rfl (sg1 rfl rfl (sg1 rfl rfl rfl)))) ?_
      obtain ⟨h10, e_h10, hf⟩ := bnd hf
      refine Ex.iast e_h10 rfl rfl ?_
      refine Ex.seg 4 (pc' := 119) (lc' := [some (.ref 67), some (.int y1), some (.int y2), some (.int y3), some (.long y4), none, some (.int v6), none]) (st' := [.int y3, .int v6, .ref 78]) (h' := h10) (sg1 rfl rfl (sg1 rfl rfl (sg1 rfl rfl (sg1 rfl rfl rfl)))) ?_
      obtain ⟨h11, e_h11, hf⟩ := bnd hf
      refine Ex.iast e_h11 rfl rfl ?_
      refine Ex.seg 4 (pc' := 128) (lc' := [some (.ref 67), some (.int y1), some (.int y2), some (.int y3), some (.long y4), none, some (.int v6), none]) (st' := [.long y4, .int v6, .ref 79]) (h' := h11) (sg1 rfl rfl (sg1 rfl rfl (sg1 rfl rfl (sg1 rfl rfl rfl)))) ?_
      obtain ⟨h12, e_h12, hf⟩ := bnd hf
      refine Ex.last e_h12 rfl rfl ?_
      refine Ex.seg 5 (pc' := 139) (lc' := [some (.ref 67), some (.int y1), some (.int y2), some (.int y3), some (.long y4), none, some (.int v6), none]) (st' := [.int (h12.1 67 3), .int v6, .ref 80]) (h' := h12) (sg1 rfl rfl (sg1 rfl rfl (sg1 rfl rfl (sg1 rfl rfl (sg1 rfl rfl rfl))))) ?_
      obtain ⟨h13, e_h13, hf⟩ := bnd hf
      refine Ex.iast e_h13 rfl rfl ?_
      refine Ex.seg 2 (pc' := 143) (lc' := [some (.ref 67), some (.int y1), some (.int y2), some (.int y3), some (.long y4), none, some (.int v6), some (.int 0)]) (st' := []) (h' := h13) (sg1 rfl rfl (sg1 rfl rfl rfl)) ?_
      exact Ex.weak (sm_le_s (sm_le_n (sm_le_n (sm_le_n (sm_le_n (sm_le_s (sm_le_s (sm_le_s sm_le_nil)))))))) (B_340_143 hd  hf hs)
    · rw [if_pos (Classical.not_not.mp c0)] at hf
      refine Ex.seg 3 (pc' := 77) (lc' := [some (.ref 67), some (.int y1), some (.int y2), some (.int y3), some (.long y4), none, some (.int q5.1), none]) (st' := []) (h' := (sm_wI q5.2 67 19 5)) (sg1 rfl rfl (sg1 rfl rfl (sg1 rfl rfl rfl))) ?_
      obtain ⟨h14, e_h14, hf⟩ := bnd hf
      rw [Option.some.inj e_h14]
      refine Ex.seg 1 (pc' := 78) (lc' := [some (.ref 67), some (.int y1), some (.int y2), some (.int y3), some (.long y4), none, some (.int q5.1), none]) (st' := [.int (-1)]) (h' := h14) (sg1 rfl rfl rfl) ?_
      obtain rfl := Option.some.inj hf
      exact Ex.iret rfl rfl (fun c0 => by cases c0) hs
  · rw [if_neg c0] at hf
    refine Ex.seg 1 (pc' := 61) (lc' := [some (.ref 67), some (.int y1), some (.int y2), some (.int y3), some (.long y4), none, some (.int q5.1), none]) (st' := [.int q5.1]) (h' := q5.2) (sg1 rfl rfl rfl) ?_
    obtain rfl := Option.some.inj hf
    exact Ex.iret rfl rfl (fun c0 => by cases c0) hs
def F_340_35  (h : sm_H) : Option (Int32 × sm_H) :=
  (some (sm_wI h 67 19 4)).bind fun h15 =>
  some ((-1), h15)
theorem B_340_35 {L : Nat} {xs : Nat → Int32} {d : Nat} (hd : 2 ≤ d) {res : Option Value × sm_H}   {h : sm_H} {r : (Int32 × sm_H)} (hf : F_340_35  h = some r) (hs : (fun (r : Int32 × sm_H) => res = (some (.int r.1), r.2)) r) : Ex (P_G L xs) (RUN L xs d) (sm_lk P_t340) 0 35 [some (.ref 67), none, none, none, none, none, none, none] [] h res := by
  unfold F_340_35 at hf
  refine Ex.seg 3 (pc' := 40) (lc' := [some (.ref 67), none, none, none, none, none, none, none]) (st' := []) (h' := (sm_wI h 67 19 4)) (sg1 rfl rfl (sg1 rfl rfl (sg1 rfl rfl rfl))) ?_
  obtain ⟨h15, e_h15, hf⟩ := bnd hf
  rw [Option.some.inj e_h15]
  refine Ex.seg 1 (pc' := 41) (lc' := [some (.ref 67), none, none, none, none, none, none, none]) (st' := [.int (-1)]) (h' := h15) (sg1 rfl rfl rfl) ?_
  obtain rfl := Option.some.inj hf
  exact Ex.iret rfl rfl (fun c0 => by cases c0) hs
def F_340_0 (x1 : Int32) (x2 : Int32) (x3 : Int32) (x4 : Int64) (h : sm_H) : Option (Int32 × sm_H) :=
  if 10 < (h.1 67 21) then (F_340_35 h)
  else ((F_301 (h.1 67 20) (h.1 67 21) h).bind fun q16 =>
  if q16.1 = (-1) then (if (q16.2.1 67 10) = 300 then (F_340_35 q16.2)
  else (F_340_42 x1 x2 x3 x4 q16.2))
  else (F_340_42 x1 x2 x3 x4 q16.2))
theorem B_340_0 {L : Nat} {xs : Nat → Int32} {d : Nat} (hd : 2 ≤ d) {res : Option Value × sm_H} {x1 : Int32} {x2 : Int32} {x3 : Int32} {x4 : Int64}  {h : sm_H} {r : (Int32 × sm_H)} (hf : F_340_0 x1 x2 x3 x4 h = some r) (hs : (fun (r : Int32 × sm_H) => res = (some (.int r.1), r.2)) r) : Ex (P_G L xs) (RUN L xs d) (sm_lk P_t340) 0 0 [some (.ref 67), some (.int x1), some (.int x2), some (.int x3), some (.long x4), none, none, none] [] h res := by
  unfold F_340_0 at hf
  refine Ex.seg 3 (pc' := 6) (lc' := [some (.ref 67), some (.int x1), some (.int x2), some (.int x3), some (.long x4), none, none, none]) (st' := [.int 10, .int (h.1 67 21)]) (h' := h) (sg1 rfl rfl (sg1 rfl rfl (sg1 rfl rfl rfl))) ?_
  refine Ex.icmp rfl rfl (fun (c0 : 10 < (h.1 67 21)) => ?_) (fun (c0 : ¬ (10 < (h.1 67 21))) => ?_)
  · rw [if_pos c0] at hf
    exact Ex.weak (sm_le_s (sm_le_n (sm_le_n (sm_le_n (sm_le_n (sm_le_s (sm_le_s (sm_le_s sm_le_nil)))))))) (B_340_35 hd  hf hs)
  · rw [if_neg c0] at hf
    refine Ex.seg 5 (pc' := 18) (lc' := [some (.ref 67), some (.int x1), some (.int x2), some (.int x3), some (.long x4), none, none, none]) (st' := [.int (h.1 67 21), .int (h.1 67 20), .ref 67]) (h' := h) (sg1 rfl rfl (sg1 rfl rfl (sg1 rfl rfl (sg1 rfl rfl (sg1 rfl rfl rfl))))) ?_
    obtain ⟨q16, e_q16, hf⟩ := bnd hf
    refine Ex.callV (a := 67) (As := [.int (h.1 67 20), .int (h.1 67 21)]) (r := []) (v := some (.int q16.1)) (h' := q16.2) rfl rfl (by decide) rfl (Nat.le_of_ble_eq_true rfl) rfl (E_301 (Nat.le_trans (by decide) hd) e_q16) rfl ?_
    refine Ex.seg 1 (pc' := 22) (lc' := [some (.ref 67), some (.int x1), some (.int x2), some (.int x3), some (.long x4), none, none, none]) (st' := [.int (-1), .int q16.1]) (h' := q16.2) (sg1 rfl rfl rfl) ?_
    refine Ex.icmp rfl rfl (fun (c0 : ¬ (q16.1 = (-1))) => ?_) (fun (c0 : ¬ ¬ (q16.1 = (-1))) => ?_)
    · rw [if_neg c0] at hf
      exact Ex.weak (sm_le_s (sm_le_s (sm_le_s (sm_le_s (sm_le_s (sm_le_s (sm_le_s (sm_le_s sm_le_nil)))))))) (B_340_42 hd  hf hs)
    · rw [if_pos (Classical.not_not.mp c0)] at hf
      refine Ex.seg 3 (pc' := 32) (lc' := [some (.ref 67), some (.int x1), some (.int x2), some (.int x3), some (.long x4), none, none, none]) (st' := [.int 300, .int (q16.2.1 67 10)]) (h' := q16.2) (sg1 rfl rfl (sg1 rfl rfl (sg1 rfl rfl rfl))) ?_
      refine Ex.icmp rfl rfl (fun (c0 : ¬ ((q16.2.1 67 10) = 300)) => ?_) (fun (c0 : ¬ ¬ ((q16.2.1 67 10) = 300)) => ?_)
      · rw [if_neg c0] at hf
        exact Ex.weak (sm_le_s (sm_le_s (sm_le_s (sm_le_s (sm_le_s (sm_le_s (sm_le_s (sm_le_s sm_le_nil)))))))) (B_340_42 hd  hf hs)
      · rw [if_pos (Classical.not_not.mp c0)] at hf
        exact Ex.weak (sm_le_s (sm_le_n (sm_le_n (sm_le_n (sm_le_n (sm_le_s (sm_le_s (sm_le_s sm_le_nil)))))))) (B_340_35 hd  hf hs)
/-- HandleHouseModel.madeHandle(IIIJ)I -/
abbrev F_340 (x1 : Int32) (x2 : Int32) (x3 : Int32) (x4 : Int64) (h : sm_H) : Option (Int32 × sm_H) := F_340_0 x1 x2 x3 x4 h
theorem E_340 {L : Nat} {xs : Nat → Int32} {d : Nat} (hd : 3 ≤ d) {x1 : Int32} {x2 : Int32} {x3 : Int32} {x4 : Int64} {h : sm_H} {r : Int32 × sm_H} (hf : F_340 x1 x2 x3 x4 h = some r) : RUN L xs d 340 [.ref 67, .int x1, .int x2, .int x3, .long x4] h (some (.int r.1), r.2) := by
  obtain ⟨d, rfl⟩ : ∃ e, d = e + 1 := ⟨d - 1, by omega⟩
  exact ⟨Nat.le_of_ble_eq_true rfl, B_340_0 (by omega) hf rfl⟩
def F_342_0 (x1 : Int32) (x2 : Int64) (h : sm_H) : Option (sm_H) :=
  (stI h 108 6000 (h.1 67 59) x1).bind fun h1 =>
  (stJ h1 109 6000 (h1.1 67 59) x2).bind fun h2 =>
  (some (sm_wI h2 67 59 ((h2.1 67 59) + 1))).bind fun h3 =>
  some h3
theorem B_342_0 {L : Nat} {xs : Nat → Int32} {d : Nat} (hd : 0 ≤ d) {res : Option Value × sm_H} {x1 : Int32} {x2 : Int64}  {h : sm_H} {r : (sm_H)} (hf : F_342_0 x1 x2 h = some r) (hs : (fun (r : sm_H) => res = (none, r)) r) : Ex (P_G L xs) (RUN L xs d) (sm_lk P_t342) 0 0 [some (.ref 67), some (.int x1), some (.long x2), none] [] h res := by
  unfold F_342_0 at hf
  refine Ex.seg 5 (pc' := 9) (lc' := [some (.ref 67), some (.int x1), some (.long x2), none]) (st' := [.int x1, .int (h.1 67 59), .ref 108]) (h' := h) (sg1 rfl rfl (sg1 rfl rfl (sg1 rfl rfl (sg1 rfl rfl (sg1 rfl rfl rfl))))) ?_
  obtain ⟨h1, e_h1, hf⟩ := bnd hf
  refine Ex.iast e_h1 rfl rfl ?_
  refine Ex.seg 5 (pc' := 19) (lc' := [some (.ref 67), some (.int x1), some (.long x2), none]) (st' := [.long x2, .int (h1.1 67 59), .ref 109]) (h' := h1) (sg1 rfl rfl (sg1 rfl rfl (sg1 rfl rfl (sg1 rfl rfl (sg1 rfl rfl rfl))))) ?_
  obtain ⟨h2, e_h2, hf⟩ := bnd hf
  refine Ex.last e_h2 rfl rfl ?_
  refine Ex.seg 6 (pc' := 30) (lc' := [some (.ref 67), some (.int x1), some (.long x2), none]) (st' := []) (h' := (sm_wI h2 67 59 ((h2.1 67 59) + 1))) (sg1 rfl rfl (sg1 rfl rfl (sg1 rfl rfl (sg1 rfl rfl (sg1 rfl rfl (sg1 rfl rfl rfl)))))) ?_
  obtain ⟨h3, e_h3, hf⟩ := bnd hf
  rw [Option.some.inj e_h3]
  obtain rfl := Option.some.inj hf
  exact Ex.vret rfl rfl hs
/-- HandleHouseModel.push(IJ)V -/
abbrev F_342 (x1 : Int32) (x2 : Int64) (h : sm_H) : Option (sm_H) := F_342_0 x1 x2 h
theorem E_342 {L : Nat} {xs : Nat → Int32} {d : Nat} (hd : 1 ≤ d) {x1 : Int32} {x2 : Int64} {h : sm_H} {r : sm_H} (hf : F_342 x1 x2 h = some r) : RUN L xs d 342 [.ref 67, .int x1, .long x2] h (none, r) := by
  obtain ⟨d, rfl⟩ : ∃ e, d = e + 1 := ⟨d - 1, by omega⟩
  exact ⟨Nat.le_of_ble_eq_true rfl, B_342_0 (by omega) hf rfl⟩
def F_343_2B (s : (Int32 × Int32 × sm_H)) : Option ((Int32 × Int32 × sm_H) ⊕ (sm_H)) :=
  if s.1 ≤ s.2.1 then (some (.inr (s.2.2)))
  else ((ldI s.2.2 108 6000 s.2.1).bind fun v1 =>
  (ldJ s.2.2 109 6000 s.2.1).bind fun v2 =>
  (F_342 v1 v2 s.2.2).bind fun q3 =>
  (some (s.2.1 + 1 : Int32)).bind fun v4 =>
  some (.inl (s.1, v4, q3)))
theorem B_343_2B {L : Nat} {xs : Nat → Int32} {d : Nat} (hd : 1 ≤ d) {res : Option Value × sm_H} {S1 : (Int32 × Int32 × sm_H) → Prop} (hS1 : ∀ s, S1 s → Ex (P_G L xs) (RUN L xs d) (sm_lk P_t343) 0 2 [some (.ref 67), none, some (.int s.1), some (.int s.2.1)] [] s.2.2 res) {s : (Int32 × Int32 × sm_H)}  {r : ((Int32 × Int32 × sm_H) ⊕ (sm_H))} (hf : F_343_2B s = some r) (hs : (Sum.elim S1 (fun (r : sm_H) => res = (none, r))) r) : Ex (P_G L xs) (RUN L xs d) (sm_lk P_t343) 0 2 [some (.ref 67), none, some (.int s.1), some (.int s.2.1)] [] s.2.2 res := by
  unfold F_343_2B at hf
  refine Ex.seg 2 (pc' := 4) (lc' := [some (.ref 67), none, some (.int s.1), some (.int s.2.1)]) (st' := [.int s.1, .int s.2.1]) (h' := s.2.2) (sg1 rfl rfl (sg1 rfl rfl rfl)) ?_
  refine Ex.icmp rfl rfl (fun (c0 : s.1 ≤ s.2.1) => ?_) (fun (c0 : ¬ (s.1 ≤ s.2.1)) => ?_)
  · rw [if_pos c0] at hf
    obtain rfl := Option.some.inj hf
    exact Ex.vret rfl rfl hs
  · rw [if_neg c0] at hf
    refine Ex.seg 4 (pc' := 13) (lc' := [some (.ref 67), none, some (.int s.1), some (.int s.2.1)]) (st' := [.int s.2.1, .ref 108, .ref 67]) (h' := s.2.2) (sg1 rfl rfl (sg1 rfl rfl (sg1 rfl rfl (sg1 rfl rfl rfl)))) ?_
    obtain ⟨v1, e_v1, hf⟩ := bnd hf
    refine Ex.iald e_v1 rfl rfl ?_
    refine Ex.seg 3 (pc' := 19) (lc' := [some (.ref 67), none, some (.int s.1), some (.int s.2.1)]) (st' := [.int s.2.1, .ref 109, .int v1, .ref 67]) (h' := s.2.2) (sg1 rfl rfl (sg1 rfl rfl (sg1 rfl rfl rfl))) ?_
    obtain ⟨v2, e_v2, hf⟩ := bnd hf
    refine Ex.lald e_v2 rfl rfl ?_
    obtain ⟨q3, e_q3, hf⟩ := bnd hf
    refine Ex.callV (a := 67) (As := [.int v1, .long v2]) (r := []) (v := none) (h' := q3) rfl rfl (by decide) rfl (Nat.le_of_ble_eq_true rfl) rfl (E_342 (Nat.le_trans (by decide) hd) e_q3) rfl ?_
    refine Ex.seg 1 (pc' := 26) (lc' := [some (.ref 67), none, some (.int s.1), some (.int (s.2.1 + 1))]) (st' := []) (h' := q3) (sg1 rfl rfl rfl) ?_
    obtain ⟨v4, e_v4, hf⟩ := bnd hf
    rw [Option.some.inj e_v4]
    refine Ex.seg 1 (pc' := 2) (lc' := [some (.ref 67), none, some (.int s.1), some (.int v4)]) (st' := []) (h' := q3) (sg1 rfl rfl rfl) ?_
    obtain rfl := Option.some.inj hf
    exact Ex.weak (sm_le_s (sm_le_s (sm_le_s (sm_le_s sm_le_nil)))) (hS1 _ hs)
def F_343_2 (y2 : Int32) (y3 : Int32) (h : sm_H) : Option (sm_H) := lp F_343_2B 1000000 (y2, y3, h)
theorem B_343_2 {L : Nat} {xs : Nat → Int32} {d : Nat} (hd : 1 ≤ d) {res : Option Value × sm_H} {y2 : Int32} {y3 : Int32}  {h : sm_H} {r : (sm_H)} (hf : F_343_2 y2 y3 h = some r) (hs : (fun (r : sm_H) => res = (none, r)) r) : Ex (P_G L xs) (RUN L xs d) (sm_lk P_t343) 0 2 [some (.ref 67), none, some (.int y2), some (.int y3)] [] h res := by
  unfold F_343_2 at hf
  exact lp_ok (P := fun (s : (Int32 × Int32 × sm_H)) => Ex (P_G L xs) (RUN L xs d) (sm_lk P_t343) 0 2 [some (.ref 67), none, some (.int s.1), some (.int s.2.1)] [] s.2.2 res) (S := (fun (r : sm_H) => res = (none, r))) (fun s x hx hsx => by
    intros
    exact B_343_2B hd  (fun _ q => q) hx hsx) 1000000 _ r hf hs
def F_343_0 (x1 : Int32) (x2 : Int32) (h : sm_H) : Option (sm_H) :=
  F_343_2 x2 x1 h
theorem B_343_0 {L : Nat} {xs : Nat → Int32} {d : Nat} (hd : 1 ≤ d) {res : Option Value × sm_H} {x1 : Int32} {x2 : Int32}  {h : sm_H} {r : (sm_H)} (hf : F_343_0 x1 x2 h = some r) (hs : (fun (r : sm_H) => res = (none, r)) r) : Ex (P_G L xs) (RUN L xs d) (sm_lk P_t343) 0 0 [some (.ref 67), some (.int x1), some (.int x2), none] [] h res := by
  unfold F_343_0 at hf
  refine Ex.seg 2 (pc' := 2) (lc' := [some (.ref 67), some (.int x1), some (.int x2), some (.int x1)]) (st' := []) (h' := h) (sg1 rfl rfl (sg1 rfl rfl rfl)) ?_
  exact Ex.weak (sm_le_s (sm_le_n (sm_le_s (sm_le_s sm_le_nil)))) (B_343_2 hd  hf hs)
/-- HandleHouseModel.again(II)V -/
abbrev F_343 (x1 : Int32) (x2 : Int32) (h : sm_H) : Option (sm_H) := F_343_0 x1 x2 h
theorem E_343 {L : Nat} {xs : Nat → Int32} {d : Nat} (hd : 2 ≤ d) {x1 : Int32} {x2 : Int32} {h : sm_H} {r : sm_H} (hf : F_343 x1 x2 h = some r) : RUN L xs d 343 [.ref 67, .int x1, .int x2] h (none, r) := by
  obtain ⟨d, rfl⟩ : ∃ e, d = e + 1 := ⟨d - 1, by omega⟩
  exact ⟨Nat.le_of_ble_eq_true rfl, B_343_0 (by omega) hf rfl⟩
def F_344_0 (x1 : Int32) (h : sm_H) : Option (sm_H) :=
  (some (sm_wI h 67 63 0)).bind fun h1 =>
  if (h1.1 67 56) = 100 then ((some (sm_wI h1 67 64 3)).bind fun h9 =>
  some h9)
  else (if (h1.1 67 66) = (h1.1 67 65) then ((some (sm_wI h1 67 64 2)).bind fun h8 =>
  some h8)
  else ((some (sm_wI h1 67 66 ((h1.1 67 66) + 1))).bind fun h2 =>
  (stI h2 103 100 (h2.1 67 56) x1).bind fun h3 =>
  (stI h3 104 100 (h3.1 67 56) 0).bind fun h4 =>
  (F_305 x1 h4).bind fun q5 =>
  (stI q5.2 105 100 (h4.1 67 56) ((h4.1 67 59) - q5.1)).bind fun h6 =>
  (some (sm_wI h6 67 56 ((h6.1 67 56) + 1))).bind fun h7 =>
  some h7))
theorem B_344_0 {L : Nat} {xs : Nat → Int32} {d : Nat} (hd : 1 ≤ d) {res : Option Value × sm_H} {x1 : Int32}  {h : sm_H} {r : (sm_H)} (hf : F_344_0 x1 h = some r) (hs : (fun (r : sm_H) => res = (none, r)) r) : Ex (P_G L xs) (RUN L xs d) (sm_lk P_t344) 0 0 [some (.ref 67), some (.int x1)] [] h res := by
  unfold F_344_0 at hf
  refine Ex.seg 3 (pc' := 5) (lc' := [some (.ref 67), some (.int x1)]) (st' := []) (h' := (sm_wI h 67 63 0)) (sg1 rfl rfl (sg1 rfl rfl (sg1 rfl rfl rfl))) ?_
  obtain ⟨h1, e_h1, hf⟩ := bnd hf
  rw [Option.some.inj e_h1]
  refine Ex.seg 3 (pc' := 11) (lc' := [some (.ref 67), some (.int x1)]) (st' := [.int 100, .int (h1.1 67 56)]) (h' := h1) (sg1 rfl rfl (sg1 rfl rfl (sg1 rfl rfl rfl))) ?_
  refine Ex.icmp rfl rfl (fun (c0 : ¬ ((h1.1 67 56) = 100)) => ?_) (fun (c0 : ¬ ¬ ((h1.1 67 56) = 100)) => ?_)
  · rw [if_neg c0] at hf
    refine Ex.seg 4 (pc' := 28) (lc' := [some (.ref 67), some (.int x1)]) (st' := [.int (h1.1 67 65), .int (h1.1 67 66)]) (h' := h1) (sg1 rfl rfl (sg1 rfl rfl (sg1 rfl rfl (sg1 rfl rfl rfl)))) ?_
    refine Ex.icmp rfl rfl (fun (c0 : ¬ ((h1.1 67 66) = (h1.1 67 65))) => ?_) (fun (c0 : ¬ ¬ ((h1.1 67 66) = (h1.1 67 65))) => ?_)
    · rw [if_neg c0] at hf
      refine Ex.seg 6 (pc' := 47) (lc' := [some (.ref 67), some (.int x1)]) (st' := []) (h' := (sm_wI h1 67 66 ((h1.1 67 66) + 1))) (sg1 rfl rfl (sg1 rfl rfl (sg1 rfl rfl (sg1 rfl rfl (sg1 rfl rfl (sg1 rfl rfl rfl)))))) ?_
      obtain ⟨h2, e_h2, hf⟩ := bnd hf
      rw [Option.some.inj e_h2]
      refine Ex.seg 5 (pc' := 56) (lc' := [some (.ref 67), some (.int x1)]) (st' := [.int x1, .int (h2.1 67 56), .ref 103]) (h' := h2) (sg1 rfl rfl (sg1 rfl rfl (sg1 rfl rfl (sg1 rfl rfl (sg1 rfl rfl rfl))))) ?_
      obtain ⟨h3, e_h3, hf⟩ := bnd hf
      refine Ex.iast e_h3 rfl rfl ?_
      refine Ex.seg 5 (pc' := 66) (lc' := [some (.ref 67), some (.int x1)]) (st' := [.int 0, .int (h3.1 67 56), .ref 104]) (h' := h3) (sg1 rfl rfl (sg1 rfl rfl (sg1 rfl rfl (sg1 rfl rfl (sg1 rfl rfl rfl))))) ?_
      obtain ⟨h4, e_h4, hf⟩ := bnd hf
      refine Ex.iast e_h4 rfl rfl ?_
      refine Ex.seg 8 (pc' := 81) (lc' := [some (.ref 67), some (.int x1)]) (st' := [.int x1, .ref 67, .int (h4.1 67 59), .int (h4.1 67 56), .ref 105]) (h' := h4) (sg1 rfl rfl (sg1 rfl rfl (sg1 rfl rfl (sg1 rfl rfl (sg1 rfl rfl (sg1 rfl rfl (sg1 rfl rfl (sg1 rfl rfl rfl)))))))) ?_
      obtain ⟨q5, e_q5, hf⟩ := bnd hf
      refine Ex.callV (a := 67) (As := [.int x1]) (r := [.int (h4.1 67 59), .int (h4.1 67 56), .ref 105]) (v := some (.int q5.1)) (h' := q5.2) rfl rfl (by decide) rfl (Nat.le_of_ble_eq_true rfl) rfl (E_305 (Nat.le_trans (by decide) hd) e_q5) rfl ?_
      refine Ex.seg 1 (pc' := 85) (lc' := [some (.ref 67), some (.int x1)]) (st' := [.int ((h4.1 67 59) - q5.1), .int (h4.1 67 56), .ref 105]) (h' := q5.2) (sg1 rfl rfl rfl) ?_
      obtain ⟨h6, e_h6, hf⟩ := bnd hf
      refine Ex.iast e_h6 rfl rfl ?_
      refine Ex.seg 6 (pc' := 96) (lc' := [some (.ref 67), some (.int x1)]) (st' := []) (h' := (sm_wI h6 67 56 ((h6.1 67 56) + 1))) (sg1 rfl rfl (sg1 rfl rfl (sg1 rfl rfl (sg1 rfl rfl (sg1 rfl rfl (sg1 rfl rfl rfl)))))) ?_
      obtain ⟨h7, e_h7, hf⟩ := bnd hf
      rw [Option.some.inj e_h7]
      obtain rfl := Option.some.inj hf
      exact Ex.vret rfl rfl hs
    · rw [if_pos (Classical.not_not.mp c0)] at hf
      refine Ex.seg 3 (pc' := 36) (lc' := [some (.ref 67), some (.int x1)]) (st' := []) (h' := (sm_wI h1 67 64 2)) (sg1 rfl rfl (sg1 rfl rfl (sg1 rfl rfl rfl))) ?_
      obtain ⟨h8, e_h8, hf⟩ := bnd hf
      rw [Option.some.inj e_h8]
      obtain rfl := Option.some.inj hf
      exact Ex.vret rfl rfl hs
  · rw [if_pos (Classical.not_not.mp c0)] at hf
    refine Ex.seg 3 (pc' := 19) (lc' := [some (.ref 67), some (.int x1)]) (st' := []) (h' := (sm_wI h1 67 64 3)) (sg1 rfl rfl (sg1 rfl rfl (sg1 rfl rfl rfl))) ?_
    obtain ⟨h9, e_h9, hf⟩ := bnd hf
    rw [Option.some.inj e_h9]
    obtain rfl := Option.some.inj hf
    exact Ex.vret rfl rfl hs
/-- HandleHouseModel.begin(I)V -/
abbrev F_344 (x1 : Int32) (h : sm_H) : Option (sm_H) := F_344_0 x1 h
theorem E_344 {L : Nat} {xs : Nat → Int32} {d : Nat} (hd : 2 ≤ d) {x1 : Int32} {h : sm_H} {r : sm_H} (hf : F_344 x1 h = some r) : RUN L xs d 344 [.ref 67, .int x1] h (none, r) := by
  obtain ⟨d, rfl⟩ : ∃ e, d = e + 1 := ⟨d - 1, by omega⟩
  exact ⟨Nat.le_of_ble_eq_true rfl, B_344_0 (by omega) hf rfl⟩
def F_345_0 (x1 : Int32) (x2 : Int64) (h : sm_H) : Option (sm_H) :=
  (some (sm_wI h 67 56 ((h.1 67 56) - 1))).bind fun h1 =>
  (ldI h1 105 100 (h1.1 67 56)).bind fun v2 =>
  (some (sm_wI h1 67 59 v2)).bind fun h3 =>
  (some (sm_wI h3 67 60 x1)).bind fun h4 =>
  (some (sm_wJ h4 67 61 x2)).bind fun h5 =>
  (some (sm_wI h5 67 62 0)).bind fun h6 =>
  (some (sm_wI h6 67 63 1)).bind fun h7 =>
  some h7
theorem B_345_0 {L : Nat} {xs : Nat → Int32} {d : Nat} (hd : 0 ≤ d) {res : Option Value × sm_H} {x1 : Int32} {x2 : Int64}  {h : sm_H} {r : (sm_H)} (hf : F_345_0 x1 x2 h = some r) (hs : (fun (r : sm_H) => res = (none, r)) r) : Ex (P_G L xs) (RUN L xs d) (sm_lk P_t345) 0 0 [some (.ref 67), some (.int x1), some (.long x2), none] [] h res := by
  unfold F_345_0 at hf
  refine Ex.seg 6 (pc' := 10) (lc' := [some (.ref 67), some (.int x1), some (.long x2), none]) (st' := []) (h' := (sm_wI h 67 56 ((h.1 67 56) - 1))) (sg1 rfl rfl (sg1 rfl rfl (sg1 rfl rfl (sg1 rfl rfl (sg1 rfl rfl (sg1 rfl rfl rfl)))))) ?_
  obtain ⟨h1, e_h1, hf⟩ := bnd hf
  rw [Option.some.inj e_h1]
  refine Ex.seg 5 (pc' := 19) (lc' := [some (.ref 67), some (.int x1), some (.long x2), none]) (st' := [.int (h1.1 67 56), .ref 105, .ref 67]) (h' := h1) (sg1 rfl rfl (sg1 rfl rfl (sg1 rfl rfl (sg1 rfl rfl (sg1 rfl rfl rfl))))) ?_
  obtain ⟨v2, e_v2, hf⟩ := bnd hf
  refine Ex.iald e_v2 rfl rfl ?_
  refine Ex.seg 1 (pc' := 23) (lc' := [some (.ref 67), some (.int x1), some (.long x2), none]) (st' := []) (h' := (sm_wI h1 67 59 v2)) (sg1 rfl rfl rfl) ?_
  obtain ⟨h3, e_h3, hf⟩ := bnd hf
  rw [Option.some.inj e_h3]
  refine Ex.seg 3 (pc' := 28) (lc' := [some (.ref 67), some (.int x1), some (.long x2), none]) (st' := []) (h' := (sm_wI h3 67 60 x1)) (sg1 rfl rfl (sg1 rfl rfl (sg1 rfl rfl rfl))) ?_
  obtain ⟨h4, e_h4, hf⟩ := bnd hf
  rw [Option.some.inj e_h4]
  refine Ex.seg 3 (pc' := 33) (lc' := [some (.ref 67), some (.int x1), some (.long x2), none]) (st' := []) (h' := (sm_wJ h4 67 61 x2)) (sg1 rfl rfl (sg1 rfl rfl (sg1 rfl rfl rfl))) ?_
  obtain ⟨h5, e_h5, hf⟩ := bnd hf
  rw [Option.some.inj e_h5]
  refine Ex.seg 3 (pc' := 38) (lc' := [some (.ref 67), some (.int x1), some (.long x2), none]) (st' := []) (h' := (sm_wI h5 67 62 0)) (sg1 rfl rfl (sg1 rfl rfl (sg1 rfl rfl rfl))) ?_
  obtain ⟨h6, e_h6, hf⟩ := bnd hf
  rw [Option.some.inj e_h6]
  refine Ex.seg 3 (pc' := 43) (lc' := [some (.ref 67), some (.int x1), some (.long x2), none]) (st' := []) (h' := (sm_wI h6 67 63 1)) (sg1 rfl rfl (sg1 rfl rfl (sg1 rfl rfl rfl))) ?_
  obtain ⟨h7, e_h7, hf⟩ := bnd hf
  rw [Option.some.inj e_h7]
  obtain rfl := Option.some.inj hf
  exact Ex.vret rfl rfl hs
/-- HandleHouseModel.end0(IJ)V -/
abbrev F_345 (x1 : Int32) (x2 : Int64) (h : sm_H) : Option (sm_H) := F_345_0 x1 x2 h
theorem E_345 {L : Nat} {xs : Nat → Int32} {d : Nat} (hd : 1 ≤ d) {x1 : Int32} {x2 : Int64} {h : sm_H} {r : sm_H} (hf : F_345 x1 x2 h = some r) : RUN L xs d 345 [.ref 67, .int x1, .long x2] h (none, r) := by
  obtain ⟨d, rfl⟩ : ∃ e, d = e + 1 := ⟨d - 1, by omega⟩
  exact ⟨Nat.le_of_ble_eq_true rfl, B_345_0 (by omega) hf rfl⟩
def F_346_0 (x1 : Int32) (h : sm_H) : Option (sm_H) :=
  (F_299 x1 h).bind fun q1 =>
  (F_345 (q1.1 67 48) (q1.2.1 67 49) q1).bind fun q2 =>
  some q2
theorem B_346_0 {L : Nat} {xs : Nat → Int32} {d : Nat} (hd : 2 ≤ d) {res : Option Value × sm_H} {x1 : Int32}  {h : sm_H} {r : (sm_H)} (hf : F_346_0 x1 h = some r) (hs : (fun (r : sm_H) => res = (none, r)) r) : Ex (P_G L xs) (RUN L xs d) (sm_lk P_t346) 0 0 [some (.ref 67), some (.int x1)] [] h res := by
  unfold F_346_0 at hf
  refine Ex.seg 2 (pc' := 2) (lc' := [some (.ref 67), some (.int x1)]) (st' := [.int x1, .ref 67]) (h' := h) (sg1 rfl rfl (sg1 rfl rfl rfl)) ?_
  obtain ⟨q1, e_q1, hf⟩ := bnd hf
  refine Ex.callV (a := 67) (As := [.int x1]) (r := []) (v := none) (h' := q1) rfl rfl (by decide) rfl (Nat.le_of_ble_eq_true rfl) rfl (E_299 (Nat.le_trans (by decide) hd) e_q1) rfl ?_
  refine Ex.seg 5 (pc' := 14) (lc' := [some (.ref 67), some (.int x1)]) (st' := [.long (q1.2.1 67 49), .int (q1.1 67 48), .ref 67]) (h' := q1) (sg1 rfl rfl (sg1 rfl rfl (sg1 rfl rfl (sg1 rfl rfl (sg1 rfl rfl rfl))))) ?_
  obtain ⟨q2, e_q2, hf⟩ := bnd hf
  refine Ex.callV (a := 67) (As := [.int (q1.1 67 48), .long (q1.2.1 67 49)]) (r := []) (v := none) (h' := q2) rfl rfl (by decide) rfl (Nat.le_of_ble_eq_true rfl) rfl (E_345 (Nat.le_trans (by decide) hd) e_q2) rfl ?_
  obtain rfl := Option.some.inj hf
  exact Ex.vret rfl rfl hs
/-- HandleHouseModel.endZero(I)V -/
abbrev F_346 (x1 : Int32) (h : sm_H) : Option (sm_H) := F_346_0 x1 h
theorem E_346 {L : Nat} {xs : Nat → Int32} {d : Nat} (hd : 3 ≤ d) {x1 : Int32} {h : sm_H} {r : sm_H} (hf : F_346 x1 h = some r) : RUN L xs d 346 [.ref 67, .int x1] h (none, r) := by
  obtain ⟨d, rfl⟩ : ∃ e, d = e + 1 := ⟨d - 1, by omega⟩
  exact ⟨Nat.le_of_ble_eq_true rfl, B_346_0 (by omega) hf rfl⟩
def F_347_0 (x1 : Int32) (x2 : Int64) (h : sm_H) : Option (sm_H) :=
  (F_345 x1 x2 h).bind fun q1 =>
  (some (sm_wI q1 67 62 1)).bind fun h2 =>
  some h2
theorem B_347_0 {L : Nat} {xs : Nat → Int32} {d : Nat} (hd : 1 ≤ d) {res : Option Value × sm_H} {x1 : Int32} {x2 : Int64}  {h : sm_H} {r : (sm_H)} (hf : F_347_0 x1 x2 h = some r) (hs : (fun (r : sm_H) => res = (none, r)) r) : Ex (P_G L xs) (RUN L xs d) (sm_lk P_t347) 0 0 [some (.ref 67), some (.int x1), some (.long x2), none] [] h res := by
  unfold F_347_0 at hf
  refine Ex.seg 3 (pc' := 3) (lc' := [some (.ref 67), some (.int x1), some (.long x2), none]) (st' := [.long x2, .int x1, .ref 67]) (h' := h) (sg1 rfl rfl (sg1 rfl rfl (sg1 rfl rfl rfl))) ?_
  obtain ⟨q1, e_q1, hf⟩ := bnd hf
  refine Ex.callV (a := 67) (As := [.int x1, .long x2]) (r := []) (v := none) (h' := q1) rfl rfl (by decide) rfl (Nat.le_of_ble_eq_true rfl) rfl (E_345 (Nat.le_trans (by decide) hd) e_q1) rfl ?_
  refine Ex.seg 3 (pc' := 11) (lc' := [some (.ref 67), some (.int x1), some (.long x2), none]) (st' := []) (h' := (sm_wI q1 67 62 1)) (sg1 rfl rfl (sg1 rfl rfl (sg1 rfl rfl rfl))) ?_
  obtain ⟨h2, e_h2, hf⟩ := bnd hf
  rw [Option.some.inj e_h2]
  obtain rfl := Option.some.inj hf
  exact Ex.vret rfl rfl hs
/-- HandleHouseModel.throws0(IJ)V -/
abbrev F_347 (x1 : Int32) (x2 : Int64) (h : sm_H) : Option (sm_H) := F_347_0 x1 x2 h
theorem E_347 {L : Nat} {xs : Nat → Int32} {d : Nat} (hd : 2 ≤ d) {x1 : Int32} {x2 : Int64} {h : sm_H} {r : sm_H} (hf : F_347 x1 x2 h = some r) : RUN L xs d 347 [.ref 67, .int x1, .long x2] h (none, r) := by
  obtain ⟨d, rfl⟩ : ∃ e, d = e + 1 := ⟨d - 1, by omega⟩
  exact ⟨Nat.le_of_ble_eq_true rfl, B_347_0 (by omega) hf rfl⟩
def F_348_0 (x1 : Int32) (h : sm_H) : Option (sm_H) :=
  (F_347 19 (Int32.toInt64 x1) h).bind fun q1 =>
  some q1
theorem B_348_0 {L : Nat} {xs : Nat → Int32} {d : Nat} (hd : 2 ≤ d) {res : Option Value × sm_H} {x1 : Int32}  {h : sm_H} {r : (sm_H)} (hf : F_348_0 x1 h = some r) (hs : (fun (r : sm_H) => res = (none, r)) r) : Ex (P_G L xs) (RUN L xs d) (sm_lk P_t348) 0 0 [some (.ref 67), some (.int x1)] [] h res := by
  unfold F_348_0 at hf
  refine Ex.seg 4 (pc' := 5) (lc' := [some (.ref 67), some (.int x1)]) (st' := [.long (Int32.toInt64 x1), .int 19, .ref 67]) (h' := h) (sg1 rfl rfl (sg1 rfl rfl (sg1 rfl rfl (sg1 rfl rfl rfl)))) ?_
  obtain ⟨q1, e_q1, hf⟩ := bnd hf
  refine Ex.callV (a := 67) (As := [.int 19, .long (Int32.toInt64 x1)]) (r := []) (v := none) (h' := q1) rfl rfl (by decide) rfl (Nat.le_of_ble_eq_true rfl) rfl (E_347 (Nat.le_trans (by decide) hd) e_q1) rfl ?_
  obtain rfl := Option.some.inj hf
  exact Ex.vret rfl rfl hs
/-- HandleHouseModel.error(I)V -/
abbrev F_348 (x1 : Int32) (h : sm_H) : Option (sm_H) := F_348_0 x1 h
theorem E_348 {L : Nat} {xs : Nat → Int32} {d : Nat} (hd : 3 ≤ d) {x1 : Int32} {h : sm_H} {r : sm_H} (hf : F_348 x1 h = some r) : RUN L xs d 348 [.ref 67, .int x1] h (none, r) := by
  obtain ⟨d, rfl⟩ : ∃ e, d = e + 1 := ⟨d - 1, by omega⟩
  exact ⟨Nat.le_of_ble_eq_true rfl, B_348_0 (by omega) hf rfl⟩
def F_349_0 (x1 : Int32) (h : sm_H) : Option (sm_H) :=
  (stI h 104 100 ((h.1 67 56) - 1) 90).bind fun h1 =>
  (F_344 x1 h1).bind fun q2 =>
  some q2
theorem B_349_0 {L : Nat} {xs : Nat → Int32} {d : Nat} (hd : 2 ≤ d) {res : Option Value × sm_H} {x1 : Int32}  {h : sm_H} {r : (sm_H)} (hf : F_349_0 x1 h = some r) (hs : (fun (r : sm_H) => res = (none, r)) r) : Ex (P_G L xs) (RUN L xs d) (sm_lk P_t349) 0 0 [some (.ref 67), some (.int x1)] [] h res := by
  unfold F_349_0 at hf
  refine Ex.seg 7 (pc' := 12) (lc' := [some (.ref 67), some (.int x1)]) (st' := [.int 90, .int ((h.1 67 56) - 1), .ref 104]) (h' := h) (sg1 rfl rfl (sg1 rfl rfl (sg1 rfl rfl (sg1 rfl rfl (sg1 rfl rfl (sg1 rfl rfl (sg1 rfl rfl rfl))))))) ?_
  obtain ⟨h1, e_h1, hf⟩ := bnd hf
  refine Ex.iast e_h1 rfl rfl ?_
  refine Ex.seg 2 (pc' := 15) (lc' := [some (.ref 67), some (.int x1)]) (st' := [.int x1, .ref 67]) (h' := h1) (sg1 rfl rfl (sg1 rfl rfl rfl)) ?_
  obtain ⟨q2, e_q2, hf⟩ := bnd hf
  refine Ex.callV (a := 67) (As := [.int x1]) (r := []) (v := none) (h' := q2) rfl rfl (by decide) rfl (Nat.le_of_ble_eq_true rfl) rfl (E_344 (Nat.le_trans (by decide) hd) e_q2) rfl ?_
  obtain rfl := Option.some.inj hf
  exact Ex.vret rfl rfl hs
/-- HandleHouseModel.last(I)V -/
abbrev F_349 (x1 : Int32) (h : sm_H) : Option (sm_H) := F_349_0 x1 h
theorem E_349 {L : Nat} {xs : Nat → Int32} {d : Nat} (hd : 3 ≤ d) {x1 : Int32} {h : sm_H} {r : sm_H} (hf : F_349 x1 h = some r) : RUN L xs d 349 [.ref 67, .int x1] h (none, r) := by
  obtain ⟨d, rfl⟩ : ∃ e, d = e + 1 := ⟨d - 1, by omega⟩
  exact ⟨Nat.le_of_ble_eq_true rfl, B_349_0 (by omega) hf rfl⟩
def F_350_0 (x1 : Int32) (x2 : Int32) (h : sm_H) : Option (sm_H) :=
  (stI h 104 100 ((h.1 67 56) - 1) x2).bind fun h1 =>
  (F_344 x1 h1).bind fun q2 =>
  some q2
theorem B_350_0 {L : Nat} {xs : Nat → Int32} {d : Nat} (hd : 2 ≤ d) {res : Option Value × sm_H} {x1 : Int32} {x2 : Int32}  {h : sm_H} {r : (sm_H)} (hf : F_350_0 x1 x2 h = some r) (hs : (fun (r : sm_H) => res = (none, r)) r) : Ex (P_G L xs) (RUN L xs d) (sm_lk P_t350) 0 0 [some (.ref 67), some (.int x1), some (.int x2)] [] h res := by
  unfold F_350_0 at hf
  refine Ex.seg 7 (pc' := 11) (lc' := [some (.ref 67), some (.int x1), some (.int x2)]) (st' := [.int x2, .int ((h.1 67 56) - 1), .ref 104]) (h' := h) (sg1 rfl rfl (sg1 rfl rfl (sg1 rfl rfl (sg1 rfl rfl (sg1 rfl rfl (sg1 rfl rfl (sg1 rfl rfl rfl))))))) ?_
  obtain ⟨h1, e_h1, hf⟩ := bnd hf
  refine Ex.iast e_h1 rfl rfl ?_
  refine Ex.seg 2 (pc' := 14) (lc' := [some (.ref 67), some (.int x1), some (.int x2)]) (st' := [.int x1, .ref 67]) (h' := h1) (sg1 rfl rfl (sg1 rfl rfl rfl)) ?_
  obtain ⟨q2, e_q2, hf⟩ := bnd hf
  refine Ex.callV (a := 67) (As := [.int x1]) (r := []) (v := none) (h' := q2) rfl rfl (by decide) rfl (Nat.le_of_ble_eq_true rfl) rfl (E_344 (Nat.le_trans (by decide) hd) e_q2) rfl ?_
  obtain rfl := Option.some.inj hf
  exact Ex.vret rfl rfl hs
/-- HandleHouseModel.ahead(II)V -/
abbrev F_350 (x1 : Int32) (x2 : Int32) (h : sm_H) : Option (sm_H) := F_350_0 x1 x2 h
theorem E_350 {L : Nat} {xs : Nat → Int32} {d : Nat} (hd : 3 ≤ d) {x1 : Int32} {x2 : Int32} {h : sm_H} {r : sm_H} (hf : F_350 x1 x2 h = some r) : RUN L xs d 350 [.ref 67, .int x1, .int x2] h (none, r) := by
  obtain ⟨d, rfl⟩ : ∃ e, d = e + 1 := ⟨d - 1, by omega⟩
  exact ⟨Nat.le_of_ble_eq_true rfl, B_350_0 (by omega) hf rfl⟩
def F_351_0 (x1 : Int32) (h : sm_H) : Option (Int32 × sm_H) :=
  (ldI h 105 100 ((h.1 67 56) - 1)).bind fun v1 =>
  (ldI h 108 6000 (v1 + x1)).bind fun v2 =>
  some (v2, h)
theorem B_351_0 {L : Nat} {xs : Nat → Int32} {d : Nat} (hd : 0 ≤ d) {res : Option Value × sm_H} {x1 : Int32}  {h : sm_H} {r : (Int32 × sm_H)} (hf : F_351_0 x1 h = some r) (hs : (fun (r : Int32 × sm_H) => res = (some (.int r.1), r.2)) r) : Ex (P_G L xs) (RUN L xs d) (sm_lk P_t351) 0 0 [some (.ref 67), some (.int x1)] [] h res := by
  unfold F_351_0 at hf
  refine Ex.seg 8 (pc' := 14) (lc' := [some (.ref 67), some (.int x1)]) (st' := [.int ((h.1 67 56) - 1), .ref 105, .ref 108]) (h' := h) (sg1 rfl rfl (sg1 rfl rfl (sg1 rfl rfl (sg1 rfl rfl (sg1 rfl rfl (sg1 rfl rfl (sg1 rfl rfl (sg1 rfl rfl rfl)))))))) ?_
  obtain ⟨v1, e_v1, hf⟩ := bnd hf
  refine Ex.iald e_v1 rfl rfl ?_
  refine Ex.seg 2 (pc' := 17) (lc' := [some (.ref 67), some (.int x1)]) (st' := [.int (v1 + x1), .ref 108]) (h' := h) (sg1 rfl rfl (sg1 rfl rfl rfl)) ?_
  obtain ⟨v2, e_v2, hf⟩ := bnd hf
  refine Ex.iald e_v2 rfl rfl ?_
  obtain rfl := Option.some.inj hf
  exact Ex.iret rfl rfl (fun c0 => by cases c0) hs
/-- HandleHouseModel.kindAt(I)I -/
abbrev F_351 (x1 : Int32) (h : sm_H) : Option (Int32 × sm_H) := F_351_0 x1 h
theorem E_351 {L : Nat} {xs : Nat → Int32} {d : Nat} (hd : 1 ≤ d) {x1 : Int32} {h : sm_H} {r : Int32 × sm_H} (hf : F_351 x1 h = some r) : RUN L xs d 351 [.ref 67, .int x1] h (some (.int r.1), r.2) := by
  obtain ⟨d, rfl⟩ : ∃ e, d = e + 1 := ⟨d - 1, by omega⟩
  exact ⟨Nat.le_of_ble_eq_true rfl, B_351_0 (by omega) hf rfl⟩
def F_352_0 (x1 : Int32) (h : sm_H) : Option (Int64 × sm_H) :=
  (ldI h 105 100 ((h.1 67 56) - 1)).bind fun v1 =>
  (ldJ h 109 6000 (v1 + x1)).bind fun v2 =>
  some (v2, h)
theorem B_352_0 {L : Nat} {xs : Nat → Int32} {d : Nat} (hd : 0 ≤ d) {res : Option Value × sm_H} {x1 : Int32}  {h : sm_H} {r : (Int64 × sm_H)} (hf : F_352_0 x1 h = some r) (hs : (fun (r : Int64 × sm_H) => res = (some (.long r.1), r.2)) r) : Ex (P_G L xs) (RUN L xs d) (sm_lk P_t352) 0 0 [some (.ref 67), some (.int x1)] [] h res := by
  unfold F_352_0 at hf
  refine Ex.seg 8 (pc' := 14) (lc' := [some (.ref 67), some (.int x1)]) (st' := [.int ((h.1 67 56) - 1), .ref 105, .ref 109]) (h' := h) (sg1 rfl rfl (sg1 rfl rfl (sg1 rfl rfl (sg1 rfl rfl (sg1 rfl rfl (sg1 rfl rfl (sg1 rfl rfl (sg1 rfl rfl rfl)))))))) ?_
  obtain ⟨v1, e_v1, hf⟩ := bnd hf
  refine Ex.iald e_v1 rfl rfl ?_
  refine Ex.seg 2 (pc' := 17) (lc' := [some (.ref 67), some (.int x1)]) (st' := [.int (v1 + x1), .ref 109]) (h' := h) (sg1 rfl rfl (sg1 rfl rfl rfl)) ?_
  obtain ⟨v2, e_v2, hf⟩ := bnd hf
  refine Ex.lald e_v2 rfl rfl ?_
  obtain rfl := Option.some.inj hf
  exact Ex.lret rfl rfl hs
/-- HandleHouseModel.numberAt(I)J -/
abbrev F_352 (x1 : Int32) (h : sm_H) : Option (Int64 × sm_H) := F_352_0 x1 h
theorem E_352 {L : Nat} {xs : Nat → Int32} {d : Nat} (hd : 1 ≤ d) {x1 : Int32} {h : sm_H} {r : Int64 × sm_H} (hf : F_352 x1 h = some r) : RUN L xs d 352 [.ref 67, .int x1] h (some (.long r.1), r.2) := by
  obtain ⟨d, rfl⟩ : ∃ e, d = e + 1 := ⟨d - 1, by omega⟩
  exact ⟨Nat.le_of_ble_eq_true rfl, B_352_0 (by omega) hf rfl⟩
def F_353_59  (h : sm_H) : Option (sm_H) :=
  some h
theorem B_353_59 {L : Nat} {xs : Nat → Int32} {d : Nat} (hd : 2 ≤ d) {res : Option Value × sm_H}   {h : sm_H} {r : (sm_H)} (hf : F_353_59  h = some r) (hs : (fun (r : sm_H) => res = (none, r)) r) : Ex (P_G L xs) (RUN L xs d) (sm_lk P_t353) 0 59 [none, none, none, none] [] h res := by
  unfold F_353_59 at hf
  obtain rfl := Option.some.inj hf
  exact Ex.vret rfl rfl hs
def F_353_0 (x1 : Int32) (x2 : Int64) (h : sm_H) : Option (sm_H) :=
  (F_290 x1 h).bind fun q1 =>
  if q1.1 = 0 then (if (lg_cmp x2 (-1)) = 0 then ((F_299 7 q1.2).bind fun q6 =>
  F_353_59 q6)
  else ((ldI q1.2 94 100 (Int64.toInt32 x2)).bind fun v2 =>
  (some (sm_wI q1.2 67 48 v2)).bind fun h3 =>
  (ldJ h3 95 100 (Int64.toInt32 x2)).bind fun v4 =>
  (some (sm_wJ h3 67 49 v4)).bind fun h5 =>
  F_353_59 h5))
  else ((some (sm_wI q1.2 67 48 x1)).bind fun h7 =>
  (some (sm_wJ h7 67 49 x2)).bind fun h8 =>
  F_353_59 h8)
theorem B_353_0 {L : Nat} {xs : Nat → Int32} {d : Nat} (hd : 2 ≤ d) {res : Option Value × sm_H} {x1 : Int32} {x2 : Int64}  {h : sm_H} {r : (sm_H)} (hf : F_353_0 x1 x2 h = some r) (hs : (fun (r : sm_H) => res = (none, r)) r) : Ex (P_G L xs) (RUN L xs d) (sm_lk P_t353) 0 0 [some (.ref 67), some (.int x1), some (.long x2), none] [] h res := by
  unfold F_353_0 at hf
  refine Ex.seg 1 (pc' := 1) (lc' := [some (.ref 67), some (.int x1), some (.long x2), none]) (st' := [.int x1]) (h' := h) (sg1 rfl rfl rfl) ?_
  obtain ⟨q1, e_q1, hf⟩ := bnd hf
  refine Ex.callS (As := [.int x1]) (r := []) (v := some (.int q1.1)) (h' := q1.2) rfl rfl rfl rfl (Nat.le_of_ble_eq_true rfl) (E_290 (Nat.le_trans (by decide) hd) e_q1) rfl ?_
  refine Ex.ifc rfl rfl (fun (c0 : q1.1 = 0) => ?_) (fun (c0 : ¬ (q1.1 = 0)) => ?_)
  · rw [if_pos c0] at hf
    refine Ex.seg 3 (pc' := 25) (lc' := [some (.ref 67), some (.int x1), some (.long x2), none]) (st' := [.int (lg_cmp x2 (-1))]) (h' := q1.2) (sg1 rfl rfl (sg1 rfl rfl (sg1 rfl rfl rfl))) ?_
    refine Ex.ifc rfl rfl (fun (c0 : ¬ ((lg_cmp x2 (-1)) = 0)) => ?_) (fun (c0 : ¬ ¬ ((lg_cmp x2 (-1)) = 0)) => ?_)
    · rw [if_neg c0] at hf
      refine Ex.seg 5 (pc' := 44) (lc' := [some (.ref 67), some (.int x1), some (.long x2), none]) (st' := [.int (Int64.toInt32 x2), .ref 94, .ref 67]) (h' := q1.2) (sg1 rfl rfl (sg1 rfl rfl (sg1 rfl rfl (sg1 rfl rfl (sg1 rfl rfl rfl))))) ?_
      obtain ⟨v2, e_v2, hf⟩ := bnd hf
      refine Ex.iald e_v2 rfl rfl ?_
      refine Ex.seg 1 (pc' := 48) (lc' := [some (.ref 67), some (.int x1), some (.long x2), none]) (st' := []) (h' := (sm_wI q1.2 67 48 v2)) (sg1 rfl rfl rfl) ?_
      obtain ⟨h3, e_h3, hf⟩ := bnd hf
      rw [Option.some.inj e_h3]
      refine Ex.seg 5 (pc' := 55) (lc' := [some (.ref 67), some (.int x1), some (.long x2), none]) (st' := [.int (Int64.toInt32 x2), .ref 95, .ref 67]) (h' := h3) (sg1 rfl rfl (sg1 rfl rfl (sg1 rfl rfl (sg1 rfl rfl (sg1 rfl rfl rfl))))) ?_
      obtain ⟨v4, e_v4, hf⟩ := bnd hf
      refine Ex.lald e_v4 rfl rfl ?_
      refine Ex.seg 1 (pc' := 59) (lc' := [some (.ref 67), some (.int x1), some (.long x2), none]) (st' := []) (h' := (sm_wJ h3 67 49 v4)) (sg1 rfl rfl rfl) ?_
      obtain ⟨h5, e_h5, hf⟩ := bnd hf
      rw [Option.some.inj e_h5]
      exact Ex.weak (sm_le_n (sm_le_n (sm_le_n (sm_le_s sm_le_nil)))) (B_353_59 hd  hf hs)
    · rw [if_pos (Classical.not_not.mp c0)] at hf
      refine Ex.seg 2 (pc' := 31) (lc' := [some (.ref 67), some (.int x1), some (.long x2), none]) (st' := [.int 7, .ref 67]) (h' := q1.2) (sg1 rfl rfl (sg1 rfl rfl rfl)) ?_
      obtain ⟨q6, e_q6, hf⟩ := bnd hf
      refine Ex.callV (a := 67) (As := [.int 7]) (r := []) (v := none) (h' := q6) rfl rfl (by decide) rfl (Nat.le_of_ble_eq_true rfl) rfl (E_299 (Nat.le_trans (by decide) hd) e_q6) rfl ?_
      refine Ex.seg 1 (pc' := 59) (lc' := [some (.ref 67), some (.int x1), some (.long x2), none]) (st' := []) (h' := q6) (sg1 rfl rfl rfl) ?_
      exact Ex.weak (sm_le_n (sm_le_n (sm_le_n (sm_le_s sm_le_nil)))) (B_353_59 hd  hf hs)
  · rw [if_neg c0] at hf
    refine Ex.seg 3 (pc' := 12) (lc' := [some (.ref 67), some (.int x1), some (.long x2), none]) (st' := []) (h' := (sm_wI q1.2 67 48 x1)) (sg1 rfl rfl (sg1 rfl rfl (sg1 rfl rfl rfl))) ?_
    obtain ⟨h7, e_h7, hf⟩ := bnd hf
    rw [Option.some.inj e_h7]
    refine Ex.seg 3 (pc' := 17) (lc' := [some (.ref 67), some (.int x1), some (.long x2), none]) (st' := []) (h' := (sm_wJ h7 67 49 x2)) (sg1 rfl rfl (sg1 rfl rfl (sg1 rfl rfl rfl))) ?_
    obtain ⟨h8, e_h8, hf⟩ := bnd hf
    rw [Option.some.inj e_h8]
    refine Ex.seg 1 (pc' := 59) (lc' := [some (.ref 67), some (.int x1), some (.long x2), none]) (st' := []) (h' := h8) (sg1 rfl rfl rfl) ?_
    exact Ex.weak (sm_le_n (sm_le_n (sm_le_n (sm_le_s sm_le_nil)))) (B_353_59 hd  hf hs)
/-- HandleHouseModel.constantOf(IJ)V -/
abbrev F_353 (x1 : Int32) (x2 : Int64) (h : sm_H) : Option (sm_H) := F_353_0 x1 x2 h
theorem E_353 {L : Nat} {xs : Nat → Int32} {d : Nat} (hd : 3 ≤ d) {x1 : Int32} {x2 : Int64} {h : sm_H} {r : sm_H} (hf : F_353 x1 x2 h = some r) : RUN L xs d 353 [.ref 67, .int x1, .long x2] h (none, r) := by
  obtain ⟨d, rfl⟩ : ∃ e, d = e + 1 := ⟨d - 1, by omega⟩
  exact ⟨Nat.le_of_ble_eq_true rfl, B_353_0 (by omega) hf rfl⟩
def F_357_18  (h : sm_H) : Option (Int32 × sm_H) :=
  (some (sm_wI h 67 64 4)).bind fun h1 =>
  some (1, h1)
theorem B_357_18 {L : Nat} {xs : Nat → Int32} {d : Nat} (hd : 0 ≤ d) {res : Option Value × sm_H}   {h : sm_H} {r : (Int32 × sm_H)} (hf : F_357_18  h = some r) (hs : (fun (r : Int32 × sm_H) => res = (some (.int r.1), r.2)) r) : Ex (P_G L xs) (RUN L xs d) (sm_lk P_t357) 3 18 [some (.ref 67), none] [] h res := by
  unfold F_357_18 at hf
  refine Ex.seg 3 (pc' := 23) (lc' := [some (.ref 67), none]) (st' := []) (h' := (sm_wI h 67 64 4)) (sg1 rfl rfl (sg1 rfl rfl (sg1 rfl rfl rfl))) ?_
  obtain ⟨h1, e_h1, hf⟩ := bnd hf
  rw [Option.some.inj e_h1]
  refine Ex.seg 1 (pc' := 24) (lc' := [some (.ref 67), none]) (st' := [.int 1]) (h' := h1) (sg1 rfl rfl rfl) ?_
  obtain rfl := Option.some.inj hf
  exact Ex.iret rfl rfl (fun _ => by decide) hs
def F_357_0 (x1 : Int32) (h : sm_H) : Option (Int32 × sm_H) :=
  if 1000 ≤ (h.1 67 45) then (F_357_18 h)
  else (if 100 < x1 then (F_357_18 h)
  else (some (0, h)))
theorem B_357_0 {L : Nat} {xs : Nat → Int32} {d : Nat} (hd : 0 ≤ d) {res : Option Value × sm_H} {x1 : Int32}  {h : sm_H} {r : (Int32 × sm_H)} (hf : F_357_0 x1 h = some r) (hs : (fun (r : Int32 × sm_H) => res = (some (.int r.1), r.2)) r) : Ex (P_G L xs) (RUN L xs d) (sm_lk P_t357) 3 0 [some (.ref 67), some (.int x1)] [] h res := by
  unfold F_357_0 at hf
  refine Ex.seg 3 (pc' := 7) (lc' := [some (.ref 67), some (.int x1)]) (st' := [.int 1000, .int (h.1 67 45)]) (h' := h) (sg1 rfl rfl (sg1 rfl rfl (sg1 rfl rfl rfl))) ?_
  refine Ex.icmp rfl rfl (fun (c0 : 1000 ≤ (h.1 67 45)) => ?_) (fun (c0 : ¬ (1000 ≤ (h.1 67 45))) => ?_)
  · rw [if_pos c0] at hf
    exact Ex.weak (sm_le_s (sm_le_n sm_le_nil)) (B_357_18 hd  hf hs)
  · rw [if_neg c0] at hf
    refine Ex.seg 2 (pc' := 13) (lc' := [some (.ref 67), some (.int x1)]) (st' := [.int 100, .int x1]) (h' := h) (sg1 rfl rfl (sg1 rfl rfl rfl)) ?_
    refine Ex.icmp rfl rfl (fun (c0 : 100 < x1) => ?_) (fun (c0 : ¬ (100 < x1)) => ?_)
    · rw [if_pos c0] at hf
      exact Ex.weak (sm_le_s (sm_le_n sm_le_nil)) (B_357_18 hd  hf hs)
    · rw [if_neg c0] at hf
      refine Ex.seg 1 (pc' := 17) (lc' := [some (.ref 67), some (.int x1)]) (st' := [.int 0]) (h' := h) (sg1 rfl rfl rfl) ?_
      obtain rfl := Option.some.inj hf
      exact Ex.iret rfl rfl (fun _ => by decide) hs
/-- HandleHouseModel.isFull(I)Z -/
abbrev F_357 (x1 : Int32) (h : sm_H) : Option (Int32 × sm_H) := F_357_0 x1 h
theorem E_357 {L : Nat} {xs : Nat → Int32} {d : Nat} (hd : 1 ≤ d) {x1 : Int32} {h : sm_H} {r : Int32 × sm_H} (hf : F_357 x1 h = some r) : RUN L xs d 357 [.ref 67, .int x1] h (some (.int r.1), r.2) := by
  obtain ⟨d, rfl⟩ : ∃ e, d = e + 1 := ⟨d - 1, by omega⟩
  exact ⟨Nat.le_of_ble_eq_true rfl, B_357_0 (by omega) hf rfl⟩
def F_358_0 (x1 : Int32) (x2 : Int32) (h : sm_H) : Option (Int32 × sm_H) :=
  (stI h 96 1000 (h.1 67 45) x1).bind fun h1 =>
  (stI h1 97 1000 (h1.1 67 45) x2).bind fun h2 =>
  (some (sm_wI h2 67 45 ((h2.1 67 45) + 1))).bind fun h3 =>
  some (((h3.1 67 45) - 1), h3)
theorem B_358_0 {L : Nat} {xs : Nat → Int32} {d : Nat} (hd : 0 ≤ d) {res : Option Value × sm_H} {x1 : Int32} {x2 : Int32}  {h : sm_H} {r : (Int32 × sm_H)} (hf : F_358_0 x1 x2 h = some r) (hs : (fun (r : Int32 × sm_H) => res = (some (.int r.1), r.2)) r) : Ex (P_G L xs) (RUN L xs d) (sm_lk P_t358) 0 0 [some (.ref 67), some (.int x1), some (.int x2)] [] h res := by
  unfold F_358_0 at hf
  refine Ex.seg 5 (pc' := 9) (lc' := [some (.ref 67), some (.int x1), some (.int x2)]) (st' := [.int x1, .int (h.1 67 45), .ref 96]) (h' := h) (sg1 rfl rfl (sg1 rfl rfl (sg1 rfl rfl (sg1 rfl rfl (sg1 rfl rfl rfl))))) ?_
  obtain ⟨h1, e_h1, hf⟩ := bnd hf
  refine Ex.iast e_h1 rfl rfl ?_
  refine Ex.seg 5 (pc' := 19) (lc' := [some (.ref 67), some (.int x1), some (.int x2)]) (st' := [.int x2, .int (h1.1 67 45), .ref 97]) (h' := h1) (sg1 rfl rfl (sg1 rfl rfl (sg1 rfl rfl (sg1 rfl rfl (sg1 rfl rfl rfl))))) ?_
  obtain ⟨h2, e_h2, hf⟩ := bnd hf
  refine Ex.iast e_h2 rfl rfl ?_
  refine Ex.seg 6 (pc' := 30) (lc' := [some (.ref 67), some (.int x1), some (.int x2)]) (st' := []) (h' := (sm_wI h2 67 45 ((h2.1 67 45) + 1))) (sg1 rfl rfl (sg1 rfl rfl (sg1 rfl rfl (sg1 rfl rfl (sg1 rfl rfl (sg1 rfl rfl rfl)))))) ?_
  obtain ⟨h3, e_h3, hf⟩ := bnd hf
  rw [Option.some.inj e_h3]
  refine Ex.seg 4 (pc' := 36) (lc' := [some (.ref 67), some (.int x1), some (.int x2)]) (st' := [.int ((h3.1 67 45) - 1)]) (h' := h3) (sg1 rfl rfl (sg1 rfl rfl (sg1 rfl rfl (sg1 rfl rfl rfl)))) ?_
  obtain rfl := Option.some.inj hf
  exact Ex.iret rfl rfl (fun c0 => by cases c0) hs
/-- HandleHouseModel.thing(II)I -/
abbrev F_358 (x1 : Int32) (x2 : Int32) (h : sm_H) : Option (Int32 × sm_H) := F_358_0 x1 x2 h
theorem E_358 {L : Nat} {xs : Nat → Int32} {d : Nat} (hd : 1 ≤ d) {x1 : Int32} {x2 : Int32} {h : sm_H} {r : Int32 × sm_H} (hf : F_358 x1 x2 h = some r) : RUN L xs d 358 [.ref 67, .int x1, .int x2] h (some (.int r.1), r.2) := by
  obtain ⟨d, rfl⟩ : ∃ e, d = e + 1 := ⟨d - 1, by omega⟩
  exact ⟨Nat.le_of_ble_eq_true rfl, B_358_0 (by omega) hf rfl⟩
def F_359_62B (s : (Int32 × Int64 × Int32 × Int32 × sm_H)) : Option ((Int32 × Int64 × Int32 × Int32 × sm_H) ⊕ (sm_H)) :=
  if 0 ≤ (lg_cmp (Int32.toInt64 s.2.2.2.1) s.2.1) then ((F_345 s.1 (Int32.toInt64 s.2.2.1) s.2.2.2.2).bind fun q1 =>
  some (.inr (q1)))
  else ((stI s.2.2.2.2 98 100000 ((100 * s.2.2.1) + s.2.2.2.1) (s.2.2.2.2.1 67 48)).bind fun h2 =>
  (stJ h2 99 100000 ((100 * s.2.2.1) + s.2.2.2.1) (h2.2.1 67 49)).bind fun h3 =>
  (some (s.2.2.2.1 + 1 : Int32)).bind fun v4 =>
  some (.inl (s.1, s.2.1, s.2.2.1, v4, h3)))
theorem B_359_62B {L : Nat} {xs : Nat → Int32} {d : Nat} (hd : 3 ≤ d) {res : Option Value × sm_H} {S1 : (Int32 × Int64 × Int32 × Int32 × sm_H) → Prop} (hS1 : ∀ s, S1 s → Ex (P_G L xs) (RUN L xs d) (sm_lk P_t359) 0 62 [some (.ref 67), some (.int s.1), some (.long s.2.1), none, some (.int s.2.2.1), some (.int s.2.2.2.1)] [] s.2.2.2.2 res) {s : (Int32 × Int64 × Int32 × Int32 × sm_H)}  {r : ((Int32 × Int64 × Int32 × Int32 × sm_H) ⊕ (sm_H))} (hf : F_359_62B s = some r) (hs : (Sum.elim S1 (fun (r : sm_H) => res = (none, r))) r) : Ex (P_G L xs) (RUN L xs d) (sm_lk P_t359) 0 62 [some (.ref 67), some (.int s.1), some (.long s.2.1), none, some (.int s.2.2.1), some (.int s.2.2.2.1)] [] s.2.2.2.2 res := by
  unfold F_359_62B at hf
  refine Ex.seg 4 (pc' := 67) (lc' := [some (.ref 67), some (.int s.1), some (.long s.2.1), none, some (.int s.2.2.1), some (.int s.2.2.2.1)]) (st' := [.int (lg_cmp (Int32.toInt64 s.2.2.2.1) s.2.1)]) (h' := s.2.2.2.2) (sg1 rfl rfl (sg1 rfl rfl (sg1 rfl rfl (sg1 rfl rfl rfl)))) ?_
  refine Ex.ifc rfl rfl (fun (c0 : 0 ≤ (lg_cmp (Int32.toInt64 s.2.2.2.1) s.2.1)) => ?_) (fun (c0 : ¬ (0 ≤ (lg_cmp (Int32.toInt64 s.2.2.2.1) s.2.1))) => ?_)
  · rw [if_pos c0] at hf
    refine Ex.seg 4 (pc' := 115) (lc' := [some (.ref 67), some (.int s.1), some (.long s.2.1), none, some (.int s.2.2.1), some (.int s.2.2.2.1)]) (st' := [.long (Int32.toInt64 s.2.2.1), .int s.1, .ref 67]) (h' := s.2.2.2.2) (sg1 rfl rfl (sg1 rfl rfl (sg1 rfl rfl (sg1 rfl rfl rfl)))) ?_
    obtain ⟨q1, e_q1, hf⟩ := bnd hf
    refine Ex.callV (a := 67) (As := [.int s.1, .long (Int32.toInt64 s.2.2.1)]) (r := []) (v := none) (h' := q1) rfl rfl (by decide) rfl (Nat.le_of_ble_eq_true rfl) rfl (E_345 (Nat.le_trans (by decide) hd) e_q1) rfl ?_
    obtain rfl := Option.some.inj hf
    exact Ex.vret rfl rfl hs
  · rw [if_neg c0] at hf
    refine Ex.seg 9 (pc' := 86) (lc' := [some (.ref 67), some (.int s.1), some (.long s.2.1), none, some (.int s.2.2.1), some (.int s.2.2.2.1)]) (st' := [.int (s.2.2.2.2.1 67 48), .int ((100 * s.2.2.1) + s.2.2.2.1), .ref 98]) (h' := s.2.2.2.2) (sg1 rfl rfl (sg1 rfl rfl (sg1 rfl rfl (sg1 rfl rfl (sg1 rfl rfl (sg1 rfl rfl (sg1 rfl rfl (sg1 rfl rfl (sg1 rfl rfl rfl))))))))) ?_
    obtain ⟨h2, e_h2, hf⟩ := bnd hf
    refine Ex.iast e_h2 rfl rfl ?_
    refine Ex.seg 9 (pc' := 103) (lc' := [some (.ref 67), some (.int s.1), some (.long s.2.1), none, some (.int s.2.2.1), some (.int s.2.2.2.1)]) (st' := [.long (h2.2.1 67 49), .int ((100 * s.2.2.1) + s.2.2.2.1), .ref 99]) (h' := h2) (sg1 rfl rfl (sg1 rfl rfl (sg1 rfl rfl (sg1 rfl rfl (sg1 rfl rfl (sg1 rfl rfl (sg1 rfl rfl (sg1 rfl rfl (sg1 rfl rfl rfl))))))))) ?_
    obtain ⟨h3, e_h3, hf⟩ := bnd hf
    refine Ex.last e_h3 rfl rfl ?_
    refine Ex.seg 1 (pc' := 107) (lc' := [some (.ref 67), some (.int s.1), some (.long s.2.1), none, some (.int s.2.2.1), some (.int (s.2.2.2.1 + 1))]) (st' := []) (h' := h3) (sg1 rfl rfl rfl) ?_
    obtain ⟨v4, e_v4, hf⟩ := bnd hf
    rw [Option.some.inj e_v4]
    refine Ex.seg 1 (pc' := 62) (lc' := [some (.ref 67), some (.int s.1), some (.long s.2.1), none, some (.int s.2.2.1), some (.int v4)]) (st' := []) (h' := h3) (sg1 rfl rfl rfl) ?_
    obtain rfl := Option.some.inj hf
    exact Ex.weak (sm_le_s (sm_le_s (sm_le_s (sm_le_s (sm_le_s (sm_le_s sm_le_nil)))))) (hS1 _ hs)
def F_359_62 (y1 : Int32) (y2 : Int64) (y4 : Int32) (y5 : Int32) (h : sm_H) : Option (sm_H) := lp F_359_62B 1000000 (y1, y2, y4, y5, h)
theorem B_359_62 {L : Nat} {xs : Nat → Int32} {d : Nat} (hd : 3 ≤ d) {res : Option Value × sm_H} {y1 : Int32} {y2 : Int64} {y4 : Int32} {y5 : Int32}  {h : sm_H} {r : (sm_H)} (hf : F_359_62 y1 y2 y4 y5 h = some r) (hs : (fun (r : sm_H) => res = (none, r)) r) : Ex (P_G L xs) (RUN L xs d) (sm_lk P_t359) 0 62 [some (.ref 67), some (.int y1), some (.long y2), none, some (.int y4), some (.int y5)] [] h res := by
  unfold F_359_62 at hf
  exact lp_ok (P := fun (s : (Int32 × Int64 × Int32 × Int32 × sm_H)) => Ex (P_G L xs) (RUN L xs d) (sm_lk P_t359) 0 62 [some (.ref 67), some (.int s.1), some (.long s.2.1), none, some (.int s.2.2.1), some (.int s.2.2.2.1)] [] s.2.2.2.2 res) (S := (fun (r : sm_H) => res = (none, r))) (fun s x hx hsx => by
    intros
    exact B_359_62B hd  (fun _ q => q) hx hsx) 1000000 _ r hf hs
def F_359_0 (x1 : Int32) (h : sm_H) : Option (sm_H) :=
  (F_352 0 h).bind fun q5 =>
  if 0 ≤ (lg_cmp q5.1 0) then (if (lg_cmp q5.1 100) ≤ 0 then ((F_357 (Int64.toInt32 q5.1) q5.2).bind fun q6 =>
  if q6.1 = 0 then ((F_358 x1 (Int64.toInt32 q5.1) q6.2).bind fun q7 =>
  (F_294 x1 q7.2).bind fun q8 =>
  (F_299 q8.1 q8.2).bind fun q9 =>
  F_359_62 x1 q5.1 q7.1 0 q9)
  else (some q6.2))
  else ((some (sm_wI q5.2 67 64 4)).bind fun h10 =>
  some h10))
  else ((F_348 4 q5.2).bind fun q11 =>
  some q11)
theorem B_359_0 {L : Nat} {xs : Nat → Int32} {d : Nat} (hd : 3 ≤ d) {res : Option Value × sm_H} {x1 : Int32}  {h : sm_H} {r : (sm_H)} (hf : F_359_0 x1 h = some r) (hs : (fun (r : sm_H) => res = (none, r)) r) : Ex (P_G L xs) (RUN L xs d) (sm_lk P_t359) 0 0 [some (.ref 67), some (.int x1), none, none, none, none] [] h res := by
  unfold F_359_0 at hf
  refine Ex.seg 2 (pc' := 2) (lc' := [some (.ref 67), some (.int x1), none, none, none, none]) (st' := [.int 0, .ref 67]) (h' := h) (sg1 rfl rfl (sg1 rfl rfl rfl)) ?_
  obtain ⟨q5, e_q5, hf⟩ := bnd hf
  refine Ex.callV (a := 67) (As := [.int 0]) (r := []) (v := some (.long q5.1)) (h' := q5.2) rfl rfl (by decide) rfl (Nat.le_of_ble_eq_true rfl) rfl (E_352 (Nat.le_trans (by decide) hd) e_q5) rfl ?_
  refine Ex.seg 4 (pc' := 9) (lc' := [some (.ref 67), some (.int x1), some (.long q5.1), none, none, none]) (st' := [.int (lg_cmp q5.1 0)]) (h' := q5.2) (sg1 rfl rfl (sg1 rfl rfl (sg1 rfl rfl (sg1 rfl rfl rfl)))) ?_
  refine Ex.ifc rfl rfl (fun (c0 : 0 ≤ (lg_cmp q5.1 0)) => ?_) (fun (c0 : ¬ (0 ≤ (lg_cmp q5.1 0))) => ?_)
  · rw [if_pos c0] at hf
    refine Ex.seg 3 (pc' := 23) (lc' := [some (.ref 67), some (.int x1), some (.long q5.1), none, none, none]) (st' := [.int (lg_cmp q5.1 100)]) (h' := q5.2) (sg1 rfl rfl (sg1 rfl rfl (sg1 rfl rfl rfl))) ?_
    refine Ex.ifc rfl rfl (fun (c0 : (lg_cmp q5.1 100) ≤ 0) => ?_) (fun (c0 : ¬ ((lg_cmp q5.1 100) ≤ 0)) => ?_)
    · rw [if_pos c0] at hf
      refine Ex.seg 3 (pc' := 35) (lc' := [some (.ref 67), some (.int x1), some (.long q5.1), none, none, none]) (st' := [.int (Int64.toInt32 q5.1), .ref 67]) (h' := q5.2) (sg1 rfl rfl (sg1 rfl rfl (sg1 rfl rfl rfl))) ?_
      obtain ⟨q6, e_q6, hf⟩ := bnd hf
      refine Ex.callV (a := 67) (As := [.int (Int64.toInt32 q5.1)]) (r := []) (v := some (.int q6.1)) (h' := q6.2) rfl rfl (by decide) rfl (Nat.le_of_ble_eq_true rfl) rfl (E_357 (Nat.le_trans (by decide) hd) e_q6) rfl ?_
      refine Ex.ifc rfl rfl (fun (c0 : q6.1 = 0) => ?_) (fun (c0 : ¬ (q6.1 = 0)) => ?_)
      · rw [if_pos c0] at hf
        refine Ex.seg 4 (pc' := 46) (lc' := [some (.ref 67), some (.int x1), some (.long q5.1), none, none, none]) (st' := [.int (Int64.toInt32 q5.1), .int x1, .ref 67]) (h' := q6.2) (sg1 rfl rfl (sg1 rfl rfl (sg1 rfl rfl (sg1 rfl rfl rfl)))) ?_
        obtain ⟨q7, e_q7, hf⟩ := bnd hf
        refine Ex.callV (a := 67) (As := [.int x1, .int (Int64.toInt32 q5.1)]) (r := []) (v := some (.int q7.1)) (h' := q7.2) rfl rfl (by decide) rfl (Nat.le_of_ble_eq_true rfl) rfl (E_358 (Nat.le_trans (by decide) hd) e_q7) rfl ?_
        refine Ex.seg 3 (pc' := 53) (lc' := [some (.ref 67), some (.int x1), some (.long q5.1), none, some (.int q7.1), none]) (st' := [.int x1, .ref 67]) (h' := q7.2) (sg1 rfl rfl (sg1 rfl rfl (sg1 rfl rfl rfl))) ?_
        obtain ⟨q8, e_q8, hf⟩ := bnd hf
        refine Ex.callS (As := [.int x1]) (r := [.ref 67]) (v := some (.int q8.1)) (h' := q8.2) rfl rfl rfl rfl (Nat.le_of_ble_eq_true rfl) (E_294 (Nat.le_trans (by decide) hd) e_q8) rfl ?_
        obtain ⟨q9, e_q9, hf⟩ := bnd hf
        refine Ex.callV (a := 67) (As := [.int q8.1]) (r := []) (v := none) (h' := q9) rfl rfl (by decide) rfl (Nat.le_of_ble_eq_true rfl) rfl (E_299 (Nat.le_trans (by decide) hd) e_q9) rfl ?_
        refine Ex.seg 2 (pc' := 62) (lc' := [some (.ref 67), some (.int x1), some (.long q5.1), none, some (.int q7.1), some (.int 0)]) (st' := []) (h' := q9) (sg1 rfl rfl (sg1 rfl rfl rfl)) ?_
        exact Ex.weak (sm_le_s (sm_le_s (sm_le_s (sm_le_s (sm_le_s (sm_le_s sm_le_nil)))))) (B_359_62 hd  hf hs)
      · rw [if_neg c0] at hf
        obtain rfl := Option.some.inj hf
        exact Ex.vret rfl rfl hs
    · rw [if_neg c0] at hf
      refine Ex.seg 3 (pc' := 31) (lc' := [some (.ref 67), some (.int x1), some (.long q5.1), none, none, none]) (st' := []) (h' := (sm_wI q5.2 67 64 4)) (sg1 rfl rfl (sg1 rfl rfl (sg1 rfl rfl rfl))) ?_
      obtain ⟨h10, e_h10, hf⟩ := bnd hf
      rw [Option.some.inj e_h10]
      obtain rfl := Option.some.inj hf
      exact Ex.vret rfl rfl hs
  · rw [if_neg c0] at hf
    refine Ex.seg 2 (pc' := 14) (lc' := [some (.ref 67), some (.int x1), some (.long q5.1), none, none, none]) (st' := [.int 4, .ref 67]) (h' := q5.2) (sg1 rfl rfl (sg1 rfl rfl rfl)) ?_
    obtain ⟨q11, e_q11, hf⟩ := bnd hf
    refine Ex.callV (a := 67) (As := [.int 4]) (r := []) (v := none) (h' := q11) rfl rfl (by decide) rfl (Nat.le_of_ble_eq_true rfl) rfl (E_348 (Nat.le_trans (by decide) hd) e_q11) rfl ?_
    obtain rfl := Option.some.inj hf
    exact Ex.vret rfl rfl hs
/-- HandleHouseModel.newRow(I)V -/
abbrev F_359 (x1 : Int32) (h : sm_H) : Option (sm_H) := F_359_0 x1 h
theorem E_359 {L : Nat} {xs : Nat → Int32} {d : Nat} (hd : 4 ≤ d) {x1 : Int32} {h : sm_H} {r : sm_H} (hf : F_359 x1 h = some r) : RUN L xs d 359 [.ref 67, .int x1] h (none, r) := by
  obtain ⟨d, rfl⟩ : ∃ e, d = e + 1 := ⟨d - 1, by omega⟩
  exact ⟨Nat.le_of_ble_eq_true rfl, B_359_0 (by omega) hf rfl⟩
def F_364_46 (z0 : Int32) (h : sm_H) : Option (Int32 × sm_H) :=
  if z0 = 0 ∨ z0 = 1 then some (z0, h) else none
theorem B_364_46 {L : Nat} {xs : Nat → Int32} {d : Nat} (hd : 0 ≤ d) {res : Option Value × sm_H} {z0 : Int32}  {h : sm_H} {r : (Int32 × sm_H)} (hf : F_364_46 z0 h = some r) (hs : (fun (r : Int32 × sm_H) => res = (some (.int r.1), r.2)) r) : Ex (P_G L xs) (RUN L xs d) (sm_lk P_t364) 3 46 [none, none] [.int z0] h res := by
  unfold F_364_46 at hf
  rcases Classical.em (z0 = 0 ∨ z0 = 1) with c0 | c0
  · rw [if_pos c0] at hf
    obtain rfl := Option.some.inj hf
    exact Ex.iret rfl rfl (fun _ => c0) hs
  · rw [if_neg c0] at hf
    cases hf
def F_364_45  (h : sm_H) : Option (Int32 × sm_H) :=
  F_364_46 0 h
theorem B_364_45 {L : Nat} {xs : Nat → Int32} {d : Nat} (hd : 0 ≤ d) {res : Option Value × sm_H}   {h : sm_H} {r : (Int32 × sm_H)} (hf : F_364_45  h = some r) (hs : (fun (r : Int32 × sm_H) => res = (some (.int r.1), r.2)) r) : Ex (P_G L xs) (RUN L xs d) (sm_lk P_t364) 3 45 [none, none] [] h res := by
  unfold F_364_45 at hf
  refine Ex.seg 1 (pc' := 46) (lc' := [none, none]) (st' := [.int 0]) (h' := h) (sg1 rfl rfl rfl) ?_
  exact Ex.weak (sm_le_s (sm_le_s sm_le_nil)) (B_364_46 hd  hf hs)
def F_364_0 (x1 : Int32) (h : sm_H) : Option (Int32 × sm_H) :=
  (ldZ h 87 100 x1).bind fun v1 =>
  if v1 = 0 then ((ldZ h 86 100 x1).bind fun v2 =>
  if v2 = 0 then ((ldI h 84 100 x1).bind fun v3 =>
  if v3 = 0 then ((ldI h 89 100 x1).bind fun v4 =>
  (ldI h 72 300 v4).bind fun v5 =>
  if v5 = 0 then (F_364_46 1 h)
  else (F_364_45 h))
  else (F_364_45 h))
  else (F_364_45 h))
  else (F_364_45 h)
theorem B_364_0 {L : Nat} {xs : Nat → Int32} {d : Nat} (hd : 0 ≤ d) {res : Option Value × sm_H} {x1 : Int32}  {h : sm_H} {r : (Int32 × sm_H)} (hf : F_364_0 x1 h = some r) (hs : (fun (r : Int32 × sm_H) => res = (some (.int r.1), r.2)) r) : Ex (P_G L xs) (RUN L xs d) (sm_lk P_t364) 3 0 [some (.ref 67), some (.int x1)] [] h res := by
  unfold F_364_0 at hf
  refine Ex.seg 3 (pc' := 5) (lc' := [some (.ref 67), some (.int x1)]) (st' := [.int x1, .ref 87]) (h' := h) (sg1 rfl rfl (sg1 rfl rfl (sg1 rfl rfl rfl))) ?_
  obtain ⟨v1, e_v1, hf⟩ := bnd hf
  refine Ex.zald e_v1 rfl rfl ?_
  refine Ex.ifc rfl rfl (fun (c0 : ¬ (v1 = 0)) => ?_) (fun (c0 : ¬ ¬ (v1 = 0)) => ?_)
  · rw [if_neg c0] at hf
    exact Ex.weak (sm_le_n (sm_le_n sm_le_nil)) (B_364_45 hd  hf hs)
  · rw [if_pos (Classical.not_not.mp c0)] at hf
    refine Ex.seg 3 (pc' := 14) (lc' := [some (.ref 67), some (.int x1)]) (st' := [.int x1, .ref 86]) (h' := h) (sg1 rfl rfl (sg1 rfl rfl (sg1 rfl rfl rfl))) ?_
    obtain ⟨v2, e_v2, hf⟩ := bnd hf
    refine Ex.zald e_v2 rfl rfl ?_
    refine Ex.ifc rfl rfl (fun (c0 : ¬ (v2 = 0)) => ?_) (fun (c0 : ¬ ¬ (v2 = 0)) => ?_)
    · rw [if_neg c0] at hf
      exact Ex.weak (sm_le_n (sm_le_n sm_le_nil)) (B_364_45 hd  hf hs)
    · rw [if_pos (Classical.not_not.mp c0)] at hf
      refine Ex.seg 3 (pc' := 23) (lc' := [some (.ref 67), some (.int x1)]) (st' := [.int x1, .ref 84]) (h' := h) (sg1 rfl rfl (sg1 rfl rfl (sg1 rfl rfl rfl))) ?_
      obtain ⟨v3, e_v3, hf⟩ := bnd hf
      refine Ex.iald e_v3 rfl rfl ?_
      refine Ex.ifc rfl rfl (fun (c0 : ¬ (v3 = 0)) => ?_) (fun (c0 : ¬ ¬ (v3 = 0)) => ?_)
      · rw [if_neg c0] at hf
        exact Ex.weak (sm_le_n (sm_le_n sm_le_nil)) (B_364_45 hd  hf hs)
      · rw [if_pos (Classical.not_not.mp c0)] at hf
        refine Ex.seg 5 (pc' := 36) (lc' := [some (.ref 67), some (.int x1)]) (st' := [.int x1, .ref 89, .ref 72]) (h' := h) (sg1 rfl rfl (sg1 rfl rfl (sg1 rfl rfl (sg1 rfl rfl (sg1 rfl rfl rfl))))) ?_
        obtain ⟨v4, e_v4, hf⟩ := bnd hf
        refine Ex.iald e_v4 rfl rfl ?_
        obtain ⟨v5, e_v5, hf⟩ := bnd hf
        refine Ex.iald e_v5 rfl rfl ?_
        refine Ex.ifc rfl rfl (fun (c0 : ¬ (v5 = 0)) => ?_) (fun (c0 : ¬ ¬ (v5 = 0)) => ?_)
        · rw [if_neg c0] at hf
          exact Ex.weak (sm_le_n (sm_le_n sm_le_nil)) (B_364_45 hd  hf hs)
        · rw [if_pos (Classical.not_not.mp c0)] at hf
          refine Ex.seg 2 (pc' := 46) (lc' := [some (.ref 67), some (.int x1)]) (st' := [.int 1]) (h' := h) (sg1 rfl rfl (sg1 rfl rfl rfl)) ?_
          exact Ex.weak (sm_le_n (sm_le_n sm_le_nil)) (B_364_46 hd  hf hs)
/-- HandleHouseModel.isMaker(I)Z -/
abbrev F_364 (x1 : Int32) (h : sm_H) : Option (Int32 × sm_H) := F_364_0 x1 h
theorem E_364 {L : Nat} {xs : Nat → Int32} {d : Nat} (hd : 1 ≤ d) {x1 : Int32} {h : sm_H} {r : Int32 × sm_H} (hf : F_364 x1 h = some r) : RUN L xs d 364 [.ref 67, .int x1] h (some (.int r.1), r.2) := by
  obtain ⟨d, rfl⟩ : ∃ e, d = e + 1 := ⟨d - 1, by omega⟩
  exact ⟨Nat.le_of_ble_eq_true rfl, B_364_0 (by omega) hf rfl⟩
def F_366_105B (s : (Int32 × Int32 × Int32 × Int32 × sm_H)) : Option ((Int32 × Int32 × Int32 × Int32 × sm_H) ⊕ (sm_H)) :=
  if s.2.1 ≤ s.2.2.2.1 then ((F_349 s.1 s.2.2.2.2).bind fun q1 =>
  some (.inr (q1)))
  else ((ldI s.2.2.2.2 98 100000 ((100 * s.2.2.1) + s.2.2.2.1)).bind fun v2 =>
  (ldJ s.2.2.2.2 99 100000 ((100 * s.2.2.1) + s.2.2.2.1)).bind fun v3 =>
  (F_342 v2 v3 s.2.2.2.2).bind fun q4 =>
  (some (s.2.2.2.1 + 1 : Int32)).bind fun v5 =>
  some (.inl (s.1, s.2.1, s.2.2.1, v5, q4)))
theorem B_366_105B {L : Nat} {xs : Nat → Int32} {d : Nat} (hd : 3 ≤ d) {res : Option Value × sm_H} {S1 : (Int32 × Int32 × Int32 × Int32 × sm_H) → Prop} (hS1 : ∀ s, S1 s → Ex (P_G L xs) (RUN L xs d) (sm_lk P_t366) 0 105 [some (.ref 67), some (.int s.1), some (.int s.2.1), none, none, none, some (.int s.2.2.1), some (.int s.2.2.2.1)] [] s.2.2.2.2 res) {s : (Int32 × Int32 × Int32 × Int32 × sm_H)}  {r : ((Int32 × Int32 × Int32 × Int32 × sm_H) ⊕ (sm_H))} (hf : F_366_105B s = some r) (hs : (Sum.elim S1 (fun (r : sm_H) => res = (none, r))) r) : Ex (P_G L xs) (RUN L xs d) (sm_lk P_t366) 0 105 [some (.ref 67), some (.int s.1), some (.int s.2.1), none, none, none, some (.int s.2.2.1), some (.int s.2.2.2.1)] [] s.2.2.2.2 res := by
  unfold F_366_105B at hf
  refine Ex.seg 2 (pc' := 108) (lc' := [some (.ref 67), some (.int s.1), some (.int s.2.1), none, none, none, some (.int s.2.2.1), some (.int s.2.2.2.1)]) (st' := [.int s.2.1, .int s.2.2.2.1]) (h' := s.2.2.2.2) (sg1 rfl rfl (sg1 rfl rfl rfl)) ?_
  refine Ex.icmp rfl rfl (fun (c0 : s.2.1 ≤ s.2.2.2.1) => ?_) (fun (c0 : ¬ (s.2.1 ≤ s.2.2.2.1)) => ?_)
  · rw [if_pos c0] at hf
    refine Ex.seg 2 (pc' := 149) (lc' := [some (.ref 67), some (.int s.1), some (.int s.2.1), none, none, none, some (.int s.2.2.1), some (.int s.2.2.2.1)]) (st' := [.int s.1, .ref 67]) (h' := s.2.2.2.2) (sg1 rfl rfl (sg1 rfl rfl rfl)) ?_
    obtain ⟨q1, e_q1, hf⟩ := bnd hf
    refine Ex.callV (a := 67) (As := [.int s.1]) (r := []) (v := none) (h' := q1) rfl rfl (by decide) rfl (Nat.le_of_ble_eq_true rfl) rfl (E_349 (Nat.le_trans (by decide) hd) e_q1) rfl ?_
    obtain rfl := Option.some.inj hf
    exact Ex.vret rfl rfl hs
  · rw [if_neg c0] at hf
    refine Ex.seg 8 (pc' := 124) (lc' := [some (.ref 67), some (.int s.1), some (.int s.2.1), none, none, none, some (.int s.2.2.1), some (.int s.2.2.2.1)]) (st' := [.int ((100 * s.2.2.1) + s.2.2.2.1), .ref 98, .ref 67]) (h' := s.2.2.2.2) (sg1 rfl rfl (sg1 rfl rfl (sg1 rfl rfl (sg1 rfl rfl (sg1 rfl rfl (sg1 rfl rfl (sg1 rfl rfl (sg1 rfl rfl rfl)))))))) ?_
    obtain ⟨v2, e_v2, hf⟩ := bnd hf
    refine Ex.iald e_v2 rfl rfl ?_
    refine Ex.seg 7 (pc' := 137) (lc' := [some (.ref 67), some (.int s.1), some (.int s.2.1), none, none, none, some (.int s.2.2.1), some (.int s.2.2.2.1)]) (st' := [.int ((100 * s.2.2.1) + s.2.2.2.1), .ref 99, .int v2, .ref 67]) (h' := s.2.2.2.2) (sg1 rfl rfl (sg1 rfl rfl (sg1 rfl rfl (sg1 rfl rfl (sg1 rfl rfl (sg1 rfl rfl (sg1 rfl rfl rfl))))))) ?_
    obtain ⟨v3, e_v3, hf⟩ := bnd hf
    refine Ex.lald e_v3 rfl rfl ?_
    obtain ⟨q4, e_q4, hf⟩ := bnd hf
    refine Ex.callV (a := 67) (As := [.int v2, .long v3]) (r := []) (v := none) (h' := q4) rfl rfl (by decide) rfl (Nat.le_of_ble_eq_true rfl) rfl (E_342 (Nat.le_trans (by decide) hd) e_q4) rfl ?_
    refine Ex.seg 1 (pc' := 144) (lc' := [some (.ref 67), some (.int s.1), some (.int s.2.1), none, none, none, some (.int s.2.2.1), some (.int (s.2.2.2.1 + 1))]) (st' := []) (h' := q4) (sg1 rfl rfl rfl) ?_
    obtain ⟨v5, e_v5, hf⟩ := bnd hf
    rw [Option.some.inj e_v5]
    refine Ex.seg 1 (pc' := 105) (lc' := [some (.ref 67), some (.int s.1), some (.int s.2.1), none, none, none, some (.int s.2.2.1), some (.int v5)]) (st' := []) (h' := q4) (sg1 rfl rfl rfl) ?_
    obtain rfl := Option.some.inj hf
    exact Ex.weak (sm_le_s (sm_le_s (sm_le_s (sm_le_s (sm_le_s (sm_le_s (sm_le_s (sm_le_s sm_le_nil)))))))) (hS1 _ hs)
def F_366_105 (y1 : Int32) (y2 : Int32) (y6 : Int32) (y7 : Int32) (h : sm_H) : Option (sm_H) := lp F_366_105B 1000000 (y1, y2, y6, y7, h)
theorem B_366_105 {L : Nat} {xs : Nat → Int32} {d : Nat} (hd : 3 ≤ d) {res : Option Value × sm_H} {y1 : Int32} {y2 : Int32} {y6 : Int32} {y7 : Int32}  {h : sm_H} {r : (sm_H)} (hf : F_366_105 y1 y2 y6 y7 h = some r) (hs : (fun (r : sm_H) => res = (none, r)) r) : Ex (P_G L xs) (RUN L xs d) (sm_lk P_t366) 0 105 [some (.ref 67), some (.int y1), some (.int y2), none, none, none, some (.int y6), some (.int y7)] [] h res := by
  unfold F_366_105 at hf
  exact lp_ok (P := fun (s : (Int32 × Int32 × Int32 × Int32 × sm_H)) => Ex (P_G L xs) (RUN L xs d) (sm_lk P_t366) 0 105 [some (.ref 67), some (.int s.1), some (.int s.2.1), none, none, none, some (.int s.2.2.1), some (.int s.2.2.2.1)] [] s.2.2.2.2 res) (S := (fun (r : sm_H) => res = (none, r))) (fun s x hx hsx => by
    intros
    exact B_366_105B hd  (fun _ q => q) hx hsx) 1000000 _ r hf hs
def F_366_90 (y1 : Int32) (y2 : Int32) (y3 : Int32) (y5 : Int32) (y6 : Int32) (h : sm_H) : Option (sm_H) :=
  (ldI h 105 100 y3).bind fun v6 =>
  (F_343 v6 y5 h).bind fun q7 =>
  F_366_105 y1 y2 y6 0 q7
theorem B_366_90 {L : Nat} {xs : Nat → Int32} {d : Nat} (hd : 3 ≤ d) {res : Option Value × sm_H} {y1 : Int32} {y2 : Int32} {y3 : Int32} {y5 : Int32} {y6 : Int32}  {h : sm_H} {r : (sm_H)} (hf : F_366_90 y1 y2 y3 y5 y6 h = some r) (hs : (fun (r : sm_H) => res = (none, r)) r) : Ex (P_G L xs) (RUN L xs d) (sm_lk P_t366) 0 90 [some (.ref 67), some (.int y1), some (.int y2), some (.int y3), none, some (.int y5), some (.int y6), none] [] h res := by
  unfold F_366_90 at hf
  refine Ex.seg 4 (pc' := 96) (lc' := [some (.ref 67), some (.int y1), some (.int y2), some (.int y3), none, some (.int y5), some (.int y6), none]) (st' := [.int y3, .ref 105, .ref 67]) (h' := h) (sg1 rfl rfl (sg1 rfl rfl (sg1 rfl rfl (sg1 rfl rfl rfl)))) ?_
  obtain ⟨v6, e_v6, hf⟩ := bnd hf
  refine Ex.iald e_v6 rfl rfl ?_
  refine Ex.seg 1 (pc' := 99) (lc' := [some (.ref 67), some (.int y1), some (.int y2), some (.int y3), none, some (.int y5), some (.int y6), none]) (st' := [.int y5, .int v6, .ref 67]) (h' := h) (sg1 rfl rfl rfl) ?_
  obtain ⟨q7, e_q7, hf⟩ := bnd hf
  refine Ex.callV (a := 67) (As := [.int v6, .int y5]) (r := []) (v := none) (h' := q7) rfl rfl (by decide) rfl (Nat.le_of_ble_eq_true rfl) rfl (E_343 (Nat.le_trans (by decide) hd) e_q7) rfl ?_
  refine Ex.seg 2 (pc' := 105) (lc' := [some (.ref 67), some (.int y1), some (.int y2), some (.int y3), none, some (.int y5), some (.int y6), some (.int 0)]) (st' := []) (h' := q7) (sg1 rfl rfl (sg1 rfl rfl rfl)) ?_
  exact Ex.weak (sm_le_s (sm_le_s (sm_le_s (sm_le_n (sm_le_s (sm_le_n (sm_le_s (sm_le_s sm_le_nil)))))))) (B_366_105 hd  hf hs)
def F_366_52 (y1 : Int32) (y2 : Int32) (y3 : Int32) (y5 : Int32) (h : sm_H) : Option (sm_H) :=
  (ldJ h 109 6000 y5).bind fun v8 =>
  (some ((Int64.toInt32 v8) : Int32)).bind fun v9 =>
  (ldI h 108 6000 y5).bind fun v10 =>
  if v10 = 0 then (F_366_90 y1 y2 y3 y5 v9 h)
  else ((ldI h 97 1000 v9).bind fun v11 =>
  if v11 = y2 then (F_366_90 y1 y2 y3 y5 v9 h)
  else ((F_348 7 h).bind fun q12 =>
  some q12))
theorem B_366_52 {L : Nat} {xs : Nat → Int32} {d : Nat} (hd : 3 ≤ d) {res : Option Value × sm_H} {y1 : Int32} {y2 : Int32} {y3 : Int32} {y5 : Int32}  {h : sm_H} {r : (sm_H)} (hf : F_366_52 y1 y2 y3 y5 h = some r) (hs : (fun (r : sm_H) => res = (none, r)) r) : Ex (P_G L xs) (RUN L xs d) (sm_lk P_t366) 0 52 [some (.ref 67), some (.int y1), some (.int y2), some (.int y3), none, some (.int y5), none, none] [] h res := by
  unfold F_366_52 at hf
  refine Ex.seg 3 (pc' := 58) (lc' := [some (.ref 67), some (.int y1), some (.int y2), some (.int y3), none, some (.int y5), none, none]) (st' := [.int y5, .ref 109]) (h' := h) (sg1 rfl rfl (sg1 rfl rfl (sg1 rfl rfl rfl))) ?_
  obtain ⟨v8, e_v8, hf⟩ := bnd hf
  refine Ex.lald e_v8 rfl rfl ?_
  refine Ex.seg 2 (pc' := 62) (lc' := [some (.ref 67), some (.int y1), some (.int y2), some (.int y3), none, some (.int y5), some (.int (Int64.toInt32 v8)), none]) (st' := []) (h' := h) (sg1 rfl rfl (sg1 rfl rfl rfl)) ?_
  obtain ⟨v9, e_v9, hf⟩ := bnd hf
  rw [Option.some.inj e_v9]
  refine Ex.seg 3 (pc' := 68) (lc' := [some (.ref 67), some (.int y1), some (.int y2), some (.int y3), none, some (.int y5), some (.int v9), none]) (st' := [.int y5, .ref 108]) (h' := h) (sg1 rfl rfl (sg1 rfl rfl (sg1 rfl rfl rfl))) ?_
  obtain ⟨v10, e_v10, hf⟩ := bnd hf
  refine Ex.iald e_v10 rfl rfl ?_
  refine Ex.ifc rfl rfl (fun (c0 : v10 = 0) => ?_) (fun (c0 : ¬ (v10 = 0)) => ?_)
  · rw [if_pos c0] at hf
    exact Ex.weak (sm_le_s (sm_le_s (sm_le_s (sm_le_s (sm_le_s (sm_le_s (sm_le_s (sm_le_s sm_le_nil)))))))) (B_366_90 hd  hf hs)
  · rw [if_neg c0] at hf
    refine Ex.seg 3 (pc' := 78) (lc' := [some (.ref 67), some (.int y1), some (.int y2), some (.int y3), none, some (.int y5), some (.int v9), none]) (st' := [.int v9, .ref 97]) (h' := h) (sg1 rfl rfl (sg1 rfl rfl (sg1 rfl rfl rfl))) ?_
    obtain ⟨v11, e_v11, hf⟩ := bnd hf
    refine Ex.iald e_v11 rfl rfl ?_
    refine Ex.seg 1 (pc' := 80) (lc' := [some (.ref 67), some (.int y1), some (.int y2), some (.int y3), none, some (.int y5), some (.int v9), none]) (st' := [.int y2, .int v11]) (h' := h) (sg1 rfl rfl rfl) ?_
    refine Ex.icmp rfl rfl (fun (c0 : v11 = y2) => ?_) (fun (c0 : ¬ (v11 = y2)) => ?_)
    · rw [if_pos c0] at hf
      exact Ex.weak (sm_le_s (sm_le_s (sm_le_s (sm_le_s (sm_le_s (sm_le_s (sm_le_s (sm_le_s sm_le_nil)))))))) (B_366_90 hd  hf hs)
    · rw [if_neg c0] at hf
      refine Ex.seg 2 (pc' := 86) (lc' := [some (.ref 67), some (.int y1), some (.int y2), some (.int y3), none, some (.int y5), some (.int v9), none]) (st' := [.int 7, .ref 67]) (h' := h) (sg1 rfl rfl (sg1 rfl rfl rfl)) ?_
      obtain ⟨q12, e_q12, hf⟩ := bnd hf
      refine Ex.callV (a := 67) (As := [.int 7]) (r := []) (v := none) (h' := q12) rfl rfl (by decide) rfl (Nat.le_of_ble_eq_true rfl) rfl (E_348 (Nat.le_trans (by decide) hd) e_q12) rfl ?_
      obtain rfl := Option.some.inj hf
      exact Ex.vret rfl rfl hs
def F_366_0 (x1 : Int32) (x2 : Int32) (h : sm_H) : Option (sm_H) :=
  (some (((h.1 67 56) - 1) : Int32)).bind fun v13 =>
  (ldI h 103 100 v13).bind fun v14 =>
  (F_305 v14 h).bind fun q15 =>
  (ldI q15.2 105 100 v13).bind fun v16 =>
  (some (((v16 + q15.1) - 1) : Int32)).bind fun v17 =>
  (ldI q15.2 108 6000 v17).bind fun v18 =>
  if v18 = 0 then (if x2 ≤ 0 then (F_366_52 x1 x2 v13 v17 q15.2)
  else ((F_348 1 q15.2).bind fun q19 =>
  some q19))
  else (F_366_52 x1 x2 v13 v17 q15.2)
theorem B_366_0 {L : Nat} {xs : Nat → Int32} {d : Nat} (hd : 3 ≤ d) {res : Option Value × sm_H} {x1 : Int32} {x2 : Int32}  {h : sm_H} {r : (sm_H)} (hf : F_366_0 x1 x2 h = some r) (hs : (fun (r : sm_H) => res = (none, r)) r) : Ex (P_G L xs) (RUN L xs d) (sm_lk P_t366) 0 0 [some (.ref 67), some (.int x1), some (.int x2), none, none, none, none, none] [] h res := by
  unfold F_366_0 at hf
  refine Ex.seg 5 (pc' := 7) (lc' := [some (.ref 67), some (.int x1), some (.int x2), some (.int ((h.1 67 56) - 1)), none, none, none, none]) (st' := []) (h' := h) (sg1 rfl rfl (sg1 rfl rfl (sg1 rfl rfl (sg1 rfl rfl (sg1 rfl rfl rfl))))) ?_
  obtain ⟨v13, e_v13, hf⟩ := bnd hf
  rw [Option.some.inj e_v13]
  refine Ex.seg 4 (pc' := 13) (lc' := [some (.ref 67), some (.int x1), some (.int x2), some (.int v13), none, none, none, none]) (st' := [.int v13, .ref 103, .ref 67]) (h' := h) (sg1 rfl rfl (sg1 rfl rfl (sg1 rfl rfl (sg1 rfl rfl rfl)))) ?_
  obtain ⟨v14, e_v14, hf⟩ := bnd hf
  refine Ex.iald e_v14 rfl rfl ?_
  obtain ⟨q15, e_q15, hf⟩ := bnd hf
  refine Ex.callV (a := 67) (As := [.int v14]) (r := []) (v := some (.int q15.1)) (h' := q15.2) rfl rfl (by decide) rfl (Nat.le_of_ble_eq_true rfl) rfl (E_305 (Nat.le_trans (by decide) hd) e_q15) rfl ?_
  refine Ex.seg 4 (pc' := 24) (lc' := [some (.ref 67), some (.int x1), some (.int x2), some (.int v13), some (.int q15.1), none, none, none]) (st' := [.int v13, .ref 105]) (h' := q15.2) (sg1 rfl rfl (sg1 rfl rfl (sg1 rfl rfl (sg1 rfl rfl rfl)))) ?_
  obtain ⟨v16, e_v16, hf⟩ := bnd hf
  refine Ex.iald e_v16 rfl rfl ?_
  refine Ex.seg 5 (pc' := 32) (lc' := [some (.ref 67), some (.int x1), some (.int x2), some (.int v13), some (.int q15.1), some (.int ((v16 + q15.1) - 1)), none, none]) (st' := []) (h' := q15.2) (sg1 rfl rfl (sg1 rfl rfl (sg1 rfl rfl (sg1 rfl rfl (sg1 rfl rfl rfl))))) ?_
  obtain ⟨v17, e_v17, hf⟩ := bnd hf
  rw [Option.some.inj e_v17]
  refine Ex.seg 3 (pc' := 38) (lc' := [some (.ref 67), some (.int x1), some (.int x2), some (.int v13), some (.int q15.1), some (.int v17), none, none]) (st' := [.int v17, .ref 108]) (h' := q15.2) (sg1 rfl rfl (sg1 rfl rfl (sg1 rfl rfl rfl))) ?_
  obtain ⟨v18, e_v18, hf⟩ := bnd hf
  refine Ex.iald e_v18 rfl rfl ?_
  refine Ex.ifc rfl rfl (fun (c0 : ¬ (v18 = 0)) => ?_) (fun (c0 : ¬ ¬ (v18 = 0)) => ?_)
  · rw [if_neg c0] at hf
    exact Ex.weak (sm_le_s (sm_le_s (sm_le_s (sm_le_s (sm_le_n (sm_le_s (sm_le_s (sm_le_s sm_le_nil)))))))) (B_366_52 hd  hf hs)
  · rw [if_pos (Classical.not_not.mp c0)] at hf
    refine Ex.seg 1 (pc' := 43) (lc' := [some (.ref 67), some (.int x1), some (.int x2), some (.int v13), some (.int q15.1), some (.int v17), none, none]) (st' := [.int x2]) (h' := q15.2) (sg1 rfl rfl rfl) ?_
    refine Ex.ifc rfl rfl (fun (c0 : x2 ≤ 0) => ?_) (fun (c0 : ¬ (x2 ≤ 0)) => ?_)
    · rw [if_pos c0] at hf
      exact Ex.weak (sm_le_s (sm_le_s (sm_le_s (sm_le_s (sm_le_n (sm_le_s (sm_le_s (sm_le_s sm_le_nil)))))))) (B_366_52 hd  hf hs)
    · rw [if_neg c0] at hf
      refine Ex.seg 2 (pc' := 48) (lc' := [some (.ref 67), some (.int x1), some (.int x2), some (.int v13), some (.int q15.1), some (.int v17), none, none]) (st' := [.int 1, .ref 67]) (h' := q15.2) (sg1 rfl rfl (sg1 rfl rfl rfl)) ?_
      obtain ⟨q19, e_q19, hf⟩ := bnd hf
      refine Ex.callV (a := 67) (As := [.int 1]) (r := []) (v := none) (h' := q19) rfl rfl (by decide) rfl (Nat.le_of_ble_eq_true rfl) rfl (E_348 (Nat.le_trans (by decide) hd) e_q19) rfl ?_
      obtain rfl := Option.some.inj hf
      exact Ex.vret rfl rfl hs
/-- HandleHouseModel.spread(II)V -/
abbrev F_366 (x1 : Int32) (x2 : Int32) (h : sm_H) : Option (sm_H) := F_366_0 x1 x2 h
theorem E_366 {L : Nat} {xs : Nat → Int32} {d : Nat} (hd : 4 ≤ d) {x1 : Int32} {x2 : Int32} {h : sm_H} {r : sm_H} (hf : F_366 x1 x2 h = some r) : RUN L xs d 366 [.ref 67, .int x1, .int x2] h (none, r) := by
  obtain ⟨d, rfl⟩ : ∃ e, d = e + 1 := ⟨d - 1, by omega⟩
  exact ⟨Nat.le_of_ble_eq_true rfl, B_366_0 (by omega) hf rfl⟩
def F_367_54B (s : (Int32 × Int32 × Int32 × Int32 × Int32 × Int32 × Int32 × sm_H)) : Option ((Int32 × Int32 × Int32 × Int32 × Int32 × Int32 × Int32 × sm_H) ⊕ (sm_H)) :=
  if s.2.1 ≤ s.2.2.2.2.2.2.1 then ((ldI s.2.2.2.2.2.2.2 105 100 s.2.2.1).bind fun v1 =>
  (ldI s.2.2.2.2.2.2.2 105 100 s.2.2.1).bind fun v2 =>
  (F_343 v1 ((v2 + s.2.2.2.1) - s.2.1) s.2.2.2.2.2.2.2).bind fun q3 =>
  (F_342 s.2.2.2.2.1 (Int32.toInt64 s.2.2.2.2.2.1) q3).bind fun q4 =>
  (F_349 s.1 q4).bind fun q5 =>
  some (.inr (q5)))
  else ((ldI s.2.2.2.2.2.2.2 105 100 s.2.2.1).bind fun v6 =>
  (ldI s.2.2.2.2.2.2.2 108 6000 (((v6 + s.2.2.2.1) - s.2.1) + s.2.2.2.2.2.2.1)).bind fun v7 =>
  (stI s.2.2.2.2.2.2.2 98 100000 ((100 * s.2.2.2.2.2.1) + s.2.2.2.2.2.2.1) v7).bind fun h8 =>
  (ldI h8 105 100 s.2.2.1).bind fun v9 =>
  (ldJ h8 109 6000 (((v9 + s.2.2.2.1) - s.2.1) + s.2.2.2.2.2.2.1)).bind fun v10 =>
  (stJ h8 99 100000 ((100 * s.2.2.2.2.2.1) + s.2.2.2.2.2.2.1) v10).bind fun h11 =>
  (some (s.2.2.2.2.2.2.1 + 1 : Int32)).bind fun v12 =>
  some (.inl (s.1, s.2.1, s.2.2.1, s.2.2.2.1, s.2.2.2.2.1, s.2.2.2.2.2.1, v12, h11)))
theorem B_367_54B {L : Nat} {xs : Nat → Int32} {d : Nat} (hd : 3 ≤ d) {res : Option Value × sm_H} {S1 : (Int32 × Int32 × Int32 × Int32 × Int32 × Int32 × Int32 × sm_H) → Prop} (hS1 : ∀ s, S1 s → Ex (P_G L xs) (RUN L xs d) (sm_lk P_t367) 0 54 [some (.ref 67), some (.int s.1), some (.int s.2.1), some (.int s.2.2.1), some (.int s.2.2.2.1), some (.int s.2.2.2.2.1), some (.int s.2.2.2.2.2.1), some (.int s.2.2.2.2.2.2.1)] [] s.2.2.2.2.2.2.2 res) {s : (Int32 × Int32 × Int32 × Int32 × Int32 × Int32 × Int32 × sm_H)}  {r : ((Int32 × Int32 × Int32 × Int32 × Int32 × Int32 × Int32 × sm_H) ⊕ (sm_H))} (hf : F_367_54B s = some r) (hs : (Sum.elim S1 (fun (r : sm_H) => res = (none, r))) r) : Ex (P_G L xs) (RUN L xs d) (sm_lk P_t367) 0 54 [some (.ref 67), some (.int s.1), some (.int s.2.1), some (.int s.2.2.1), some (.int s.2.2.2.1), some (.int s.2.2.2.2.1), some (.int s.2.2.2.2.2.1), some (.int s.2.2.2.2.2.2.1)] [] s.2.2.2.2.2.2.2 res := by
  unfold F_367_54B at hf
  refine Ex.seg 2 (pc' := 57) (lc' := [some (.ref 67), some (.int s.1), some (.int s.2.1), some (.int s.2.2.1), some (.int s.2.2.2.1), some (.int s.2.2.2.2.1), some (.int s.2.2.2.2.2.1), some (.int s.2.2.2.2.2.2.1)]) (st' := [.int s.2.1, .int s.2.2.2.2.2.2.1]) (h' := s.2.2.2.2.2.2.2) (sg1 rfl rfl (sg1 rfl rfl rfl)) ?_
  refine Ex.icmp rfl rfl (fun (c0 : s.2.1 ≤ s.2.2.2.2.2.2.1) => ?_) (fun (c0 : ¬ (s.2.1 ≤ s.2.2.2.2.2.2.1)) => ?_)
  · rw [if_pos c0] at hf
    refine Ex.seg 4 (pc' := 136) (lc' := [some (.ref 67), some (.int s.1), some (.int s.2.1), some (.int s.2.2.1), some (.int s.2.2.2.1), some (.int s.2.2.2.2.1), some (.int s.2.2.2.2.2.1), some (.int s.2.2.2.2.2.2.1)]) (st' := [.int s.2.2.1, .ref 105, .ref 67]) (h' := s.2.2.2.2.2.2.2) (sg1 rfl rfl (sg1 rfl rfl (sg1 rfl rfl (sg1 rfl rfl rfl)))) ?_
    obtain ⟨v1, e_v1, hf⟩ := bnd hf
    refine Ex.iald e_v1 rfl rfl ?_
    refine Ex.seg 3 (pc' := 142) (lc' := [some (.ref 67), some (.int s.1), some (.int s.2.1), some (.int s.2.2.1), some (.int s.2.2.2.1), some (.int s.2.2.2.2.1), some (.int s.2.2.2.2.2.1), some (.int s.2.2.2.2.2.2.1)]) (st' := [.int s.2.2.1, .ref 105, .int v1, .ref 67]) (h' := s.2.2.2.2.2.2.2) (sg1 rfl rfl (sg1 rfl rfl (sg1 rfl rfl rfl))) ?_
    obtain ⟨v2, e_v2, hf⟩ := bnd hf
    refine Ex.iald e_v2 rfl rfl ?_
    refine Ex.seg 4 (pc' := 148) (lc' := [some (.ref 67), some (.int s.1), some (.int s.2.1), some (.int s.2.2.1), some (.int s.2.2.2.1), some (.int s.2.2.2.2.1), some (.int s.2.2.2.2.2.1), some (.int s.2.2.2.2.2.2.1)]) (st' := [.int ((v2 + s.2.2.2.1) - s.2.1), .int v1, .ref 67]) (h' := s.2.2.2.2.2.2.2) (sg1 rfl rfl (sg1 rfl rfl (sg1 rfl rfl (sg1 rfl rfl rfl)))) ?_
    obtain ⟨q3, e_q3, hf⟩ := bnd hf
    refine Ex.callV (a := 67) (As := [.int v1, .int ((v2 + s.2.2.2.1) - s.2.1)]) (r := []) (v := none) (h' := q3) rfl rfl (by decide) rfl (Nat.le_of_ble_eq_true rfl) rfl (E_343 (Nat.le_trans (by decide) hd) e_q3) rfl ?_
    refine Ex.seg 4 (pc' := 157) (lc' := [some (.ref 67), some (.int s.1), some (.int s.2.1), some (.int s.2.2.1), some (.int s.2.2.2.1), some (.int s.2.2.2.2.1), some (.int s.2.2.2.2.2.1), some (.int s.2.2.2.2.2.2.1)]) (st' := [.long (Int32.toInt64 s.2.2.2.2.2.1), .int s.2.2.2.2.1, .ref 67]) (h' := q3) (sg1 rfl rfl (sg1 rfl rfl (sg1 rfl rfl (sg1 rfl rfl rfl)))) ?_
    obtain ⟨q4, e_q4, hf⟩ := bnd hf
    refine Ex.callV (a := 67) (As := [.int s.2.2.2.2.1, .long (Int32.toInt64 s.2.2.2.2.2.1)]) (r := []) (v := none) (h' := q4) rfl rfl (by decide) rfl (Nat.le_of_ble_eq_true rfl) rfl (E_342 (Nat.le_trans (by decide) hd) e_q4) rfl ?_
    refine Ex.seg 2 (pc' := 162) (lc' := [some (.ref 67), some (.int s.1), some (.int s.2.1), some (.int s.2.2.1), some (.int s.2.2.2.1), some (.int s.2.2.2.2.1), some (.int s.2.2.2.2.2.1), some (.int s.2.2.2.2.2.2.1)]) (st' := [.int s.1, .ref 67]) (h' := q4) (sg1 rfl rfl (sg1 rfl rfl rfl)) ?_
    obtain ⟨q5, e_q5, hf⟩ := bnd hf
    refine Ex.callV (a := 67) (As := [.int s.1]) (r := []) (v := none) (h' := q5) rfl rfl (by decide) rfl (Nat.le_of_ble_eq_true rfl) rfl (E_349 (Nat.le_trans (by decide) hd) e_q5) rfl ?_
    obtain rfl := Option.some.inj hf
    exact Ex.vret rfl rfl hs
  · rw [if_neg c0] at hf
    refine Ex.seg 12 (pc' := 81) (lc' := [some (.ref 67), some (.int s.1), some (.int s.2.1), some (.int s.2.2.1), some (.int s.2.2.2.1), some (.int s.2.2.2.2.1), some (.int s.2.2.2.2.2.1), some (.int s.2.2.2.2.2.2.1)]) (st' := [.int s.2.2.1, .ref 105, .ref 108, .int ((100 * s.2.2.2.2.2.1) + s.2.2.2.2.2.2.1), .ref 98]) (h' := s.2.2.2.2.2.2.2) (sg1 rfl rfl (sg1 rfl rfl (sg1 rfl rfl (sg1 rfl rfl (sg1 rfl rfl (sg1 rfl rfl (sg1 rfl rfl (sg1 rfl rfl (sg1 rfl rfl (sg1 rfl rfl (sg1 rfl rfl (sg1 rfl rfl rfl)))))))))))) ?_
    obtain ⟨v6, e_v6, hf⟩ := bnd hf
    refine Ex.iald e_v6 rfl rfl ?_
    refine Ex.seg 6 (pc' := 90) (lc' := [some (.ref 67), some (.int s.1), some (.int s.2.1), some (.int s.2.2.1), some (.int s.2.2.2.1), some (.int s.2.2.2.2.1), some (.int s.2.2.2.2.2.1), some (.int s.2.2.2.2.2.2.1)]) (st' := [.int (((v6 + s.2.2.2.1) - s.2.1) + s.2.2.2.2.2.2.1), .ref 108, .int ((100 * s.2.2.2.2.2.1) + s.2.2.2.2.2.2.1), .ref 98]) (h' := s.2.2.2.2.2.2.2) (sg1 rfl rfl (sg1 rfl rfl (sg1 rfl rfl (sg1 rfl rfl (sg1 rfl rfl (sg1 rfl rfl rfl)))))) ?_
    obtain ⟨v7, e_v7, hf⟩ := bnd hf
    refine Ex.iald e_v7 rfl rfl ?_
    obtain ⟨h8, e_h8, hf⟩ := bnd hf
    refine Ex.iast e_h8 rfl rfl ?_
    refine Ex.seg 12 (pc' := 113) (lc' := [some (.ref 67), some (.int s.1), some (.int s.2.1), some (.int s.2.2.1), some (.int s.2.2.2.1), some (.int s.2.2.2.2.1), some (.int s.2.2.2.2.2.1), some (.int s.2.2.2.2.2.2.1)]) (st' := [.int s.2.2.1, .ref 105, .ref 109, .int ((100 * s.2.2.2.2.2.1) + s.2.2.2.2.2.2.1), .ref 99]) (h' := h8) (sg1 rfl rfl (sg1 rfl rfl (sg1 rfl rfl (sg1 rfl rfl (sg1 rfl rfl (sg1 rfl rfl (sg1 rfl rfl (sg1 rfl rfl (sg1 rfl rfl (sg1 rfl rfl (sg1 rfl rfl (sg1 rfl rfl rfl)))))))))))) ?_
    obtain ⟨v9, e_v9, hf⟩ := bnd hf
    refine Ex.iald e_v9 rfl rfl ?_
    refine Ex.seg 6 (pc' := 122) (lc' := [some (.ref 67), some (.int s.1), some (.int s.2.1), some (.int s.2.2.1), some (.int s.2.2.2.1), some (.int s.2.2.2.2.1), some (.int s.2.2.2.2.2.1), some (.int s.2.2.2.2.2.2.1)]) (st' := [.int (((v9 + s.2.2.2.1) - s.2.1) + s.2.2.2.2.2.2.1), .ref 109, .int ((100 * s.2.2.2.2.2.1) + s.2.2.2.2.2.2.1), .ref 99]) (h' := h8) (sg1 rfl rfl (sg1 rfl rfl (sg1 rfl rfl (sg1 rfl rfl (sg1 rfl rfl (sg1 rfl rfl rfl)))))) ?_
    obtain ⟨v10, e_v10, hf⟩ := bnd hf
    refine Ex.lald e_v10 rfl rfl ?_
    obtain ⟨h11, e_h11, hf⟩ := bnd hf
    refine Ex.last e_h11 rfl rfl ?_
    refine Ex.seg 1 (pc' := 127) (lc' := [some (.ref 67), some (.int s.1), some (.int s.2.1), some (.int s.2.2.1), some (.int s.2.2.2.1), some (.int s.2.2.2.2.1), some (.int s.2.2.2.2.2.1), some (.int (s.2.2.2.2.2.2.1 + 1))]) (st' := []) (h' := h11) (sg1 rfl rfl rfl) ?_
    obtain ⟨v12, e_v12, hf⟩ := bnd hf
    rw [Option.some.inj e_v12]
    refine Ex.seg 1 (pc' := 54) (lc' := [some (.ref 67), some (.int s.1), some (.int s.2.1), some (.int s.2.2.1), some (.int s.2.2.2.1), some (.int s.2.2.2.2.1), some (.int s.2.2.2.2.2.1), some (.int v12)]) (st' := []) (h' := h11) (sg1 rfl rfl rfl) ?_
    obtain rfl := Option.some.inj hf
    exact Ex.weak (sm_le_s (sm_le_s (sm_le_s (sm_le_s (sm_le_s (sm_le_s (sm_le_s (sm_le_s sm_le_nil)))))))) (hS1 _ hs)
def F_367_54 (y1 : Int32) (y2 : Int32) (y3 : Int32) (y4 : Int32) (y5 : Int32) (y6 : Int32) (y7 : Int32) (h : sm_H) : Option (sm_H) := lp F_367_54B 1000000 (y1, y2, y3, y4, y5, y6, y7, h)
theorem B_367_54 {L : Nat} {xs : Nat → Int32} {d : Nat} (hd : 3 ≤ d) {res : Option Value × sm_H} {y1 : Int32} {y2 : Int32} {y3 : Int32} {y4 : Int32} {y5 : Int32} {y6 : Int32} {y7 : Int32}  {h : sm_H} {r : (sm_H)} (hf : F_367_54 y1 y2 y3 y4 y5 y6 y7 h = some r) (hs : (fun (r : sm_H) => res = (none, r)) r) : Ex (P_G L xs) (RUN L xs d) (sm_lk P_t367) 0 54 [some (.ref 67), some (.int y1), some (.int y2), some (.int y3), some (.int y4), some (.int y5), some (.int y6), some (.int y7)] [] h res := by
  unfold F_367_54 at hf
  exact lp_ok (P := fun (s : (Int32 × Int32 × Int32 × Int32 × Int32 × Int32 × Int32 × sm_H)) => Ex (P_G L xs) (RUN L xs d) (sm_lk P_t367) 0 54 [some (.ref 67), some (.int s.1), some (.int s.2.1), some (.int s.2.2.1), some (.int s.2.2.2.1), some (.int s.2.2.2.2.1), some (.int s.2.2.2.2.2.1), some (.int s.2.2.2.2.2.2.1)] [] s.2.2.2.2.2.2.2 res) (S := (fun (r : sm_H) => res = (none, r))) (fun s x hx hsx => by
    intros
    exact B_367_54B hd  (fun _ q => q) hx hsx) 1000000 _ r hf hs
def F_367_0 (x1 : Int32) (x2 : Int32) (h : sm_H) : Option (sm_H) :=
  (some (((h.1 67 56) - 1) : Int32)).bind fun v13 =>
  (ldI h 103 100 v13).bind fun v14 =>
  (F_305 v14 h).bind fun q15 =>
  (F_357 x2 q15.2).bind fun q16 =>
  if q16.1 = 0 then ((F_305 x1 q16.2).bind fun q17 =>
  (F_306 x1 (q17.1 - 1) q17.2).bind fun q18 =>
  (F_358 q18.1 x2 q18.2).bind fun q19 =>
  F_367_54 x1 x2 v13 q15.1 q18.1 q19.1 0 q19.2)
  else (some q16.2)
theorem B_367_0 {L : Nat} {xs : Nat → Int32} {d : Nat} (hd : 3 ≤ d) {res : Option Value × sm_H} {x1 : Int32} {x2 : Int32}  {h : sm_H} {r : (sm_H)} (hf : F_367_0 x1 x2 h = some r) (hs : (fun (r : sm_H) => res = (none, r)) r) : Ex (P_G L xs) (RUN L xs d) (sm_lk P_t367) 0 0 [some (.ref 67), some (.int x1), some (.int x2), none, none, none, none, none] [] h res := by
  unfold F_367_0 at hf
  refine Ex.seg 5 (pc' := 7) (lc' := [some (.ref 67), some (.int x1), some (.int x2), some (.int ((h.1 67 56) - 1)), none, none, none, none]) (st' := []) (h' := h) (sg1 rfl rfl (sg1 rfl rfl (sg1 rfl rfl (sg1 rfl rfl (sg1 rfl rfl rfl))))) ?_
  obtain ⟨v13, e_v13, hf⟩ := bnd hf
  rw [Option.some.inj e_v13]
  refine Ex.seg 4 (pc' := 13) (lc' := [some (.ref 67), some (.int x1), some (.int x2), some (.int v13), none, none, none, none]) (st' := [.int v13, .ref 103, .ref 67]) (h' := h) (sg1 rfl rfl (sg1 rfl rfl (sg1 rfl rfl (sg1 rfl rfl rfl)))) ?_
  obtain ⟨v14, e_v14, hf⟩ := bnd hf
  refine Ex.iald e_v14 rfl rfl ?_
  obtain ⟨q15, e_q15, hf⟩ := bnd hf
  refine Ex.callV (a := 67) (As := [.int v14]) (r := []) (v := some (.int q15.1)) (h' := q15.2) rfl rfl (by decide) rfl (Nat.le_of_ble_eq_true rfl) rfl (E_305 (Nat.le_trans (by decide) hd) e_q15) rfl ?_
  refine Ex.seg 3 (pc' := 21) (lc' := [some (.ref 67), some (.int x1), some (.int x2), some (.int v13), some (.int q15.1), none, none, none]) (st' := [.int x2, .ref 67]) (h' := q15.2) (sg1 rfl rfl (sg1 rfl rfl (sg1 rfl rfl rfl))) ?_
  obtain ⟨q16, e_q16, hf⟩ := bnd hf
  refine Ex.callV (a := 67) (As := [.int x2]) (r := []) (v := some (.int q16.1)) (h' := q16.2) rfl rfl (by decide) rfl (Nat.le_of_ble_eq_true rfl) rfl (E_357 (Nat.le_trans (by decide) hd) e_q16) rfl ?_
  refine Ex.ifc rfl rfl (fun (c0 : q16.1 = 0) => ?_) (fun (c0 : ¬ (q16.1 = 0)) => ?_)
  · rw [if_pos c0] at hf
    refine Ex.seg 4 (pc' := 32) (lc' := [some (.ref 67), some (.int x1), some (.int x2), some (.int v13), some (.int q15.1), none, none, none]) (st' := [.int x1, .ref 67, .int x1, .ref 67]) (h' := q16.2) (sg1 rfl rfl (sg1 rfl rfl (sg1 rfl rfl (sg1 rfl rfl rfl)))) ?_
    obtain ⟨q17, e_q17, hf⟩ := bnd hf
    refine Ex.callV (a := 67) (As := [.int x1]) (r := [.int x1, .ref 67]) (v := some (.int q17.1)) (h' := q17.2) rfl rfl (by decide) rfl (Nat.le_of_ble_eq_true rfl) rfl (E_305 (Nat.le_trans (by decide) hd) e_q17) rfl ?_
    refine Ex.seg 2 (pc' := 37) (lc' := [some (.ref 67), some (.int x1), some (.int x2), some (.int v13), some (.int q15.1), none, none, none]) (st' := [.int (q17.1 - 1), .int x1, .ref 67]) (h' := q17.2) (sg1 rfl rfl (sg1 rfl rfl rfl)) ?_
    obtain ⟨q18, e_q18, hf⟩ := bnd hf
    refine Ex.callV (a := 67) (As := [.int x1, .int (q17.1 - 1)]) (r := []) (v := some (.int q18.1)) (h' := q18.2) rfl rfl (by decide) rfl (Nat.le_of_ble_eq_true rfl) rfl (E_306 (Nat.le_trans (by decide) hd) e_q18) rfl ?_
    refine Ex.seg 4 (pc' := 46) (lc' := [some (.ref 67), some (.int x1), some (.int x2), some (.int v13), some (.int q15.1), some (.int q18.1), none, none]) (st' := [.int x2, .int q18.1, .ref 67]) (h' := q18.2) (sg1 rfl rfl (sg1 rfl rfl (sg1 rfl rfl (sg1 rfl rfl rfl)))) ?_
    obtain ⟨q19, e_q19, hf⟩ := bnd hf
    refine Ex.callV (a := 67) (As := [.int q18.1, .int x2]) (r := []) (v := some (.int q19.1)) (h' := q19.2) rfl rfl (by decide) rfl (Nat.le_of_ble_eq_true rfl) rfl (E_358 (Nat.le_trans (by decide) hd) e_q19) rfl ?_
    refine Ex.seg 3 (pc' := 54) (lc' := [some (.ref 67), some (.int x1), some (.int x2), some (.int v13), some (.int q15.1), some (.int q18.1), some (.int q19.1), some (.int 0)]) (st' := []) (h' := q19.2) (sg1 rfl rfl (sg1 rfl rfl (sg1 rfl rfl rfl))) ?_
    exact Ex.weak (sm_le_s (sm_le_s (sm_le_s (sm_le_s (sm_le_s (sm_le_s (sm_le_s (sm_le_s sm_le_nil)))))))) (B_367_54 hd  hf hs)
  · rw [if_neg c0] at hf
    obtain rfl := Option.some.inj hf
    exact Ex.vret rfl rfl hs
/-- HandleHouseModel.gather(II)V -/
abbrev F_367 (x1 : Int32) (x2 : Int32) (h : sm_H) : Option (sm_H) := F_367_0 x1 x2 h
theorem E_367 {L : Nat} {xs : Nat → Int32} {d : Nat} (hd : 4 ≤ d) {x1 : Int32} {x2 : Int32} {h : sm_H} {r : sm_H} (hf : F_367 x1 x2 h = some r) : RUN L xs d 367 [.ref 67, .int x1, .int x2] h (none, r) := by
  obtain ⟨d, rfl⟩ : ∃ e, d = e + 1 := ⟨d - 1, by omega⟩
  exact ⟨Nat.le_of_ble_eq_true rfl, B_367_0 (by omega) hf rfl⟩
def F_368_0 (x1 : Int32) (h : sm_H) : Option (sm_H) :=
  (F_351 0 h).bind fun q1 =>
  if q1.1 = 0 then ((F_348 1 q1.2).bind fun q8 =>
  some q8)
  else ((ldI q1.2 105 100 ((q1.2.1 67 56) - 1)).bind fun v2 =>
  (ldI q1.2 105 100 ((q1.2.1 67 56) - 1)).bind fun v3 =>
  (ldI q1.2 103 100 ((q1.2.1 67 56) - 1)).bind fun v4 =>
  (F_305 v4 q1.2).bind fun q5 =>
  (F_343 v2 (v3 + q5.1) q5.2).bind fun q6 =>
  (F_349 x1 q6).bind fun q7 =>
  some q7)
theorem B_368_0 {L : Nat} {xs : Nat → Int32} {d : Nat} (hd : 3 ≤ d) {res : Option Value × sm_H} {x1 : Int32}  {h : sm_H} {r : (sm_H)} (hf : F_368_0 x1 h = some r) (hs : (fun (r : sm_H) => res = (none, r)) r) : Ex (P_G L xs) (RUN L xs d) (sm_lk P_t368) 0 0 [some (.ref 67), some (.int x1)] [] h res := by
  unfold F_368_0 at hf
  refine Ex.seg 2 (pc' := 2) (lc' := [some (.ref 67), some (.int x1)]) (st' := [.int 0, .ref 67]) (h' := h) (sg1 rfl rfl (sg1 rfl rfl rfl)) ?_
  obtain ⟨q1, e_q1, hf⟩ := bnd hf
  refine Ex.callV (a := 67) (As := [.int 0]) (r := []) (v := some (.int q1.1)) (h' := q1.2) rfl rfl (by decide) rfl (Nat.le_of_ble_eq_true rfl) rfl (E_351 (Nat.le_trans (by decide) hd) e_q1) rfl ?_
  refine Ex.ifc rfl rfl (fun (c0 : ¬ (q1.1 = 0)) => ?_) (fun (c0 : ¬ ¬ (q1.1 = 0)) => ?_)
  · rw [if_neg c0] at hf
    refine Ex.seg 7 (pc' := 25) (lc' := [some (.ref 67), some (.int x1)]) (st' := [.int ((q1.2.1 67 56) - 1), .ref 105, .ref 67]) (h' := q1.2) (sg1 rfl rfl (sg1 rfl rfl (sg1 rfl rfl (sg1 rfl rfl (sg1 rfl rfl (sg1 rfl rfl (sg1 rfl rfl rfl))))))) ?_
    obtain ⟨v2, e_v2, hf⟩ := bnd hf
    refine Ex.iald e_v2 rfl rfl ?_
    refine Ex.seg 6 (pc' := 36) (lc' := [some (.ref 67), some (.int x1)]) (st' := [.int ((q1.2.1 67 56) - 1), .ref 105, .int v2, .ref 67]) (h' := q1.2) (sg1 rfl rfl (sg1 rfl rfl (sg1 rfl rfl (sg1 rfl rfl (sg1 rfl rfl (sg1 rfl rfl rfl)))))) ?_
    obtain ⟨v3, e_v3, hf⟩ := bnd hf
    refine Ex.iald e_v3 rfl rfl ?_
    refine Ex.seg 7 (pc' := 48) (lc' := [some (.ref 67), some (.int x1)]) (st' := [.int ((q1.2.1 67 56) - 1), .ref 103, .ref 67, .int v3, .int v2, .ref 67]) (h' := q1.2) (sg1 rfl rfl (sg1 rfl rfl (sg1 rfl rfl (sg1 rfl rfl (sg1 rfl rfl (sg1 rfl rfl (sg1 rfl rfl rfl))))))) ?_
    obtain ⟨v4, e_v4, hf⟩ := bnd hf
    refine Ex.iald e_v4 rfl rfl ?_
    obtain ⟨q5, e_q5, hf⟩ := bnd hf
    refine Ex.callV (a := 67) (As := [.int v4]) (r := [.int v3, .int v2, .ref 67]) (v := some (.int q5.1)) (h' := q5.2) rfl rfl (by decide) rfl (Nat.le_of_ble_eq_true rfl) rfl (E_305 (Nat.le_trans (by decide) hd) e_q5) rfl ?_
    refine Ex.seg 1 (pc' := 53) (lc' := [some (.ref 67), some (.int x1)]) (st' := [.int (v3 + q5.1), .int v2, .ref 67]) (h' := q5.2) (sg1 rfl rfl rfl) ?_
    obtain ⟨q6, e_q6, hf⟩ := bnd hf
    refine Ex.callV (a := 67) (As := [.int v2, .int (v3 + q5.1)]) (r := []) (v := none) (h' := q6) rfl rfl (by decide) rfl (Nat.le_of_ble_eq_true rfl) rfl (E_343 (Nat.le_trans (by decide) hd) e_q6) rfl ?_
    refine Ex.seg 2 (pc' := 58) (lc' := [some (.ref 67), some (.int x1)]) (st' := [.int x1, .ref 67]) (h' := q6) (sg1 rfl rfl (sg1 rfl rfl rfl)) ?_
    obtain ⟨q7, e_q7, hf⟩ := bnd hf
    refine Ex.callV (a := 67) (As := [.int x1]) (r := []) (v := none) (h' := q7) rfl rfl (by decide) rfl (Nat.le_of_ble_eq_true rfl) rfl (E_349 (Nat.le_trans (by decide) hd) e_q7) rfl ?_
    obtain rfl := Option.some.inj hf
    exact Ex.vret rfl rfl hs
  · rw [if_pos (Classical.not_not.mp c0)] at hf
    refine Ex.seg 2 (pc' := 10) (lc' := [some (.ref 67), some (.int x1)]) (st' := [.int 1, .ref 67]) (h' := q1.2) (sg1 rfl rfl (sg1 rfl rfl rfl)) ?_
    obtain ⟨q8, e_q8, hf⟩ := bnd hf
    refine Ex.callV (a := 67) (As := [.int 1]) (r := []) (v := none) (h' := q8) rfl rfl (by decide) rfl (Nat.le_of_ble_eq_true rfl) rfl (E_348 (Nat.le_trans (by decide) hd) e_q8) rfl ?_
    obtain rfl := Option.some.inj hf
    exact Ex.vret rfl rfl hs
/-- HandleHouseModel.special(I)V -/
abbrev F_368 (x1 : Int32) (h : sm_H) : Option (sm_H) := F_368_0 x1 h
theorem E_368 {L : Nat} {xs : Nat → Int32} {d : Nat} (hd : 4 ≤ d) {x1 : Int32} {h : sm_H} {r : sm_H} (hf : F_368 x1 h = some r) : RUN L xs d 368 [.ref 67, .int x1] h (none, r) := by
  obtain ⟨d, rfl⟩ : ∃ e, d = e + 1 := ⟨d - 1, by omega⟩
  exact ⟨Nat.le_of_ble_eq_true rfl, B_368_0 (by omega) hf rfl⟩
def F_369_119 (y1 : Int32) (y2 : Int32) (y3 : Int32) (y4 : Int32) (h : sm_H) : Option ((Int32 × Int32 × Int32 × Int32 × sm_H) ⊕ (sm_H)) :=
  (some (y4 + 1 : Int32)).bind fun v1 =>
  some (.inl (y1, y2, y3, v1, h))
theorem B_369_119 {L : Nat} {xs : Nat → Int32} {d : Nat} (hd : 3 ≤ d) {res : Option Value × sm_H} {S1 : (Int32 × Int32 × Int32 × Int32 × sm_H) → Prop} (hS1 : ∀ s, S1 s → Ex (P_G L xs) (RUN L xs d) (sm_lk P_t369) 0 34 [some (.ref 67), some (.int s.1), some (.int s.2.1), some (.int s.2.2.1), some (.int s.2.2.2.1)] [] s.2.2.2.2 res) {y1 : Int32} {y2 : Int32} {y3 : Int32} {y4 : Int32}  {h : sm_H} {r : ((Int32 × Int32 × Int32 × Int32 × sm_H) ⊕ (sm_H))} (hf : F_369_119 y1 y2 y3 y4 h = some r) (hs : (Sum.elim S1 (fun (r : sm_H) => res = (none, r))) r) : Ex (P_G L xs) (RUN L xs d) (sm_lk P_t369) 0 119 [some (.ref 67), some (.int y1), some (.int y2), some (.int y3), some (.int y4)] [] h res := by
  unfold F_369_119 at hf
  refine Ex.seg 1 (pc' := 122) (lc' := [some (.ref 67), some (.int y1), some (.int y2), some (.int y3), some (.int (y4 + 1))]) (st' := []) (h' := h) (sg1 rfl rfl rfl) ?_
  obtain ⟨v1, e_v1, hf⟩ := bnd hf
  rw [Option.some.inj e_v1]
  refine Ex.seg 1 (pc' := 34) (lc' := [some (.ref 67), some (.int y1), some (.int y2), some (.int y3), some (.int v1)]) (st' := []) (h' := h) (sg1 rfl rfl rfl) ?_
  obtain rfl := Option.some.inj hf
  exact Ex.weak (sm_le_s (sm_le_s (sm_le_s (sm_le_s (sm_le_s sm_le_nil))))) (hS1 _ hs)
def F_369_34B (s : (Int32 × Int32 × Int32 × Int32 × sm_H)) : Option ((Int32 × Int32 × Int32 × Int32 × sm_H) ⊕ (sm_H)) :=
  if (s.2.2.2.2.1 67 32) ≤ s.2.2.2.1 then ((stI s.2.2.2.2 106 100 s.2.1 s.2.2.1).bind fun h2 =>
  (ldI h2 83 100 s.1).bind fun v3 =>
  (F_342 v3 (Int32.toInt64 s.2.2.1) h2).bind fun q4 =>
  (ldI q4 105 100 s.2.1).bind fun v5 =>
  (ldI q4 105 100 s.2.1).bind fun v6 =>
  (ldI q4 103 100 s.2.1).bind fun v7 =>
  (F_305 v7 q4).bind fun q8 =>
  (F_343 v5 (v6 + q8.1) q8.2).bind fun q9 =>
  (ldI q9 90 100 s.1).bind fun v10 =>
  (F_350 v10 14 q9).bind fun q11 =>
  some (.inr (q11)))
  else ((ldZ s.2.2.2.2 87 100 s.2.2.2.1).bind fun v12 =>
  if v12 = 0 then (F_369_119 s.1 s.2.1 s.2.2.1 s.2.2.2.1 s.2.2.2.2)
  else ((ldZ s.2.2.2.2 86 100 s.2.2.2.1).bind fun v13 =>
  if v13 = 0 then ((ldI s.2.2.2.2 88 100 s.2.2.2.1).bind fun v14 =>
  (F_299 v14 s.2.2.2.2).bind fun q15 =>
  (ldI q15 91 100 s.2.2.2.1).bind fun v16 =>
  (stI q15 98 100000 ((100 * s.2.2.1) + v16) (q15.1 67 48)).bind fun h17 =>
  (ldI h17 91 100 s.2.2.2.1).bind fun v18 =>
  (stJ h17 99 100000 ((100 * s.2.2.1) + v18) (h17.2.1 67 49)).bind fun h19 =>
  F_369_119 s.1 s.2.1 s.2.2.1 s.2.2.2.1 h19)
  else (F_369_119 s.1 s.2.1 s.2.2.1 s.2.2.2.1 s.2.2.2.2)))
theorem B_369_34B {L : Nat} {xs : Nat → Int32} {d : Nat} (hd : 3 ≤ d) {res : Option Value × sm_H} {S1 : (Int32 × Int32 × Int32 × Int32 × sm_H) → Prop} (hS1 : ∀ s, S1 s → Ex (P_G L xs) (RUN L xs d) (sm_lk P_t369) 0 34 [some (.ref 67), some (.int s.1), some (.int s.2.1), some (.int s.2.2.1), some (.int s.2.2.2.1)] [] s.2.2.2.2 res) {s : (Int32 × Int32 × Int32 × Int32 × sm_H)}  {r : ((Int32 × Int32 × Int32 × Int32 × sm_H) ⊕ (sm_H))} (hf : F_369_34B s = some r) (hs : (Sum.elim S1 (fun (r : sm_H) => res = (none, r))) r) : Ex (P_G L xs) (RUN L xs d) (sm_lk P_t369) 0 34 [some (.ref 67), some (.int s.1), some (.int s.2.1), some (.int s.2.2.1), some (.int s.2.2.2.1)] [] s.2.2.2.2 res := by
  unfold F_369_34B at hf
  refine Ex.seg 3 (pc' := 40) (lc' := [some (.ref 67), some (.int s.1), some (.int s.2.1), some (.int s.2.2.1), some (.int s.2.2.2.1)]) (st' := [.int (s.2.2.2.2.1 67 32), .int s.2.2.2.1]) (h' := s.2.2.2.2) (sg1 rfl rfl (sg1 rfl rfl (sg1 rfl rfl rfl))) ?_
  refine Ex.icmp rfl rfl (fun (c0 : (s.2.2.2.2.1 67 32) ≤ s.2.2.2.1) => ?_) (fun (c0 : ¬ ((s.2.2.2.2.1 67 32) ≤ s.2.2.2.1)) => ?_)
  · rw [if_pos c0] at hf
    refine Ex.seg 4 (pc' := 131) (lc' := [some (.ref 67), some (.int s.1), some (.int s.2.1), some (.int s.2.2.1), some (.int s.2.2.2.1)]) (st' := [.int s.2.2.1, .int s.2.1, .ref 106]) (h' := s.2.2.2.2) (sg1 rfl rfl (sg1 rfl rfl (sg1 rfl rfl (sg1 rfl rfl rfl)))) ?_
    obtain ⟨h2, e_h2, hf⟩ := bnd hf
    refine Ex.iast e_h2 rfl rfl ?_
    refine Ex.seg 4 (pc' := 138) (lc' := [some (.ref 67), some (.int s.1), some (.int s.2.1), some (.int s.2.2.1), some (.int s.2.2.2.1)]) (st' := [.int s.1, .ref 83, .ref 67]) (h' := h2) (sg1 rfl rfl (sg1 rfl rfl (sg1 rfl rfl (sg1 rfl rfl rfl)))) ?_
    obtain ⟨v3, e_v3, hf⟩ := bnd hf
    refine Ex.iald e_v3 rfl rfl ?_
    refine Ex.seg 2 (pc' := 141) (lc' := [some (.ref 67), some (.int s.1), some (.int s.2.1), some (.int s.2.2.1), some (.int s.2.2.2.1)]) (st' := [.long (Int32.toInt64 s.2.2.1), .int v3, .ref 67]) (h' := h2) (sg1 rfl rfl (sg1 rfl rfl rfl)) ?_
    obtain ⟨q4, e_q4, hf⟩ := bnd hf
    refine Ex.callV (a := 67) (As := [.int v3, .long (Int32.toInt64 s.2.2.1)]) (r := []) (v := none) (h' := q4) rfl rfl (by decide) rfl (Nat.le_of_ble_eq_true rfl) rfl (E_342 (Nat.le_trans (by decide) hd) e_q4) rfl ?_
    refine Ex.seg 4 (pc' := 150) (lc' := [some (.ref 67), some (.int s.1), some (.int s.2.1), some (.int s.2.2.1), some (.int s.2.2.2.1)]) (st' := [.int s.2.1, .ref 105, .ref 67]) (h' := q4) (sg1 rfl rfl (sg1 rfl rfl (sg1 rfl rfl (sg1 rfl rfl rfl)))) ?_
    obtain ⟨v5, e_v5, hf⟩ := bnd hf
    refine Ex.iald e_v5 rfl rfl ?_
    refine Ex.seg 3 (pc' := 156) (lc' := [some (.ref 67), some (.int s.1), some (.int s.2.1), some (.int s.2.2.1), some (.int s.2.2.2.1)]) (st' := [.int s.2.1, .ref 105, .int v5, .ref 67]) (h' := q4) (sg1 rfl rfl (sg1 rfl rfl (sg1 rfl rfl rfl))) ?_
    obtain ⟨v6, e_v6, hf⟩ := bnd hf
    refine Ex.iald e_v6 rfl rfl ?_
    refine Ex.seg 4 (pc' := 163) (lc' := [some (.ref 67), some (.int s.1), some (.int s.2.1), some (.int s.2.2.1), some (.int s.2.2.2.1)]) (st' := [.int s.2.1, .ref 103, .ref 67, .int v6, .int v5, .ref 67]) (h' := q4) (sg1 rfl rfl (sg1 rfl rfl (sg1 rfl rfl (sg1 rfl rfl rfl)))) ?_
    obtain ⟨v7, e_v7, hf⟩ := bnd hf
    refine Ex.iald e_v7 rfl rfl ?_
    obtain ⟨q8, e_q8, hf⟩ := bnd hf
    refine Ex.callV (a := 67) (As := [.int v7]) (r := [.int v6, .int v5, .ref 67]) (v := some (.int q8.1)) (h' := q8.2) rfl rfl (by decide) rfl (Nat.le_of_ble_eq_true rfl) rfl (E_305 (Nat.le_trans (by decide) hd) e_q8) rfl ?_
    refine Ex.seg 1 (pc' := 168) (lc' := [some (.ref 67), some (.int s.1), some (.int s.2.1), some (.int s.2.2.1), some (.int s.2.2.2.1)]) (st' := [.int (v6 + q8.1), .int v5, .ref 67]) (h' := q8.2) (sg1 rfl rfl rfl) ?_
    obtain ⟨q9, e_q9, hf⟩ := bnd hf
    refine Ex.callV (a := 67) (As := [.int v5, .int (v6 + q8.1)]) (r := []) (v := none) (h' := q9) rfl rfl (by decide) rfl (Nat.le_of_ble_eq_true rfl) rfl (E_343 (Nat.le_trans (by decide) hd) e_q9) rfl ?_
    refine Ex.seg 4 (pc' := 177) (lc' := [some (.ref 67), some (.int s.1), some (.int s.2.1), some (.int s.2.2.1), some (.int s.2.2.2.1)]) (st' := [.int s.1, .ref 90, .ref 67]) (h' := q9) (sg1 rfl rfl (sg1 rfl rfl (sg1 rfl rfl (sg1 rfl rfl rfl)))) ?_
    obtain ⟨v10, e_v10, hf⟩ := bnd hf
    refine Ex.iald e_v10 rfl rfl ?_
    refine Ex.seg 1 (pc' := 180) (lc' := [some (.ref 67), some (.int s.1), some (.int s.2.1), some (.int s.2.2.1), some (.int s.2.2.2.1)]) (st' := [.int 14, .int v10, .ref 67]) (h' := q9) (sg1 rfl rfl rfl) ?_
    obtain ⟨q11, e_q11, hf⟩ := bnd hf
    refine Ex.callV (a := 67) (As := [.int v10, .int 14]) (r := []) (v := none) (h' := q11) rfl rfl (by decide) rfl (Nat.le_of_ble_eq_true rfl) rfl (E_350 (Nat.le_trans (by decide) hd) e_q11) rfl ?_
    obtain rfl := Option.some.inj hf
    exact Ex.vret rfl rfl hs
  · rw [if_neg c0] at hf
    refine Ex.seg 3 (pc' := 49) (lc' := [some (.ref 67), some (.int s.1), some (.int s.2.1), some (.int s.2.2.1), some (.int s.2.2.2.1)]) (st' := [.int s.2.2.2.1, .ref 87]) (h' := s.2.2.2.2) (sg1 rfl rfl (sg1 rfl rfl (sg1 rfl rfl rfl))) ?_
    obtain ⟨v12, e_v12, hf⟩ := bnd hf
    refine Ex.zald e_v12 rfl rfl ?_
    refine Ex.ifc rfl rfl (fun (c0 : v12 = 0) => ?_) (fun (c0 : ¬ (v12 = 0)) => ?_)
    · rw [if_pos c0] at hf
      exact Ex.weak (sm_le_s (sm_le_s (sm_le_s (sm_le_s (sm_le_s sm_le_nil))))) (B_369_119 hd hS1 hf hs)
    · rw [if_neg c0] at hf
      refine Ex.seg 3 (pc' := 59) (lc' := [some (.ref 67), some (.int s.1), some (.int s.2.1), some (.int s.2.2.1), some (.int s.2.2.2.1)]) (st' := [.int s.2.2.2.1, .ref 86]) (h' := s.2.2.2.2) (sg1 rfl rfl (sg1 rfl rfl (sg1 rfl rfl rfl))) ?_
      obtain ⟨v13, e_v13, hf⟩ := bnd hf
      refine Ex.zald e_v13 rfl rfl ?_
      refine Ex.ifc rfl rfl (fun (c0 : v13 = 0) => ?_) (fun (c0 : ¬ (v13 = 0)) => ?_)
      · rw [if_pos c0] at hf
        refine Ex.seg 4 (pc' := 73) (lc' := [some (.ref 67), some (.int s.1), some (.int s.2.1), some (.int s.2.2.1), some (.int s.2.2.2.1)]) (st' := [.int s.2.2.2.1, .ref 88, .ref 67]) (h' := s.2.2.2.2) (sg1 rfl rfl (sg1 rfl rfl (sg1 rfl rfl (sg1 rfl rfl rfl)))) ?_
        obtain ⟨v14, e_v14, hf⟩ := bnd hf
        refine Ex.iald e_v14 rfl rfl ?_
        obtain ⟨q15, e_q15, hf⟩ := bnd hf
        refine Ex.callV (a := 67) (As := [.int v14]) (r := []) (v := none) (h' := q15) rfl rfl (by decide) rfl (Nat.le_of_ble_eq_true rfl) rfl (E_299 (Nat.le_trans (by decide) hd) e_q15) rfl ?_
        refine Ex.seg 8 (pc' := 91) (lc' := [some (.ref 67), some (.int s.1), some (.int s.2.1), some (.int s.2.2.1), some (.int s.2.2.2.1)]) (st' := [.int s.2.2.2.1, .ref 91, .int (100 * s.2.2.1), .ref 98]) (h' := q15) (sg1 rfl rfl (sg1 rfl rfl (sg1 rfl rfl (sg1 rfl rfl (sg1 rfl rfl (sg1 rfl rfl (sg1 rfl rfl (sg1 rfl rfl rfl)))))))) ?_
        obtain ⟨v16, e_v16, hf⟩ := bnd hf
        refine Ex.iald e_v16 rfl rfl ?_
        refine Ex.seg 3 (pc' := 97) (lc' := [some (.ref 67), some (.int s.1), some (.int s.2.1), some (.int s.2.2.1), some (.int s.2.2.2.1)]) (st' := [.int (q15.1 67 48), .int ((100 * s.2.2.1) + v16), .ref 98]) (h' := q15) (sg1 rfl rfl (sg1 rfl rfl (sg1 rfl rfl rfl))) ?_
        obtain ⟨h17, e_h17, hf⟩ := bnd hf
        refine Ex.iast e_h17 rfl rfl ?_
        refine Ex.seg 8 (pc' := 112) (lc' := [some (.ref 67), some (.int s.1), some (.int s.2.1), some (.int s.2.2.1), some (.int s.2.2.2.1)]) (st' := [.int s.2.2.2.1, .ref 91, .int (100 * s.2.2.1), .ref 99]) (h' := h17) (sg1 rfl rfl (sg1 rfl rfl (sg1 rfl rfl (sg1 rfl rfl (sg1 rfl rfl (sg1 rfl rfl (sg1 rfl rfl (sg1 rfl rfl rfl)))))))) ?_
        obtain ⟨v18, e_v18, hf⟩ := bnd hf
        refine Ex.iald e_v18 rfl rfl ?_
        refine Ex.seg 3 (pc' := 118) (lc' := [some (.ref 67), some (.int s.1), some (.int s.2.1), some (.int s.2.2.1), some (.int s.2.2.2.1)]) (st' := [.long (h17.2.1 67 49), .int ((100 * s.2.2.1) + v18), .ref 99]) (h' := h17) (sg1 rfl rfl (sg1 rfl rfl (sg1 rfl rfl rfl))) ?_
        obtain ⟨h19, e_h19, hf⟩ := bnd hf
        refine Ex.last e_h19 rfl rfl ?_
        exact Ex.weak (sm_le_s (sm_le_s (sm_le_s (sm_le_s (sm_le_s sm_le_nil))))) (B_369_119 hd hS1 hf hs)
      · rw [if_neg c0] at hf
        refine Ex.seg 1 (pc' := 119) (lc' := [some (.ref 67), some (.int s.1), some (.int s.2.1), some (.int s.2.2.1), some (.int s.2.2.2.1)]) (st' := []) (h' := s.2.2.2.2) (sg1 rfl rfl rfl) ?_
        exact Ex.weak (sm_le_s (sm_le_s (sm_le_s (sm_le_s (sm_le_s sm_le_nil))))) (B_369_119 hd hS1 hf hs)
def F_369_34 (y1 : Int32) (y2 : Int32) (y3 : Int32) (y4 : Int32) (h : sm_H) : Option (sm_H) := lp F_369_34B 1000000 (y1, y2, y3, y4, h)
theorem B_369_34 {L : Nat} {xs : Nat → Int32} {d : Nat} (hd : 3 ≤ d) {res : Option Value × sm_H} {y1 : Int32} {y2 : Int32} {y3 : Int32} {y4 : Int32}  {h : sm_H} {r : (sm_H)} (hf : F_369_34 y1 y2 y3 y4 h = some r) (hs : (fun (r : sm_H) => res = (none, r)) r) : Ex (P_G L xs) (RUN L xs d) (sm_lk P_t369) 0 34 [some (.ref 67), some (.int y1), some (.int y2), some (.int y3), some (.int y4)] [] h res := by
  unfold F_369_34 at hf
  exact lp_ok (P := fun (s : (Int32 × Int32 × Int32 × Int32 × sm_H)) => Ex (P_G L xs) (RUN L xs d) (sm_lk P_t369) 0 34 [some (.ref 67), some (.int s.1), some (.int s.2.1), some (.int s.2.2.1), some (.int s.2.2.2.1)] [] s.2.2.2.2 res) (S := (fun (r : sm_H) => res = (none, r))) (fun s x hx hsx => by
    intros
    exact B_369_34B hd  (fun _ q => q) hx hsx) 1000000 _ r hf hs
def F_369_0 (x1 : Int32) (h : sm_H) : Option (sm_H) :=
  (F_357 0 h).bind fun q20 =>
  if q20.1 = 0 then ((some (((q20.2.1 67 56) - 1) : Int32)).bind fun v21 =>
  (ldI q20.2 83 100 x1).bind fun v22 =>
  (F_358 v22 (q20.2.1 67 33) q20.2).bind fun q23 =>
  F_369_34 x1 v21 q23.1 0 q23.2)
  else (some q20.2)
theorem B_369_0 {L : Nat} {xs : Nat → Int32} {d : Nat} (hd : 3 ≤ d) {res : Option Value × sm_H} {x1 : Int32}  {h : sm_H} {r : (sm_H)} (hf : F_369_0 x1 h = some r) (hs : (fun (r : sm_H) => res = (none, r)) r) : Ex (P_G L xs) (RUN L xs d) (sm_lk P_t369) 0 0 [some (.ref 67), some (.int x1), none, none, none] [] h res := by
  unfold F_369_0 at hf
  refine Ex.seg 2 (pc' := 2) (lc' := [some (.ref 67), some (.int x1), none, none, none]) (st' := [.int 0, .ref 67]) (h' := h) (sg1 rfl rfl (sg1 rfl rfl rfl)) ?_
  obtain ⟨q20, e_q20, hf⟩ := bnd hf
  refine Ex.callV (a := 67) (As := [.int 0]) (r := []) (v := some (.int q20.1)) (h' := q20.2) rfl rfl (by decide) rfl (Nat.le_of_ble_eq_true rfl) rfl (E_357 (Nat.le_trans (by decide) hd) e_q20) rfl ?_
  refine Ex.ifc rfl rfl (fun (c0 : q20.1 = 0) => ?_) (fun (c0 : ¬ (q20.1 = 0)) => ?_)
  · rw [if_pos c0] at hf
    refine Ex.seg 5 (pc' := 16) (lc' := [some (.ref 67), some (.int x1), some (.int ((q20.2.1 67 56) - 1)), none, none]) (st' := []) (h' := q20.2) (sg1 rfl rfl (sg1 rfl rfl (sg1 rfl rfl (sg1 rfl rfl (sg1 rfl rfl rfl))))) ?_
    obtain ⟨v21, e_v21, hf⟩ := bnd hf
    rw [Option.some.inj e_v21]
    refine Ex.seg 4 (pc' := 22) (lc' := [some (.ref 67), some (.int x1), some (.int v21), none, none]) (st' := [.int x1, .ref 83, .ref 67]) (h' := q20.2) (sg1 rfl rfl (sg1 rfl rfl (sg1 rfl rfl (sg1 rfl rfl rfl)))) ?_
    obtain ⟨v22, e_v22, hf⟩ := bnd hf
    refine Ex.iald e_v22 rfl rfl ?_
    refine Ex.seg 2 (pc' := 27) (lc' := [some (.ref 67), some (.int x1), some (.int v21), none, none]) (st' := [.int (q20.2.1 67 33), .int v22, .ref 67]) (h' := q20.2) (sg1 rfl rfl (sg1 rfl rfl rfl)) ?_
    obtain ⟨q23, e_q23, hf⟩ := bnd hf
    refine Ex.callV (a := 67) (As := [.int v22, .int (q20.2.1 67 33)]) (r := []) (v := some (.int q23.1)) (h' := q23.2) rfl rfl (by decide) rfl (Nat.le_of_ble_eq_true rfl) rfl (E_358 (Nat.le_trans (by decide) hd) e_q23) rfl ?_
    refine Ex.seg 3 (pc' := 34) (lc' := [some (.ref 67), some (.int x1), some (.int v21), some (.int q23.1), some (.int 0)]) (st' := []) (h' := q23.2) (sg1 rfl rfl (sg1 rfl rfl (sg1 rfl rfl rfl))) ?_
    exact Ex.weak (sm_le_s (sm_le_s (sm_le_s (sm_le_s (sm_le_s sm_le_nil))))) (B_369_34 hd  hf hs)
  · rw [if_neg c0] at hf
    obtain rfl := Option.some.inj hf
    exact Ex.vret rfl rfl hs
/-- HandleHouseModel.instance(I)V -/
abbrev F_369 (x1 : Int32) (h : sm_H) : Option (sm_H) := F_369_0 x1 h
theorem E_369 {L : Nat} {xs : Nat → Int32} {d : Nat} (hd : 4 ≤ d) {x1 : Int32} {h : sm_H} {r : sm_H} (hf : F_369 x1 h = some r) : RUN L xs d 369 [.ref 67, .int x1] h (none, r) := by
  obtain ⟨d, rfl⟩ : ∃ e, d = e + 1 := ⟨d - 1, by omega⟩
  exact ⟨Nat.le_of_ble_eq_true rfl, B_369_0 (by omega) hf rfl⟩
