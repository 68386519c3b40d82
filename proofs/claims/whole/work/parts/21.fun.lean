/-! FUNCTIONS of the methods (by program, wip/gen/fgen.py) -/
theorem sg1 {G : sm_G} {T : Nat → Option sm_I} {k pc : Nat} {lc : sm_L} {st : List Value} {h : sm_H} {i : sm_I} {c1 : Nat × sm_L × List Value × sm_H} {o : Option (Nat × sm_L × List Value × sm_H)} (ht : T pc = some i) (h1 : sm_one G i pc lc st h = some c1) (e : sm_seg G T k c1 = o) : sm_seg G T (k + 1) (pc, lc, st, h) = o := by
  unfold sm_seg
  dsimp only
  rw [ht]
  dsimp only
  rw [h1]
  exact e
def ldI (h : sm_H) (a n : Nat) (i : Int32) : Option Int32 := if sm_in i n then some (h.1 a i.toNatClampNeg) else none
def ldJ (h : sm_H) (a n : Nat) (i : Int32) : Option Int64 := if sm_in i n then some (h.2.1 a i.toNatClampNeg) else none
def ldZ (h : sm_H) (a n : Nat) (i : Int32) : Option Int32 := if sm_in i n then some (h.1 a i.toNatClampNeg) else none
def stI (h : sm_H) (a n : Nat) (i x : Int32) : Option sm_H := if sm_in i n then some (sm_wI h a i.toNatClampNeg x) else none
def stJ (h : sm_H) (a n : Nat) (i : Int32) (x : Int64) : Option sm_H := if sm_in i n then some (sm_wJ h a i.toNatClampNeg x) else none
def stZ (h : sm_H) (a n : Nat) (i x : Int32) : Option sm_H := if sm_in i n then some (sm_wI h a i.toNatClampNeg (vp_nar .boolean x)) else none
abbrev RUN (L : Nat) (xs : Nat → Int32) (d : Nat) : Nat → List Value → sm_H → Option Value × sm_H → Prop := sm_run (P_G L xs) (fun j pc => sm_lk (P_TT j) pc) P_Y.2.2.1 P_Y.2.2.2.2 d
def F_289_20 (z0 : Int32) (h : sm_H) : Option (Int32 × sm_H) :=
  if z0 = 0 ∨ z0 = 1 then some (z0, h) else none
theorem B_289_20 {L : Nat} {xs : Nat → Int32} {d : Nat} (hd : 0 ≤ d) {z0 : Int32} {d0 : Option Value} {d1 : Option Value} {h : sm_H} {r : Int32 × sm_H} (hf : F_289_20 z0 h = some r) : Ex (P_G L xs) (RUN L xs d) (sm_lk P_t289) 3 20 [d0, d1] [.int z0] h (some (.int r.1), r.2) := by
  unfold F_289_20 at hf
  rcases Classical.em (z0 = 0 ∨ z0 = 1) with c0 | c0
  · rw [if_pos c0] at hf
    obtain rfl := Option.some.inj hf
    exact Ex.iret rfl rfl (fun _ => c0) rfl
  · rw [if_neg c0] at hf
    cases hf
def F_289_19  (h : sm_H) : Option (Int32 × sm_H) :=
  F_289_20 0 h
theorem B_289_19 {L : Nat} {xs : Nat → Int32} {d : Nat} (hd : 0 ≤ d)  {d0 : Option Value} {d1 : Option Value} {h : sm_H} {r : Int32 × sm_H} (hf : F_289_19  h = some r) : Ex (P_G L xs) (RUN L xs d) (sm_lk P_t289) 3 19 [d0, d1] [] h (some (.int r.1), r.2) := by
  unfold F_289_19 at hf
  refine Ex.seg 1 (pc' := 20) (lc' := [d0, d1]) (st' := [.int 0]) (h' := h) (sg1 rfl rfl rfl) ?_
  exact B_289_20 hd hf
def F_289_0 (x1 : Int32) (h : sm_H) : Option (Int32 × sm_H) :=
  if x1 < 0 then (F_289_19 h)
  else (if (20 + (h.1 67 6)) ≤ x1 then (F_289_19 h)
  else (F_289_20 1 h))
theorem B_289_0 {L : Nat} {xs : Nat → Int32} {d : Nat} (hd : 0 ≤ d) {x1 : Int32}  {h : sm_H} {r : Int32 × sm_H} (hf : F_289_0 x1 h = some r) : Ex (P_G L xs) (RUN L xs d) (sm_lk P_t289) 3 0 [some (.ref 67), some (.int x1)] [] h (some (.int r.1), r.2) := by
  unfold F_289_0 at hf
  refine Ex.seg 1 (pc' := 1) (lc' := [some (.ref 67), some (.int x1)]) (st' := [.int x1]) (h' := h) (sg1 rfl rfl rfl) ?_
  refine Ex.ifc rfl rfl (fun (c0 : x1 < 0) => ?_) (fun (c0 : ¬ (x1 < 0)) => ?_)
  · rw [if_pos c0] at hf
    exact B_289_19 hd hf
  · rw [if_neg c0] at hf
    refine Ex.seg 5 (pc' := 12) (lc' := [some (.ref 67), some (.int x1)]) (st' := [.int (20 + (h.1 67 6)), .int x1]) (h' := h) (sg1 rfl rfl (sg1 rfl rfl (sg1 rfl rfl (sg1 rfl rfl (sg1 rfl rfl rfl))))) ?_
    refine Ex.icmp rfl rfl (fun (c0 : (20 + (h.1 67 6)) ≤ x1) => ?_) (fun (c0 : ¬ ((20 + (h.1 67 6)) ≤ x1)) => ?_)
    · rw [if_pos c0] at hf
      exact B_289_19 hd hf
    · rw [if_neg c0] at hf
      refine Ex.seg 2 (pc' := 20) (lc' := [some (.ref 67), some (.int x1)]) (st' := [.int 1]) (h' := h) (sg1 rfl rfl (sg1 rfl rfl rfl)) ?_
      exact B_289_20 hd hf
/-- HandleHouseModel.isKind(I)Z -/
abbrev F_289 (x1 : Int32) (h : sm_H) : Option (Int32 × sm_H) := F_289_0 x1 h
theorem E_289 {L : Nat} {xs : Nat → Int32} {d : Nat} (hd : 1 ≤ d) {x1 : Int32} {h : sm_H} {r : Int32 × sm_H} (hf : F_289 x1 h = some r) : RUN L xs d 289 [.ref 67, .int x1] h (some (.int r.1), r.2) := by
  obtain ⟨d, rfl⟩ : ∃ e, d = e + 1 := ⟨d - 1, by omega⟩
  exact ⟨Nat.le_of_ble_eq_true rfl, B_289_0 (by omega) hf⟩
def F_290_16 (z0 : Int32) (h : sm_H) : Option (Int32 × sm_H) :=
  if z0 = 0 ∨ z0 = 1 then some (z0, h) else none
theorem B_290_16 {L : Nat} {xs : Nat → Int32} {d : Nat} (hd : 0 ≤ d) {z0 : Int32} {d0 : Option Value} {h : sm_H} {r : Int32 × sm_H} (hf : F_290_16 z0 h = some r) : Ex (P_G L xs) (RUN L xs d) (sm_lk P_t290) 3 16 [d0] [.int z0] h (some (.int r.1), r.2) := by
  unfold F_290_16 at hf
  rcases Classical.em (z0 = 0 ∨ z0 = 1) with c0 | c0
  · rw [if_pos c0] at hf
    obtain rfl := Option.some.inj hf
    exact Ex.iret rfl rfl (fun _ => c0) rfl
  · rw [if_neg c0] at hf
    cases hf
def F_290_15  (h : sm_H) : Option (Int32 × sm_H) :=
  F_290_16 0 h
theorem B_290_15 {L : Nat} {xs : Nat → Int32} {d : Nat} (hd : 0 ≤ d)  {d0 : Option Value} {h : sm_H} {r : Int32 × sm_H} (hf : F_290_15  h = some r) : Ex (P_G L xs) (RUN L xs d) (sm_lk P_t290) 3 15 [d0] [] h (some (.int r.1), r.2) := by
  unfold F_290_15 at hf
  refine Ex.seg 1 (pc' := 16) (lc' := [d0]) (st' := [.int 0]) (h' := h) (sg1 rfl rfl rfl) ?_
  exact B_290_16 hd hf
def F_290_0 (x0 : Int32) (h : sm_H) : Option (Int32 × sm_H) :=
  if x0 < 1 then (F_290_15 h)
  else (if 6 < x0 then (F_290_15 h)
  else (F_290_16 1 h))
theorem B_290_0 {L : Nat} {xs : Nat → Int32} {d : Nat} (hd : 0 ≤ d) {x0 : Int32}  {h : sm_H} {r : Int32 × sm_H} (hf : F_290_0 x0 h = some r) : Ex (P_G L xs) (RUN L xs d) (sm_lk P_t290) 3 0 [some (.int x0)] [] h (some (.int r.1), r.2) := by
  unfold F_290_0 at hf
  refine Ex.seg 2 (pc' := 2) (lc' := [some (.int x0)]) (st' := [.int 1, .int x0]) (h' := h) (sg1 rfl rfl (sg1 rfl rfl rfl)) ?_
  refine Ex.icmp rfl rfl (fun (c0 : x0 < 1) => ?_) (fun (c0 : ¬ (x0 < 1)) => ?_)
  · rw [if_pos c0] at hf
    exact B_290_15 hd hf
  · rw [if_neg c0] at hf
    refine Ex.seg 2 (pc' := 8) (lc' := [some (.int x0)]) (st' := [.int 6, .int x0]) (h' := h) (sg1 rfl rfl (sg1 rfl rfl rfl)) ?_
    refine Ex.icmp rfl rfl (fun (c0 : 6 < x0) => ?_) (fun (c0 : ¬ (6 < x0)) => ?_)
    · rw [if_pos c0] at hf
      exact B_290_15 hd hf
    · rw [if_neg c0] at hf
      refine Ex.seg 2 (pc' := 16) (lc' := [some (.int x0)]) (st' := [.int 1]) (h' := h) (sg1 rfl rfl (sg1 rfl rfl rfl)) ?_
      exact B_290_16 hd hf
/-- HandleHouseModel.isPlain(I)Z -/
abbrev F_290 (x0 : Int32) (h : sm_H) : Option (Int32 × sm_H) := F_290_0 x0 h
theorem E_290 {L : Nat} {xs : Nat → Int32} {d : Nat} (hd : 1 ≤ d) {x0 : Int32} {h : sm_H} {r : Int32 × sm_H} (hf : F_290 x0 h = some r) : RUN L xs d 290 [.int x0] h (some (.int r.1), r.2) := by
  obtain ⟨d, rfl⟩ : ∃ e, d = e + 1 := ⟨d - 1, by omega⟩
  exact ⟨Nat.le_of_ble_eq_true rfl, B_290_0 (by omega) hf⟩
def F_291_11 (z0 : Int32) (h : sm_H) : Option (Int32 × sm_H) :=
  if z0 = 0 ∨ z0 = 1 then some (z0, h) else none
theorem B_291_11 {L : Nat} {xs : Nat → Int32} {d : Nat} (hd : 0 ≤ d) {z0 : Int32} {d0 : Option Value} {h : sm_H} {r : Int32 × sm_H} (hf : F_291_11 z0 h = some r) : Ex (P_G L xs) (RUN L xs d) (sm_lk P_t291) 3 11 [d0] [.int z0] h (some (.int r.1), r.2) := by
  unfold F_291_11 at hf
  rcases Classical.em (z0 = 0 ∨ z0 = 1) with c0 | c0
  · rw [if_pos c0] at hf
    obtain rfl := Option.some.inj hf
    exact Ex.iret rfl rfl (fun _ => c0) rfl
  · rw [if_neg c0] at hf
    cases hf
def F_291_0 (x0 : Int32) (h : sm_H) : Option (Int32 × sm_H) :=
  if x0 < 7 then (F_291_11 0 h)
  else (F_291_11 1 h)
theorem B_291_0 {L : Nat} {xs : Nat → Int32} {d : Nat} (hd : 0 ≤ d) {x0 : Int32}  {h : sm_H} {r : Int32 × sm_H} (hf : F_291_0 x0 h = some r) : Ex (P_G L xs) (RUN L xs d) (sm_lk P_t291) 3 0 [some (.int x0)] [] h (some (.int r.1), r.2) := by
  unfold F_291_0 at hf
  refine Ex.seg 2 (pc' := 3) (lc' := [some (.int x0)]) (st' := [.int 7, .int x0]) (h' := h) (sg1 rfl rfl (sg1 rfl rfl rfl)) ?_
  refine Ex.icmp rfl rfl (fun (c0 : x0 < 7) => ?_) (fun (c0 : ¬ (x0 < 7)) => ?_)
  · rw [if_pos c0] at hf
    refine Ex.seg 1 (pc' := 11) (lc' := [some (.int x0)]) (st' := [.int 0]) (h' := h) (sg1 rfl rfl rfl) ?_
    exact B_291_11 hd hf
  · rw [if_neg c0] at hf
    refine Ex.seg 2 (pc' := 11) (lc' := [some (.int x0)]) (st' := [.int 1]) (h' := h) (sg1 rfl rfl (sg1 rfl rfl rfl)) ?_
    exact B_291_11 hd hf
/-- HandleHouseModel.isReference(I)Z -/
abbrev F_291 (x0 : Int32) (h : sm_H) : Option (Int32 × sm_H) := F_291_0 x0 h
theorem E_291 {L : Nat} {xs : Nat → Int32} {d : Nat} (hd : 1 ≤ d) {x0 : Int32} {h : sm_H} {r : Int32 × sm_H} (hf : F_291 x0 h = some r) : RUN L xs d 291 [.int x0] h (some (.int r.1), r.2) := by
  obtain ⟨d, rfl⟩ : ∃ e, d = e + 1 := ⟨d - 1, by omega⟩
  exact ⟨Nat.le_of_ble_eq_true rfl, B_291_0 (by omega) hf⟩
def F_292_17 (z0 : Int32) (h : sm_H) : Option (Int32 × sm_H) :=
  if z0 = 0 ∨ z0 = 1 then some (z0, h) else none
theorem B_292_17 {L : Nat} {xs : Nat → Int32} {d : Nat} (hd : 0 ≤ d) {z0 : Int32} {d0 : Option Value} {h : sm_H} {r : Int32 × sm_H} (hf : F_292_17 z0 h = some r) : Ex (P_G L xs) (RUN L xs d) (sm_lk P_t292) 3 17 [d0] [.int z0] h (some (.int r.1), r.2) := by
  unfold F_292_17 at hf
  rcases Classical.em (z0 = 0 ∨ z0 = 1) with c0 | c0
  · rw [if_pos c0] at hf
    obtain rfl := Option.some.inj hf
    exact Ex.iret rfl rfl (fun _ => c0) rfl
  · rw [if_neg c0] at hf
    cases hf
def F_292_16  (h : sm_H) : Option (Int32 × sm_H) :=
  F_292_17 0 h
theorem B_292_16 {L : Nat} {xs : Nat → Int32} {d : Nat} (hd : 0 ≤ d)  {d0 : Option Value} {h : sm_H} {r : Int32 × sm_H} (hf : F_292_16  h = some r) : Ex (P_G L xs) (RUN L xs d) (sm_lk P_t292) 3 16 [d0] [] h (some (.int r.1), r.2) := by
  unfold F_292_16 at hf
  refine Ex.seg 1 (pc' := 17) (lc' := [d0]) (st' := [.int 0]) (h' := h) (sg1 rfl rfl rfl) ?_
  exact B_292_17 hd hf
def F_292_0 (x0 : Int32) (h : sm_H) : Option (Int32 × sm_H) :=
  if x0 ≤ 8 then (F_292_16 h)
  else (if 15 ≤ x0 then (F_292_16 h)
  else (F_292_17 1 h))
theorem B_292_0 {L : Nat} {xs : Nat → Int32} {d : Nat} (hd : 0 ≤ d) {x0 : Int32}  {h : sm_H} {r : Int32 × sm_H} (hf : F_292_0 x0 h = some r) : Ex (P_G L xs) (RUN L xs d) (sm_lk P_t292) 3 0 [some (.int x0)] [] h (some (.int r.1), r.2) := by
  unfold F_292_0 at hf
  refine Ex.seg 2 (pc' := 3) (lc' := [some (.int x0)]) (st' := [.int 8, .int x0]) (h' := h) (sg1 rfl rfl (sg1 rfl rfl rfl)) ?_
  refine Ex.icmp rfl rfl (fun (c0 : x0 ≤ 8) => ?_) (fun (c0 : ¬ (x0 ≤ 8)) => ?_)
  · rw [if_pos c0] at hf
    exact B_292_16 hd hf
  · rw [if_neg c0] at hf
    refine Ex.seg 2 (pc' := 9) (lc' := [some (.int x0)]) (st' := [.int 15, .int x0]) (h' := h) (sg1 rfl rfl (sg1 rfl rfl rfl)) ?_
    refine Ex.icmp rfl rfl (fun (c0 : 15 ≤ x0) => ?_) (fun (c0 : ¬ (15 ≤ x0)) => ?_)
    · rw [if_pos c0] at hf
      exact B_292_16 hd hf
    · rw [if_neg c0] at hf
      refine Ex.seg 2 (pc' := 17) (lc' := [some (.int x0)]) (st' := [.int 1]) (h' := h) (sg1 rfl rfl (sg1 rfl rfl rfl)) ?_
      exact B_292_17 hd hf
/-- HandleHouseModel.isBox(I)Z -/
abbrev F_292 (x0 : Int32) (h : sm_H) : Option (Int32 × sm_H) := F_292_0 x0 h
theorem E_292 {L : Nat} {xs : Nat → Int32} {d : Nat} (hd : 1 ≤ d) {x0 : Int32} {h : sm_H} {r : Int32 × sm_H} (hf : F_292 x0 h = some r) : RUN L xs d 292 [.int x0] h (some (.int r.1), r.2) := by
  obtain ⟨d, rfl⟩ : ∃ e, d = e + 1 := ⟨d - 1, by omega⟩
  exact ⟨Nat.le_of_ble_eq_true rfl, B_292_0 (by omega) hf⟩
def F_293_17 (z0 : Int32) (h : sm_H) : Option (Int32 × sm_H) :=
  if z0 = 0 ∨ z0 = 1 then some (z0, h) else none
theorem B_293_17 {L : Nat} {xs : Nat → Int32} {d : Nat} (hd : 0 ≤ d) {z0 : Int32} {d0 : Option Value} {h : sm_H} {r : Int32 × sm_H} (hf : F_293_17 z0 h = some r) : Ex (P_G L xs) (RUN L xs d) (sm_lk P_t293) 3 17 [d0] [.int z0] h (some (.int r.1), r.2) := by
  unfold F_293_17 at hf
  rcases Classical.em (z0 = 0 ∨ z0 = 1) with c0 | c0
  · rw [if_pos c0] at hf
    obtain rfl := Option.some.inj hf
    exact Ex.iret rfl rfl (fun _ => c0) rfl
  · rw [if_neg c0] at hf
    cases hf
def F_293_16  (h : sm_H) : Option (Int32 × sm_H) :=
  F_293_17 0 h
theorem B_293_16 {L : Nat} {xs : Nat → Int32} {d : Nat} (hd : 0 ≤ d)  {d0 : Option Value} {h : sm_H} {r : Int32 × sm_H} (hf : F_293_16  h = some r) : Ex (P_G L xs) (RUN L xs d) (sm_lk P_t293) 3 16 [d0] [] h (some (.int r.1), r.2) := by
  unfold F_293_16 at hf
  refine Ex.seg 1 (pc' := 17) (lc' := [d0]) (st' := [.int 0]) (h' := h) (sg1 rfl rfl rfl) ?_
  exact B_293_17 hd hf
def F_293_0 (x0 : Int32) (h : sm_H) : Option (Int32 × sm_H) :=
  if x0 < 15 then (F_293_16 h)
  else (if 17 < x0 then (F_293_16 h)
  else (F_293_17 1 h))
theorem B_293_0 {L : Nat} {xs : Nat → Int32} {d : Nat} (hd : 0 ≤ d) {x0 : Int32}  {h : sm_H} {r : Int32 × sm_H} (hf : F_293_0 x0 h = some r) : Ex (P_G L xs) (RUN L xs d) (sm_lk P_t293) 3 0 [some (.int x0)] [] h (some (.int r.1), r.2) := by
  unfold F_293_0 at hf
  refine Ex.seg 2 (pc' := 3) (lc' := [some (.int x0)]) (st' := [.int 15, .int x0]) (h' := h) (sg1 rfl rfl (sg1 rfl rfl rfl)) ?_
  refine Ex.icmp rfl rfl (fun (c0 : x0 < 15) => ?_) (fun (c0 : ¬ (x0 < 15)) => ?_)
  · rw [if_pos c0] at hf
    exact B_293_16 hd hf
  · rw [if_neg c0] at hf
    refine Ex.seg 2 (pc' := 9) (lc' := [some (.int x0)]) (st' := [.int 17, .int x0]) (h' := h) (sg1 rfl rfl (sg1 rfl rfl rfl)) ?_
    refine Ex.icmp rfl rfl (fun (c0 : 17 < x0) => ?_) (fun (c0 : ¬ (17 < x0)) => ?_)
    · rw [if_pos c0] at hf
      exact B_293_16 hd hf
    · rw [if_neg c0] at hf
      refine Ex.seg 2 (pc' := 17) (lc' := [some (.int x0)]) (st' := [.int 1]) (h' := h) (sg1 rfl rfl (sg1 rfl rfl rfl)) ?_
      exact B_293_17 hd hf
/-- HandleHouseModel.isRow(I)Z -/
abbrev F_293 (x0 : Int32) (h : sm_H) : Option (Int32 × sm_H) := F_293_0 x0 h
theorem E_293 {L : Nat} {xs : Nat → Int32} {d : Nat} (hd : 1 ≤ d) {x0 : Int32} {h : sm_H} {r : Int32 × sm_H} (hf : F_293 x0 h = some r) : RUN L xs d 293 [.int x0] h (some (.int r.1), r.2) := by
  obtain ⟨d, rfl⟩ : ∃ e, d = e + 1 := ⟨d - 1, by omega⟩
  exact ⟨Nat.le_of_ble_eq_true rfl, B_293_0 (by omega) hf⟩
def F_294_23 (z0 : Int32) (h : sm_H) : Option (Int32 × sm_H) :=
  some (z0, h)
theorem B_294_23 {L : Nat} {xs : Nat → Int32} {d : Nat} (hd : 0 ≤ d) {z0 : Int32} {d0 : Option Value} {h : sm_H} {r : Int32 × sm_H} (hf : F_294_23 z0 h = some r) : Ex (P_G L xs) (RUN L xs d) (sm_lk P_t294) 0 23 [d0] [.int z0] h (some (.int r.1), r.2) := by
  unfold F_294_23 at hf
  obtain rfl := Option.some.inj hf
  exact Ex.iret rfl rfl (fun c0 => by cases c0) rfl
def F_294_0 (x0 : Int32) (h : sm_H) : Option (Int32 × sm_H) :=
  if x0 = 15 then (F_294_23 5 h)
  else (if x0 = 16 then (F_294_23 6 h)
  else (F_294_23 7 h))
theorem B_294_0 {L : Nat} {xs : Nat → Int32} {d : Nat} (hd : 0 ≤ d) {x0 : Int32}  {h : sm_H} {r : Int32 × sm_H} (hf : F_294_0 x0 h = some r) : Ex (P_G L xs) (RUN L xs d) (sm_lk P_t294) 0 0 [some (.int x0)] [] h (some (.int r.1), r.2) := by
  unfold F_294_0 at hf
  refine Ex.seg 2 (pc' := 3) (lc' := [some (.int x0)]) (st' := [.int 15, .int x0]) (h' := h) (sg1 rfl rfl (sg1 rfl rfl rfl)) ?_
  refine Ex.icmp rfl rfl (fun (c0 : ¬ (x0 = 15)) => ?_) (fun (c0 : ¬ ¬ (x0 = 15)) => ?_)
  · rw [if_neg c0] at hf
    refine Ex.seg 2 (pc' := 13) (lc' := [some (.int x0)]) (st' := [.int 16, .int x0]) (h' := h) (sg1 rfl rfl (sg1 rfl rfl rfl)) ?_
    refine Ex.icmp rfl rfl (fun (c0 : ¬ (x0 = 16)) => ?_) (fun (c0 : ¬ ¬ (x0 = 16)) => ?_)
    · rw [if_neg c0] at hf
      refine Ex.seg 1 (pc' := 23) (lc' := [some (.int x0)]) (st' := [.int 7]) (h' := h) (sg1 rfl rfl rfl) ?_
      exact B_294_23 hd hf
    · rw [if_pos (Classical.not_not.mp c0)] at hf
      refine Ex.seg 2 (pc' := 23) (lc' := [some (.int x0)]) (st' := [.int 6]) (h' := h) (sg1 rfl rfl (sg1 rfl rfl rfl)) ?_
      exact B_294_23 hd hf
  · rw [if_pos (Classical.not_not.mp c0)] at hf
    refine Ex.seg 2 (pc' := 23) (lc' := [some (.int x0)]) (st' := [.int 5]) (h' := h) (sg1 rfl rfl (sg1 rfl rfl rfl)) ?_
    exact B_294_23 hd hf
/-- HandleHouseModel.elementOf(I)I -/
abbrev F_294 (x0 : Int32) (h : sm_H) : Option (Int32 × sm_H) := F_294_0 x0 h
theorem E_294 {L : Nat} {xs : Nat → Int32} {d : Nat} (hd : 1 ≤ d) {x0 : Int32} {h : sm_H} {r : Int32 × sm_H} (hf : F_294 x0 h = some r) : RUN L xs d 294 [.int x0] h (some (.int r.1), r.2) := by
  obtain ⟨d, rfl⟩ : ∃ e, d = e + 1 := ⟨d - 1, by omega⟩
  exact ⟨Nat.le_of_ble_eq_true rfl, B_294_0 (by omega) hf⟩
def F_299_13 (z1 : Int32) (h : sm_H) : Option (sm_H) :=
  (some (sm_wI h 67 48 z1)).bind fun h1 =>
  (some (sm_wJ h1 67 49 0)).bind fun h2 =>
  some h2
theorem B_299_13 {L : Nat} {xs : Nat → Int32} {d : Nat} (hd : 1 ≤ d) {z1 : Int32} {d1 : Option Value} {h : sm_H} {r : sm_H} (hf : F_299_13 z1 h = some r) : Ex (P_G L xs) (RUN L xs d) (sm_lk P_t299) 0 13 [some (.ref 67), d1] [.int z1, .ref 67] h (none, r) := by
  unfold F_299_13 at hf
  refine Ex.seg 1 (pc' := 16) (lc' := [some (.ref 67), d1]) (st' := []) (h' := (sm_wI h 67 48 z1)) (sg1 rfl rfl rfl) ?_
  obtain ⟨h1, e_h1, hf⟩ := bnd hf
  rw [Option.some.inj e_h1]
  refine Ex.seg 3 (pc' := 21) (lc' := [some (.ref 67), d1]) (st' := []) (h' := (sm_wJ h1 67 49 0)) (sg1 rfl rfl (sg1 rfl rfl (sg1 rfl rfl rfl))) ?_
  obtain ⟨h2, e_h2, hf⟩ := bnd hf
  rw [Option.some.inj e_h2]
  obtain rfl := Option.some.inj hf
  exact Ex.vret rfl rfl rfl
def F_299_0 (x1 : Int32) (h : sm_H) : Option (sm_H) :=
  (F_290 x1 h).bind fun q3 =>
  if q3.1 = 0 then (F_299_13 0 q3.2)
  else (F_299_13 x1 q3.2)
theorem B_299_0 {L : Nat} {xs : Nat → Int32} {d : Nat} (hd : 1 ≤ d) {x1 : Int32}  {h : sm_H} {r : sm_H} (hf : F_299_0 x1 h = some r) : Ex (P_G L xs) (RUN L xs d) (sm_lk P_t299) 0 0 [some (.ref 67), some (.int x1)] [] h (none, r) := by
  unfold F_299_0 at hf
  refine Ex.seg 2 (pc' := 2) (lc' := [some (.ref 67), some (.int x1)]) (st' := [.int x1, .ref 67]) (h' := h) (sg1 rfl rfl (sg1 rfl rfl rfl)) ?_
  obtain ⟨q3, e_q3, hf⟩ := bnd hf
  refine Ex.callS (As := [.int x1]) (r := [.ref 67]) (v := some (.int q3.1)) (h' := q3.2) rfl rfl rfl rfl (Nat.le_of_ble_eq_true rfl) (E_290 (Nat.le_trans (by decide) hd) e_q3) rfl ?_
  refine Ex.ifc rfl rfl (fun (c0 : q3.1 = 0) => ?_) (fun (c0 : ¬ (q3.1 = 0)) => ?_)
  · rw [if_pos c0] at hf
    refine Ex.seg 1 (pc' := 13) (lc' := [some (.ref 67), some (.int x1)]) (st' := [.int 0, .ref 67]) (h' := q3.2) (sg1 rfl rfl rfl) ?_
    exact B_299_13 hd hf
  · rw [if_neg c0] at hf
    refine Ex.seg 2 (pc' := 13) (lc' := [some (.ref 67), some (.int x1)]) (st' := [.int x1, .ref 67]) (h' := q3.2) (sg1 rfl rfl (sg1 rfl rfl rfl)) ?_
    exact B_299_13 hd hf
/-- HandleHouseModel.zero(I)V -/
abbrev F_299 (x1 : Int32) (h : sm_H) : Option (sm_H) := F_299_0 x1 h
theorem E_299 {L : Nat} {xs : Nat → Int32} {d : Nat} (hd : 2 ≤ d) {x1 : Int32} {h : sm_H} {r : sm_H} (hf : F_299 x1 h = some r) : RUN L xs d 299 [.ref 67, .int x1] h (none, r) := by
  obtain ⟨d, rfl⟩ : ∃ e, d = e + 1 := ⟨d - 1, by omega⟩
  exact ⟨Nat.le_of_ble_eq_true rfl, B_299_0 (by omega) hf⟩
def F_303_17 (z0 : Int32) (h : sm_H) : Option (Int32 × sm_H) :=
  if z0 = 0 ∨ z0 = 1 then some (z0, h) else none
theorem B_303_17 {L : Nat} {xs : Nat → Int32} {d : Nat} (hd : 0 ≤ d) {z0 : Int32} {d0 : Option Value} {d1 : Option Value} {h : sm_H} {r : Int32 × sm_H} (hf : F_303_17 z0 h = some r) : Ex (P_G L xs) (RUN L xs d) (sm_lk P_t303) 3 17 [d0, d1] [.int z0] h (some (.int r.1), r.2) := by
  unfold F_303_17 at hf
  rcases Classical.em (z0 = 0 ∨ z0 = 1) with c0 | c0
  · rw [if_pos c0] at hf
    obtain rfl := Option.some.inj hf
    exact Ex.iret rfl rfl (fun _ => c0) rfl
  · rw [if_neg c0] at hf
    cases hf
def F_303_16  (h : sm_H) : Option (Int32 × sm_H) :=
  F_303_17 0 h
theorem B_303_16 {L : Nat} {xs : Nat → Int32} {d : Nat} (hd : 0 ≤ d)  {d0 : Option Value} {d1 : Option Value} {h : sm_H} {r : Int32 × sm_H} (hf : F_303_16  h = some r) : Ex (P_G L xs) (RUN L xs d) (sm_lk P_t303) 3 16 [d0, d1] [] h (some (.int r.1), r.2) := by
  unfold F_303_16 at hf
  refine Ex.seg 1 (pc' := 17) (lc' := [d0, d1]) (st' := [.int 0]) (h' := h) (sg1 rfl rfl rfl) ?_
  exact B_303_17 hd hf
def F_303_0 (x1 : Int32) (h : sm_H) : Option (Int32 × sm_H) :=
  if x1 < 0 then (F_303_16 h)
  else (if (h.1 67 10) ≤ x1 then (F_303_16 h)
  else (F_303_17 1 h))
theorem B_303_0 {L : Nat} {xs : Nat → Int32} {d : Nat} (hd : 0 ≤ d) {x1 : Int32}  {h : sm_H} {r : Int32 × sm_H} (hf : F_303_0 x1 h = some r) : Ex (P_G L xs) (RUN L xs d) (sm_lk P_t303) 3 0 [some (.ref 67), some (.int x1)] [] h (some (.int r.1), r.2) := by
  unfold F_303_0 at hf
  refine Ex.seg 1 (pc' := 1) (lc' := [some (.ref 67), some (.int x1)]) (st' := [.int x1]) (h' := h) (sg1 rfl rfl rfl) ?_
  refine Ex.ifc rfl rfl (fun (c0 : x1 < 0) => ?_) (fun (c0 : ¬ (x1 < 0)) => ?_)
  · rw [if_pos c0] at hf
    exact B_303_16 hd hf
  · rw [if_neg c0] at hf
    refine Ex.seg 3 (pc' := 9) (lc' := [some (.ref 67), some (.int x1)]) (st' := [.int (h.1 67 10), .int x1]) (h' := h) (sg1 rfl rfl (sg1 rfl rfl (sg1 rfl rfl rfl))) ?_
    refine Ex.icmp rfl rfl (fun (c0 : (h.1 67 10) ≤ x1) => ?_) (fun (c0 : ¬ ((h.1 67 10) ≤ x1)) => ?_)
    · rw [if_pos c0] at hf
      exact B_303_16 hd hf
    · rw [if_neg c0] at hf
      refine Ex.seg 2 (pc' := 17) (lc' := [some (.ref 67), some (.int x1)]) (st' := [.int 1]) (h' := h) (sg1 rfl rfl (sg1 rfl rfl rfl)) ?_
      exact B_303_17 hd hf
/-- HandleHouseModel.isType(I)Z -/
abbrev F_303 (x1 : Int32) (h : sm_H) : Option (Int32 × sm_H) := F_303_0 x1 h
theorem E_303 {L : Nat} {xs : Nat → Int32} {d : Nat} (hd : 1 ≤ d) {x1 : Int32} {h : sm_H} {r : Int32 × sm_H} (hf : F_303 x1 h = some r) : RUN L xs d 303 [.ref 67, .int x1] h (some (.int r.1), r.2) := by
  obtain ⟨d, rfl⟩ : ∃ e, d = e + 1 := ⟨d - 1, by omega⟩
  exact ⟨Nat.le_of_ble_eq_true rfl, B_303_0 (by omega) hf⟩
def F_304_17 (z0 : Int32) (h : sm_H) : Option (Int32 × sm_H) :=
  if z0 = 0 ∨ z0 = 1 then some (z0, h) else none
theorem B_304_17 {L : Nat} {xs : Nat → Int32} {d : Nat} (hd : 0 ≤ d) {z0 : Int32} {d0 : Option Value} {d1 : Option Value} {h : sm_H} {r : Int32 × sm_H} (hf : F_304_17 z0 h = some r) : Ex (P_G L xs) (RUN L xs d) (sm_lk P_t304) 3 17 [d0, d1] [.int z0] h (some (.int r.1), r.2) := by
  unfold F_304_17 at hf
  rcases Classical.em (z0 = 0 ∨ z0 = 1) with c0 | c0
  · rw [if_pos c0] at hf
    obtain rfl := Option.some.inj hf
    exact Ex.iret rfl rfl (fun _ => c0) rfl
  · rw [if_neg c0] at hf
    cases hf
def F_304_16  (h : sm_H) : Option (Int32 × sm_H) :=
  F_304_17 0 h
theorem B_304_16 {L : Nat} {xs : Nat → Int32} {d : Nat} (hd : 0 ≤ d)  {d0 : Option Value} {d1 : Option Value} {h : sm_H} {r : Int32 × sm_H} (hf : F_304_16  h = some r) : Ex (P_G L xs) (RUN L xs d) (sm_lk P_t304) 3 16 [d0, d1] [] h (some (.int r.1), r.2) := by
  unfold F_304_16 at hf
  refine Ex.seg 1 (pc' := 17) (lc' := [d0, d1]) (st' := [.int 0]) (h' := h) (sg1 rfl rfl rfl) ?_
  exact B_304_17 hd hf
def F_304_0 (x1 : Int32) (h : sm_H) : Option (Int32 × sm_H) :=
  if x1 < 0 then (F_304_16 h)
  else (if (h.1 67 18) ≤ x1 then (F_304_16 h)
  else (F_304_17 1 h))
theorem B_304_0 {L : Nat} {xs : Nat → Int32} {d : Nat} (hd : 0 ≤ d) {x1 : Int32}  {h : sm_H} {r : Int32 × sm_H} (hf : F_304_0 x1 h = some r) : Ex (P_G L xs) (RUN L xs d) (sm_lk P_t304) 3 0 [some (.ref 67), some (.int x1)] [] h (some (.int r.1), r.2) := by
  unfold F_304_0 at hf
  refine Ex.seg 1 (pc' := 1) (lc' := [some (.ref 67), some (.int x1)]) (st' := [.int x1]) (h' := h) (sg1 rfl rfl rfl) ?_
  refine Ex.ifc rfl rfl (fun (c0 : x1 < 0) => ?_) (fun (c0 : ¬ (x1 < 0)) => ?_)
  · rw [if_pos c0] at hf
    exact B_304_16 hd hf
  · rw [if_neg c0] at hf
    refine Ex.seg 3 (pc' := 9) (lc' := [some (.ref 67), some (.int x1)]) (st' := [.int (h.1 67 18), .int x1]) (h' := h) (sg1 rfl rfl (sg1 rfl rfl (sg1 rfl rfl rfl))) ?_
    refine Ex.icmp rfl rfl (fun (c0 : (h.1 67 18) ≤ x1) => ?_) (fun (c0 : ¬ ((h.1 67 18) ≤ x1)) => ?_)
    · rw [if_pos c0] at hf
      exact B_304_16 hd hf
    · rw [if_neg c0] at hf
      refine Ex.seg 2 (pc' := 17) (lc' := [some (.ref 67), some (.int x1)]) (st' := [.int 1]) (h' := h) (sg1 rfl rfl (sg1 rfl rfl rfl)) ?_
      exact B_304_17 hd hf
/-- HandleHouseModel.isHandle(I)Z -/
abbrev F_304 (x1 : Int32) (h : sm_H) : Option (Int32 × sm_H) := F_304_0 x1 h
theorem E_304 {L : Nat} {xs : Nat → Int32} {d : Nat} (hd : 1 ≤ d) {x1 : Int32} {h : sm_H} {r : Int32 × sm_H} (hf : F_304 x1 h = some r) : RUN L xs d 304 [.ref 67, .int x1] h (some (.int r.1), r.2) := by
  obtain ⟨d, rfl⟩ : ∃ e, d = e + 1 := ⟨d - 1, by omega⟩
  exact ⟨Nat.le_of_ble_eq_true rfl, B_304_0 (by omega) hf⟩
def F_305_0 (x1 : Int32) (h : sm_H) : Option (Int32 × sm_H) :=
  (ldI h 76 500 x1).bind fun v1 =>
  (ldI h 73 300 v1).bind fun v2 =>
  some (v2, h)
theorem B_305_0 {L : Nat} {xs : Nat → Int32} {d : Nat} (hd : 0 ≤ d) {x1 : Int32}  {h : sm_H} {r : Int32 × sm_H} (hf : F_305_0 x1 h = some r) : Ex (P_G L xs) (RUN L xs d) (sm_lk P_t305) 0 0 [some (.ref 67), some (.int x1)] [] h (some (.int r.1), r.2) := by
  unfold F_305_0 at hf
  refine Ex.seg 5 (pc' := 9) (lc' := [some (.ref 67), some (.int x1)]) (st' := [.int x1, .ref 76, .ref 73]) (h' := h) (sg1 rfl rfl (sg1 rfl rfl (sg1 rfl rfl (sg1 rfl rfl (sg1 rfl rfl rfl))))) ?_
  obtain ⟨v1, e_v1, hf⟩ := bnd hf
  refine Ex.iald e_v1 rfl rfl ?_
  obtain ⟨v2, e_v2, hf⟩ := bnd hf
  refine Ex.iald e_v2 rfl rfl ?_
  obtain rfl := Option.some.inj hf
  exact Ex.iret rfl rfl (fun c0 => by cases c0) rfl
/-- HandleHouseModel.many(I)I -/
abbrev F_305 (x1 : Int32) (h : sm_H) : Option (Int32 × sm_H) := F_305_0 x1 h
theorem E_305 {L : Nat} {xs : Nat → Int32} {d : Nat} (hd : 1 ≤ d) {x1 : Int32} {h : sm_H} {r : Int32 × sm_H} (hf : F_305 x1 h = some r) : RUN L xs d 305 [.ref 67, .int x1] h (some (.int r.1), r.2) := by
  obtain ⟨d, rfl⟩ : ∃ e, d = e + 1 := ⟨d - 1, by omega⟩
  exact ⟨Nat.le_of_ble_eq_true rfl, B_305_0 (by omega) hf⟩
def F_306_0 (x1 : Int32) (x2 : Int32) (h : sm_H) : Option (Int32 × sm_H) :=
  (ldI h 76 500 x1).bind fun v1 =>
  (ldI h 74 3000 ((10 * v1) + x2)).bind fun v2 =>
  some (v2, h)
theorem B_306_0 {L : Nat} {xs : Nat → Int32} {d : Nat} (hd : 0 ≤ d) {x1 : Int32} {x2 : Int32}  {h : sm_H} {r : Int32 × sm_H} (hf : F_306_0 x1 x2 h = some r) : Ex (P_G L xs) (RUN L xs d) (sm_lk P_t306) 0 0 [some (.ref 67), some (.int x1), some (.int x2)] [] h (some (.int r.1), r.2) := by
  unfold F_306_0 at hf
  refine Ex.seg 6 (pc' := 11) (lc' := [some (.ref 67), some (.int x1), some (.int x2)]) (st' := [.int x1, .ref 76, .int 10, .ref 74]) (h' := h) (sg1 rfl rfl (sg1 rfl rfl (sg1 rfl rfl (sg1 rfl rfl (sg1 rfl rfl (sg1 rfl rfl rfl)))))) ?_
  obtain ⟨v1, e_v1, hf⟩ := bnd hf
  refine Ex.iald e_v1 rfl rfl ?_
  refine Ex.seg 3 (pc' := 15) (lc' := [some (.ref 67), some (.int x1), some (.int x2)]) (st' := [.int ((10 * v1) + x2), .ref 74]) (h' := h) (sg1 rfl rfl (sg1 rfl rfl (sg1 rfl rfl rfl))) ?_
  obtain ⟨v2, e_v2, hf⟩ := bnd hf
  refine Ex.iald e_v2 rfl rfl ?_
  obtain rfl := Option.some.inj hf
  exact Ex.iret rfl rfl (fun c0 => by cases c0) rfl
/-- HandleHouseModel.place(II)I -/
abbrev F_306 (x1 : Int32) (x2 : Int32) (h : sm_H) : Option (Int32 × sm_H) := F_306_0 x1 x2 h
theorem E_306 {L : Nat} {xs : Nat → Int32} {d : Nat} (hd : 1 ≤ d) {x1 : Int32} {x2 : Int32} {h : sm_H} {r : Int32 × sm_H} (hf : F_306 x1 x2 h = some r) : RUN L xs d 306 [.ref 67, .int x1, .int x2] h (some (.int r.1), r.2) := by
  obtain ⟨d, rfl⟩ : ∃ e, d = e + 1 := ⟨d - 1, by omega⟩
  exact ⟨Nat.le_of_ble_eq_true rfl, B_306_0 (by omega) hf⟩
def F_307_0 (x1 : Int32) (h : sm_H) : Option (Int32 × sm_H) :=
  (ldI h 76 500 x1).bind fun v1 =>
  (ldI h 72 300 v1).bind fun v2 =>
  some (v2, h)
theorem B_307_0 {L : Nat} {xs : Nat → Int32} {d : Nat} (hd : 0 ≤ d) {x1 : Int32}  {h : sm_H} {r : Int32 × sm_H} (hf : F_307_0 x1 h = some r) : Ex (P_G L xs) (RUN L xs d) (sm_lk P_t307) 0 0 [some (.ref 67), some (.int x1)] [] h (some (.int r.1), r.2) := by
  unfold F_307_0 at hf
  refine Ex.seg 5 (pc' := 9) (lc' := [some (.ref 67), some (.int x1)]) (st' := [.int x1, .ref 76, .ref 72]) (h' := h) (sg1 rfl rfl (sg1 rfl rfl (sg1 rfl rfl (sg1 rfl rfl (sg1 rfl rfl rfl))))) ?_
  obtain ⟨v1, e_v1, hf⟩ := bnd hf
  refine Ex.iald e_v1 rfl rfl ?_
  obtain ⟨v2, e_v2, hf⟩ := bnd hf
  refine Ex.iald e_v2 rfl rfl ?_
  obtain rfl := Option.some.inj hf
  exact Ex.iret rfl rfl (fun c0 => by cases c0) rfl
/-- HandleHouseModel.result(I)I -/
abbrev F_307 (x1 : Int32) (h : sm_H) : Option (Int32 × sm_H) := F_307_0 x1 h
theorem E_307 {L : Nat} {xs : Nat → Int32} {d : Nat} (hd : 1 ≤ d) {x1 : Int32} {h : sm_H} {r : Int32 × sm_H} (hf : F_307 x1 h = some r) : RUN L xs d 307 [.ref 67, .int x1] h (some (.int r.1), r.2) := by
  obtain ⟨d, rfl⟩ : ∃ e, d = e + 1 := ⟨d - 1, by omega⟩
  exact ⟨Nat.le_of_ble_eq_true rfl, B_307_0 (by omega) hf⟩
def F_308_0 (x1 : Int32) (h : sm_H) : Option (sm_H) :=
  (some (sm_wI h 67 20 x1)).bind fun h1 =>
  (some (sm_wI h1 67 21 0)).bind fun h2 =>
  some h2
theorem B_308_0 {L : Nat} {xs : Nat → Int32} {d : Nat} (hd : 0 ≤ d) {x1 : Int32}  {h : sm_H} {r : sm_H} (hf : F_308_0 x1 h = some r) : Ex (P_G L xs) (RUN L xs d) (sm_lk P_t308) 0 0 [some (.ref 67), some (.int x1)] [] h (none, r) := by
  unfold F_308_0 at hf
  refine Ex.seg 3 (pc' := 5) (lc' := [some (.ref 67), some (.int x1)]) (st' := []) (h' := (sm_wI h 67 20 x1)) (sg1 rfl rfl (sg1 rfl rfl (sg1 rfl rfl rfl))) ?_
  obtain ⟨h1, e_h1, hf⟩ := bnd hf
  rw [Option.some.inj e_h1]
  refine Ex.seg 3 (pc' := 10) (lc' := [some (.ref 67), some (.int x1)]) (st' := []) (h' := (sm_wI h1 67 21 0)) (sg1 rfl rfl (sg1 rfl rfl (sg1 rfl rfl rfl))) ?_
  obtain ⟨h2, e_h2, hf⟩ := bnd hf
  rw [Option.some.inj e_h2]
  obtain rfl := Option.some.inj hf
  exact Ex.vret rfl rfl rfl
/-- HandleHouseModel.clearNew(I)V -/
abbrev F_308 (x1 : Int32) (h : sm_H) : Option (sm_H) := F_308_0 x1 h
theorem E_308 {L : Nat} {xs : Nat → Int32} {d : Nat} (hd : 1 ≤ d) {x1 : Int32} {h : sm_H} {r : sm_H} (hf : F_308 x1 h = some r) : RUN L xs d 308 [.ref 67, .int x1] h (none, r) := by
  obtain ⟨d, rfl⟩ : ∃ e, d = e + 1 := ⟨d - 1, by omega⟩
  exact ⟨Nat.le_of_ble_eq_true rfl, B_308_0 (by omega) hf⟩
def F_309_0 (x1 : Int32) (h : sm_H) : Option (sm_H) :=
  (stI h 82 64 (h.1 67 21) x1).bind fun h1 =>
  (some (sm_wI h1 67 21 ((h1.1 67 21) + 1))).bind fun h2 =>
  some h2
theorem B_309_0 {L : Nat} {xs : Nat → Int32} {d : Nat} (hd : 0 ≤ d) {x1 : Int32}  {h : sm_H} {r : sm_H} (hf : F_309_0 x1 h = some r) : Ex (P_G L xs) (RUN L xs d) (sm_lk P_t309) 0 0 [some (.ref 67), some (.int x1)] [] h (none, r) := by
  unfold F_309_0 at hf
  refine Ex.seg 5 (pc' := 9) (lc' := [some (.ref 67), some (.int x1)]) (st' := [.int x1, .int (h.1 67 21), .ref 82]) (h' := h) (sg1 rfl rfl (sg1 rfl rfl (sg1 rfl rfl (sg1 rfl rfl (sg1 rfl rfl rfl))))) ?_
  obtain ⟨h1, e_h1, hf⟩ := bnd hf
  refine Ex.iast e_h1 rfl rfl ?_
  refine Ex.seg 6 (pc' := 20) (lc' := [some (.ref 67), some (.int x1)]) (st' := []) (h' := (sm_wI h1 67 21 ((h1.1 67 21) + 1))) (sg1 rfl rfl (sg1 rfl rfl (sg1 rfl rfl (sg1 rfl rfl (sg1 rfl rfl (sg1 rfl rfl rfl)))))) ?_
  obtain ⟨h2, e_h2, hf⟩ := bnd hf
  rw [Option.some.inj e_h2]
  obtain rfl := Option.some.inj hf
  exact Ex.vret rfl rfl rfl
/-- HandleHouseModel.addNew(I)V -/
abbrev F_309 (x1 : Int32) (h : sm_H) : Option (sm_H) := F_309_0 x1 h
theorem E_309 {L : Nat} {xs : Nat → Int32} {d : Nat} (hd : 1 ≤ d) {x1 : Int32} {h : sm_H} {r : sm_H} (hf : F_309 x1 h = some r) : RUN L xs d 309 [.ref 67, .int x1] h (none, r) := by
  obtain ⟨d, rfl⟩ : ∃ e, d = e + 1 := ⟨d - 1, by omega⟩
  exact ⟨Nat.le_of_ble_eq_true rfl, B_309_0 (by omega) hf⟩
def F_313_0 (x0 : Int32) (h : sm_H) : Option (Int32 × sm_H) :=
  some (((-1) - x0), h)
theorem B_313_0 {L : Nat} {xs : Nat → Int32} {d : Nat} (hd : 0 ≤ d) {x0 : Int32}  {h : sm_H} {r : Int32 × sm_H} (hf : F_313_0 x0 h = some r) : Ex (P_G L xs) (RUN L xs d) (sm_lk P_t313) 0 0 [some (.int x0)] [] h (some (.int r.1), r.2) := by
  unfold F_313_0 at hf
  refine Ex.seg 3 (pc' := 3) (lc' := [some (.int x0)]) (st' := [.int ((-1) - x0)]) (h' := h) (sg1 rfl rfl (sg1 rfl rfl (sg1 rfl rfl rfl))) ?_
  obtain rfl := Option.some.inj hf
  exact Ex.iret rfl rfl (fun c0 => by cases c0) rfl
/-- HandleHouseModel.simpler(I)I -/
abbrev F_313 (x0 : Int32) (h : sm_H) : Option (Int32 × sm_H) := F_313_0 x0 h
theorem E_313 {L : Nat} {xs : Nat → Int32} {d : Nat} (hd : 1 ≤ d) {x0 : Int32} {h : sm_H} {r : Int32 × sm_H} (hf : F_313 x0 h = some r) : RUN L xs d 313 [.int x0] h (some (.int r.1), r.2) := by
  obtain ⟨d, rfl⟩ : ∃ e, d = e + 1 := ⟨d - 1, by omega⟩
  exact ⟨Nat.le_of_ble_eq_true rfl, B_313_0 (by omega) hf⟩
def F_315_18 (z0 : Int32) (h : sm_H) : Option (Int32 × sm_H) :=
  if z0 = 0 ∨ z0 = 1 then some (z0, h) else none
theorem B_315_18 {L : Nat} {xs : Nat → Int32} {d : Nat} (hd : 0 ≤ d) {z0 : Int32} {d0 : Option Value} {d1 : Option Value} {d2 : Option Value} {d3 : Option Value} {d4 : Option Value} {d5 : Option Value} {h : sm_H} {r : Int32 × sm_H} (hf : F_315_18 z0 h = some r) : Ex (P_G L xs) (RUN L xs d) (sm_lk P_t315) 3 18 [d0, d1, d2, d3, d4, d5] [.int z0] h (some (.int r.1), r.2) := by
  unfold F_315_18 at hf
  rcases Classical.em (z0 = 0 ∨ z0 = 1) with c0 | c0
  · rw [if_pos c0] at hf
    obtain rfl := Option.some.inj hf
    exact Ex.iret rfl rfl (fun _ => c0) rfl
  · rw [if_neg c0] at hf
    cases hf
def F_315_13  (h : sm_H) : Option (Int32 × sm_H) :=
  F_315_18 1 h
theorem B_315_13 {L : Nat} {xs : Nat → Int32} {d : Nat} (hd : 0 ≤ d)  {d0 : Option Value} {d1 : Option Value} {d2 : Option Value} {d3 : Option Value} {d4 : Option Value} {d5 : Option Value} {h : sm_H} {r : Int32 × sm_H} (hf : F_315_13  h = some r) : Ex (P_G L xs) (RUN L xs d) (sm_lk P_t315) 3 13 [d0, d1, d2, d3, d4, d5] [] h (some (.int r.1), r.2) := by
  unfold F_315_13 at hf
  refine Ex.seg 2 (pc' := 18) (lc' := [d0, d1, d2, d3, d4, d5]) (st' := [.int 1]) (h' := h) (sg1 rfl rfl (sg1 rfl rfl rfl)) ?_
  exact B_315_18 hd hf
def F_315_0 (x0 : Int64) (x2 : Int64) (x4 : Int64) (h : sm_H) : Option (Int32 × sm_H) :=
  if (lg_cmp x0 x2) < 0 then (F_315_13 h)
  else (if (lg_cmp x0 x4) ≤ 0 then (F_315_18 0 h)
  else (F_315_13 h))
theorem B_315_0 {L : Nat} {xs : Nat → Int32} {d : Nat} (hd : 0 ≤ d) {x0 : Int64} {x2 : Int64} {x4 : Int64}  {h : sm_H} {r : Int32 × sm_H} (hf : F_315_0 x0 x2 x4 h = some r) : Ex (P_G L xs) (RUN L xs d) (sm_lk P_t315) 3 0 [some (.long x0), none, some (.long x2), none, some (.long x4), none] [] h (some (.int r.1), r.2) := by
  unfold F_315_0 at hf
  refine Ex.seg 3 (pc' := 3) (lc' := [some (.long x0), none, some (.long x2), none, some (.long x4), none]) (st' := [.int (lg_cmp x0 x2)]) (h' := h) (sg1 rfl rfl (sg1 rfl rfl (sg1 rfl rfl rfl))) ?_
  refine Ex.ifc rfl rfl (fun (c0 : (lg_cmp x0 x2) < 0) => ?_) (fun (c0 : ¬ ((lg_cmp x0 x2) < 0)) => ?_)
  · rw [if_pos c0] at hf
    exact B_315_13 hd hf
  · rw [if_neg c0] at hf
    refine Ex.seg 3 (pc' := 10) (lc' := [some (.long x0), none, some (.long x2), none, some (.long x4), none]) (st' := [.int (lg_cmp x0 x4)]) (h' := h) (sg1 rfl rfl (sg1 rfl rfl (sg1 rfl rfl rfl))) ?_
    refine Ex.ifc rfl rfl (fun (c0 : (lg_cmp x0 x4) ≤ 0) => ?_) (fun (c0 : ¬ ((lg_cmp x0 x4) ≤ 0)) => ?_)
    · rw [if_pos c0] at hf
      refine Ex.seg 1 (pc' := 18) (lc' := [some (.long x0), none, some (.long x2), none, some (.long x4), none]) (st' := [.int 0]) (h' := h) (sg1 rfl rfl rfl) ?_
      exact B_315_18 hd hf
    · rw [if_neg c0] at hf
      exact B_315_13 hd hf
/-- HandleHouseModel.outside(JJJ)Z -/
abbrev F_315 (x0 : Int64) (x2 : Int64) (x4 : Int64) (h : sm_H) : Option (Int32 × sm_H) := F_315_0 x0 x2 x4 h
theorem E_315 {L : Nat} {xs : Nat → Int32} {d : Nat} (hd : 1 ≤ d) {x0 : Int64} {x2 : Int64} {x4 : Int64} {h : sm_H} {r : Int32 × sm_H} (hf : F_315 x0 x2 x4 h = some r) : RUN L xs d 315 [.long x0, .long x2, .long x4] h (some (.int r.1), r.2) := by
  obtain ⟨d, rfl⟩ : ∃ e, d = e + 1 := ⟨d - 1, by omega⟩
  exact ⟨Nat.le_of_ble_eq_true rfl, B_315_0 (by omega) hf⟩
def F_332_27 (z0 : Int32) (h : sm_H) : Option (Int32 × sm_H) :=
  some (z0, h)
theorem B_332_27 {L : Nat} {xs : Nat → Int32} {d : Nat} (hd : 1 ≤ d) {z0 : Int32} {d0 : Option Value} {d1 : Option Value} {d2 : Option Value} {h : sm_H} {r : Int32 × sm_H} (hf : F_332_27 z0 h = some r) : Ex (P_G L xs) (RUN L xs d) (sm_lk P_t332) 0 27 [d0, d1, d2] [.int z0] h (some (.int r.1), r.2) := by
  unfold F_332_27 at hf
  obtain rfl := Option.some.inj hf
  exact Ex.iret rfl rfl (fun c0 => by cases c0) rfl
def F_332_0 (x1 : Int32) (x2 : Int32) (h : sm_H) : Option (Int32 × sm_H) :=
  if x2 = (-1) then (if x1 = (-1) then (F_332_27 0 h)
  else ((F_307 x1 h).bind fun q1 =>
  F_332_27 q1.1 q1.2))
  else ((F_307 x2 h).bind fun q2 =>
  F_332_27 q2.1 q2.2)
theorem B_332_0 {L : Nat} {xs : Nat → Int32} {d : Nat} (hd : 1 ≤ d) {x1 : Int32} {x2 : Int32}  {h : sm_H} {r : Int32 × sm_H} (hf : F_332_0 x1 x2 h = some r) : Ex (P_G L xs) (RUN L xs d) (sm_lk P_t332) 0 0 [some (.ref 67), some (.int x1), some (.int x2)] [] h (some (.int r.1), r.2) := by
  unfold F_332_0 at hf
  refine Ex.seg 2 (pc' := 2) (lc' := [some (.ref 67), some (.int x1), some (.int x2)]) (st' := [.int (-1), .int x2]) (h' := h) (sg1 rfl rfl (sg1 rfl rfl rfl)) ?_
  refine Ex.icmp rfl rfl (fun (c0 : x2 = (-1)) => ?_) (fun (c0 : ¬ (x2 = (-1))) => ?_)
  · rw [if_pos c0] at hf
    refine Ex.seg 2 (pc' := 15) (lc' := [some (.ref 67), some (.int x1), some (.int x2)]) (st' := [.int (-1), .int x1]) (h' := h) (sg1 rfl rfl (sg1 rfl rfl rfl)) ?_
    refine Ex.icmp rfl rfl (fun (c0 : x1 = (-1)) => ?_) (fun (c0 : ¬ (x1 = (-1))) => ?_)
    · rw [if_pos c0] at hf
      refine Ex.seg 1 (pc' := 27) (lc' := [some (.ref 67), some (.int x1), some (.int x2)]) (st' := [.int 0]) (h' := h) (sg1 rfl rfl rfl) ?_
      exact B_332_27 hd hf
    · rw [if_neg c0] at hf
      refine Ex.seg 2 (pc' := 20) (lc' := [some (.ref 67), some (.int x1), some (.int x2)]) (st' := [.int x1, .ref 67]) (h' := h) (sg1 rfl rfl (sg1 rfl rfl rfl)) ?_
      obtain ⟨q1, e_q1, hf⟩ := bnd hf
      refine Ex.callV (a := 67) (As := [.int x1]) (r := []) (v := some (.int q1.1)) (h' := q1.2) rfl rfl (by decide) rfl (Nat.le_of_ble_eq_true rfl) rfl (E_307 (Nat.le_trans (by decide) hd) e_q1) rfl ?_
      refine Ex.seg 1 (pc' := 27) (lc' := [some (.ref 67), some (.int x1), some (.int x2)]) (st' := [.int q1.1]) (h' := q1.2) (sg1 rfl rfl rfl) ?_
      exact B_332_27 hd hf
  · rw [if_neg c0] at hf
    refine Ex.seg 2 (pc' := 7) (lc' := [some (.ref 67), some (.int x1), some (.int x2)]) (st' := [.int x2, .ref 67]) (h' := h) (sg1 rfl rfl (sg1 rfl rfl rfl)) ?_
    obtain ⟨q2, e_q2, hf⟩ := bnd hf
    refine Ex.callV (a := 67) (As := [.int x2]) (r := []) (v := some (.int q2.1)) (h' := q2.2) rfl rfl (by decide) rfl (Nat.le_of_ble_eq_true rfl) rfl (E_307 (Nat.le_trans (by decide) hd) e_q2) rfl ?_
    refine Ex.seg 1 (pc' := 27) (lc' := [some (.ref 67), some (.int x1), some (.int x2)]) (st' := [.int q2.1]) (h' := q2.2) (sg1 rfl rfl rfl) ?_
    exact B_332_27 hd hf
/-- HandleHouseModel.variableOf(II)I -/
abbrev F_332 (x1 : Int32) (x2 : Int32) (h : sm_H) : Option (Int32 × sm_H) := F_332_0 x1 x2 h
theorem E_332 {L : Nat} {xs : Nat → Int32} {d : Nat} (hd : 2 ≤ d) {x1 : Int32} {x2 : Int32} {h : sm_H} {r : Int32 × sm_H} (hf : F_332 x1 x2 h = some r) : RUN L xs d 332 [.ref 67, .int x1, .int x2] h (some (.int r.1), r.2) := by
  obtain ⟨d, rfl⟩ : ∃ e, d = e + 1 := ⟨d - 1, by omega⟩
  exact ⟨Nat.le_of_ble_eq_true rfl, B_332_0 (by omega) hf⟩
def F_334_131  (h : sm_H) : Option (Int32 × sm_H) :=
  some (0, h)
theorem B_334_131 {L : Nat} {xs : Nat → Int32} {d : Nat} (hd : 1 ≤ d)  {d0 : Option Value} {d1 : Option Value} {d2 : Option Value} {d3 : Option Value} {h : sm_H} {r : Int32 × sm_H} (hf : F_334_131  h = some r) : Ex (P_G L xs) (RUN L xs d) (sm_lk P_t334) 0 131 [d0, d1, d2, d3] [] h (some (.int r.1), r.2) := by
  unfold F_334_131 at hf
  refine Ex.seg 1 (pc' := 132) (lc' := [d0, d1, d2, d3]) (st' := [.int 0]) (h' := h) (sg1 rfl rfl rfl) ?_
  obtain rfl := Option.some.inj hf
  exact Ex.iret rfl rfl (fun c0 => by cases c0) rfl
def F_334_120 (y1 : Int32) (y3 : Int32) (h : sm_H) : Option (Int32 × sm_H) :=
  if y1 = 25 then ((F_309 y3 h).bind fun q1 =>
  F_334_131 q1)
  else (F_334_131 h)
theorem B_334_120 {L : Nat} {xs : Nat → Int32} {d : Nat} (hd : 1 ≤ d) {y1 : Int32} {y3 : Int32} {d2 : Option Value} {h : sm_H} {r : Int32 × sm_H} (hf : F_334_120 y1 y3 h = some r) : Ex (P_G L xs) (RUN L xs d) (sm_lk P_t334) 0 120 [some (.ref 67), some (.int y1), d2, some (.int y3)] [] h (some (.int r.1), r.2) := by
  unfold F_334_120 at hf
  refine Ex.seg 2 (pc' := 123) (lc' := [some (.ref 67), some (.int y1), d2, some (.int y3)]) (st' := [.int 25, .int y1]) (h' := h) (sg1 rfl rfl (sg1 rfl rfl rfl)) ?_
  refine Ex.icmp rfl rfl (fun (c0 : ¬ (y1 = 25)) => ?_) (fun (c0 : ¬ ¬ (y1 = 25)) => ?_)
  · rw [if_neg c0] at hf
    exact B_334_131 hd hf
  · rw [if_pos (Classical.not_not.mp c0)] at hf
    refine Ex.seg 2 (pc' := 128) (lc' := [some (.ref 67), some (.int y1), d2, some (.int y3)]) (st' := [.int y3, .ref 67]) (h' := h) (sg1 rfl rfl (sg1 rfl rfl rfl)) ?_
    obtain ⟨q1, e_q1, hf⟩ := bnd hf
    refine Ex.callV (a := 67) (As := [.int y3]) (r := []) (v := none) (h' := q1) rfl rfl (by decide) rfl (Nat.le_of_ble_eq_true rfl) rfl (E_309 (Nat.le_trans (by decide) hd) e_q1) rfl ?_
    exact B_334_131 hd hf
def F_334_75 (y1 : Int32) (y2 : Int32) (y3 : Int32) (z1 : Int32) (h : sm_H) : Option (Int32 × sm_H) :=
  (F_308 z1 h).bind fun q2 =>
  if y1 = 20 then ((F_309 5 q2).bind fun q6 =>
  some (0, q6))
  else ((F_309 y2 q2).bind fun q3 =>
  if y1 = 21 then (some (0, q3))
  else ((F_309 5 q3).bind fun q4 =>
  if y1 = 22 then (F_334_120 y1 y3 q4)
  else ((F_309 y3 q4).bind fun q5 =>
  F_334_120 y1 y3 q5)))
theorem B_334_75 {L : Nat} {xs : Nat → Int32} {d : Nat} (hd : 1 ≤ d) {y1 : Int32} {y2 : Int32} {y3 : Int32} {z1 : Int32}  {h : sm_H} {r : Int32 × sm_H} (hf : F_334_75 y1 y2 y3 z1 h = some r) : Ex (P_G L xs) (RUN L xs d) (sm_lk P_t334) 0 75 [some (.ref 67), some (.int y1), some (.int y2), some (.int y3)] [.int z1, .ref 67] h (some (.int r.1), r.2) := by
  unfold F_334_75 at hf
  obtain ⟨q2, e_q2, hf⟩ := bnd hf
  refine Ex.callV (a := 67) (As := [.int z1]) (r := []) (v := none) (h' := q2) rfl rfl (by decide) rfl (Nat.le_of_ble_eq_true rfl) rfl (E_308 (Nat.le_trans (by decide) hd) e_q2) rfl ?_
  refine Ex.seg 2 (pc' := 81) (lc' := [some (.ref 67), some (.int y1), some (.int y2), some (.int y3)]) (st' := [.int 20, .int y1]) (h' := q2) (sg1 rfl rfl (sg1 rfl rfl rfl)) ?_
  refine Ex.icmp rfl rfl (fun (c0 : ¬ (y1 = 20)) => ?_) (fun (c0 : ¬ ¬ (y1 = 20)) => ?_)
  · rw [if_neg c0] at hf
    refine Ex.seg 2 (pc' := 93) (lc' := [some (.ref 67), some (.int y1), some (.int y2), some (.int y3)]) (st' := [.int y2, .ref 67]) (h' := q2) (sg1 rfl rfl (sg1 rfl rfl rfl)) ?_
    obtain ⟨q3, e_q3, hf⟩ := bnd hf
    refine Ex.callV (a := 67) (As := [.int y2]) (r := []) (v := none) (h' := q3) rfl rfl (by decide) rfl (Nat.le_of_ble_eq_true rfl) rfl (E_309 (Nat.le_trans (by decide) hd) e_q3) rfl ?_
    refine Ex.seg 2 (pc' := 99) (lc' := [some (.ref 67), some (.int y1), some (.int y2), some (.int y3)]) (st' := [.int 21, .int y1]) (h' := q3) (sg1 rfl rfl (sg1 rfl rfl rfl)) ?_
    refine Ex.icmp rfl rfl (fun (c0 : ¬ (y1 = 21)) => ?_) (fun (c0 : ¬ ¬ (y1 = 21)) => ?_)
    · rw [if_neg c0] at hf
      refine Ex.seg 2 (pc' := 106) (lc' := [some (.ref 67), some (.int y1), some (.int y2), some (.int y3)]) (st' := [.int 5, .ref 67]) (h' := q3) (sg1 rfl rfl (sg1 rfl rfl rfl)) ?_
      obtain ⟨q4, e_q4, hf⟩ := bnd hf
      refine Ex.callV (a := 67) (As := [.int 5]) (r := []) (v := none) (h' := q4) rfl rfl (by decide) rfl (Nat.le_of_ble_eq_true rfl) rfl (E_309 (Nat.le_trans (by decide) hd) e_q4) rfl ?_
      refine Ex.seg 2 (pc' := 112) (lc' := [some (.ref 67), some (.int y1), some (.int y2), some (.int y3)]) (st' := [.int 22, .int y1]) (h' := q4) (sg1 rfl rfl (sg1 rfl rfl rfl)) ?_
      refine Ex.icmp rfl rfl (fun (c0 : y1 = 22) => ?_) (fun (c0 : ¬ (y1 = 22)) => ?_)
      · rw [if_pos c0] at hf
        exact B_334_120 hd hf
      · rw [if_neg c0] at hf
        refine Ex.seg 2 (pc' := 117) (lc' := [some (.ref 67), some (.int y1), some (.int y2), some (.int y3)]) (st' := [.int y3, .ref 67]) (h' := q4) (sg1 rfl rfl (sg1 rfl rfl rfl)) ?_
        obtain ⟨q5, e_q5, hf⟩ := bnd hf
        refine Ex.callV (a := 67) (As := [.int y3]) (r := []) (v := none) (h' := q5) rfl rfl (by decide) rfl (Nat.le_of_ble_eq_true rfl) rfl (E_309 (Nat.le_trans (by decide) hd) e_q5) rfl ?_
        exact B_334_120 hd hf
    · rw [if_pos (Classical.not_not.mp c0)] at hf
      refine Ex.seg 1 (pc' := 103) (lc' := [some (.ref 67), some (.int y1), some (.int y2), some (.int y3)]) (st' := [.int 0]) (h' := q3) (sg1 rfl rfl rfl) ?_
      obtain rfl := Option.some.inj hf
      exact Ex.iret rfl rfl (fun c0 => by cases c0) rfl
  · rw [if_pos (Classical.not_not.mp c0)] at hf
    refine Ex.seg 2 (pc' := 86) (lc' := [some (.ref 67), some (.int y1), some (.int y2), some (.int y3)]) (st' := [.int 5, .ref 67]) (h' := q2) (sg1 rfl rfl (sg1 rfl rfl rfl)) ?_
    obtain ⟨q6, e_q6, hf⟩ := bnd hf
    refine Ex.callV (a := 67) (As := [.int 5]) (r := []) (v := none) (h' := q6) rfl rfl (by decide) rfl (Nat.le_of_ble_eq_true rfl) rfl (E_309 (Nat.le_trans (by decide) hd) e_q6) rfl ?_
    refine Ex.seg 1 (pc' := 90) (lc' := [some (.ref 67), some (.int y1), some (.int y2), some (.int y3)]) (st' := [.int 0]) (h' := q6) (sg1 rfl rfl rfl) ?_
    obtain rfl := Option.some.inj hf
    exact Ex.iret rfl rfl (fun c0 => by cases c0) rfl
def F_334_28 (y1 : Int32) (y2 : Int32) (h : sm_H) : Option (Int32 × sm_H) :=
  (F_294 y2 h).bind fun q7 =>
  if y1 = 20 then (F_334_75 y1 y2 q7.1 y2 q7.2)
  else (if y1 = 21 then (F_334_75 y1 y2 q7.1 5 q7.2)
  else (if y1 = 23 then (F_334_75 y1 y2 q7.1 0 q7.2)
  else (if y1 = 25 then (F_334_75 y1 y2 q7.1 1 q7.2)
  else (F_334_75 y1 y2 q7.1 q7.1 q7.2))))
theorem B_334_28 {L : Nat} {xs : Nat → Int32} {d : Nat} (hd : 1 ≤ d) {y1 : Int32} {y2 : Int32} {d3 : Option Value} {h : sm_H} {r : Int32 × sm_H} (hf : F_334_28 y1 y2 h = some r) : Ex (P_G L xs) (RUN L xs d) (sm_lk P_t334) 0 28 [some (.ref 67), some (.int y1), some (.int y2), d3] [] h (some (.int r.1), r.2) := by
  unfold F_334_28 at hf
  refine Ex.seg 1 (pc' := 29) (lc' := [some (.ref 67), some (.int y1), some (.int y2), d3]) (st' := [.int y2]) (h' := h) (sg1 rfl rfl rfl) ?_
  obtain ⟨q7, e_q7, hf⟩ := bnd hf
  refine Ex.callS (As := [.int y2]) (r := []) (v := some (.int q7.1)) (h' := q7.2) rfl rfl rfl rfl (Nat.le_of_ble_eq_true rfl) (E_294 (Nat.le_trans (by decide) hd) e_q7) rfl ?_
  refine Ex.seg 4 (pc' := 37) (lc' := [some (.ref 67), some (.int y1), some (.int y2), some (.int q7.1)]) (st' := [.int 20, .int y1, .ref 67]) (h' := q7.2) (sg1 rfl rfl (sg1 rfl rfl (sg1 rfl rfl (sg1 rfl rfl rfl)))) ?_
  refine Ex.icmp rfl rfl (fun (c0 : ¬ (y1 = 20)) => ?_) (fun (c0 : ¬ ¬ (y1 = 20)) => ?_)
  · rw [if_neg c0] at hf
    refine Ex.seg 2 (pc' := 47) (lc' := [some (.ref 67), some (.int y1), some (.int y2), some (.int q7.1)]) (st' := [.int 21, .int y1, .ref 67]) (h' := q7.2) (sg1 rfl rfl (sg1 rfl rfl rfl)) ?_
    refine Ex.icmp rfl rfl (fun (c0 : ¬ (y1 = 21)) => ?_) (fun (c0 : ¬ ¬ (y1 = 21)) => ?_)
    · rw [if_neg c0] at hf
      refine Ex.seg 2 (pc' := 57) (lc' := [some (.ref 67), some (.int y1), some (.int y2), some (.int q7.1)]) (st' := [.int 23, .int y1, .ref 67]) (h' := q7.2) (sg1 rfl rfl (sg1 rfl rfl rfl)) ?_
      refine Ex.icmp rfl rfl (fun (c0 : ¬ (y1 = 23)) => ?_) (fun (c0 : ¬ ¬ (y1 = 23)) => ?_)
      · rw [if_neg c0] at hf
        refine Ex.seg 2 (pc' := 67) (lc' := [some (.ref 67), some (.int y1), some (.int y2), some (.int q7.1)]) (st' := [.int 25, .int y1, .ref 67]) (h' := q7.2) (sg1 rfl rfl (sg1 rfl rfl rfl)) ?_
        refine Ex.icmp rfl rfl (fun (c0 : ¬ (y1 = 25)) => ?_) (fun (c0 : ¬ ¬ (y1 = 25)) => ?_)
        · rw [if_neg c0] at hf
          refine Ex.seg 1 (pc' := 75) (lc' := [some (.ref 67), some (.int y1), some (.int y2), some (.int q7.1)]) (st' := [.int q7.1, .ref 67]) (h' := q7.2) (sg1 rfl rfl rfl) ?_
          exact B_334_75 hd hf
        · rw [if_pos (Classical.not_not.mp c0)] at hf
          refine Ex.seg 2 (pc' := 75) (lc' := [some (.ref 67), some (.int y1), some (.int y2), some (.int q7.1)]) (st' := [.int 1, .ref 67]) (h' := q7.2) (sg1 rfl rfl (sg1 rfl rfl rfl)) ?_
          exact B_334_75 hd hf
      · rw [if_pos (Classical.not_not.mp c0)] at hf
        refine Ex.seg 2 (pc' := 75) (lc' := [some (.ref 67), some (.int y1), some (.int y2), some (.int q7.1)]) (st' := [.int 0, .ref 67]) (h' := q7.2) (sg1 rfl rfl (sg1 rfl rfl rfl)) ?_
        exact B_334_75 hd hf
    · rw [if_pos (Classical.not_not.mp c0)] at hf
      refine Ex.seg 2 (pc' := 75) (lc' := [some (.ref 67), some (.int y1), some (.int y2), some (.int q7.1)]) (st' := [.int 5, .ref 67]) (h' := q7.2) (sg1 rfl rfl (sg1 rfl rfl rfl)) ?_
      exact B_334_75 hd hf
  · rw [if_pos (Classical.not_not.mp c0)] at hf
    refine Ex.seg 2 (pc' := 75) (lc' := [some (.ref 67), some (.int y1), some (.int y2), some (.int q7.1)]) (st' := [.int y2, .ref 67]) (h' := q7.2) (sg1 rfl rfl (sg1 rfl rfl rfl)) ?_
    exact B_334_75 hd hf
def F_334_26  (h : sm_H) : Option (Int32 × sm_H) :=
  some (1, h)
theorem B_334_26 {L : Nat} {xs : Nat → Int32} {d : Nat} (hd : 1 ≤ d)  {d0 : Option Value} {d1 : Option Value} {d2 : Option Value} {d3 : Option Value} {h : sm_H} {r : Int32 × sm_H} (hf : F_334_26  h = some r) : Ex (P_G L xs) (RUN L xs d) (sm_lk P_t334) 0 26 [d0, d1, d2, d3] [] h (some (.int r.1), r.2) := by
  unfold F_334_26 at hf
  refine Ex.seg 1 (pc' := 27) (lc' := [d0, d1, d2, d3]) (st' := [.int 1]) (h' := h) (sg1 rfl rfl rfl) ?_
  obtain rfl := Option.some.inj hf
  exact Ex.iret rfl rfl (fun c0 => by cases c0) rfl
def F_334_0 (x1 : Int32) (x2 : Int32) (h : sm_H) : Option (Int32 × sm_H) :=
  if (h.1 67 3) = 0 then ((F_293 x2 h).bind fun q8 =>
  if q8.1 = 0 then (F_334_26 q8.2)
  else (if x1 = 26 then (if x2 = 17 then (F_334_26 q8.2)
  else (F_334_28 x1 x2 q8.2))
  else (F_334_28 x1 x2 q8.2)))
  else (F_334_26 h)
theorem B_334_0 {L : Nat} {xs : Nat → Int32} {d : Nat} (hd : 1 ≤ d) {x1 : Int32} {x2 : Int32}  {h : sm_H} {r : Int32 × sm_H} (hf : F_334_0 x1 x2 h = some r) : Ex (P_G L xs) (RUN L xs d) (sm_lk P_t334) 0 0 [some (.ref 67), some (.int x1), some (.int x2), none] [] h (some (.int r.1), r.2) := by
  unfold F_334_0 at hf
  refine Ex.seg 2 (pc' := 4) (lc' := [some (.ref 67), some (.int x1), some (.int x2), none]) (st' := [.int (h.1 67 3)]) (h' := h) (sg1 rfl rfl (sg1 rfl rfl rfl)) ?_
  refine Ex.ifc rfl rfl (fun (c0 : ¬ ((h.1 67 3) = 0)) => ?_) (fun (c0 : ¬ ¬ ((h.1 67 3) = 0)) => ?_)
  · rw [if_neg c0] at hf
    exact B_334_26 hd hf
  · rw [if_pos (Classical.not_not.mp c0)] at hf
    refine Ex.seg 1 (pc' := 8) (lc' := [some (.ref 67), some (.int x1), some (.int x2), none]) (st' := [.int x2]) (h' := h) (sg1 rfl rfl rfl) ?_
    obtain ⟨q8, e_q8, hf⟩ := bnd hf
    refine Ex.callS (As := [.int x2]) (r := []) (v := some (.int q8.1)) (h' := q8.2) rfl rfl rfl rfl (Nat.le_of_ble_eq_true rfl) (E_293 (Nat.le_trans (by decide) hd) e_q8) rfl ?_
    refine Ex.ifc rfl rfl (fun (c0 : q8.1 = 0) => ?_) (fun (c0 : ¬ (q8.1 = 0)) => ?_)
    · rw [if_pos c0] at hf
      exact B_334_26 hd hf
    · rw [if_neg c0] at hf
      refine Ex.seg 2 (pc' := 17) (lc' := [some (.ref 67), some (.int x1), some (.int x2), none]) (st' := [.int 26, .int x1]) (h' := q8.2) (sg1 rfl rfl (sg1 rfl rfl rfl)) ?_
      refine Ex.icmp rfl rfl (fun (c0 : ¬ (x1 = 26)) => ?_) (fun (c0 : ¬ ¬ (x1 = 26)) => ?_)
      · rw [if_neg c0] at hf
        exact B_334_28 hd hf
      · rw [if_pos (Classical.not_not.mp c0)] at hf
        refine Ex.seg 2 (pc' := 23) (lc' := [some (.ref 67), some (.int x1), some (.int x2), none]) (st' := [.int 17, .int x2]) (h' := q8.2) (sg1 rfl rfl (sg1 rfl rfl rfl)) ?_
        refine Ex.icmp rfl rfl (fun (c0 : ¬ (x2 = 17)) => ?_) (fun (c0 : ¬ ¬ (x2 = 17)) => ?_)
        · rw [if_neg c0] at hf
          exact B_334_28 hd hf
        · rw [if_pos (Classical.not_not.mp c0)] at hf
          exact B_334_26 hd hf
/-- HandleHouseModel.checkRow(II)I -/
abbrev F_334 (x1 : Int32) (x2 : Int32) (h : sm_H) : Option (Int32 × sm_H) := F_334_0 x1 x2 h
theorem E_334 {L : Nat} {xs : Nat → Int32} {d : Nat} (hd : 2 ≤ d) {x1 : Int32} {x2 : Int32} {h : sm_H} {r : Int32 × sm_H} (hf : F_334 x1 x2 h = some r) : RUN L xs d 334 [.ref 67, .int x1, .int x2] h (some (.int r.1), r.2) := by
  obtain ⟨d, rfl⟩ : ∃ e, d = e + 1 := ⟨d - 1, by omega⟩
  exact ⟨Nat.le_of_ble_eq_true rfl, B_334_0 (by omega) hf⟩
def F_337_78 (z0 : Int32) (h : sm_H) : Option (Int32 × sm_H) :=
  if z0 = 0 ∨ z0 = 1 then some (z0, h) else none
theorem B_337_78 {L : Nat} {xs : Nat → Int32} {d : Nat} (hd : 0 ≤ d) {z0 : Int32} {d0 : Option Value} {h : sm_H} {r : Int32 × sm_H} (hf : F_337_78 z0 h = some r) : Ex (P_G L xs) (RUN L xs d) (sm_lk P_t337) 3 78 [d0] [.int z0] h (some (.int r.1), r.2) := by
  unfold F_337_78 at hf
  rcases Classical.em (z0 = 0 ∨ z0 = 1) with c0 | c0
  · rw [if_pos c0] at hf
    obtain rfl := Option.some.inj hf
    exact Ex.iret rfl rfl (fun _ => c0) rfl
  · rw [if_neg c0] at hf
    cases hf
def F_337_73  (h : sm_H) : Option (Int32 × sm_H) :=
  F_337_78 1 h
theorem B_337_73 {L : Nat} {xs : Nat → Int32} {d : Nat} (hd : 0 ≤ d)  {d0 : Option Value} {h : sm_H} {r : Int32 × sm_H} (hf : F_337_73  h = some r) : Ex (P_G L xs) (RUN L xs d) (sm_lk P_t337) 3 73 [d0] [] h (some (.int r.1), r.2) := by
  unfold F_337_73 at hf
  refine Ex.seg 2 (pc' := 78) (lc' := [d0]) (st' := [.int 1]) (h' := h) (sg1 rfl rfl (sg1 rfl rfl rfl)) ?_
  exact B_337_78 hd hf
def F_337_67 (y0 : Int32) (h : sm_H) : Option (Int32 × sm_H) :=
  if y0 < 35 then (F_337_78 0 h)
  else (F_337_73 h)
theorem B_337_67 {L : Nat} {xs : Nat → Int32} {d : Nat} (hd : 0 ≤ d) {y0 : Int32}  {h : sm_H} {r : Int32 × sm_H} (hf : F_337_67 y0 h = some r) : Ex (P_G L xs) (RUN L xs d) (sm_lk P_t337) 3 67 [some (.int y0)] [] h (some (.int r.1), r.2) := by
  unfold F_337_67 at hf
  refine Ex.seg 2 (pc' := 70) (lc' := [some (.int y0)]) (st' := [.int 35, .int y0]) (h' := h) (sg1 rfl rfl (sg1 rfl rfl rfl)) ?_
  refine Ex.icmp rfl rfl (fun (c0 : y0 < 35) => ?_) (fun (c0 : ¬ (y0 < 35)) => ?_)
  · rw [if_pos c0] at hf
    refine Ex.seg 1 (pc' := 78) (lc' := [some (.int y0)]) (st' := [.int 0]) (h' := h) (sg1 rfl rfl rfl) ?_
    exact B_337_78 hd hf
  · rw [if_neg c0] at hf
    exact B_337_73 hd hf
def F_337_55 (y0 : Int32) (h : sm_H) : Option (Int32 × sm_H) :=
  if y0 < 29 then (F_337_67 y0 h)
  else (if y0 ≤ 31 then (F_337_73 h)
  else (F_337_67 y0 h))
theorem B_337_55 {L : Nat} {xs : Nat → Int32} {d : Nat} (hd : 0 ≤ d) {y0 : Int32}  {h : sm_H} {r : Int32 × sm_H} (hf : F_337_55 y0 h = some r) : Ex (P_G L xs) (RUN L xs d) (sm_lk P_t337) 3 55 [some (.int y0)] [] h (some (.int r.1), r.2) := by
  unfold F_337_55 at hf
  refine Ex.seg 2 (pc' := 58) (lc' := [some (.int y0)]) (st' := [.int 29, .int y0]) (h' := h) (sg1 rfl rfl (sg1 rfl rfl rfl)) ?_
  refine Ex.icmp rfl rfl (fun (c0 : y0 < 29) => ?_) (fun (c0 : ¬ (y0 < 29)) => ?_)
  · rw [if_pos c0] at hf
    exact B_337_67 hd hf
  · rw [if_neg c0] at hf
    refine Ex.seg 2 (pc' := 64) (lc' := [some (.int y0)]) (st' := [.int 31, .int y0]) (h' := h) (sg1 rfl rfl (sg1 rfl rfl rfl)) ?_
    refine Ex.icmp rfl rfl (fun (c0 : y0 ≤ 31) => ?_) (fun (c0 : ¬ (y0 ≤ 31)) => ?_)
    · rw [if_pos c0] at hf
      exact B_337_73 hd hf
    · rw [if_neg c0] at hf
      exact B_337_67 hd hf
def F_337_31 (y0 : Int32) (h : sm_H) : Option (Int32 × sm_H) :=
  if y0 = 10 then (F_337_73 h)
  else (if y0 = 15 then (F_337_73 h)
  else (if y0 < 19 then (F_337_55 y0 h)
  else (if y0 ≤ 26 then (F_337_73 h)
  else (F_337_55 y0 h))))
theorem B_337_31 {L : Nat} {xs : Nat → Int32} {d : Nat} (hd : 0 ≤ d) {y0 : Int32}  {h : sm_H} {r : Int32 × sm_H} (hf : F_337_31 y0 h = some r) : Ex (P_G L xs) (RUN L xs d) (sm_lk P_t337) 3 31 [some (.int y0)] [] h (some (.int r.1), r.2) := by
  unfold F_337_31 at hf
  refine Ex.seg 2 (pc' := 34) (lc' := [some (.int y0)]) (st' := [.int 10, .int y0]) (h' := h) (sg1 rfl rfl (sg1 rfl rfl rfl)) ?_
  refine Ex.icmp rfl rfl (fun (c0 : y0 = 10) => ?_) (fun (c0 : ¬ (y0 = 10)) => ?_)
  · rw [if_pos c0] at hf
    exact B_337_73 hd hf
  · rw [if_neg c0] at hf
    refine Ex.seg 2 (pc' := 40) (lc' := [some (.int y0)]) (st' := [.int 15, .int y0]) (h' := h) (sg1 rfl rfl (sg1 rfl rfl rfl)) ?_
    refine Ex.icmp rfl rfl (fun (c0 : y0 = 15) => ?_) (fun (c0 : ¬ (y0 = 15)) => ?_)
    · rw [if_pos c0] at hf
      exact B_337_73 hd hf
    · rw [if_neg c0] at hf
      refine Ex.seg 2 (pc' := 46) (lc' := [some (.int y0)]) (st' := [.int 19, .int y0]) (h' := h) (sg1 rfl rfl (sg1 rfl rfl rfl)) ?_
      refine Ex.icmp rfl rfl (fun (c0 : y0 < 19) => ?_) (fun (c0 : ¬ (y0 < 19)) => ?_)
      · rw [if_pos c0] at hf
        exact B_337_55 hd hf
      · rw [if_neg c0] at hf
        refine Ex.seg 2 (pc' := 52) (lc' := [some (.int y0)]) (st' := [.int 26, .int y0]) (h' := h) (sg1 rfl rfl (sg1 rfl rfl rfl)) ?_
        refine Ex.icmp rfl rfl (fun (c0 : y0 ≤ 26) => ?_) (fun (c0 : ¬ (y0 ≤ 26)) => ?_)
        · rw [if_pos c0] at hf
          exact B_337_73 hd hf
        · rw [if_neg c0] at hf
          exact B_337_55 hd hf
def F_337_0 (x0 : Int32) (h : sm_H) : Option (Int32 × sm_H) :=
  if x0 = 0 then (F_337_73 h)
  else (if x0 = 2 then (F_337_73 h)
  else (if x0 = 3 then (F_337_73 h)
  else (if x0 = 4 then (F_337_73 h)
  else (if x0 < 6 then (F_337_31 x0 h)
  else (if x0 ≤ 8 then (F_337_73 h)
  else (F_337_31 x0 h))))))
theorem B_337_0 {L : Nat} {xs : Nat → Int32} {d : Nat} (hd : 0 ≤ d) {x0 : Int32}  {h : sm_H} {r : Int32 × sm_H} (hf : F_337_0 x0 h = some r) : Ex (P_G L xs) (RUN L xs d) (sm_lk P_t337) 3 0 [some (.int x0)] [] h (some (.int r.1), r.2) := by
  unfold F_337_0 at hf
  refine Ex.seg 1 (pc' := 1) (lc' := [some (.int x0)]) (st' := [.int x0]) (h' := h) (sg1 rfl rfl rfl) ?_
  refine Ex.ifc rfl rfl (fun (c0 : x0 = 0) => ?_) (fun (c0 : ¬ (x0 = 0)) => ?_)
  · rw [if_pos c0] at hf
    exact B_337_73 hd hf
  · rw [if_neg c0] at hf
    refine Ex.seg 2 (pc' := 6) (lc' := [some (.int x0)]) (st' := [.int 2, .int x0]) (h' := h) (sg1 rfl rfl (sg1 rfl rfl rfl)) ?_
    refine Ex.icmp rfl rfl (fun (c0 : x0 = 2) => ?_) (fun (c0 : ¬ (x0 = 2)) => ?_)
    · rw [if_pos c0] at hf
      exact B_337_73 hd hf
    · rw [if_neg c0] at hf
      refine Ex.seg 2 (pc' := 11) (lc' := [some (.int x0)]) (st' := [.int 3, .int x0]) (h' := h) (sg1 rfl rfl (sg1 rfl rfl rfl)) ?_
      refine Ex.icmp rfl rfl (fun (c0 : x0 = 3) => ?_) (fun (c0 : ¬ (x0 = 3)) => ?_)
      · rw [if_pos c0] at hf
        exact B_337_73 hd hf
      · rw [if_neg c0] at hf
        refine Ex.seg 2 (pc' := 16) (lc' := [some (.int x0)]) (st' := [.int 4, .int x0]) (h' := h) (sg1 rfl rfl (sg1 rfl rfl rfl)) ?_
        refine Ex.icmp rfl rfl (fun (c0 : x0 = 4) => ?_) (fun (c0 : ¬ (x0 = 4)) => ?_)
        · rw [if_pos c0] at hf
          exact B_337_73 hd hf
        · rw [if_neg c0] at hf
          refine Ex.seg 2 (pc' := 22) (lc' := [some (.int x0)]) (st' := [.int 6, .int x0]) (h' := h) (sg1 rfl rfl (sg1 rfl rfl rfl)) ?_
          refine Ex.icmp rfl rfl (fun (c0 : x0 < 6) => ?_) (fun (c0 : ¬ (x0 < 6)) => ?_)
          · rw [if_pos c0] at hf
            exact B_337_31 hd hf
          · rw [if_neg c0] at hf
            refine Ex.seg 2 (pc' := 28) (lc' := [some (.int x0)]) (st' := [.int 8, .int x0]) (h' := h) (sg1 rfl rfl (sg1 rfl rfl rfl)) ?_
            refine Ex.icmp rfl rfl (fun (c0 : x0 ≤ 8) => ?_) (fun (c0 : ¬ (x0 ≤ 8)) => ?_)
            · rw [if_pos c0] at hf
              exact B_337_73 hd hf
            · rw [if_neg c0] at hf
              exact B_337_31 hd hf
/-- HandleHouseModel.hasA(I)Z -/
abbrev F_337 (x0 : Int32) (h : sm_H) : Option (Int32 × sm_H) := F_337_0 x0 h
theorem E_337 {L : Nat} {xs : Nat → Int32} {d : Nat} (hd : 1 ≤ d) {x0 : Int32} {h : sm_H} {r : Int32 × sm_H} (hf : F_337 x0 h = some r) : RUN L xs d 337 [.int x0] h (some (.int r.1), r.2) := by
  obtain ⟨d, rfl⟩ : ∃ e, d = e + 1 := ⟨d - 1, by omega⟩
  exact ⟨Nat.le_of_ble_eq_true rfl, B_337_0 (by omega) hf⟩
def F_338_69 (z0 : Int32) (h : sm_H) : Option (Int32 × sm_H) :=
  if z0 = 0 ∨ z0 = 1 then some (z0, h) else none
theorem B_338_69 {L : Nat} {xs : Nat → Int32} {d : Nat} (hd : 0 ≤ d) {z0 : Int32} {d0 : Option Value} {h : sm_H} {r : Int32 × sm_H} (hf : F_338_69 z0 h = some r) : Ex (P_G L xs) (RUN L xs d) (sm_lk P_t338) 3 69 [d0] [.int z0] h (some (.int r.1), r.2) := by
  unfold F_338_69 at hf
  rcases Classical.em (z0 = 0 ∨ z0 = 1) with c0 | c0
  · rw [if_pos c0] at hf
    obtain rfl := Option.some.inj hf
    exact Ex.iret rfl rfl (fun _ => c0) rfl
  · rw [if_neg c0] at hf
    cases hf
def F_338_68  (h : sm_H) : Option (Int32 × sm_H) :=
  F_338_69 0 h
theorem B_338_68 {L : Nat} {xs : Nat → Int32} {d : Nat} (hd : 0 ≤ d)  {d0 : Option Value} {h : sm_H} {r : Int32 × sm_H} (hf : F_338_68  h = some r) : Ex (P_G L xs) (RUN L xs d) (sm_lk P_t338) 3 68 [d0] [] h (some (.int r.1), r.2) := by
  unfold F_338_68 at hf
  refine Ex.seg 1 (pc' := 69) (lc' := [d0]) (st' := [.int 0]) (h' := h) (sg1 rfl rfl rfl) ?_
  exact B_338_69 hd hf
def F_338_64  (h : sm_H) : Option (Int32 × sm_H) :=
  F_338_69 1 h
theorem B_338_64 {L : Nat} {xs : Nat → Int32} {d : Nat} (hd : 0 ≤ d)  {d0 : Option Value} {h : sm_H} {r : Int32 × sm_H} (hf : F_338_64  h = some r) : Ex (P_G L xs) (RUN L xs d) (sm_lk P_t338) 3 64 [d0] [] h (some (.int r.1), r.2) := by
  unfold F_338_64 at hf
  refine Ex.seg 2 (pc' := 69) (lc' := [d0]) (st' := [.int 1]) (h' := h) (sg1 rfl rfl (sg1 rfl rfl rfl)) ?_
  exact B_338_69 hd hf
def F_338_22 (y0 : Int32) (h : sm_H) : Option (Int32 × sm_H) :=
  if y0 = 18 then (F_338_64 h)
  else (if y0 = 19 then (F_338_64 h)
  else (if y0 = 27 then (F_338_64 h)
  else (if y0 = 28 then (F_338_64 h)
  else (if y0 = 34 then (F_338_64 h)
  else (if y0 < 35 then (F_338_68 h)
  else (if 37 < y0 then (F_338_68 h)
  else (F_338_64 h)))))))
theorem B_338_22 {L : Nat} {xs : Nat → Int32} {d : Nat} (hd : 0 ≤ d) {y0 : Int32}  {h : sm_H} {r : Int32 × sm_H} (hf : F_338_22 y0 h = some r) : Ex (P_G L xs) (RUN L xs d) (sm_lk P_t338) 3 22 [some (.int y0)] [] h (some (.int r.1), r.2) := by
  unfold F_338_22 at hf
  refine Ex.seg 2 (pc' := 25) (lc' := [some (.int y0)]) (st' := [.int 18, .int y0]) (h' := h) (sg1 rfl rfl (sg1 rfl rfl rfl)) ?_
  refine Ex.icmp rfl rfl (fun (c0 : y0 = 18) => ?_) (fun (c0 : ¬ (y0 = 18)) => ?_)
  · rw [if_pos c0] at hf
    exact B_338_64 hd hf
  · rw [if_neg c0] at hf
    refine Ex.seg 2 (pc' := 31) (lc' := [some (.int y0)]) (st' := [.int 19, .int y0]) (h' := h) (sg1 rfl rfl (sg1 rfl rfl rfl)) ?_
    refine Ex.icmp rfl rfl (fun (c0 : y0 = 19) => ?_) (fun (c0 : ¬ (y0 = 19)) => ?_)
    · rw [if_pos c0] at hf
      exact B_338_64 hd hf
    · rw [if_neg c0] at hf
      refine Ex.seg 2 (pc' := 37) (lc' := [some (.int y0)]) (st' := [.int 27, .int y0]) (h' := h) (sg1 rfl rfl (sg1 rfl rfl rfl)) ?_
      refine Ex.icmp rfl rfl (fun (c0 : y0 = 27) => ?_) (fun (c0 : ¬ (y0 = 27)) => ?_)
      · rw [if_pos c0] at hf
        exact B_338_64 hd hf
      · rw [if_neg c0] at hf
        refine Ex.seg 2 (pc' := 43) (lc' := [some (.int y0)]) (st' := [.int 28, .int y0]) (h' := h) (sg1 rfl rfl (sg1 rfl rfl rfl)) ?_
        refine Ex.icmp rfl rfl (fun (c0 : y0 = 28) => ?_) (fun (c0 : ¬ (y0 = 28)) => ?_)
        · rw [if_pos c0] at hf
          exact B_338_64 hd hf
        · rw [if_neg c0] at hf
          refine Ex.seg 2 (pc' := 49) (lc' := [some (.int y0)]) (st' := [.int 34, .int y0]) (h' := h) (sg1 rfl rfl (sg1 rfl rfl rfl)) ?_
          refine Ex.icmp rfl rfl (fun (c0 : y0 = 34) => ?_) (fun (c0 : ¬ (y0 = 34)) => ?_)
          · rw [if_pos c0] at hf
            exact B_338_64 hd hf
          · rw [if_neg c0] at hf
            refine Ex.seg 2 (pc' := 55) (lc' := [some (.int y0)]) (st' := [.int 35, .int y0]) (h' := h) (sg1 rfl rfl (sg1 rfl rfl rfl)) ?_
            refine Ex.icmp rfl rfl (fun (c0 : y0 < 35) => ?_) (fun (c0 : ¬ (y0 < 35)) => ?_)
            · rw [if_pos c0] at hf
              exact B_338_68 hd hf
            · rw [if_neg c0] at hf
              refine Ex.seg 2 (pc' := 61) (lc' := [some (.int y0)]) (st' := [.int 37, .int y0]) (h' := h) (sg1 rfl rfl (sg1 rfl rfl rfl)) ?_
              refine Ex.icmp rfl rfl (fun (c0 : 37 < y0) => ?_) (fun (c0 : ¬ (37 < y0)) => ?_)
              · rw [if_pos c0] at hf
                exact B_338_68 hd hf
              · rw [if_neg c0] at hf
                exact B_338_64 hd hf
def F_338_10 (y0 : Int32) (h : sm_H) : Option (Int32 × sm_H) :=
  if y0 < 10 then (F_338_22 y0 h)
  else (if y0 ≤ 13 then (F_338_64 h)
  else (F_338_22 y0 h))
theorem B_338_10 {L : Nat} {xs : Nat → Int32} {d : Nat} (hd : 0 ≤ d) {y0 : Int32}  {h : sm_H} {r : Int32 × sm_H} (hf : F_338_10 y0 h = some r) : Ex (P_G L xs) (RUN L xs d) (sm_lk P_t338) 3 10 [some (.int y0)] [] h (some (.int r.1), r.2) := by
  unfold F_338_10 at hf
  refine Ex.seg 2 (pc' := 13) (lc' := [some (.int y0)]) (st' := [.int 10, .int y0]) (h' := h) (sg1 rfl rfl (sg1 rfl rfl rfl)) ?_
  refine Ex.icmp rfl rfl (fun (c0 : y0 < 10) => ?_) (fun (c0 : ¬ (y0 < 10)) => ?_)
  · rw [if_pos c0] at hf
    exact B_338_22 hd hf
  · rw [if_neg c0] at hf
    refine Ex.seg 2 (pc' := 19) (lc' := [some (.int y0)]) (st' := [.int 13, .int y0]) (h' := h) (sg1 rfl rfl (sg1 rfl rfl rfl)) ?_
    refine Ex.icmp rfl rfl (fun (c0 : y0 ≤ 13) => ?_) (fun (c0 : ¬ (y0 ≤ 13)) => ?_)
    · rw [if_pos c0] at hf
      exact B_338_64 hd hf
    · rw [if_neg c0] at hf
      exact B_338_22 hd hf
def F_338_0 (x0 : Int32) (h : sm_H) : Option (Int32 × sm_H) :=
  if x0 < 3 then (F_338_10 x0 h)
  else (if x0 ≤ 5 then (F_338_64 h)
  else (F_338_10 x0 h))
theorem B_338_0 {L : Nat} {xs : Nat → Int32} {d : Nat} (hd : 0 ≤ d) {x0 : Int32}  {h : sm_H} {r : Int32 × sm_H} (hf : F_338_0 x0 h = some r) : Ex (P_G L xs) (RUN L xs d) (sm_lk P_t338) 3 0 [some (.int x0)] [] h (some (.int r.1), r.2) := by
  unfold F_338_0 at hf
  refine Ex.seg 2 (pc' := 2) (lc' := [some (.int x0)]) (st' := [.int 3, .int x0]) (h' := h) (sg1 rfl rfl (sg1 rfl rfl rfl)) ?_
  refine Ex.icmp rfl rfl (fun (c0 : x0 < 3) => ?_) (fun (c0 : ¬ (x0 < 3)) => ?_)
  · rw [if_pos c0] at hf
    exact B_338_10 hd hf
  · rw [if_neg c0] at hf
    refine Ex.seg 2 (pc' := 7) (lc' := [some (.int x0)]) (st' := [.int 5, .int x0]) (h' := h) (sg1 rfl rfl (sg1 rfl rfl rfl)) ?_
    refine Ex.icmp rfl rfl (fun (c0 : x0 ≤ 5) => ?_) (fun (c0 : ¬ (x0 ≤ 5)) => ?_)
    · rw [if_pos c0] at hf
      exact B_338_64 hd hf
    · rw [if_neg c0] at hf
      exact B_338_10 hd hf
/-- HandleHouseModel.hasB(I)Z -/
abbrev F_338 (x0 : Int32) (h : sm_H) : Option (Int32 × sm_H) := F_338_0 x0 h
theorem E_338 {L : Nat} {xs : Nat → Int32} {d : Nat} (hd : 1 ≤ d) {x0 : Int32} {h : sm_H} {r : Int32 × sm_H} (hf : F_338 x0 h = some r) : RUN L xs d 338 [.int x0] h (some (.int r.1), r.2) := by
  obtain ⟨d, rfl⟩ : ∃ e, d = e + 1 := ⟨d - 1, by omega⟩
  exact ⟨Nat.le_of_ble_eq_true rfl, B_338_0 (by omega) hf⟩
def F_342_0 (x1 : Int32) (x2 : Int64) (h : sm_H) : Option (sm_H) :=
  (stI h 108 6000 (h.1 67 59) x1).bind fun h1 =>
  (stJ h1 109 6000 (h1.1 67 59) x2).bind fun h2 =>
  (some (sm_wI h2 67 59 ((h2.1 67 59) + 1))).bind fun h3 =>
  some h3
theorem B_342_0 {L : Nat} {xs : Nat → Int32} {d : Nat} (hd : 0 ≤ d) {x1 : Int32} {x2 : Int64}  {h : sm_H} {r : sm_H} (hf : F_342_0 x1 x2 h = some r) : Ex (P_G L xs) (RUN L xs d) (sm_lk P_t342) 0 0 [some (.ref 67), some (.int x1), some (.long x2), none] [] h (none, r) := by
  unfold F_342_0 at hf
  refine Ex.seg 5 (pc' := 9) (lc' := [some (.ref 67), some (.int x1), some (.long x2), none]) (st' := [.int x1, .int (h.1 67 59), .ref 108]) (h' := h) (sg1 rfl rfl (sg1 rfl rfl (sg1 rfl rfl (sg1 rfl rfl (sg1 rfl rfl rfl))))) ?_
  obtain ⟨h1, e_h1, hf⟩ := bnd hf
  refine Ex.iast e_h1 rfl rfl ?_
  refine Ex.seg 5 (pc' := 19) (lc' := [some (.ref 67), some (.int x1), some (.long x2), none]) (st' := [.long x2, .int (h1.1 67 59), .ref 109]) (h' := h1) (sg1 rfl rfl (sg1 rfl rfl (sg1 rfl rfl (sg1 rfl rfl (sg1 rfl rfl rfl))))) ?_
  obtain ⟨h2, e_h2, hf⟩ := bnd hf
  refine Ex.last e_h2 rfl rfl ?_
  refine Ex.seg 6 (pc' := 30) (lc' := [some (.ref 67), some (.int x1), some (.long x2), none]) (st' := []) (h' := (sm_wI h2 67 59 ((h2.1 67 59) + 1))) (sg1 rfl rfl (sg1 rfl rfl (sg1 rfl rfl (sg1 rfl rfl (sg1 rfl rfl (sg1 rfl rfl rfl)))))) ?_
  obtain ⟨h3, e_h3, hf⟩ := bnd hf
  rw [Option.some.inj e_h3]
  obtain rfl := Option.some.inj hf
  exact Ex.vret rfl rfl rfl
/-- HandleHouseModel.push(IJ)V -/
abbrev F_342 (x1 : Int32) (x2 : Int64) (h : sm_H) : Option (sm_H) := F_342_0 x1 x2 h
theorem E_342 {L : Nat} {xs : Nat → Int32} {d : Nat} (hd : 1 ≤ d) {x1 : Int32} {x2 : Int64} {h : sm_H} {r : sm_H} (hf : F_342 x1 x2 h = some r) : RUN L xs d 342 [.ref 67, .int x1, .long x2] h (none, r) := by
  obtain ⟨d, rfl⟩ : ∃ e, d = e + 1 := ⟨d - 1, by omega⟩
  exact ⟨Nat.le_of_ble_eq_true rfl, B_342_0 (by omega) hf⟩
def F_344_0 (x1 : Int32) (h : sm_H) : Option (sm_H) :=
  (some (sm_wI h 67 63 0)).bind fun h1 =>
  if (h1.1 67 56) = 100 then ((some (sm_wI h1 67 64 3)).bind fun h9 =>
  some h9)
  else (if (h1.1 67 66) = (h1.1 67 65) then ((some (sm_wI h1 67 64 2)).bind fun h8 =>
  some h8)
  else ((some (sm_wI h1 67 66 ((h1.1 67 66) + 1))).bind fun h2 =>
  (stI h2 103 100 (h2.1 67 56) x1).bind fun h3 =>
  (stI h3 104 100 (h3.1 67 56) 0).bind fun h4 =>
  (F_305 x1 h4).bind fun q5 =>
  (stI q5.2 105 100 (h4.1 67 56) ((h4.1 67 59) - q5.1)).bind fun h6 =>
  (some (sm_wI h6 67 56 ((h6.1 67 56) + 1))).bind fun h7 =>
  some h7))
theorem B_344_0 {L : Nat} {xs : Nat → Int32} {d : Nat} (hd : 1 ≤ d) {x1 : Int32}  {h : sm_H} {r : sm_H} (hf : F_344_0 x1 h = some r) : Ex (P_G L xs) (RUN L xs d) (sm_lk P_t344) 0 0 [some (.ref 67), some (.int x1)] [] h (none, r) := by
  unfold F_344_0 at hf
  refine Ex.seg 3 (pc' := 5) (lc' := [some (.ref 67), some (.int x1)]) (st' := []) (h' := (sm_wI h 67 63 0)) (sg1 rfl rfl (sg1 rfl rfl (sg1 rfl rfl rfl))) ?_
  obtain ⟨h1, e_h1, hf⟩ := bnd hf
  rw [Option.some.inj e_h1]
  refine Ex.seg 3 (pc' := 11) (lc' := [some (.ref 67), some (.int x1)]) (st' := [.int 100, .int (h1.1 67 56)]) (h' := h1) (sg1 rfl rfl (sg1 rfl rfl (sg1 rfl rfl rfl))) ?_
  refine Ex.icmp rfl rfl (fun (c0 : ¬ ((h1.1 67 56) = 100)) => ?_) (fun (c0 : ¬ ¬ ((h1.1 67 56) = 100)) => ?_)
  · rw [if_neg c0] at hf
    refine Ex.seg 4 (pc' := 28) (lc' := [some (.ref 67), some (.int x1)]) (st' := [.int (h1.1 67 65), .int (h1.1 67 66)]) (h' := h1) (sg1 rfl rfl (sg1 rfl rfl (sg1 rfl rfl (sg1 rfl rfl rfl)))) ?_
    refine Ex.icmp rfl rfl (fun (c0 : ¬ ((h1.1 67 66) = (h1.1 67 65))) => ?_) (fun (c0 : ¬ ¬ ((h1.1 67 66) = (h1.1 67 65))) => ?_)
    · rw [if_neg c0] at hf
      refine Ex.seg 6 (pc' := 47) (lc' := [some (.ref 67), some (.int x1)]) (st' := []) (h' := (sm_wI h1 67 66 ((h1.1 67 66) + 1))) (sg1 rfl rfl (sg1 rfl rfl (sg1 rfl rfl (sg1 rfl rfl (sg1 rfl rfl (sg1 rfl rfl rfl)))))) ?_
      obtain ⟨h2, e_h2, hf⟩ := bnd hf
      rw [Option.some.inj e_h2]
      refine Ex.seg 5 (pc' := 56) (lc' := [some (.ref 67), some (.int x1)]) (st' := [.int x1, .int (h2.1 67 56), .ref 103]) (h' := h2) (sg1 rfl rfl (sg1 rfl rfl (sg1 rfl rfl (sg1 rfl rfl (sg1 rfl rfl rfl))))) ?_
      obtain ⟨h3, e_h3, hf⟩ := bnd hf
      refine Ex.iast e_h3 rfl rfl ?_
      refine Ex.seg 5 (pc' := 66) (lc' := [some (.ref 67), some (.int x1)]) (st' := [.int 0, .int (h3.1 67 56), .ref 104]) (h' := h3) (sg1 rfl rfl (sg1 rfl rfl (sg1 rfl rfl (sg1 rfl rfl (sg1 rfl rfl rfl))))) ?_
      obtain ⟨h4, e_h4, hf⟩ := bnd hf
      refine Ex.iast e_h4 rfl rfl ?_
      refine Ex.seg 8 (pc' := 81) (lc' := [some (.ref 67), some (.int x1)]) (st' := [.int x1, .ref 67, .int (h4.1 67 59), .int (h4.1 67 56), .ref 105]) (h' := h4) (sg1 rfl rfl (sg1 rfl rfl (sg1 rfl rfl (sg1 rfl rfl (sg1 rfl rfl (sg1 rfl rfl (sg1 rfl rfl (sg1 rfl rfl rfl)))))))) ?_
      obtain ⟨q5, e_q5, hf⟩ := bnd hf
      refine Ex.callV (a := 67) (As := [.int x1]) (r := [.int (h4.1 67 59), .int (h4.1 67 56), .ref 105]) (v := some (.int q5.1)) (h' := q5.2) rfl rfl (by decide) rfl (Nat.le_of_ble_eq_true rfl) rfl (E_305 (Nat.le_trans (by decide) hd) e_q5) rfl ?_
      refine Ex.seg 1 (pc' := 85) (lc' := [some (.ref 67), some (.int x1)]) (st' := [.int ((h4.1 67 59) - q5.1), .int (h4.1 67 56), .ref 105]) (h' := q5.2) (sg1 rfl rfl rfl) ?_
      obtain ⟨h6, e_h6, hf⟩ := bnd hf
      refine Ex.iast e_h6 rfl rfl ?_
      refine Ex.seg 6 (pc' := 96) (lc' := [some (.ref 67), some (.int x1)]) (st' := []) (h' := (sm_wI h6 67 56 ((h6.1 67 56) + 1))) (sg1 rfl rfl (sg1 rfl rfl (sg1 rfl rfl (sg1 rfl rfl (sg1 rfl rfl (sg1 rfl rfl rfl)))))) ?_
      obtain ⟨h7, e_h7, hf⟩ := bnd hf
      rw [Option.some.inj e_h7]
      obtain rfl := Option.some.inj hf
      exact Ex.vret rfl rfl rfl
    · rw [if_pos (Classical.not_not.mp c0)] at hf
      refine Ex.seg 3 (pc' := 36) (lc' := [some (.ref 67), some (.int x1)]) (st' := []) (h' := (sm_wI h1 67 64 2)) (sg1 rfl rfl (sg1 rfl rfl (sg1 rfl rfl rfl))) ?_
      obtain ⟨h8, e_h8, hf⟩ := bnd hf
      rw [Option.some.inj e_h8]
      obtain rfl := Option.some.inj hf
      exact Ex.vret rfl rfl rfl
  · rw [if_pos (Classical.not_not.mp c0)] at hf
    refine Ex.seg 3 (pc' := 19) (lc' := [some (.ref 67), some (.int x1)]) (st' := []) (h' := (sm_wI h1 67 64 3)) (sg1 rfl rfl (sg1 rfl rfl (sg1 rfl rfl rfl))) ?_
    obtain ⟨h9, e_h9, hf⟩ := bnd hf
    rw [Option.some.inj e_h9]
    obtain rfl := Option.some.inj hf
    exact Ex.vret rfl rfl rfl
/-- HandleHouseModel.begin(I)V -/
abbrev F_344 (x1 : Int32) (h : sm_H) : Option (sm_H) := F_344_0 x1 h
theorem E_344 {L : Nat} {xs : Nat → Int32} {d : Nat} (hd : 2 ≤ d) {x1 : Int32} {h : sm_H} {r : sm_H} (hf : F_344 x1 h = some r) : RUN L xs d 344 [.ref 67, .int x1] h (none, r) := by
  obtain ⟨d, rfl⟩ : ∃ e, d = e + 1 := ⟨d - 1, by omega⟩
  exact ⟨Nat.le_of_ble_eq_true rfl, B_344_0 (by omega) hf⟩
def F_345_0 (x1 : Int32) (x2 : Int64) (h : sm_H) : Option (sm_H) :=
  (some (sm_wI h 67 56 ((h.1 67 56) - 1))).bind fun h1 =>
  (ldI h1 105 100 (h1.1 67 56)).bind fun v2 =>
  (some (sm_wI h1 67 59 v2)).bind fun h3 =>
  (some (sm_wI h3 67 60 x1)).bind fun h4 =>
  (some (sm_wJ h4 67 61 x2)).bind fun h5 =>
  (some (sm_wI h5 67 62 0)).bind fun h6 =>
  (some (sm_wI h6 67 63 1)).bind fun h7 =>
  some h7
theorem B_345_0 {L : Nat} {xs : Nat → Int32} {d : Nat} (hd : 0 ≤ d) {x1 : Int32} {x2 : Int64}  {h : sm_H} {r : sm_H} (hf : F_345_0 x1 x2 h = some r) : Ex (P_G L xs) (RUN L xs d) (sm_lk P_t345) 0 0 [some (.ref 67), some (.int x1), some (.long x2), none] [] h (none, r) := by
  unfold F_345_0 at hf
  refine Ex.seg 6 (pc' := 10) (lc' := [some (.ref 67), some (.int x1), some (.long x2), none]) (st' := []) (h' := (sm_wI h 67 56 ((h.1 67 56) - 1))) (sg1 rfl rfl (sg1 rfl rfl (sg1 rfl rfl (sg1 rfl rfl (sg1 rfl rfl (sg1 rfl rfl rfl)))))) ?_
  obtain ⟨h1, e_h1, hf⟩ := bnd hf
  rw [Option.some.inj e_h1]
  refine Ex.seg 5 (pc' := 19) (lc' := [some (.ref 67), some (.int x1), some (.long x2), none]) (st' := [.int (h1.1 67 56), .ref 105, .ref 67]) (h' := h1) (sg1 rfl rfl (sg1 rfl rfl (sg1 rfl rfl (sg1 rfl rfl (sg1 rfl rfl rfl))))) ?_
  obtain ⟨v2, e_v2, hf⟩ := bnd hf
  refine Ex.iald e_v2 rfl rfl ?_
  refine Ex.seg 1 (pc' := 23) (lc' := [some (.ref 67), some (.int x1), some (.long x2), none]) (st' := []) (h' := (sm_wI h1 67 59 v2)) (sg1 rfl rfl rfl) ?_
  obtain ⟨h3, e_h3, hf⟩ := bnd hf
  rw [Option.some.inj e_h3]
  refine Ex.seg 3 (pc' := 28) (lc' := [some (.ref 67), some (.int x1), some (.long x2), none]) (st' := []) (h' := (sm_wI h3 67 60 x1)) (sg1 rfl rfl (sg1 rfl rfl (sg1 rfl rfl rfl))) ?_
  obtain ⟨h4, e_h4, hf⟩ := bnd hf
  rw [Option.some.inj e_h4]
  refine Ex.seg 3 (pc' := 33) (lc' := [some (.ref 67), some (.int x1), some (.long x2), none]) (st' := []) (h' := (sm_wJ h4 67 61 x2)) (sg1 rfl rfl (sg1 rfl rfl (sg1 rfl rfl rfl))) ?_
  obtain ⟨h5, e_h5, hf⟩ := bnd hf
  rw [Option.some.inj e_h5]
  refine Ex.seg 3 (pc' := 38) (lc' := [some (.ref 67), some (.int x1), some (.long x2), none]) (st' := []) (h' := (sm_wI h5 67 62 0)) (sg1 rfl rfl (sg1 rfl rfl (sg1 rfl rfl rfl))) ?_
  obtain ⟨h6, e_h6, hf⟩ := bnd hf
  rw [Option.some.inj e_h6]
  refine Ex.seg 3 (pc' := 43) (lc' := [some (.ref 67), some (.int x1), some (.long x2), none]) (st' := []) (h' := (sm_wI h6 67 63 1)) (sg1 rfl rfl (sg1 rfl rfl (sg1 rfl rfl rfl))) ?_
  obtain ⟨h7, e_h7, hf⟩ := bnd hf
  rw [Option.some.inj e_h7]
  obtain rfl := Option.some.inj hf
  exact Ex.vret rfl rfl rfl
/-- HandleHouseModel.end0(IJ)V -/
abbrev F_345 (x1 : Int32) (x2 : Int64) (h : sm_H) : Option (sm_H) := F_345_0 x1 x2 h
theorem E_345 {L : Nat} {xs : Nat → Int32} {d : Nat} (hd : 1 ≤ d) {x1 : Int32} {x2 : Int64} {h : sm_H} {r : sm_H} (hf : F_345 x1 x2 h = some r) : RUN L xs d 345 [.ref 67, .int x1, .long x2] h (none, r) := by
  obtain ⟨d, rfl⟩ : ∃ e, d = e + 1 := ⟨d - 1, by omega⟩
  exact ⟨Nat.le_of_ble_eq_true rfl, B_345_0 (by omega) hf⟩
def F_346_0 (x1 : Int32) (h : sm_H) : Option (sm_H) :=
  (F_299 x1 h).bind fun q1 =>
  (F_345 (q1.1 67 48) (q1.2.1 67 49) q1).bind fun q2 =>
  some q2
theorem B_346_0 {L : Nat} {xs : Nat → Int32} {d : Nat} (hd : 2 ≤ d) {x1 : Int32}  {h : sm_H} {r : sm_H} (hf : F_346_0 x1 h = some r) : Ex (P_G L xs) (RUN L xs d) (sm_lk P_t346) 0 0 [some (.ref 67), some (.int x1)] [] h (none, r) := by
  unfold F_346_0 at hf
  refine Ex.seg 2 (pc' := 2) (lc' := [some (.ref 67), some (.int x1)]) (st' := [.int x1, .ref 67]) (h' := h) (sg1 rfl rfl (sg1 rfl rfl rfl)) ?_
  obtain ⟨q1, e_q1, hf⟩ := bnd hf
  refine Ex.callV (a := 67) (As := [.int x1]) (r := []) (v := none) (h' := q1) rfl rfl (by decide) rfl (Nat.le_of_ble_eq_true rfl) rfl (E_299 (Nat.le_trans (by decide) hd) e_q1) rfl ?_
  refine Ex.seg 5 (pc' := 14) (lc' := [some (.ref 67), some (.int x1)]) (st' := [.long (q1.2.1 67 49), .int (q1.1 67 48), .ref 67]) (h' := q1) (sg1 rfl rfl (sg1 rfl rfl (sg1 rfl rfl (sg1 rfl rfl (sg1 rfl rfl rfl))))) ?_
  obtain ⟨q2, e_q2, hf⟩ := bnd hf
  refine Ex.callV (a := 67) (As := [.int (q1.1 67 48), .long (q1.2.1 67 49)]) (r := []) (v := none) (h' := q2) rfl rfl (by decide) rfl (Nat.le_of_ble_eq_true rfl) rfl (E_345 (Nat.le_trans (by decide) hd) e_q2) rfl ?_
  obtain rfl := Option.some.inj hf
  exact Ex.vret rfl rfl rfl
/-- HandleHouseModel.endZero(I)V -/
abbrev F_346 (x1 : Int32) (h : sm_H) : Option (sm_H) := F_346_0 x1 h
theorem E_346 {L : Nat} {xs : Nat → Int32} {d : Nat} (hd : 3 ≤ d) {x1 : Int32} {h : sm_H} {r : sm_H} (hf : F_346 x1 h = some r) : RUN L xs d 346 [.ref 67, .int x1] h (none, r) := by
  obtain ⟨d, rfl⟩ : ∃ e, d = e + 1 := ⟨d - 1, by omega⟩
  exact ⟨Nat.le_of_ble_eq_true rfl, B_346_0 (by omega) hf⟩
def F_347_0 (x1 : Int32) (x2 : Int64) (h : sm_H) : Option (sm_H) :=
  (F_345 x1 x2 h).bind fun q1 =>
  (some (sm_wI q1 67 62 1)).bind fun h2 =>
  some h2
theorem B_347_0 {L : Nat} {xs : Nat → Int32} {d : Nat} (hd : 1 ≤ d) {x1 : Int32} {x2 : Int64}  {h : sm_H} {r : sm_H} (hf : F_347_0 x1 x2 h = some r) : Ex (P_G L xs) (RUN L xs d) (sm_lk P_t347) 0 0 [some (.ref 67), some (.int x1), some (.long x2), none] [] h (none, r) := by
  unfold F_347_0 at hf
  refine Ex.seg 3 (pc' := 3) (lc' := [some (.ref 67), some (.int x1), some (.long x2), none]) (st' := [.long x2, .int x1, .ref 67]) (h' := h) (sg1 rfl rfl (sg1 rfl rfl (sg1 rfl rfl rfl))) ?_
  obtain ⟨q1, e_q1, hf⟩ := bnd hf
  refine Ex.callV (a := 67) (As := [.int x1, .long x2]) (r := []) (v := none) (h' := q1) rfl rfl (by decide) rfl (Nat.le_of_ble_eq_true rfl) rfl (E_345 (Nat.le_trans (by decide) hd) e_q1) rfl ?_
  refine Ex.seg 3 (pc' := 11) (lc' := [some (.ref 67), some (.int x1), some (.long x2), none]) (st' := []) (h' := (sm_wI q1 67 62 1)) (sg1 rfl rfl (sg1 rfl rfl (sg1 rfl rfl rfl))) ?_
  obtain ⟨h2, e_h2, hf⟩ := bnd hf
  rw [Option.some.inj e_h2]
  obtain rfl := Option.some.inj hf
  exact Ex.vret rfl rfl rfl
/-- HandleHouseModel.throws0(IJ)V -/
abbrev F_347 (x1 : Int32) (x2 : Int64) (h : sm_H) : Option (sm_H) := F_347_0 x1 x2 h
theorem E_347 {L : Nat} {xs : Nat → Int32} {d : Nat} (hd : 2 ≤ d) {x1 : Int32} {x2 : Int64} {h : sm_H} {r : sm_H} (hf : F_347 x1 x2 h = some r) : RUN L xs d 347 [.ref 67, .int x1, .long x2] h (none, r) := by
  obtain ⟨d, rfl⟩ : ∃ e, d = e + 1 := ⟨d - 1, by omega⟩
  exact ⟨Nat.le_of_ble_eq_true rfl, B_347_0 (by omega) hf⟩
def F_348_0 (x1 : Int32) (h : sm_H) : Option (sm_H) :=
  (F_347 19 (Int32.toInt64 x1) h).bind fun q1 =>
  some q1
theorem B_348_0 {L : Nat} {xs : Nat → Int32} {d : Nat} (hd : 2 ≤ d) {x1 : Int32}  {h : sm_H} {r : sm_H} (hf : F_348_0 x1 h = some r) : Ex (P_G L xs) (RUN L xs d) (sm_lk P_t348) 0 0 [some (.ref 67), some (.int x1)] [] h (none, r) := by
  unfold F_348_0 at hf
  refine Ex.seg 4 (pc' := 5) (lc' := [some (.ref 67), some (.int x1)]) (st' := [.long (Int32.toInt64 x1), .int 19, .ref 67]) (h' := h) (sg1 rfl rfl (sg1 rfl rfl (sg1 rfl rfl (sg1 rfl rfl rfl)))) ?_
  obtain ⟨q1, e_q1, hf⟩ := bnd hf
  refine Ex.callV (a := 67) (As := [.int 19, .long (Int32.toInt64 x1)]) (r := []) (v := none) (h' := q1) rfl rfl (by decide) rfl (Nat.le_of_ble_eq_true rfl) rfl (E_347 (Nat.le_trans (by decide) hd) e_q1) rfl ?_
  obtain rfl := Option.some.inj hf
  exact Ex.vret rfl rfl rfl
/-- HandleHouseModel.error(I)V -/
abbrev F_348 (x1 : Int32) (h : sm_H) : Option (sm_H) := F_348_0 x1 h
theorem E_348 {L : Nat} {xs : Nat → Int32} {d : Nat} (hd : 3 ≤ d) {x1 : Int32} {h : sm_H} {r : sm_H} (hf : F_348 x1 h = some r) : RUN L xs d 348 [.ref 67, .int x1] h (none, r) := by
  obtain ⟨d, rfl⟩ : ∃ e, d = e + 1 := ⟨d - 1, by omega⟩
  exact ⟨Nat.le_of_ble_eq_true rfl, B_348_0 (by omega) hf⟩
def F_349_0 (x1 : Int32) (h : sm_H) : Option (sm_H) :=
  (stI h 104 100 ((h.1 67 56) - 1) 90).bind fun h1 =>
  (F_344 x1 h1).bind fun q2 =>
  some q2
theorem B_349_0 {L : Nat} {xs : Nat → Int32} {d : Nat} (hd : 2 ≤ d) {x1 : Int32}  {h : sm_H} {r : sm_H} (hf : F_349_0 x1 h = some r) : Ex (P_G L xs) (RUN L xs d) (sm_lk P_t349) 0 0 [some (.ref 67), some (.int x1)] [] h (none, r) := by
  unfold F_349_0 at hf
  refine Ex.seg 7 (pc' := 12) (lc' := [some (.ref 67), some (.int x1)]) (st' := [.int 90, .int ((h.1 67 56) - 1), .ref 104]) (h' := h) (sg1 rfl rfl (sg1 rfl rfl (sg1 rfl rfl (sg1 rfl rfl (sg1 rfl rfl (sg1 rfl rfl (sg1 rfl rfl rfl))))))) ?_
  obtain ⟨h1, e_h1, hf⟩ := bnd hf
  refine Ex.iast e_h1 rfl rfl ?_
  refine Ex.seg 2 (pc' := 15) (lc' := [some (.ref 67), some (.int x1)]) (st' := [.int x1, .ref 67]) (h' := h1) (sg1 rfl rfl (sg1 rfl rfl rfl)) ?_
  obtain ⟨q2, e_q2, hf⟩ := bnd hf
  refine Ex.callV (a := 67) (As := [.int x1]) (r := []) (v := none) (h' := q2) rfl rfl (by decide) rfl (Nat.le_of_ble_eq_true rfl) rfl (E_344 (Nat.le_trans (by decide) hd) e_q2) rfl ?_
  obtain rfl := Option.some.inj hf
  exact Ex.vret rfl rfl rfl
/-- HandleHouseModel.last(I)V -/
abbrev F_349 (x1 : Int32) (h : sm_H) : Option (sm_H) := F_349_0 x1 h
theorem E_349 {L : Nat} {xs : Nat → Int32} {d : Nat} (hd : 3 ≤ d) {x1 : Int32} {h : sm_H} {r : sm_H} (hf : F_349 x1 h = some r) : RUN L xs d 349 [.ref 67, .int x1] h (none, r) := by
  obtain ⟨d, rfl⟩ : ∃ e, d = e + 1 := ⟨d - 1, by omega⟩
  exact ⟨Nat.le_of_ble_eq_true rfl, B_349_0 (by omega) hf⟩
def F_350_0 (x1 : Int32) (x2 : Int32) (h : sm_H) : Option (sm_H) :=
  (stI h 104 100 ((h.1 67 56) - 1) x2).bind fun h1 =>
  (F_344 x1 h1).bind fun q2 =>
  some q2
theorem B_350_0 {L : Nat} {xs : Nat → Int32} {d : Nat} (hd : 2 ≤ d) {x1 : Int32} {x2 : Int32}  {h : sm_H} {r : sm_H} (hf : F_350_0 x1 x2 h = some r) : Ex (P_G L xs) (RUN L xs d) (sm_lk P_t350) 0 0 [some (.ref 67), some (.int x1), some (.int x2)] [] h (none, r) := by
  unfold F_350_0 at hf
  refine Ex.seg 7 (pc' := 11) (lc' := [some (.ref 67), some (.int x1), some (.int x2)]) (st' := [.int x2, .int ((h.1 67 56) - 1), .ref 104]) (h' := h) (sg1 rfl rfl (sg1 rfl rfl (sg1 rfl rfl (sg1 rfl rfl (sg1 rfl rfl (sg1 rfl rfl (sg1 rfl rfl rfl))))))) ?_
  obtain ⟨h1, e_h1, hf⟩ := bnd hf
  refine Ex.iast e_h1 rfl rfl ?_
  refine Ex.seg 2 (pc' := 14) (lc' := [some (.ref 67), some (.int x1), some (.int x2)]) (st' := [.int x1, .ref 67]) (h' := h1) (sg1 rfl rfl (sg1 rfl rfl rfl)) ?_
  obtain ⟨q2, e_q2, hf⟩ := bnd hf
  refine Ex.callV (a := 67) (As := [.int x1]) (r := []) (v := none) (h' := q2) rfl rfl (by decide) rfl (Nat.le_of_ble_eq_true rfl) rfl (E_344 (Nat.le_trans (by decide) hd) e_q2) rfl ?_
  obtain rfl := Option.some.inj hf
  exact Ex.vret rfl rfl rfl
/-- HandleHouseModel.ahead(II)V -/
abbrev F_350 (x1 : Int32) (x2 : Int32) (h : sm_H) : Option (sm_H) := F_350_0 x1 x2 h
theorem E_350 {L : Nat} {xs : Nat → Int32} {d : Nat} (hd : 3 ≤ d) {x1 : Int32} {x2 : Int32} {h : sm_H} {r : sm_H} (hf : F_350 x1 x2 h = some r) : RUN L xs d 350 [.ref 67, .int x1, .int x2] h (none, r) := by
  obtain ⟨d, rfl⟩ : ∃ e, d = e + 1 := ⟨d - 1, by omega⟩
  exact ⟨Nat.le_of_ble_eq_true rfl, B_350_0 (by omega) hf⟩
def F_351_0 (x1 : Int32) (h : sm_H) : Option (Int32 × sm_H) :=
  (ldI h 105 100 ((h.1 67 56) - 1)).bind fun v1 =>
  (ldI h 108 6000 (v1 + x1)).bind fun v2 =>
  some (v2, h)
theorem B_351_0 {L : Nat} {xs : Nat → Int32} {d : Nat} (hd : 0 ≤ d) {x1 : Int32}  {h : sm_H} {r : Int32 × sm_H} (hf : F_351_0 x1 h = some r) : Ex (P_G L xs) (RUN L xs d) (sm_lk P_t351) 0 0 [some (.ref 67), some (.int x1)] [] h (some (.int r.1), r.2) := by
  unfold F_351_0 at hf
  refine Ex.seg 8 (pc' := 14) (lc' := [some (.ref 67), some (.int x1)]) (st' := [.int ((h.1 67 56) - 1), .ref 105, .ref 108]) (h' := h) (sg1 rfl rfl (sg1 rfl rfl (sg1 rfl rfl (sg1 rfl rfl (sg1 rfl rfl (sg1 rfl rfl (sg1 rfl rfl (sg1 rfl rfl rfl)))))))) ?_
  obtain ⟨v1, e_v1, hf⟩ := bnd hf
  refine Ex.iald e_v1 rfl rfl ?_
  refine Ex.seg 2 (pc' := 17) (lc' := [some (.ref 67), some (.int x1)]) (st' := [.int (v1 + x1), .ref 108]) (h' := h) (sg1 rfl rfl (sg1 rfl rfl rfl)) ?_
  obtain ⟨v2, e_v2, hf⟩ := bnd hf
  refine Ex.iald e_v2 rfl rfl ?_
  obtain rfl := Option.some.inj hf
  exact Ex.iret rfl rfl (fun c0 => by cases c0) rfl
/-- HandleHouseModel.kindAt(I)I -/
abbrev F_351 (x1 : Int32) (h : sm_H) : Option (Int32 × sm_H) := F_351_0 x1 h
theorem E_351 {L : Nat} {xs : Nat → Int32} {d : Nat} (hd : 1 ≤ d) {x1 : Int32} {h : sm_H} {r : Int32 × sm_H} (hf : F_351 x1 h = some r) : RUN L xs d 351 [.ref 67, .int x1] h (some (.int r.1), r.2) := by
  obtain ⟨d, rfl⟩ : ∃ e, d = e + 1 := ⟨d - 1, by omega⟩
  exact ⟨Nat.le_of_ble_eq_true rfl, B_351_0 (by omega) hf⟩
def F_352_0 (x1 : Int32) (h : sm_H) : Option (Int64 × sm_H) :=
  (ldI h 105 100 ((h.1 67 56) - 1)).bind fun v1 =>
  (ldJ h 109 6000 (v1 + x1)).bind fun v2 =>
  some (v2, h)
theorem B_352_0 {L : Nat} {xs : Nat → Int32} {d : Nat} (hd : 0 ≤ d) {x1 : Int32}  {h : sm_H} {r : Int64 × sm_H} (hf : F_352_0 x1 h = some r) : Ex (P_G L xs) (RUN L xs d) (sm_lk P_t352) 0 0 [some (.ref 67), some (.int x1)] [] h (some (.long r.1), r.2) := by
  unfold F_352_0 at hf
  refine Ex.seg 8 (pc' := 14) (lc' := [some (.ref 67), some (.int x1)]) (st' := [.int ((h.1 67 56) - 1), .ref 105, .ref 109]) (h' := h) (sg1 rfl rfl (sg1 rfl rfl (sg1 rfl rfl (sg1 rfl rfl (sg1 rfl rfl (sg1 rfl rfl (sg1 rfl rfl (sg1 rfl rfl rfl)))))))) ?_
  obtain ⟨v1, e_v1, hf⟩ := bnd hf
  refine Ex.iald e_v1 rfl rfl ?_
  refine Ex.seg 2 (pc' := 17) (lc' := [some (.ref 67), some (.int x1)]) (st' := [.int (v1 + x1), .ref 109]) (h' := h) (sg1 rfl rfl (sg1 rfl rfl rfl)) ?_
  obtain ⟨v2, e_v2, hf⟩ := bnd hf
  refine Ex.lald e_v2 rfl rfl ?_
  obtain rfl := Option.some.inj hf
  exact Ex.lret rfl rfl rfl
/-- HandleHouseModel.numberAt(I)J -/
abbrev F_352 (x1 : Int32) (h : sm_H) : Option (Int64 × sm_H) := F_352_0 x1 h
theorem E_352 {L : Nat} {xs : Nat → Int32} {d : Nat} (hd : 1 ≤ d) {x1 : Int32} {h : sm_H} {r : Int64 × sm_H} (hf : F_352 x1 h = some r) : RUN L xs d 352 [.ref 67, .int x1] h (some (.long r.1), r.2) := by
  obtain ⟨d, rfl⟩ : ∃ e, d = e + 1 := ⟨d - 1, by omega⟩
  exact ⟨Nat.le_of_ble_eq_true rfl, B_352_0 (by omega) hf⟩
def F_353_59  (h : sm_H) : Option (sm_H) :=
  some h
theorem B_353_59 {L : Nat} {xs : Nat → Int32} {d : Nat} (hd : 2 ≤ d)  {d0 : Option Value} {d1 : Option Value} {d2 : Option Value} {d3 : Option Value} {h : sm_H} {r : sm_H} (hf : F_353_59  h = some r) : Ex (P_G L xs) (RUN L xs d) (sm_lk P_t353) 0 59 [d0, d1, d2, d3] [] h (none, r) := by
  unfold F_353_59 at hf
  obtain rfl := Option.some.inj hf
  exact Ex.vret rfl rfl rfl
def F_353_0 (x1 : Int32) (x2 : Int64) (h : sm_H) : Option (sm_H) :=
  (F_290 x1 h).bind fun q1 =>
  if q1.1 = 0 then (if (lg_cmp x2 (-1)) = 0 then ((F_299 7 q1.2).bind fun q6 =>
  F_353_59 q6)
  else ((ldI q1.2 94 100 (Int64.toInt32 x2)).bind fun v2 =>
  (some (sm_wI q1.2 67 48 v2)).bind fun h3 =>
  (ldJ h3 95 100 (Int64.toInt32 x2)).bind fun v4 =>
  (some (sm_wJ h3 67 49 v4)).bind fun h5 =>
  F_353_59 h5))
  else ((some (sm_wI q1.2 67 48 x1)).bind fun h7 =>
  (some (sm_wJ h7 67 49 x2)).bind fun h8 =>
  F_353_59 h8)
theorem B_353_0 {L : Nat} {xs : Nat → Int32} {d : Nat} (hd : 2 ≤ d) {x1 : Int32} {x2 : Int64}  {h : sm_H} {r : sm_H} (hf : F_353_0 x1 x2 h = some r) : Ex (P_G L xs) (RUN L xs d) (sm_lk P_t353) 0 0 [some (.ref 67), some (.int x1), some (.long x2), none] [] h (none, r) := by
  unfold F_353_0 at hf
  refine Ex.seg 1 (pc' := 1) (lc' := [some (.ref 67), some (.int x1), some (.long x2), none]) (st' := [.int x1]) (h' := h) (sg1 rfl rfl rfl) ?_
  obtain ⟨q1, e_q1, hf⟩ := bnd hf
  refine Ex.callS (As := [.int x1]) (r := []) (v := some (.int q1.1)) (h' := q1.2) rfl rfl rfl rfl (Nat.le_of_ble_eq_true rfl) (E_290 (Nat.le_trans (by decide) hd) e_q1) rfl ?_
  refine Ex.ifc rfl rfl (fun (c0 : q1.1 = 0) => ?_) (fun (c0 : ¬ (q1.1 = 0)) => ?_)
  · rw [if_pos c0] at hf
    refine Ex.seg 3 (pc' := 25) (lc' := [some (.ref 67), some (.int x1), some (.long x2), none]) (st' := [.int (lg_cmp x2 (-1))]) (h' := q1.2) (sg1 rfl rfl (sg1 rfl rfl (sg1 rfl rfl rfl))) ?_
    refine Ex.ifc rfl rfl (fun (c0 : ¬ ((lg_cmp x2 (-1)) = 0)) => ?_) (fun (c0 : ¬ ¬ ((lg_cmp x2 (-1)) = 0)) => ?_)
    · rw [if_neg c0] at hf
      refine Ex.seg 5 (pc' := 44) (lc' := [some (.ref 67), some (.int x1), some (.long x2), none]) (st' := [.int (Int64.toInt32 x2), .ref 94, .ref 67]) (h' := q1.2) (sg1 rfl rfl (sg1 rfl rfl (sg1 rfl rfl (sg1 rfl rfl (sg1 rfl rfl rfl))))) ?_
      obtain ⟨v2, e_v2, hf⟩ := bnd hf
      refine Ex.iald e_v2 rfl rfl ?_
      refine Ex.seg 1 (pc' := 48) (lc' := [some (.ref 67), some (.int x1), some (.long x2), none]) (st' := []) (h' := (sm_wI q1.2 67 48 v2)) (sg1 rfl rfl rfl) ?_
      obtain ⟨h3, e_h3, hf⟩ := bnd hf
      rw [Option.some.inj e_h3]
      refine Ex.seg 5 (pc' := 55) (lc' := [some (.ref 67), some (.int x1), some (.long x2), none]) (st' := [.int (Int64.toInt32 x2), .ref 95, .ref 67]) (h' := h3) (sg1 rfl rfl (sg1 rfl rfl (sg1 rfl rfl (sg1 rfl rfl (sg1 rfl rfl rfl))))) ?_
      obtain ⟨v4, e_v4, hf⟩ := bnd hf
      refine Ex.lald e_v4 rfl rfl ?_
      refine Ex.seg 1 (pc' := 59) (lc' := [some (.ref 67), some (.int x1), some (.long x2), none]) (st' := []) (h' := (sm_wJ h3 67 49 v4)) (sg1 rfl rfl rfl) ?_
      obtain ⟨h5, e_h5, hf⟩ := bnd hf
      rw [Option.some.inj e_h5]
      exact B_353_59 hd hf
    · rw [if_pos (Classical.not_not.mp c0)] at hf
      refine Ex.seg 2 (pc' := 31) (lc' := [some (.ref 67), some (.int x1), some (.long x2), none]) (st' := [.int 7, .ref 67]) (h' := q1.2) (sg1 rfl rfl (sg1 rfl rfl rfl)) ?_
      obtain ⟨q6, e_q6, hf⟩ := bnd hf
      refine Ex.callV (a := 67) (As := [.int 7]) (r := []) (v := none) (h' := q6) rfl rfl (by decide) rfl (Nat.le_of_ble_eq_true rfl) rfl (E_299 (Nat.le_trans (by decide) hd) e_q6) rfl ?_
      refine Ex.seg 1 (pc' := 59) (lc' := [some (.ref 67), some (.int x1), some (.long x2), none]) (st' := []) (h' := q6) (sg1 rfl rfl rfl) ?_
      exact B_353_59 hd hf
  · rw [if_neg c0] at hf
    refine Ex.seg 3 (pc' := 12) (lc' := [some (.ref 67), some (.int x1), some (.long x2), none]) (st' := []) (h' := (sm_wI q1.2 67 48 x1)) (sg1 rfl rfl (sg1 rfl rfl (sg1 rfl rfl rfl))) ?_
    obtain ⟨h7, e_h7, hf⟩ := bnd hf
    rw [Option.some.inj e_h7]
    refine Ex.seg 3 (pc' := 17) (lc' := [some (.ref 67), some (.int x1), some (.long x2), none]) (st' := []) (h' := (sm_wJ h7 67 49 x2)) (sg1 rfl rfl (sg1 rfl rfl (sg1 rfl rfl rfl))) ?_
    obtain ⟨h8, e_h8, hf⟩ := bnd hf
    rw [Option.some.inj e_h8]
    refine Ex.seg 1 (pc' := 59) (lc' := [some (.ref 67), some (.int x1), some (.long x2), none]) (st' := []) (h' := h8) (sg1 rfl rfl rfl) ?_
    exact B_353_59 hd hf
/-- HandleHouseModel.constantOf(IJ)V -/
abbrev F_353 (x1 : Int32) (x2 : Int64) (h : sm_H) : Option (sm_H) := F_353_0 x1 x2 h
theorem E_353 {L : Nat} {xs : Nat → Int32} {d : Nat} (hd : 3 ≤ d) {x1 : Int32} {x2 : Int64} {h : sm_H} {r : sm_H} (hf : F_353 x1 x2 h = some r) : RUN L xs d 353 [.ref 67, .int x1, .long x2] h (none, r) := by
  obtain ⟨d, rfl⟩ : ∃ e, d = e + 1 := ⟨d - 1, by omega⟩
  exact ⟨Nat.le_of_ble_eq_true rfl, B_353_0 (by omega) hf⟩
def F_357_18  (h : sm_H) : Option (Int32 × sm_H) :=
  (some (sm_wI h 67 64 4)).bind fun h1 =>
  some (1, h1)
theorem B_357_18 {L : Nat} {xs : Nat → Int32} {d : Nat} (hd : 0 ≤ d)  {d1 : Option Value} {h : sm_H} {r : Int32 × sm_H} (hf : F_357_18  h = some r) : Ex (P_G L xs) (RUN L xs d) (sm_lk P_t357) 3 18 [some (.ref 67), d1] [] h (some (.int r.1), r.2) := by
  unfold F_357_18 at hf
  refine Ex.seg 3 (pc' := 23) (lc' := [some (.ref 67), d1]) (st' := []) (h' := (sm_wI h 67 64 4)) (sg1 rfl rfl (sg1 rfl rfl (sg1 rfl rfl rfl))) ?_
  obtain ⟨h1, e_h1, hf⟩ := bnd hf
  rw [Option.some.inj e_h1]
  refine Ex.seg 1 (pc' := 24) (lc' := [some (.ref 67), d1]) (st' := [.int 1]) (h' := h1) (sg1 rfl rfl rfl) ?_
  obtain rfl := Option.some.inj hf
  exact Ex.iret rfl rfl (fun _ => by decide) rfl
def F_357_0 (x1 : Int32) (h : sm_H) : Option (Int32 × sm_H) :=
  if 1000 ≤ (h.1 67 45) then (F_357_18 h)
  else (if 100 < x1 then (F_357_18 h)
  else (some (0, h)))
theorem B_357_0 {L : Nat} {xs : Nat → Int32} {d : Nat} (hd : 0 ≤ d) {x1 : Int32}  {h : sm_H} {r : Int32 × sm_H} (hf : F_357_0 x1 h = some r) : Ex (P_G L xs) (RUN L xs d) (sm_lk P_t357) 3 0 [some (.ref 67), some (.int x1)] [] h (some (.int r.1), r.2) := by
  unfold F_357_0 at hf
  refine Ex.seg 3 (pc' := 7) (lc' := [some (.ref 67), some (.int x1)]) (st' := [.int 1000, .int (h.1 67 45)]) (h' := h) (sg1 rfl rfl (sg1 rfl rfl (sg1 rfl rfl rfl))) ?_
  refine Ex.icmp rfl rfl (fun (c0 : 1000 ≤ (h.1 67 45)) => ?_) (fun (c0 : ¬ (1000 ≤ (h.1 67 45))) => ?_)
  · rw [if_pos c0] at hf
    exact B_357_18 hd hf
  · rw [if_neg c0] at hf
    refine Ex.seg 2 (pc' := 13) (lc' := [some (.ref 67), some (.int x1)]) (st' := [.int 100, .int x1]) (h' := h) (sg1 rfl rfl (sg1 rfl rfl rfl)) ?_
    refine Ex.icmp rfl rfl (fun (c0 : 100 < x1) => ?_) (fun (c0 : ¬ (100 < x1)) => ?_)
    · rw [if_pos c0] at hf
      exact B_357_18 hd hf
    · rw [if_neg c0] at hf
      refine Ex.seg 1 (pc' := 17) (lc' := [some (.ref 67), some (.int x1)]) (st' := [.int 0]) (h' := h) (sg1 rfl rfl rfl) ?_
      obtain rfl := Option.some.inj hf
      exact Ex.iret rfl rfl (fun _ => by decide) rfl
/-- HandleHouseModel.isFull(I)Z -/
abbrev F_357 (x1 : Int32) (h : sm_H) : Option (Int32 × sm_H) := F_357_0 x1 h
theorem E_357 {L : Nat} {xs : Nat → Int32} {d : Nat} (hd : 1 ≤ d) {x1 : Int32} {h : sm_H} {r : Int32 × sm_H} (hf : F_357 x1 h = some r) : RUN L xs d 357 [.ref 67, .int x1] h (some (.int r.1), r.2) := by
  obtain ⟨d, rfl⟩ : ∃ e, d = e + 1 := ⟨d - 1, by omega⟩
  exact ⟨Nat.le_of_ble_eq_true rfl, B_357_0 (by omega) hf⟩
def F_358_0 (x1 : Int32) (x2 : Int32) (h : sm_H) : Option (Int32 × sm_H) :=
  (stI h 96 1000 (h.1 67 45) x1).bind fun h1 =>
  (stI h1 97 1000 (h1.1 67 45) x2).bind fun h2 =>
  (some (sm_wI h2 67 45 ((h2.1 67 45) + 1))).bind fun h3 =>
  some (((h3.1 67 45) - 1), h3)
theorem B_358_0 {L : Nat} {xs : Nat → Int32} {d : Nat} (hd : 0 ≤ d) {x1 : Int32} {x2 : Int32}  {h : sm_H} {r : Int32 × sm_H} (hf : F_358_0 x1 x2 h = some r) : Ex (P_G L xs) (RUN L xs d) (sm_lk P_t358) 0 0 [some (.ref 67), some (.int x1), some (.int x2)] [] h (some (.int r.1), r.2) := by
  unfold F_358_0 at hf
  refine Ex.seg 5 (pc' := 9) (lc' := [some (.ref 67), some (.int x1), some (.int x2)]) (st' := [.int x1, .int (h.1 67 45), .ref 96]) (h' := h) (sg1 rfl rfl (sg1 rfl rfl (sg1 rfl rfl (sg1 rfl rfl (sg1 rfl rfl rfl))))) ?_
  obtain ⟨h1, e_h1, hf⟩ := bnd hf
  refine Ex.iast e_h1 rfl rfl ?_
  refine Ex.seg 5 (pc' := 19) (lc' := [some (.ref 67), some (.int x1), some (.int x2)]) (st' := [.int x2, .int (h1.1 67 45), .ref 97]) (h' := h1) (sg1 rfl rfl (sg1 rfl rfl (sg1 rfl rfl (sg1 rfl rfl (sg1 rfl rfl rfl))))) ?_
  obtain ⟨h2, e_h2, hf⟩ := bnd hf
  refine Ex.iast e_h2 rfl rfl ?_
  refine Ex.seg 6 (pc' := 30) (lc' := [some (.ref 67), some (.int x1), some (.int x2)]) (st' := []) (h' := (sm_wI h2 67 45 ((h2.1 67 45) + 1))) (sg1 rfl rfl (sg1 rfl rfl (sg1 rfl rfl (sg1 rfl rfl (sg1 rfl rfl (sg1 rfl rfl rfl)))))) ?_
  obtain ⟨h3, e_h3, hf⟩ := bnd hf
  rw [Option.some.inj e_h3]
  refine Ex.seg 4 (pc' := 36) (lc' := [some (.ref 67), some (.int x1), some (.int x2)]) (st' := [.int ((h3.1 67 45) - 1)]) (h' := h3) (sg1 rfl rfl (sg1 rfl rfl (sg1 rfl rfl (sg1 rfl rfl rfl)))) ?_
  obtain rfl := Option.some.inj hf
  exact Ex.iret rfl rfl (fun c0 => by cases c0) rfl
/-- HandleHouseModel.thing(II)I -/
abbrev F_358 (x1 : Int32) (x2 : Int32) (h : sm_H) : Option (Int32 × sm_H) := F_358_0 x1 x2 h
theorem E_358 {L : Nat} {xs : Nat → Int32} {d : Nat} (hd : 1 ≤ d) {x1 : Int32} {x2 : Int32} {h : sm_H} {r : Int32 × sm_H} (hf : F_358 x1 x2 h = some r) : RUN L xs d 358 [.ref 67, .int x1, .int x2] h (some (.int r.1), r.2) := by
  obtain ⟨d, rfl⟩ : ∃ e, d = e + 1 := ⟨d - 1, by omega⟩
  exact ⟨Nat.le_of_ble_eq_true rfl, B_358_0 (by omega) hf⟩
def F_364_46 (z0 : Int32) (h : sm_H) : Option (Int32 × sm_H) :=
  if z0 = 0 ∨ z0 = 1 then some (z0, h) else none
theorem B_364_46 {L : Nat} {xs : Nat → Int32} {d : Nat} (hd : 0 ≤ d) {z0 : Int32} {d0 : Option Value} {d1 : Option Value} {h : sm_H} {r : Int32 × sm_H} (hf : F_364_46 z0 h = some r) : Ex (P_G L xs) (RUN L xs d) (sm_lk P_t364) 3 46 [d0, d1] [.int z0] h (some (.int r.1), r.2) := by
  unfold F_364_46 at hf
  rcases Classical.em (z0 = 0 ∨ z0 = 1) with c0 | c0
  · rw [if_pos c0] at hf
    obtain rfl := Option.some.inj hf
    exact Ex.iret rfl rfl (fun _ => c0) rfl
  · rw [if_neg c0] at hf
    cases hf
def F_364_45  (h : sm_H) : Option (Int32 × sm_H) :=
  F_364_46 0 h
theorem B_364_45 {L : Nat} {xs : Nat → Int32} {d : Nat} (hd : 0 ≤ d)  {d0 : Option Value} {d1 : Option Value} {h : sm_H} {r : Int32 × sm_H} (hf : F_364_45  h = some r) : Ex (P_G L xs) (RUN L xs d) (sm_lk P_t364) 3 45 [d0, d1] [] h (some (.int r.1), r.2) := by
  unfold F_364_45 at hf
  refine Ex.seg 1 (pc' := 46) (lc' := [d0, d1]) (st' := [.int 0]) (h' := h) (sg1 rfl rfl rfl) ?_
  exact B_364_46 hd hf
def F_364_0 (x1 : Int32) (h : sm_H) : Option (Int32 × sm_H) :=
  (ldZ h 87 100 x1).bind fun v1 =>
  if v1 = 0 then ((ldZ h 86 100 x1).bind fun v2 =>
  if v2 = 0 then ((ldI h 84 100 x1).bind fun v3 =>
  if v3 = 0 then ((ldI h 89 100 x1).bind fun v4 =>
  (ldI h 72 300 v4).bind fun v5 =>
  if v5 = 0 then (F_364_46 1 h)
  else (F_364_45 h))
  else (F_364_45 h))
  else (F_364_45 h))
  else (F_364_45 h)
theorem B_364_0 {L : Nat} {xs : Nat → Int32} {d : Nat} (hd : 0 ≤ d) {x1 : Int32}  {h : sm_H} {r : Int32 × sm_H} (hf : F_364_0 x1 h = some r) : Ex (P_G L xs) (RUN L xs d) (sm_lk P_t364) 3 0 [some (.ref 67), some (.int x1)] [] h (some (.int r.1), r.2) := by
  unfold F_364_0 at hf
  refine Ex.seg 3 (pc' := 5) (lc' := [some (.ref 67), some (.int x1)]) (st' := [.int x1, .ref 87]) (h' := h) (sg1 rfl rfl (sg1 rfl rfl (sg1 rfl rfl rfl))) ?_
  obtain ⟨v1, e_v1, hf⟩ := bnd hf
  refine Ex.zald e_v1 rfl rfl ?_
  refine Ex.ifc rfl rfl (fun (c0 : ¬ (v1 = 0)) => ?_) (fun (c0 : ¬ ¬ (v1 = 0)) => ?_)
  · rw [if_neg c0] at hf
    exact B_364_45 hd hf
  · rw [if_pos (Classical.not_not.mp c0)] at hf
    refine Ex.seg 3 (pc' := 14) (lc' := [some (.ref 67), some (.int x1)]) (st' := [.int x1, .ref 86]) (h' := h) (sg1 rfl rfl (sg1 rfl rfl (sg1 rfl rfl rfl))) ?_
    obtain ⟨v2, e_v2, hf⟩ := bnd hf
    refine Ex.zald e_v2 rfl rfl ?_
    refine Ex.ifc rfl rfl (fun (c0 : ¬ (v2 = 0)) => ?_) (fun (c0 : ¬ ¬ (v2 = 0)) => ?_)
    · rw [if_neg c0] at hf
      exact B_364_45 hd hf
    · rw [if_pos (Classical.not_not.mp c0)] at hf
      refine Ex.seg 3 (pc' := 23) (lc' := [some (.ref 67), some (.int x1)]) (st' := [.int x1, .ref 84]) (h' := h) (sg1 rfl rfl (sg1 rfl rfl (sg1 rfl rfl rfl))) ?_
      obtain ⟨v3, e_v3, hf⟩ := bnd hf
      refine Ex.iald e_v3 rfl rfl ?_
      refine Ex.ifc rfl rfl (fun (c0 : ¬ (v3 = 0)) => ?_) (fun (c0 : ¬ ¬ (v3 = 0)) => ?_)
      · rw [if_neg c0] at hf
        exact B_364_45 hd hf
      · rw [if_pos (Classical.not_not.mp c0)] at hf
        refine Ex.seg 5 (pc' := 36) (lc' := [some (.ref 67), some (.int x1)]) (st' := [.int x1, .ref 89, .ref 72]) (h' := h) (sg1 rfl rfl (sg1 rfl rfl (sg1 rfl rfl (sg1 rfl rfl (sg1 rfl rfl rfl))))) ?_
        obtain ⟨v4, e_v4, hf⟩ := bnd hf
        refine Ex.iald e_v4 rfl rfl ?_
        obtain ⟨v5, e_v5, hf⟩ := bnd hf
        refine Ex.iald e_v5 rfl rfl ?_
        refine Ex.ifc rfl rfl (fun (c0 : ¬ (v5 = 0)) => ?_) (fun (c0 : ¬ ¬ (v5 = 0)) => ?_)
        · rw [if_neg c0] at hf
          exact B_364_45 hd hf
        · rw [if_pos (Classical.not_not.mp c0)] at hf
          refine Ex.seg 2 (pc' := 46) (lc' := [some (.ref 67), some (.int x1)]) (st' := [.int 1]) (h' := h) (sg1 rfl rfl (sg1 rfl rfl rfl)) ?_
          exact B_364_46 hd hf
/-- HandleHouseModel.isMaker(I)Z -/
abbrev F_364 (x1 : Int32) (h : sm_H) : Option (Int32 × sm_H) := F_364_0 x1 h
theorem E_364 {L : Nat} {xs : Nat → Int32} {d : Nat} (hd : 1 ≤ d) {x1 : Int32} {h : sm_H} {r : Int32 × sm_H} (hf : F_364 x1 h = some r) : RUN L xs d 364 [.ref 67, .int x1] h (some (.int r.1), r.2) := by
  obtain ⟨d, rfl⟩ : ∃ e, d = e + 1 := ⟨d - 1, by omega⟩
  exact ⟨Nat.le_of_ble_eq_true rfl, B_364_0 (by omega) hf⟩
def F_380_0 (x1 : Int32) (h : sm_H) : Option (Int32 × sm_H) :=
  if (h.1 67 1) = 20 then (some (0, h))
  else ((stI h 68 20 (h.1 67 1) x1).bind fun h1 =>
  (some (sm_wI h1 67 1 ((h1.1 67 1) + 1))).bind fun h2 =>
  some (1, h2))
theorem B_380_0 {L : Nat} {xs : Nat → Int32} {d : Nat} (hd : 0 ≤ d) {x1 : Int32}  {h : sm_H} {r : Int32 × sm_H} (hf : F_380_0 x1 h = some r) : Ex (P_G L xs) (RUN L xs d) (sm_lk P_t380) 3 0 [some (.ref 67), some (.int x1)] [] h (some (.int r.1), r.2) := by
  unfold F_380_0 at hf
  refine Ex.seg 3 (pc' := 6) (lc' := [some (.ref 67), some (.int x1)]) (st' := [.int 20, .int (h.1 67 1)]) (h' := h) (sg1 rfl rfl (sg1 rfl rfl (sg1 rfl rfl rfl))) ?_
  refine Ex.icmp rfl rfl (fun (c0 : ¬ ((h.1 67 1) = 20)) => ?_) (fun (c0 : ¬ ¬ ((h.1 67 1) = 20)) => ?_)
  · rw [if_neg c0] at hf
    refine Ex.seg 5 (pc' := 20) (lc' := [some (.ref 67), some (.int x1)]) (st' := [.int x1, .int (h.1 67 1), .ref 68]) (h' := h) (sg1 rfl rfl (sg1 rfl rfl (sg1 rfl rfl (sg1 rfl rfl (sg1 rfl rfl rfl))))) ?_
    obtain ⟨h1, e_h1, hf⟩ := bnd hf
    refine Ex.iast e_h1 rfl rfl ?_
    refine Ex.seg 6 (pc' := 31) (lc' := [some (.ref 67), some (.int x1)]) (st' := []) (h' := (sm_wI h1 67 1 ((h1.1 67 1) + 1))) (sg1 rfl rfl (sg1 rfl rfl (sg1 rfl rfl (sg1 rfl rfl (sg1 rfl rfl (sg1 rfl rfl rfl)))))) ?_
    obtain ⟨h2, e_h2, hf⟩ := bnd hf
    rw [Option.some.inj e_h2]
    refine Ex.seg 1 (pc' := 32) (lc' := [some (.ref 67), some (.int x1)]) (st' := [.int 1]) (h' := h2) (sg1 rfl rfl rfl) ?_
    obtain rfl := Option.some.inj hf
    exact Ex.iret rfl rfl (fun _ => by decide) rfl
  · rw [if_pos (Classical.not_not.mp c0)] at hf
    refine Ex.seg 1 (pc' := 10) (lc' := [some (.ref 67), some (.int x1)]) (st' := [.int 0]) (h' := h) (sg1 rfl rfl rfl) ?_
    obtain rfl := Option.some.inj hf
    exact Ex.iret rfl rfl (fun _ => by decide) rfl
/-- HandleHouseModel.put(I)Z -/
abbrev F_380 (x1 : Int32) (h : sm_H) : Option (Int32 × sm_H) := F_380_0 x1 h
theorem E_380 {L : Nat} {xs : Nat → Int32} {d : Nat} (hd : 1 ≤ d) {x1 : Int32} {h : sm_H} {r : Int32 × sm_H} (hf : F_380 x1 h = some r) : RUN L xs d 380 [.ref 67, .int x1] h (some (.int r.1), r.2) := by
  obtain ⟨d, rfl⟩ : ∃ e, d = e + 1 := ⟨d - 1, by omega⟩
  exact ⟨Nat.le_of_ble_eq_true rfl, B_380_0 (by omega) hf⟩
def F_383_64 (z0 : Int32) (h : sm_H) : Option (Int32 × sm_H) :=
  some (z0, h)
theorem B_383_64 {L : Nat} {xs : Nat → Int32} {d : Nat} (hd : 1 ≤ d) {z0 : Int32} {d0 : Option Value} {d1 : Option Value} {d2 : Option Value} {h : sm_H} {r : Int32 × sm_H} (hf : F_383_64 z0 h = some r) : Ex (P_G L xs) (RUN L xs d) (sm_lk P_t383) 0 64 [d0, d1, d2] [.int z0] h (some (.int r.1), r.2) := by
  unfold F_383_64 at hf
  obtain rfl := Option.some.inj hf
  exact Ex.iret rfl rfl (fun c0 => by cases c0) rfl
def F_383_63  (h : sm_H) : Option (Int32 × sm_H) :=
  F_383_64 (-1) h
theorem B_383_63 {L : Nat} {xs : Nat → Int32} {d : Nat} (hd : 1 ≤ d)  {d0 : Option Value} {d1 : Option Value} {d2 : Option Value} {h : sm_H} {r : Int32 × sm_H} (hf : F_383_63  h = some r) : Ex (P_G L xs) (RUN L xs d) (sm_lk P_t383) 0 63 [d0, d1, d2] [] h (some (.int r.1), r.2) := by
  unfold F_383_63 at hf
  refine Ex.seg 1 (pc' := 64) (lc' := [d0, d1, d2]) (st' := [.int (-1)]) (h' := h) (sg1 rfl rfl rfl) ?_
  exact B_383_64 hd hf
def F_383_0 (x1 : Int32) (x2 : Int32) (h : sm_H) : Option (Int32 × sm_H) :=
  (F_303 x1 h).bind fun q1 =>
  if q1.1 = 0 then (some ((-1), q1.2))
  else (if x2 = (-1) then ((ldI q1.2 72 300 x1).bind fun v5 =>
  some (v5, q1.2))
  else (if x2 = (-2) then ((ldI q1.2 73 300 x1).bind fun v4 =>
  some (v4, q1.2))
  else (if x2 < 0 then (F_383_63 q1.2)
  else ((ldI q1.2 73 300 x1).bind fun v2 =>
  if v2 ≤ x2 then (F_383_63 q1.2)
  else ((ldI q1.2 74 3000 ((10 * x1) + x2)).bind fun v3 =>
  F_383_64 v3 q1.2)))))
theorem B_383_0 {L : Nat} {xs : Nat → Int32} {d : Nat} (hd : 1 ≤ d) {x1 : Int32} {x2 : Int32}  {h : sm_H} {r : Int32 × sm_H} (hf : F_383_0 x1 x2 h = some r) : Ex (P_G L xs) (RUN L xs d) (sm_lk P_t383) 0 0 [some (.ref 67), some (.int x1), some (.int x2)] [] h (some (.int r.1), r.2) := by
  unfold F_383_0 at hf
  refine Ex.seg 2 (pc' := 2) (lc' := [some (.ref 67), some (.int x1), some (.int x2)]) (st' := [.int x1, .ref 67]) (h' := h) (sg1 rfl rfl (sg1 rfl rfl rfl)) ?_
  obtain ⟨q1, e_q1, hf⟩ := bnd hf
  refine Ex.callV (a := 67) (As := [.int x1]) (r := []) (v := some (.int q1.1)) (h' := q1.2) rfl rfl (by decide) rfl (Nat.le_of_ble_eq_true rfl) rfl (E_303 (Nat.le_trans (by decide) hd) e_q1) rfl ?_
  refine Ex.ifc rfl rfl (fun (c0 : ¬ (q1.1 = 0)) => ?_) (fun (c0 : ¬ ¬ (q1.1 = 0)) => ?_)
  · rw [if_neg c0] at hf
    refine Ex.seg 2 (pc' := 12) (lc' := [some (.ref 67), some (.int x1), some (.int x2)]) (st' := [.int (-1), .int x2]) (h' := q1.2) (sg1 rfl rfl (sg1 rfl rfl rfl)) ?_
    refine Ex.icmp rfl rfl (fun (c0 : ¬ (x2 = (-1))) => ?_) (fun (c0 : ¬ ¬ (x2 = (-1))) => ?_)
    · rw [if_neg c0] at hf
      refine Ex.seg 2 (pc' := 25) (lc' := [some (.ref 67), some (.int x1), some (.int x2)]) (st' := [.int (-2), .int x2]) (h' := q1.2) (sg1 rfl rfl (sg1 rfl rfl rfl)) ?_
      refine Ex.icmp rfl rfl (fun (c0 : ¬ (x2 = (-2))) => ?_) (fun (c0 : ¬ ¬ (x2 = (-2))) => ?_)
      · rw [if_neg c0] at hf
        refine Ex.seg 1 (pc' := 36) (lc' := [some (.ref 67), some (.int x1), some (.int x2)]) (st' := [.int x2]) (h' := q1.2) (sg1 rfl rfl rfl) ?_
        refine Ex.ifc rfl rfl (fun (c0 : x2 < 0) => ?_) (fun (c0 : ¬ (x2 < 0)) => ?_)
        · rw [if_pos c0] at hf
          exact B_383_63 hd hf
        · rw [if_neg c0] at hf
          refine Ex.seg 4 (pc' := 45) (lc' := [some (.ref 67), some (.int x1), some (.int x2)]) (st' := [.int x1, .ref 73, .int x2]) (h' := q1.2) (sg1 rfl rfl (sg1 rfl rfl (sg1 rfl rfl (sg1 rfl rfl rfl)))) ?_
          obtain ⟨v2, e_v2, hf⟩ := bnd hf
          refine Ex.iald e_v2 rfl rfl ?_
          refine Ex.icmp rfl rfl (fun (c0 : v2 ≤ x2) => ?_) (fun (c0 : ¬ (v2 ≤ x2)) => ?_)
          · rw [if_pos c0] at hf
            exact B_383_63 hd hf
          · rw [if_neg c0] at hf
            refine Ex.seg 7 (pc' := 59) (lc' := [some (.ref 67), some (.int x1), some (.int x2)]) (st' := [.int ((10 * x1) + x2), .ref 74]) (h' := q1.2) (sg1 rfl rfl (sg1 rfl rfl (sg1 rfl rfl (sg1 rfl rfl (sg1 rfl rfl (sg1 rfl rfl (sg1 rfl rfl rfl))))))) ?_
            obtain ⟨v3, e_v3, hf⟩ := bnd hf
            refine Ex.iald e_v3 rfl rfl ?_
            refine Ex.seg 1 (pc' := 64) (lc' := [some (.ref 67), some (.int x1), some (.int x2)]) (st' := [.int v3]) (h' := q1.2) (sg1 rfl rfl rfl) ?_
            exact B_383_64 hd hf
      · rw [if_pos (Classical.not_not.mp c0)] at hf
        refine Ex.seg 3 (pc' := 33) (lc' := [some (.ref 67), some (.int x1), some (.int x2)]) (st' := [.int x1, .ref 73]) (h' := q1.2) (sg1 rfl rfl (sg1 rfl rfl (sg1 rfl rfl rfl))) ?_
        obtain ⟨v4, e_v4, hf⟩ := bnd hf
        refine Ex.iald e_v4 rfl rfl ?_
        obtain rfl := Option.some.inj hf
        exact Ex.iret rfl rfl (fun c0 => by cases c0) rfl
    · rw [if_pos (Classical.not_not.mp c0)] at hf
      refine Ex.seg 3 (pc' := 20) (lc' := [some (.ref 67), some (.int x1), some (.int x2)]) (st' := [.int x1, .ref 72]) (h' := q1.2) (sg1 rfl rfl (sg1 rfl rfl (sg1 rfl rfl rfl))) ?_
      obtain ⟨v5, e_v5, hf⟩ := bnd hf
      refine Ex.iald e_v5 rfl rfl ?_
      obtain rfl := Option.some.inj hf
      exact Ex.iret rfl rfl (fun c0 => by cases c0) rfl
  · rw [if_pos (Classical.not_not.mp c0)] at hf
    refine Ex.seg 1 (pc' := 9) (lc' := [some (.ref 67), some (.int x1), some (.int x2)]) (st' := [.int (-1)]) (h' := q1.2) (sg1 rfl rfl rfl) ?_
    obtain rfl := Option.some.inj hf
    exact Ex.iret rfl rfl (fun c0 => by cases c0) rfl
/-- HandleHouseModel.typeAbout(II)I -/
abbrev F_383 (x1 : Int32) (x2 : Int32) (h : sm_H) : Option (Int32 × sm_H) := F_383_0 x1 x2 h
theorem E_383 {L : Nat} {xs : Nat → Int32} {d : Nat} (hd : 2 ≤ d) {x1 : Int32} {x2 : Int32} {h : sm_H} {r : Int32 × sm_H} (hf : F_383 x1 x2 h = some r) : RUN L xs d 383 [.ref 67, .int x1, .int x2] h (some (.int r.1), r.2) := by
  obtain ⟨d, rfl⟩ : ∃ e, d = e + 1 := ⟨d - 1, by omega⟩
  exact ⟨Nat.le_of_ble_eq_true rfl, B_383_0 (by omega) hf⟩
def F_386_18 (z0 : Int64) (h : sm_H) : Option (Int64 × sm_H) :=
  some (z0, h)
theorem B_386_18 {L : Nat} {xs : Nat → Int32} {d : Nat} (hd : 1 ≤ d) {z0 : Int64} {d0 : Option Value} {d1 : Option Value} {h : sm_H} {r : Int64 × sm_H} (hf : F_386_18 z0 h = some r) : Ex (P_G L xs) (RUN L xs d) (sm_lk P_t386) 0 18 [d0, d1] [.long z0] h (some (.long r.1), r.2) := by
  unfold F_386_18 at hf
  obtain rfl := Option.some.inj hf
  exact Ex.lret rfl rfl rfl
def F_386_0 (x1 : Int32) (h : sm_H) : Option (Int64 × sm_H) :=
  (F_304 x1 h).bind fun q1 =>
  if q1.1 = 0 then (F_386_18 0 q1.2)
  else ((ldJ q1.2 79 500 x1).bind fun v2 =>
  F_386_18 v2 q1.2)
theorem B_386_0 {L : Nat} {xs : Nat → Int32} {d : Nat} (hd : 1 ≤ d) {x1 : Int32}  {h : sm_H} {r : Int64 × sm_H} (hf : F_386_0 x1 h = some r) : Ex (P_G L xs) (RUN L xs d) (sm_lk P_t386) 0 0 [some (.ref 67), some (.int x1)] [] h (some (.long r.1), r.2) := by
  unfold F_386_0 at hf
  refine Ex.seg 2 (pc' := 2) (lc' := [some (.ref 67), some (.int x1)]) (st' := [.int x1, .ref 67]) (h' := h) (sg1 rfl rfl (sg1 rfl rfl rfl)) ?_
  obtain ⟨q1, e_q1, hf⟩ := bnd hf
  refine Ex.callV (a := 67) (As := [.int x1]) (r := []) (v := some (.int q1.1)) (h' := q1.2) rfl rfl (by decide) rfl (Nat.le_of_ble_eq_true rfl) rfl (E_304 (Nat.le_trans (by decide) hd) e_q1) rfl ?_
  refine Ex.ifc rfl rfl (fun (c0 : q1.1 = 0) => ?_) (fun (c0 : ¬ (q1.1 = 0)) => ?_)
  · rw [if_pos c0] at hf
    refine Ex.seg 1 (pc' := 18) (lc' := [some (.ref 67), some (.int x1)]) (st' := [.long 0]) (h' := q1.2) (sg1 rfl rfl rfl) ?_
    exact B_386_18 hd hf
  · rw [if_neg c0] at hf
    refine Ex.seg 3 (pc' := 13) (lc' := [some (.ref 67), some (.int x1)]) (st' := [.int x1, .ref 79]) (h' := q1.2) (sg1 rfl rfl (sg1 rfl rfl (sg1 rfl rfl rfl))) ?_
    obtain ⟨v2, e_v2, hf⟩ := bnd hf
    refine Ex.lald e_v2 rfl rfl ?_
    refine Ex.seg 1 (pc' := 18) (lc' := [some (.ref 67), some (.int x1)]) (st' := [.long v2]) (h' := q1.2) (sg1 rfl rfl rfl) ?_
    exact B_386_18 hd hf
/-- HandleHouseModel.constant(I)J -/
abbrev F_386 (x1 : Int32) (h : sm_H) : Option (Int64 × sm_H) := F_386_0 x1 h
theorem E_386 {L : Nat} {xs : Nat → Int32} {d : Nat} (hd : 2 ≤ d) {x1 : Int32} {h : sm_H} {r : Int64 × sm_H} (hf : F_386 x1 h = some r) : RUN L xs d 386 [.ref 67, .int x1] h (some (.long r.1), r.2) := by
  obtain ⟨d, rfl⟩ : ∃ e, d = e + 1 := ⟨d - 1, by omega⟩
  exact ⟨Nat.le_of_ble_eq_true rfl, B_386_0 (by omega) hf⟩
def F_387_19 (z0 : Int32) (h : sm_H) : Option (Int32 × sm_H) :=
  if z0 = 0 ∨ z0 = 1 then some (z0, h) else none
theorem B_387_19 {L : Nat} {xs : Nat → Int32} {d : Nat} (hd : 1 ≤ d) {z0 : Int32} {d0 : Option Value} {d1 : Option Value} {h : sm_H} {r : Int32 × sm_H} (hf : F_387_19 z0 h = some r) : Ex (P_G L xs) (RUN L xs d) (sm_lk P_t387) 3 19 [d0, d1] [.int z0] h (some (.int r.1), r.2) := by
  unfold F_387_19 at hf
  rcases Classical.em (z0 = 0 ∨ z0 = 1) with c0 | c0
  · rw [if_pos c0] at hf
    obtain rfl := Option.some.inj hf
    exact Ex.iret rfl rfl (fun _ => c0) rfl
  · rw [if_neg c0] at hf
    cases hf
def F_387_18  (h : sm_H) : Option (Int32 × sm_H) :=
  F_387_19 0 h
theorem B_387_18 {L : Nat} {xs : Nat → Int32} {d : Nat} (hd : 1 ≤ d)  {d0 : Option Value} {d1 : Option Value} {h : sm_H} {r : Int32 × sm_H} (hf : F_387_18  h = some r) : Ex (P_G L xs) (RUN L xs d) (sm_lk P_t387) 3 18 [d0, d1] [] h (some (.int r.1), r.2) := by
  unfold F_387_18 at hf
  refine Ex.seg 1 (pc' := 19) (lc' := [d0, d1]) (st' := [.int 0]) (h' := h) (sg1 rfl rfl rfl) ?_
  exact B_387_19 hd hf
def F_387_0 (x1 : Int32) (h : sm_H) : Option (Int32 × sm_H) :=
  if x1 < 20 then (F_387_18 h)
  else ((F_289 x1 h).bind fun q1 =>
  if q1.1 = 0 then (F_387_18 q1.2)
  else (F_387_19 1 q1.2))
theorem B_387_0 {L : Nat} {xs : Nat → Int32} {d : Nat} (hd : 1 ≤ d) {x1 : Int32}  {h : sm_H} {r : Int32 × sm_H} (hf : F_387_0 x1 h = some r) : Ex (P_G L xs) (RUN L xs d) (sm_lk P_t387) 3 0 [some (.ref 67), some (.int x1)] [] h (some (.int r.1), r.2) := by
  unfold F_387_0 at hf
  refine Ex.seg 2 (pc' := 3) (lc' := [some (.ref 67), some (.int x1)]) (st' := [.int 20, .int x1]) (h' := h) (sg1 rfl rfl (sg1 rfl rfl rfl)) ?_
  refine Ex.icmp rfl rfl (fun (c0 : x1 < 20) => ?_) (fun (c0 : ¬ (x1 < 20)) => ?_)
  · rw [if_pos c0] at hf
    exact B_387_18 hd hf
  · rw [if_neg c0] at hf
    refine Ex.seg 2 (pc' := 8) (lc' := [some (.ref 67), some (.int x1)]) (st' := [.int x1, .ref 67]) (h' := h) (sg1 rfl rfl (sg1 rfl rfl rfl)) ?_
    obtain ⟨q1, e_q1, hf⟩ := bnd hf
    refine Ex.callV (a := 67) (As := [.int x1]) (r := []) (v := some (.int q1.1)) (h' := q1.2) rfl rfl (by decide) rfl (Nat.le_of_ble_eq_true rfl) rfl (E_289 (Nat.le_trans (by decide) hd) e_q1) rfl ?_
    refine Ex.ifc rfl rfl (fun (c0 : q1.1 = 0) => ?_) (fun (c0 : ¬ (q1.1 = 0)) => ?_)
    · rw [if_pos c0] at hf
      exact B_387_18 hd hf
    · rw [if_neg c0] at hf
      refine Ex.seg 2 (pc' := 19) (lc' := [some (.ref 67), some (.int x1)]) (st' := [.int 1]) (h' := q1.2) (sg1 rfl rfl (sg1 rfl rfl rfl)) ?_
      exact B_387_19 hd hf
/-- HandleHouseModel.isClass(I)Z -/
abbrev F_387 (x1 : Int32) (h : sm_H) : Option (Int32 × sm_H) := F_387_0 x1 h
theorem E_387 {L : Nat} {xs : Nat → Int32} {d : Nat} (hd : 2 ≤ d) {x1 : Int32} {h : sm_H} {r : Int32 × sm_H} (hf : F_387 x1 h = some r) : RUN L xs d 387 [.ref 67, .int x1] h (some (.int r.1), r.2) := by
  obtain ⟨d, rfl⟩ : ∃ e, d = e + 1 := ⟨d - 1, by omega⟩
  exact ⟨Nat.le_of_ble_eq_true rfl, B_387_0 (by omega) hf⟩
def F_388_0 (x1 : Int32) (h : sm_H) : Option (Int32 × sm_H) :=
  (some (sm_wI h 67 19 x1)).bind fun h1 =>
  some ((-1), h1)
theorem B_388_0 {L : Nat} {xs : Nat → Int32} {d : Nat} (hd : 0 ≤ d) {x1 : Int32}  {h : sm_H} {r : Int32 × sm_H} (hf : F_388_0 x1 h = some r) : Ex (P_G L xs) (RUN L xs d) (sm_lk P_t388) 0 0 [some (.ref 67), some (.int x1)] [] h (some (.int r.1), r.2) := by
  unfold F_388_0 at hf
  refine Ex.seg 3 (pc' := 5) (lc' := [some (.ref 67), some (.int x1)]) (st' := []) (h' := (sm_wI h 67 19 x1)) (sg1 rfl rfl (sg1 rfl rfl (sg1 rfl rfl rfl))) ?_
  obtain ⟨h1, e_h1, hf⟩ := bnd hf
  rw [Option.some.inj e_h1]
  refine Ex.seg 1 (pc' := 6) (lc' := [some (.ref 67), some (.int x1)]) (st' := [.int (-1)]) (h' := h1) (sg1 rfl rfl rfl) ?_
  obtain rfl := Option.some.inj hf
  exact Ex.iret rfl rfl (fun c0 => by cases c0) rfl
/-- HandleHouseModel.refuse(I)I -/
abbrev F_388 (x1 : Int32) (h : sm_H) : Option (Int32 × sm_H) := F_388_0 x1 h
theorem E_388 {L : Nat} {xs : Nat → Int32} {d : Nat} (hd : 1 ≤ d) {x1 : Int32} {h : sm_H} {r : Int32 × sm_H} (hf : F_388 x1 h = some r) : RUN L xs d 388 [.ref 67, .int x1] h (some (.int r.1), r.2) := by
  obtain ⟨d, rfl⟩ : ∃ e, d = e + 1 := ⟨d - 1, by omega⟩
  exact ⟨Nat.le_of_ble_eq_true rfl, B_388_0 (by omega) hf⟩
def F_389_0 (x1 : Int32) (x2 : Int32) (x3 : Int32) (x4 : Int32) (h : sm_H) : Option (sm_H) :=
  (stI h 83 100 (h.1 67 32) x1).bind fun h1 =>
  (stI h1 84 100 (h1.1 67 32) x2).bind fun h2 =>
  (stI h2 85 100 (h2.1 67 32) x3).bind fun h3 =>
  (stZ h3 86 100 (h3.1 67 32) x4).bind fun h4 =>
  some h4
theorem B_389_0 {L : Nat} {xs : Nat → Int32} {d : Nat} (hd : 0 ≤ d) {x1 : Int32} {x2 : Int32} {x3 : Int32} {x4 : Int32}  {h : sm_H} {r : sm_H} (hf : F_389_0 x1 x2 x3 x4 h = some r) : Ex (P_G L xs) (RUN L xs d) (sm_lk P_t389) 0 0 [some (.ref 67), some (.int x1), some (.int x2), some (.int x3), some (.int x4)] [] h (none, r) := by
  unfold F_389_0 at hf
  refine Ex.seg 5 (pc' := 9) (lc' := [some (.ref 67), some (.int x1), some (.int x2), some (.int x3), some (.int x4)]) (st' := [.int x1, .int (h.1 67 32), .ref 83]) (h' := h) (sg1 rfl rfl (sg1 rfl rfl (sg1 rfl rfl (sg1 rfl rfl (sg1 rfl rfl rfl))))) ?_
  obtain ⟨h1, e_h1, hf⟩ := bnd hf
  refine Ex.iast e_h1 rfl rfl ?_
  refine Ex.seg 5 (pc' := 19) (lc' := [some (.ref 67), some (.int x1), some (.int x2), some (.int x3), some (.int x4)]) (st' := [.int x2, .int (h1.1 67 32), .ref 84]) (h' := h1) (sg1 rfl rfl (sg1 rfl rfl (sg1 rfl rfl (sg1 rfl rfl (sg1 rfl rfl rfl))))) ?_
  obtain ⟨h2, e_h2, hf⟩ := bnd hf
  refine Ex.iast e_h2 rfl rfl ?_
  refine Ex.seg 5 (pc' := 29) (lc' := [some (.ref 67), some (.int x1), some (.int x2), some (.int x3), some (.int x4)]) (st' := [.int x3, .int (h2.1 67 32), .ref 85]) (h' := h2) (sg1 rfl rfl (sg1 rfl rfl (sg1 rfl rfl (sg1 rfl rfl (sg1 rfl rfl rfl))))) ?_
  obtain ⟨h3, e_h3, hf⟩ := bnd hf
  refine Ex.iast e_h3 rfl rfl ?_
  refine Ex.seg 5 (pc' := 40) (lc' := [some (.ref 67), some (.int x1), some (.int x2), some (.int x3), some (.int x4)]) (st' := [.int x4, .int (h3.1 67 32), .ref 86]) (h' := h3) (sg1 rfl rfl (sg1 rfl rfl (sg1 rfl rfl (sg1 rfl rfl (sg1 rfl rfl rfl))))) ?_
  obtain ⟨h4, e_h4, hf⟩ := bnd hf
  refine Ex.zast e_h4 rfl rfl ?_
  obtain rfl := Option.some.inj hf
  exact Ex.vret rfl rfl rfl
/-- HandleHouseModel.tell(IIIZ)V -/
abbrev F_389 (x1 : Int32) (x2 : Int32) (x3 : Int32) (x4 : Int32) (h : sm_H) : Option (sm_H) := F_389_0 x1 x2 x3 x4 h
theorem E_389 {L : Nat} {xs : Nat → Int32} {d : Nat} (hd : 1 ≤ d) {x1 : Int32} {x2 : Int32} {x3 : Int32} {x4 : Int32} {h : sm_H} {r : sm_H} (hf : F_389 x1 x2 x3 x4 h = some r) : RUN L xs d 389 [.ref 67, .int x1, .int x2, .int x3, .int x4] h (none, r) := by
  obtain ⟨d, rfl⟩ : ∃ e, d = e + 1 := ⟨d - 1, by omega⟩
  exact ⟨Nat.le_of_ble_eq_true rfl, B_389_0 (by omega) hf⟩
