theorem B_284_0 {L : Nat} {xs : Nat → Int32} {d : Nat} (hd : 305 ≤ d) {res : Option Value × sm_H}   {h : sm_H} {r : (Int32 × sm_H)} (hf : F_284_0  h = some r) (hs : (fun (r : Int32 × sm_H) => res = (some (.int r.1), r.2)) r) : Ex (P_G L xs) (RUN L xs d) (sm_lk P_t284) 0 0 [some (.ref 0)] [] h res := by
  unfold F_284_0 at hf
  refine Ex.seg 2 (pc' := 4) (lc' := [some (.ref 0)]) (st' := [.ref 55]) (h' := h) (sg1 rfl rfl (sg1 rfl rfl rfl)) ?_
  obtain ⟨q1, e_q1, hf⟩ := bnd hf
  refine Ex.callV (a := 55) (As := []) (r := []) (v := some (.int q1.1)) (h' := q1.2) rfl rfl (by decide) rfl (Nat.le_of_ble_eq_true rfl) rfl (E_167 (Nat.le_trans (by decide) hd) e_q1) rfl ?_
  obtain rfl := Option.some.inj hf
  exact Ex.iret rfl rfl (fun c0 => by cases c0) hs
theorem E_284 {L : Nat} {xs : Nat → Int32} {d : Nat} (hd : 306 ≤ d)  {h : sm_H} {r : Int32 × sm_H} (hf : F_284  h = some r) : RUN L xs d 284 [.ref 0] h (some (.int r.1), r.2) := by
  obtain ⟨d, rfl⟩ : ∃ e, d = e + 1 := ⟨d - 1, by omega⟩
  exact ⟨Nat.le_of_ble_eq_true rfl, B_284_0 (by omega) hf rfl⟩
