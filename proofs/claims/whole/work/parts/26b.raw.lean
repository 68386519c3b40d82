def P_Gr (L : Nat) (xs : Nat → Int32) : sm_G := (0, fun _ => 0, fun _ => 0, fun _ _ => none, P_sI L xs, P_sJ, P_ix)
def P_Gz : sm_G := (0, fun _ => 0, fun _ => 0, fun _ _ => none, fun _ => (0, fun _ => 0), fun _ => (0, fun _ => 0), fun _ => 0)
theorem P_Gs (L : Nat) (xs : Nat → Int32) : sx_Gs (P_Gr L xs) P_Gz := by
  refine ⟨fun i pc lc st h hok => ?_, fun h a c => rfl⟩
  obtain ⟨ins, q⟩ := i
  cases ins
  all_goals first
    | (cases hok; done)
    | rfl
def P_e0 : sm_H := (fun _ _ => 0, fun _ _ => 0, fun _ _ => none, fun _ => 0, fun _ => 0, 0, 0)
def P_hof (o : Option (Option Value × sm_H)) : sm_H := match o with
  | some q => q.2
  | none => P_e0
def P_e1 : sm_H := sm_mk P_Gz P_e0 11 13
def P_r2 : Option (Option Value × sm_H) := sx_run P_Gz (fun j pc => sm_lk (P_TT j) pc) P_Y.2.2.1 P_Y.2.2.2.2 2000 12 257 [.ref 0] P_e1
def P_h2 : sm_H := P_hof P_r2
def P_e3 : sm_H := sm_mk P_Gz P_h2 12 112
def P_r4 : Option (Option Value × sm_H) := sx_run P_Gz (fun j pc => sm_lk (P_TT j) pc) P_Y.2.2.1 P_Y.2.2.2.2 2000 12 288 [.ref 67] P_e3
def P_h4 : sm_H := P_hof P_r4
def P_isN (o : Option (Option Value × sm_H)) : Bool := match o with
  | some (none, _) => true
  | _ => false
theorem P_r2_n : P_isN P_r2 = true := by decide +kernel
theorem P_r4_n : P_isN P_r4 = true := by decide +kernel
theorem P_isN_eq {o : Option (Option Value × sm_H)} (h : P_isN o = true) : o = some (none, P_hof o) := by
  unfold P_isN at h
  split at h
  · rfl
  · cases h
theorem P_r2_ok : P_r2 = some (none, P_h2) := P_isN_eq P_r2_n
theorem P_r4_ok : P_r4 = some (none, P_h4) := P_isN_eq P_r4_n
theorem P_h2_n : P_h2.n = 67 := by decide +kernel
theorem P_h4_n : P_h4.n = 131 := by decide +kernel
theorem P_run2 (L : Nat) (xs : Nat → Int32) : sm_run (P_Gr L xs) (fun j pc => sm_lk (P_TT j) pc) P_Y.2.2.1 P_Y.2.2.2.2 12 257 [.ref 0] P_e1 (none, P_h2) := sx_run_ok (P_Gs L xs) _ _ _ _ _ P_r2_ok
theorem P_run4 (L : Nat) (xs : Nat → Int32) : sm_run (P_Gr L xs) (fun j pc => sm_lk (P_TT j) pc) P_Y.2.2.1 P_Y.2.2.2.2 12 288 [.ref 67] P_e3 (none, P_h4) := sx_run_ok (P_Gs L xs) _ _ _ _ _ P_r4_ok
theorem P_h4_cl : ∀ a, a < 131 → P_h4.2.2.2.1 a = P_bc.getD a 0 := by decide +kernel
theorem P_h4_ln : ∀ a, a < 131 → P_bc.getD a 0 ≥ 100 → P_h4.2.2.2.2.1 a = P_bl.getD a 0 := by decide +kernel
theorem P_h4_sl : P_h4.sl ≤ 1000000 := by decide +kernel
theorem P_h2_sl : P_h2.sl ≤ 1000000 := by decide +kernel
