section SMex3
variable {L : Nat} {xs : Nat → Int32} {call : Nat → List Value → sm_H → Option Value × sm_H → Prop} {T : Nat → Option sm_I} {rt pc : Nat} {lc : sm_L} {st r : List Value} {h : sm_H} {res : Option Value × sm_H} {i : sm_I}
theorem Ex.getI {G : sm_G} {a c k : Nat} {idx : Nat} {w : Nat} {z : Value} (c0 : sm_is G h a c = true) (ht : T pc = some i) (hi : i = (.getfield idx, c, k, 0, w, z)) (n : Ex G call T rt (pc + 3) lc (.int (h.1 a k) :: r) h res) : Ex G call T rt pc lc (.ref a :: r) h res := by
  subst hi
  refine Ex.step ht ?_ n
  show (match sm_gf G h a c k 0 with | some v => _ | none => _) = _
  unfold sm_gf
  rw [c0]
  rfl
theorem Ex.getR {G : sm_G} {a c k b : Nat} {idx : Nat} {w : Nat} {z : Value} (c0 : sm_is G h a c = true) (e : sm_rr G h a k = some b) (ht : T pc = some i) (hi : i = (.getfield idx, c, k, 2, w, z)) (n : Ex G call T rt (pc + 3) lc (.ref b :: r) h res) : Ex G call T rt pc lc (.ref a :: r) h res := by
  subst hi
  refine Ex.step ht ?_ n
  show (match sm_gf G h a c k 2 with | some v => _ | none => _) = _
  unfold sm_gf
  rw [c0, e]
  rfl
theorem Ex.putI {G : sm_G} {a c k : Nat} {idx : Nat} {w : Nat} {z : Value} {x : Int32} (c0 : sm_is G h a c = true) (ht : T pc = some i) (hi : i = (.putfield idx, c, k, 0, w, z)) (n : Ex G call T rt (pc + 3) lc r (sm_wI h a k x) res) : Ex G call T rt pc lc (.int x :: .ref a :: r) h res := by
  subst hi
  refine Ex.step ht ?_ n
  show (match sm_pf G h a c k 0 (.int x) with | some v => _ | none => _) = _
  unfold sm_pf
  rw [c0]
  rfl
theorem sm_is_LX (b c : Nat) : sm_is (P_G L xs) h b c = sm_is G0 h b c := rfl
theorem sm_ln_LX (b : Nat) : sm_ln (P_G L xs) h b = sm_ln G0 h b := rfl
theorem sm_cl_LX (b : Nat) : sm_cl (P_G L xs) h b = sm_cl G0 h b := rfl
theorem sm_live_LX (b : Nat) : sm_live (P_G L xs) h b = sm_live G0 h b := rfl
theorem ldD_ok {b : Nat} {k x : Int32} (e : ldD h b k = some x) : sm_ldI (P_G L xs) h b k = some x := by
  unfold ldD at e
  cases w : Nat.ble 1000000 b with
  | true => rw [w] at e; cases e
  | false =>
    rw [w] at e
    unfold sm_ldI at e ⊢
    rw [w] at e ⊢
    rw [sm_is_LX, sm_ln_LX]
    exact e
theorem ldDJ_ok {b : Nat} {k : Int32} {x : Int64} (e : ldDJ h b k = some x) : sm_ldJ (P_G L xs) h b k = some x := by
  unfold ldDJ at e
  cases w : Nat.ble 2000000 b with
  | true => rw [w] at e; cases e
  | false =>
    rw [w] at e
    unfold sm_ldJ at e ⊢
    rw [w] at e ⊢
    rw [sm_is_LX, sm_ln_LX]
    exact e
theorem alD_ok {b : Nat} {x : Int32} (e : alD h b = some x) : sm_al (P_G L xs) h b = some x := by
  unfold alD at e
  cases w : Nat.ble 1000000 b with
  | true => rw [w] at e; cases e
  | false =>
    rw [w] at e
    unfold sm_al at e ⊢
    rw [w] at e ⊢
    rw [sm_live_LX, sm_cl_LX, sm_ln_LX]
    exact e
theorem Ex.alen {G : sm_G} {a : Nat} {x : Int32} (e : sm_al G h a = some x) (ht : T pc = some i) (hi : i.1 = .arraylength) (n : Ex G call T rt (pc + 1) lc (.int x :: r) h res) : Ex G call T rt pc lc (.ref a :: r) h res := by
  refine Ex.step ht ?_ n
  unfold sm_one
  rw [hi]
  dsimp only
  rw [e]
theorem Ex.aald {G : sm_G} {a b : Nat} {k : Int32} (e : sm_ldR G h a k = some (some b)) (ht : T pc = some i) (hi : i.1 = .aaload) (n : Ex G call T rt (pc + 1) lc (.ref b :: r) h res) : Ex G call T rt pc lc (.int k :: .ref a :: r) h res := by
  refine Ex.step ht ?_ n
  unfold sm_one
  rw [hi]
  dsimp only
  rw [e]
  rfl
theorem Ex.ifnn {G : sm_G} {b : Nat} {off : Int} (ht : T pc = some i) (hi : i.1 = .ifnonnull off) (k : Ex G call T rt i.2.1 lc r h res) : Ex G call T rt pc lc (.ref b :: r) h res := by
  have h1 : sm_one G i pc lc (.ref b :: r) h = none := by
    unfold sm_one
    rw [hi]
    rfl
  obtain ⟨n, k⟩ := k
  refine Ex.ends (n := n) ht h1 ?_
  unfold sm_end
  rw [hi]
  exact ⟨some b, r, rfl, fun _ => k, fun z => by cases z⟩
theorem Ex.mx {G : sm_G} {x y : Int32} {idx : Nat} (ht : T pc = some i) (hi : i.1 = .invokestatic idx) (hc : i.2.2.2.1 = 9) (hr : (r.map fun v => v.category).sum ≤ 8) (k : Ex G call T rt (pc + 3) lc (.int (if x < y then y else x) :: r) h res) : Ex G call T rt pc lc (.int y :: .int x :: r) h res := by
  have h1 : sm_one G i pc lc (.int y :: .int x :: r) h = none := by
    unfold sm_one
    rw [hi]
    rfl
  obtain ⟨n, k⟩ := k
  refine Ex.ends (n := n) ht h1 ?_
  unfold sm_end
  rw [hi]
  exact Or.inr (Or.inr (Or.inr (Or.inl ⟨hc, y, x, r, rfl, hr, k⟩)))
theorem Ex.mn {G : sm_G} {x y : Int32} {idx : Nat} (ht : T pc = some i) (hi : i.1 = .invokestatic idx) (hc : i.2.2.2.1 = 10) (hr : (r.map fun v => v.category).sum ≤ 8) (k : Ex G call T rt (pc + 3) lc (.int (if y < x then y else x) :: r) h res) : Ex G call T rt pc lc (.int y :: .int x :: r) h res := by
  have h1 : sm_one G i pc lc (.int y :: .int x :: r) h = none := by
    unfold sm_one
    rw [hi]
    rfl
  obtain ⟨n, k⟩ := k
  refine Ex.ends (n := n) ht h1 ?_
  unfold sm_end
  rw [hi]
  exact Or.inr (Or.inr (Or.inr (Or.inr ⟨hc, y, x, r, rfl, hr, k⟩)))
theorem Ex.cpI {G : sm_G} {n dp sp : Int32} {a b : Nat} {h' : sm_H} {idx : Nat} (e : sm_cpI G h a sp b dp n = some h') (ht : T pc = some i) (hi : i.1 = .invokestatic idx) (hc : i.2.2.2.1 = 7) (hr : (r.map fun v => v.category).sum ≤ 8) (k : Ex G call T rt (pc + 3) lc r h' res) : Ex G call T rt pc lc (.int n :: .int dp :: .ref b :: .int sp :: .ref a :: r) h res := by
  have h1 : sm_one G i pc lc (.int n :: .int dp :: .ref b :: .int sp :: .ref a :: r) h = none := by
    unfold sm_one
    rw [hi]
    rfl
  obtain ⟨m, k⟩ := k
  refine Ex.ends (n := m) ht h1 ?_
  unfold sm_end
  rw [hi]
  exact Or.inr (Or.inl ⟨hc, n, dp, b, sp, a, r, h', rfl, hr, e, k⟩)
theorem Ex.cpJ {G : sm_G} {n dp sp : Int32} {a b : Nat} {h' : sm_H} {idx : Nat} (e : sm_cpJ G h a sp b dp n = some h') (ht : T pc = some i) (hi : i.1 = .invokestatic idx) (hc : i.2.2.2.1 = 8) (hr : (r.map fun v => v.category).sum ≤ 8) (k : Ex G call T rt (pc + 3) lc r h' res) : Ex G call T rt pc lc (.int n :: .int dp :: .ref b :: .int sp :: .ref a :: r) h res := by
  have h1 : sm_one G i pc lc (.int n :: .int dp :: .ref b :: .int sp :: .ref a :: r) h = none := by
    unfold sm_one
    rw [hi]
    rfl
  obtain ⟨m, k⟩ := k
  refine Ex.ends (n := m) ht h1 ?_
  unfold sm_end
  rw [hi]
  exact Or.inr (Or.inr (Or.inl ⟨hc, n, dp, b, sp, a, r, h', rfl, hr, e, k⟩))
theorem Ex.ixf {G : sm_G} {x : Int32} {idx : Nat} (ht : T pc = some i) (hi : i.1 = .invokevirtual idx) (hc : i.2.2.2.1 = 200) (hr : (r.map fun v => v.category).sum ≤ 8) (k : Ex G call T rt (pc + 3) lc (.int (G.2.2.2.2.2.2 x) :: r) h res) : Ex G call T rt pc lc (.int x :: .ref 3000000 :: r) h res := by
  have h1 : sm_one G i pc lc (.int x :: .ref 3000000 :: r) h = none := by
    unfold sm_one
    rw [hi]
    rfl
  obtain ⟨m, k⟩ := k
  refine Ex.ends (n := m) ht h1 ?_
  unfold sm_end
  rw [hi]
  exact Or.inr ⟨hc, x, r, rfl, hr, k⟩
end SMex3
