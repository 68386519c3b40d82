section SMex4
variable {G : sm_G} {call : Nat → List Value → sm_H → Option Value × sm_H → Prop} {T : Nat → Option sm_I} {rt pc : Nat} {lc : sm_L} {st r : List Value} {h : sm_H} {res : Option Value × sm_H} {i : sm_I}
theorem Ex.nw {idx : Nat} (ht : T pc = some i) (hi : i.1 = .new idx) (k : Ex G call T rt (pc + 3) lc (.ref (G.1 + h.n) :: st) (sm_mk G h i.2.1 i.2.2.1) res) : Ex G call T rt pc lc st h res := by
  refine Ex.step ht ?_ k
  unfold sm_one
  rw [hi]
theorem Ex.nwa {t : ArrayType} {n : Int32} (c0 : ¬ n < 0) (ht : T pc = some i) (hi : i.1 = .newarray t) (k : Ex G call T rt (pc + 2) lc (.ref (G.1 + h.n) :: r) (sm_mk G h i.2.1 n.toNatClampNeg) res) : Ex G call T rt pc lc (.int n :: r) h res := by
  refine Ex.step ht ?_ k
  unfold sm_one
  rw [hi]
  simp only [if_neg c0]
theorem Ex.putR {a c k b : Nat} {idx : Nat} {w : Nat} {z : Value} (c0 : sm_is G h a c = true) (c1 : G.2.2.2.1 a k = none) (ht : T pc = some i) (hi : i = (.putfield idx, c, k, 2, w, z)) (n : Ex G call T rt (pc + 3) lc r (sm_wR h a k (some b)) res) : Ex G call T rt pc lc (.ref b :: .ref a :: r) h res := by
  subst hi
  refine Ex.step ht ?_ n
  show (match sm_pf G h a c k 2 (.ref b) with | some v => _ | none => _) = _
  unfold sm_pf
  rw [c0]
  simp only [cond_true]
  rw [c1]
theorem Ex.aast {a b : Nat} {k : Int32} {h' : sm_H} (e : sm_stR G h i.2.1 a k b = some h') (ht : T pc = some i) (hi : i.1 = .aastore) (n : Ex G call T rt (pc + 1) lc r h' res) : Ex G call T rt pc lc (.ref b :: .int k :: .ref a :: r) h res := by
  refine Ex.step ht ?_ n
  unfold sm_one
  rw [hi]
  dsimp only
  rw [e]
theorem Ex.oini {a : Nat} {idx : Nat} (ht : T pc = some i) (hi : i.1 = .invokespecial idx) (hc : i.2.2.2.1 = 0) (hr : (r.map fun v => v.category).sum ≤ 8) (k : Ex G call T rt (pc + 3) lc r h res) : Ex G call T rt pc lc (.ref a :: r) h res := by
  have h1 : sm_one G i pc lc (.ref a :: r) h = none := by
    unfold sm_one
    rw [hi]
    rfl
  obtain ⟨n, k⟩ := k
  refine Ex.ends (n := n) ht h1 ?_
  unfold sm_end
  rw [hi]
  exact Or.inl ⟨hc, a, r, rfl, hr, k⟩
theorem Ex.callI {idx : Nat} {a : Nat} {As : List Value} {h' : sm_H} (ht : T pc = some i) (hi : i.1 = .invokespecial idx) (hc : i.2.2.2.1 = 1 ∨ i.2.2.2.1 = 2) (hn : As.length = i.2.2.1) (hr : (r.map fun v => v.category).sum ≤ 8) (e : call i.2.1 (.ref a :: As) h (none, h')) (hs : st = As.reverse ++ .ref a :: r) (k : Ex G call T rt (pc + 3) lc r h' res) : Ex G call T rt pc lc st h res := by
  have h1 : sm_one G i pc lc st h = none := by
    unfold sm_one
    rw [hi]
    rfl
  obtain ⟨n, k⟩ := k
  refine Ex.ends (n := n) ht h1 ?_
  unfold sm_end
  rw [hi]
  exact Or.inr ⟨hc, As, a, r, h', hs, hn, hr, e, k⟩
end SMex4
