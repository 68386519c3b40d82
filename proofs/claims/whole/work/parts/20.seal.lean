section SMex
variable {G : sm_G} {call : Nat → List Value → sm_H → Option Value × sm_H → Prop} {T : Nat → Option sm_I} {rt pc : Nat} {lc : sm_L} {st r : List Value} {h : sm_H} {res : Option Value × sm_H} {i : sm_I}
def Ex (G : sm_G) (call : Nat → List Value → sm_H → Option Value × sm_H → Prop) (T : Nat → Option sm_I) (rt pc : Nat) (lc : sm_L) (st : List Value) (h : sm_H) (res : Option Value × sm_H) : Prop := ∃ n, sm_go G call T rt n pc lc st h res
theorem Ex.step {pc' : Nat} {lc' : sm_L} {st' : List Value} {h' : sm_H} (ht : T pc = some i) (h1 : sm_one G i pc lc st h = some (pc', lc', st', h')) (k : Ex G call T rt pc' lc' st' h' res) : Ex G call T rt pc lc st h res := by
  obtain ⟨n, k⟩ := k
  refine ⟨n + 1, ?_⟩
  unfold sm_go
  rw [ht]
  dsimp only
  rw [h1]
  exact k
def sm_seg (G : sm_G) (T : Nat → Option sm_I) : Nat → Nat × sm_L × List Value × sm_H → Option (Nat × sm_L × List Value × sm_H)
  | 0, c => some c
  | k + 1, c => (match T c.1 with
    | none => none
    | some i => (match sm_one G i c.1 c.2.1 c.2.2.1 c.2.2.2 with
      | none => none
      | some c' => sm_seg G T k c'))
theorem Ex.segs : ∀ (k : Nat) (c c' : Nat × sm_L × List Value × sm_H), sm_seg G T k c = some c' → Ex G call T rt c'.1 c'.2.1 c'.2.2.1 c'.2.2.2 res → Ex G call T rt c.1 c.2.1 c.2.2.1 c.2.2.2 res := by
  intro k
  induction k with
  | zero => intro c c' e x; cases e; exact x
  | succ k ih =>
    intro c c' e x
    unfold sm_seg at e
    split at e
    · cases e
    · rename_i i hi
      split at e
      · cases e
      · rename_i c2 h2
        exact Ex.step hi h2 (ih c2 c' e x)
theorem Ex.seg (k : Nat) {pc' : Nat} {lc' : sm_L} {st' : List Value} {h' : sm_H} (e : sm_seg G T k (pc, lc, st, h) = some (pc', lc', st', h')) (x : Ex G call T rt pc' lc' st' h' res) : Ex G call T rt pc lc st h res := Ex.segs k (pc, lc, st, h) (pc', lc', st', h') e x
theorem Ex.iald {a : Nat} {k x : Int32} (e : sm_ldI G h a k = some x) (ht : T pc = some i) (hi : i.1 = .iaload) (n : Ex G call T rt (pc + 1) lc (.int x :: r) h res) : Ex G call T rt pc lc (.int k :: .ref a :: r) h res := by
  refine Ex.step ht ?_ n
  unfold sm_one
  rw [hi]
  dsimp only
  rw [e]
theorem Ex.lald {a : Nat} {k : Int32} {x : Int64} (e : sm_ldJ G h a k = some x) (ht : T pc = some i) (hi : i.1 = .laload) (n : Ex G call T rt (pc + 1) lc (.long x :: r) h res) : Ex G call T rt pc lc (.int k :: .ref a :: r) h res := by
  refine Ex.step ht ?_ n
  unfold sm_one
  rw [hi]
  dsimp only
  rw [e]
theorem Ex.zald {a : Nat} {k x : Int32} (e : sm_ldZ G h a k = some x) (ht : T pc = some i) (hi : i.1 = .baload) (n : Ex G call T rt (pc + 1) lc (.int x :: r) h res) : Ex G call T rt pc lc (.int k :: .ref a :: r) h res := by
  refine Ex.step ht ?_ n
  unfold sm_one
  rw [hi]
  dsimp only
  rw [e]
theorem Ex.iast {a : Nat} {k x : Int32} {h' : sm_H} (e : sm_stI G h a k x = some h') (ht : T pc = some i) (hi : i.1 = .iastore) (n : Ex G call T rt (pc + 1) lc r h' res) : Ex G call T rt pc lc (.int x :: .int k :: .ref a :: r) h res := by
  refine Ex.step ht ?_ n
  unfold sm_one
  rw [hi]
  dsimp only
  rw [e]
theorem Ex.last {a : Nat} {k : Int32} {x : Int64} {h' : sm_H} (e : sm_stJ G h a k x = some h') (ht : T pc = some i) (hi : i.1 = .lastore) (n : Ex G call T rt (pc + 1) lc r h' res) : Ex G call T rt pc lc (.long x :: .int k :: .ref a :: r) h res := by
  refine Ex.step ht ?_ n
  unfold sm_one
  rw [hi]
  dsimp only
  rw [e]
theorem Ex.zast {a : Nat} {k x : Int32} {h' : sm_H} (e : sm_stZ G h a k x = some h') (ht : T pc = some i) (hi : i.1 = .bastore) (n : Ex G call T rt (pc + 1) lc r h' res) : Ex G call T rt pc lc (.int x :: .int k :: .ref a :: r) h res := by
  refine Ex.step ht ?_ n
  unfold sm_one
  rw [hi]
  dsimp only
  rw [e]
theorem Ex.ends {lc : sm_L} (ht : T pc = some i) (h1 : sm_one G i pc lc st h = none) {n : Nat} (k : sm_end G call rt i pc lc st h res (fun pc' lc' st' h' => sm_go G call T rt n pc' lc' st' h' res)) : Ex G call T rt pc lc st h res := by
  refine ⟨n + 1, ?_⟩
  unfold sm_go
  rw [ht]
  dsimp only
  rw [h1]
  exact k
theorem Ex.ifc {c : ClassFile.Cond} {off : Int} {x : Int32} (ht : T pc = some i) (hi : i.1 = .ifCond c off) (k1 : sm_q c x 0 → Ex G call T rt i.2.1 lc r h res) (k2 : ¬ sm_q c x 0 → Ex G call T rt (pc + 3) lc r h res) : Ex G call T rt pc lc (.int x :: r) h res := by
  have h1 : sm_one G i pc lc (.int x :: r) h = none := by
    unfold sm_one
    rw [hi]
    rfl
  rcases Classical.em (sm_q c x 0) with q | q
  · obtain ⟨n, k⟩ := k1 q
    refine Ex.ends (n := n) ht h1 ?_
    unfold sm_end
    rw [hi]
    exact ⟨x, r, rfl, fun _ => k, fun z => absurd q z⟩
  · obtain ⟨n, k⟩ := k2 q
    refine Ex.ends (n := n) ht h1 ?_
    unfold sm_end
    rw [hi]
    exact ⟨x, r, rfl, fun z => absurd z q, fun _ => k⟩
theorem Ex.icmp {c : ClassFile.Cond} {off : Int} {x y : Int32} (ht : T pc = some i) (hi : i.1 = .if_icmp c off) (k1 : sm_q c x y → Ex G call T rt i.2.1 lc r h res) (k2 : ¬ sm_q c x y → Ex G call T rt (pc + 3) lc r h res) : Ex G call T rt pc lc (.int y :: .int x :: r) h res := by
  have h1 : sm_one G i pc lc (.int y :: .int x :: r) h = none := by
    unfold sm_one
    rw [hi]
    rfl
  rcases Classical.em (sm_q c x y) with q | q
  · obtain ⟨n, k⟩ := k1 q
    refine Ex.ends (n := n) ht h1 ?_
    unfold sm_end
    rw [hi]
    exact ⟨y, x, r, rfl, fun _ => k, fun z => absurd q z⟩
  · obtain ⟨n, k⟩ := k2 q
    refine Ex.ends (n := n) ht h1 ?_
    unfold sm_end
    rw [hi]
    exact ⟨y, x, r, rfl, fun z => absurd z q, fun _ => k⟩
theorem Ex.iret {x : Int32} (ht : T pc = some i) (hi : i.1 = .ireturn) (h3 : rt = 3 → x = 0 ∨ x = 1) (hr : res = (some (.int x), h)) : Ex G call T rt pc lc [.int x] h res := by
  have h1 : sm_one G i pc lc [.int x] h = none := by
    unfold sm_one
    rw [hi]
    rfl
  refine Ex.ends (n := 0) ht h1 ?_
  unfold sm_end
  rw [hi]
  exact ⟨x, rfl, h3, hr⟩
theorem Ex.lret {x : Int64} (ht : T pc = some i) (hi : i.1 = .lreturn) (hr : res = (some (.long x), h)) : Ex G call T rt pc lc [.long x] h res := by
  have h1 : sm_one G i pc lc [.long x] h = none := by
    unfold sm_one
    rw [hi]
    rfl
  refine Ex.ends (n := 0) ht h1 ?_
  unfold sm_end
  rw [hi]
  exact ⟨x, rfl, hr⟩
theorem Ex.vret (ht : T pc = some i) (hi : i.1 = .return_) (hr : res = (none, h)) : Ex G call T rt pc lc [] h res := by
  have h1 : sm_one G i pc lc [] h = none := by
    unfold sm_one
    rw [hi]
    rfl
  refine Ex.ends (n := 0) ht h1 ?_
  unfold sm_end
  rw [hi]
  exact ⟨rfl, hr⟩
theorem Ex.aret {a : Nat} (ht : T pc = some i) (hi : i.1 = .areturn) (hr : res = (some (.ref a), h)) : Ex G call T rt pc lc [.ref a] h res := by
  have h1 : sm_one G i pc lc [.ref a] h = none := by
    unfold sm_one
    rw [hi]
    rfl
  refine Ex.ends (n := 0) ht h1 ?_
  unfold sm_end
  rw [hi]
  exact ⟨a, rfl, hr⟩
theorem Ex.callV {idx : Nat} {a : Nat} {As : List Value} {v : Option Value} {h' : sm_H} (ht : T pc = some i) (hi : i.1 = .invokevirtual idx) (hc : i.2.2.2.1 < 200) (hn : As.length = i.2.2.1) (hr : (r.map fun v => v.category).sum ≤ 8) (ha : sm_is G h a i.2.2.2.1 = true) (e : call i.2.1 (.ref a :: As) h (v, h')) (hs : st = As.reverse ++ .ref a :: r) (k : Ex G call T rt (pc + 3) lc (v.toList ++ r) h' res) : Ex G call T rt pc lc st h res := by
  have h1 : sm_one G i pc lc st h = none := by
    unfold sm_one
    rw [hi]
    rfl
  obtain ⟨n, k⟩ := k
  refine Ex.ends (n := n) ht h1 ?_
  unfold sm_end
  rw [hi]
  exact Or.inl ⟨hc, As, a, r, v, h', hs, hn, hr, ha, e, k⟩
theorem Ex.callS {idx : Nat} {As : List Value} {v : Option Value} {h' : sm_H} (ht : T pc = some i) (hi : i.1 = .invokestatic idx) (hc : i.2.2.2.1 = 0) (hn : As.length = i.2.2.1) (hr : (r.map fun v => v.category).sum ≤ 8) (e : call i.2.1 As h (v, h')) (hs : st = As.reverse ++ r) (k : Ex G call T rt (pc + 3) lc (v.toList ++ r) h' res) : Ex G call T rt pc lc st h res := by
  have h1 : sm_one G i pc lc st h = none := by
    unfold sm_one
    rw [hi]
    rfl
  obtain ⟨n, k⟩ := k
  refine Ex.ends (n := n) ht h1 ?_
  unfold sm_end
  rw [hi]
  exact Or.inl ⟨hc, As, r, v, h', hs, hn, hr, e, k⟩
end SMex
theorem lp_ok {σ ρ : Type} {body : σ → Option (σ ⊕ ρ)} {P : σ → Prop} {S : ρ → Prop} (hb : ∀ s x, body s = some x → Sum.elim P S x → P s) : ∀ n s r, lp body n s = some r → S r → P s := by
  intro n
  induction n with
  | zero => intro s r h _; cases h
  | succ n ih =>
    intro s r h hS
    unfold lp at h
    split at h
    · cases h
    · rename_i s' e
      exact hb s _ e (ih s' r h hS)
    · rename_i r' e
      cases h
      exact hb s _ e hS
theorem bnd {α β : Type} {x : Option α} {f : α → Option β} {r : β} (h : x.bind f = some r) : ∃ a, x = some a ∧ f a = some r := by
  cases x with
  | none => cases h
  | some a => exact ⟨a, rfl, h⟩
