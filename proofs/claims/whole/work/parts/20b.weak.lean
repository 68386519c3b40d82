def sm_le (a b : sm_L) : Prop := a.length = b.length ∧ ∀ (j : Nat) (v : Value), a[j]? = some (some v) → b[j]? = some (some v)
theorem sm_kill_len {lc : sm_L} {i : Nat} : (sm_kill lc i).length = lc.length := by
  unfold sm_kill
  split
  · rfl
  · split <;> simp
theorem sm_set1_len {lc : sm_L} {i : Nat} {v : Value} : (sm_set1 lc i v).length = lc.length := by
  unfold sm_set1
  rw [List.length_set, sm_kill_len]
theorem sm_set2_len {lc : sm_L} {i : Nat} {v : Value} : (sm_set2 lc i v).length = lc.length := by
  unfold sm_set2
  rw [List.length_set, List.length_set, sm_kill_len]
theorem sm_le_kill {a b : sm_L} (h : sm_le a b) (i : Nat) : sm_le (sm_kill a i) (sm_kill b i) := by
  refine ⟨by rw [sm_kill_len, sm_kill_len]; exact h.1, fun j v e => ?_⟩
  have e1 := h.2 j v (sm_kill_at e)
  have e2 := sm_kill_cat e
  unfold sm_kill
  split
  · exact e1
  · rename_i i'
    split
    · rename_i x hx
      rw [List.getElem?_set, if_neg]
      · exact e1
      · intro q
        subst q
        rw [e1] at hx
        cases hx
        exact e2 ⟨rfl, rfl⟩
    · rename_i x hx
      rw [List.getElem?_set, if_neg]
      · exact e1
      · intro q
        subst q
        rw [e1] at hx
        cases hx
        exact e2 ⟨rfl, rfl⟩
    · exact e1
theorem sm_le_set {a b : sm_L} (h : sm_le a b) (i : Nat) (w : Option Value) : sm_le (a.set i w) (b.set i w) := by
  refine ⟨by rw [List.length_set, List.length_set]; exact h.1, fun j v e => ?_⟩
  rw [List.getElem?_set] at e ⊢
  split at e
  · rename_i q
    rw [if_pos q]
    split at e
    · rename_i q2
      rw [if_pos (by rw [← h.1]; exact q2)]
      exact e
    · cases e
  · rename_i q
    rw [if_neg q]
    exact h.2 j v e
theorem sm_le_set1 {a b : sm_L} (h : sm_le a b) (i : Nat) (v : Value) : sm_le (sm_set1 a i v) (sm_set1 b i v) := sm_le_set (sm_le_kill h i) i (some v)
theorem sm_le_set2 {a b : sm_L} (h : sm_le a b) (i : Nat) (v : Value) : sm_le (sm_set2 a i v) (sm_set2 b i v) := sm_le_set (sm_le_set (sm_le_kill h i) i (some v)) (i + 1) none
theorem sm_one_le {G : sm_G} {i : sm_I} {pc pc' : Nat} {a b a' : sm_L} {st st' : List Value} {h h' : sm_H} (hl : sm_le a b) (e : sm_one G i pc a st h = some (pc', a', st', h')) : ∃ b', sm_one G i pc b st h = some (pc', b', st', h') ∧ sm_le a' b' := by
  unfold sm_one at e ⊢
  split at e
  all_goals first
    | (cases e; exact ⟨b, rfl, hl⟩)
    | (split at e
       · rename_i x hx
         have z := hl.2 _ _ hx
         cases e
         exact ⟨b, by simp only [z], hl⟩
       · cases e)
    | (split at e
       · cases e
         exact ⟨_, rfl, sm_le_set1 hl _ _⟩
       · cases e)
    | (split at e
       · cases e
         exact ⟨_, rfl, sm_le_set2 hl _ _⟩
       · cases e)
    | (split at e
       · split at e
         · rename_i qq
           cases e
           exact ⟨b, by simp only [qq], hl⟩
         · cases e
       · cases e)
    | (split at e
       · split at e
         · cases e
         · rename_i qq
           cases e
           exact ⟨b, by simp only [if_neg qq], hl⟩
       · cases e)
    | (split at e
       · rename_i x kx hx hk
         have z := hl.2 _ _ hx
         cases e
         exact ⟨_, by simp only [z, hk], sm_le_set1 hl _ _⟩
       · cases e)
    | (split at e
       · rename_i qq
         cases e
         exact ⟨b, by simp only [qq], hl⟩
       · cases e)
theorem sm_end_le {G : sm_G} {call : Nat → List Value → sm_H → Option Value × sm_H → Prop} {rt : Nat} {i : sm_I} {pc : Nat} {a b : sm_L} {st : List Value} {h : sm_H} {res : Option Value × sm_H} {k k2 : Nat → sm_L → List Value → sm_H → Prop} (hk : ∀ pc st h, k pc a st h → k2 pc b st h) (e : sm_end G call rt i pc a st h res k) : sm_end G call rt i pc b st h res k2 ∧ sm_one G i pc b st h = none := by
  unfold sm_end at e ⊢
  unfold sm_one
  split at e
  · rename_i he
    obtain ⟨x, r, e0, e1, e2⟩ := e
    exact ⟨⟨x, r, e0, fun q => hk _ _ _ (e1 q), fun q => hk _ _ _ (e2 q)⟩, by rw [he]; rfl⟩
  · rename_i he
    obtain ⟨y, x, r, e0, e1, e2⟩ := e
    exact ⟨⟨y, x, r, e0, fun q => hk _ _ _ (e1 q), fun q => hk _ _ _ (e2 q)⟩, by rw [he]; rfl⟩
  · rename_i he
    obtain ⟨o, r, e0, e1, e2⟩ := e
    exact ⟨⟨o, r, e0, fun q => hk _ _ _ (e1 q), fun q => hk _ _ _ (e2 q)⟩, by rw [he]; rfl⟩
  · rename_i he
    obtain ⟨x, r, t, e0, e1, e2⟩ := e
    exact ⟨⟨x, r, t, e0, e1, hk _ _ _ e2⟩, by rw [he]; rfl⟩
  · rename_i he
    obtain ⟨x, r, t, e0, e1, e2⟩ := e
    exact ⟨⟨x, r, t, e0, e1, hk _ _ _ e2⟩, by rw [he]; rfl⟩
  · rename_i he
    refine ⟨?_, by rw [he]; rfl⟩
    rcases e with ⟨q, As, r, v, h', e0, e1, e2, e3, e4⟩ | ⟨q, n, dp, b', sp, a', r, h', e0, e1, e2, e3⟩ | ⟨q, n, dp, b', sp, a', r, h', e0, e1, e2, e3⟩ | ⟨q, y, x, r, e0, e1, e2⟩ | ⟨q, y, x, r, e0, e1, e2⟩
    · exact Or.inl ⟨q, As, r, v, h', e0, e1, e2, e3, hk _ _ _ e4⟩
    · exact Or.inr (Or.inl ⟨q, n, dp, b', sp, a', r, h', e0, e1, e2, hk _ _ _ e3⟩)
    · exact Or.inr (Or.inr (Or.inl ⟨q, n, dp, b', sp, a', r, h', e0, e1, e2, hk _ _ _ e3⟩))
    · exact Or.inr (Or.inr (Or.inr (Or.inl ⟨q, y, x, r, e0, e1, hk _ _ _ e2⟩)))
    · exact Or.inr (Or.inr (Or.inr (Or.inr ⟨q, y, x, r, e0, e1, hk _ _ _ e2⟩)))
  · rename_i he
    refine ⟨?_, by rw [he]; rfl⟩
    rcases e with ⟨q, As, a', r, v, h', e0, e1, e2, e3, e4, e5⟩ | ⟨q, x, r, e0, e1, e2⟩
    · exact Or.inl ⟨q, As, a', r, v, h', e0, e1, e2, e3, e4, hk _ _ _ e5⟩
    · exact Or.inr ⟨q, x, r, e0, e1, hk _ _ _ e2⟩
  · rename_i he
    refine ⟨?_, by rw [he]; rfl⟩
    rcases e with ⟨q, a', r, e0, e1, e2⟩ | ⟨q, As, a', r, h', e0, e1, e2, e3, e4⟩
    · exact Or.inl ⟨q, a', r, e0, e1, hk _ _ _ e2⟩
    · exact Or.inr ⟨q, As, a', r, h', e0, e1, e2, e3, hk _ _ _ e4⟩
  · rename_i he
    exact ⟨e, by rw [he]; rfl⟩
  · rename_i he
    exact ⟨e, by rw [he]; rfl⟩
  · rename_i he
    exact ⟨e, by rw [he]; rfl⟩
  · rename_i he
    exact ⟨e, by rw [he]; rfl⟩
  · exact e.elim
theorem sm_go_le {G : sm_G} {call : Nat → List Value → sm_H → Option Value × sm_H → Prop} {T : Nat → Option sm_I} {rt : Nat} {res : Option Value × sm_H} : ∀ (n pc : Nat) (a b : sm_L) (st : List Value) (h : sm_H), sm_le a b → sm_go G call T rt n pc a st h res → sm_go G call T rt n pc b st h res := by
  intro n
  induction n with
  | zero => intro pc a b st h _ e; exact e.elim
  | succ n ih =>
    intro pc a b st h hl e
    unfold sm_go at e ⊢
    split at e
    · exact e.elim
    · split at e
      · rename_i q
        obtain ⟨b', q2, hl2⟩ := sm_one_le hl q
        try dsimp only
        rw [q2]
        exact ih _ _ _ _ _ hl2 e
      · obtain ⟨e2, q2⟩ := sm_end_le (b := b) (k2 := fun pc' lc' st' h' => sm_go G call T rt n pc' lc' st' h' res) (fun pc st h k => ih _ _ _ _ _ hl k) e
        try dsimp only
        rw [q2]
        exact e2
theorem Ex.weak {G : sm_G} {call : Nat → List Value → sm_H → Option Value × sm_H → Prop} {T : Nat → Option sm_I} {rt pc : Nat} {a b : sm_L} {st : List Value} {h : sm_H} {res : Option Value × sm_H} (hl : sm_le a b) (e : Ex G call T rt pc a st h res) : Ex G call T rt pc b st h res := by
  obtain ⟨n, e⟩ := e
  exact ⟨n, sm_go_le n _ _ _ _ _ hl e⟩
theorem sm_le_nil : sm_le [] [] := ⟨rfl, fun j v e => by simp at e⟩
theorem sm_le_n {a b : sm_L} {o : Option Value} (h : sm_le a b) : sm_le (none :: a) (o :: b) := by
  refine ⟨by simp [h.1], fun j v e => ?_⟩
  cases j with
  | zero => simp at e
  | succ j => exact h.2 j v e
theorem sm_le_s {a b : sm_L} {o : Option Value} (h : sm_le a b) : sm_le (o :: a) (o :: b) := by
  refine ⟨by simp [h.1], fun j v e => ?_⟩
  cases j with
  | zero => exact e
  | succ j => exact h.2 j v e
section SMex2
variable {G : sm_G} {call : Nat → List Value → sm_H → Option Value × sm_H → Prop} {T : Nat → Option sm_I} {rt pc : Nat} {lc : sm_L} {st r : List Value} {h : sm_H} {res : Option Value × sm_H} {i : sm_I}
theorem Ex.swt {d lo hi : Int} {offs : Array Int} {x : Int32} {t : Nat} (ht : T pc = some i) (hi2 : i.1 = .tableswitch d lo hi offs) (hs : sm_sw pc (.tableswitch d lo hi offs) x t) (k : Ex G call T rt t lc r h res) : Ex G call T rt pc lc (.int x :: r) h res := by
  have h1 : sm_one G i pc lc (.int x :: r) h = none := by
    unfold sm_one
    rw [hi2]
    rfl
  obtain ⟨n, k⟩ := k
  refine Ex.ends (n := n) ht h1 ?_
  unfold sm_end
  rw [hi2]
  exact ⟨x, r, t, rfl, hs, k⟩
theorem Ex.swl {d : Int} {ps : Array (Int × Int)} {x : Int32} {t : Nat} (ht : T pc = some i) (hi2 : i.1 = .lookupswitch d ps) (hs : sm_sw pc (.lookupswitch d ps) x t) (k : Ex G call T rt t lc r h res) : Ex G call T rt pc lc (.int x :: r) h res := by
  have h1 : sm_one G i pc lc (.int x :: r) h = none := by
    unfold sm_one
    rw [hi2]
    rfl
  obtain ⟨n, k⟩ := k
  refine Ex.ends (n := n) ht h1 ?_
  unfold sm_end
  rw [hi2]
  exact ⟨x, r, t, rfl, hs, k⟩
theorem sw_dflt {pc t : Nat} {d lo hi : Int} {offs : Array Int} {x : Int32} (hd : (pc : Int) + d = (t : Int)) (hsz : hi - lo + 1 = (offs.size : Int)) (hall : ∀ k : Nat, k < offs.size → lo + (k : Int) = x.toInt → offs[k]? = some d) : sm_sw pc (.tableswitch d lo hi offs) x t := by
  unfold sm_sw
  rcases Classical.em (x.toInt < lo ∨ hi < x.toInt) with q | q
  · exact Or.inl ⟨q, hd⟩
  · have q1 : ¬ x.toInt < lo := fun z => q (Or.inl z)
    have q2 : ¬ hi < x.toInt := fun z => q (Or.inr z)
    exact Or.inr ⟨q1, q2, d, hall _ (by omega) (by omega), hd⟩
theorem Ex.irem {x y : Int32} (c0 : ¬ y = 0) (ht : T pc = some i) (hi : i.1 = .irem) (k : Ex G call T rt (pc + 1) lc (.int (x - x / y * y) :: r) h res) : Ex G call T rt pc lc (.int y :: .int x :: r) h res := by
  refine Ex.step ht ?_ k
  unfold sm_one
  rw [hi]
  simp only [sm_alu, if_neg c0]
theorem Ex.idiv {x y : Int32} (c0 : ¬ y = 0) (ht : T pc = some i) (hi : i.1 = .idiv) (k : Ex G call T rt (pc + 1) lc (.int (x / y) :: r) h res) : Ex G call T rt pc lc (.int y :: .int x :: r) h res := by
  refine Ex.step ht ?_ k
  unfold sm_one
  rw [hi]
  simp only [sm_alu, if_neg c0]
theorem Ex.lrem {x y : Int64} (c0 : ¬ y = 0) (ht : T pc = some i) (hi : i.1 = .lrem) (k : Ex G call T rt (pc + 1) lc (.long (x - x / y * y) :: r) h res) : Ex G call T rt pc lc (.long y :: .long x :: r) h res := by
  refine Ex.step ht ?_ k
  unfold sm_one
  rw [hi]
  simp only [sm_alu, if_neg c0]
theorem Ex.ldiv {x y : Int64} (c0 : ¬ y = 0) (ht : T pc = some i) (hi : i.1 = .ldiv) (k : Ex G call T rt (pc + 1) lc (.long (x / y) :: r) h res) : Ex G call T rt pc lc (.long y :: .long x :: r) h res := by
  refine Ex.step ht ?_ k
  unfold sm_one
  rw [hi]
  simp only [sm_alu, if_neg c0]
end SMex2
