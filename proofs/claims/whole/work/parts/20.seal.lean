/-! THE SEALED LAYOUT: the cells that both constructors make (by program, wip/gen/layout.py) -/
def P_bc : List Nat := [11, 2, 102, 100, 100, 9, 100, 100, 100, 100, 1, 100, 100, 100, 101, 100, 100, 100, 100, 100, 100, 6, 103, 8, 101, 100, 8, 101, 100, 8, 101, 100, 100, 102, 0, 5, 100, 100, 4, 100, 100, 100, 102, 100, 100, 100, 100, 5, 100, 3, 101, 100, 10, 100, 100, 7, 5, 100, 101, 100, 100, 101, 101, 100, 5, 100, 101, 12, 100, 100, 100, 100, 100, 100, 100, 100, 100, 100, 100, 101, 100, 100, 100, 100, 100, 100, 102, 102, 100, 100, 100, 100, 100, 102, 100, 101, 100, 100, 100, 101, 100, 101, 100, 100, 100, 100, 100, 100, 100, 101, 101, 100, 100, 101, 100, 100, 100, 101, 100, 100, 100, 100, 100, 100, 100, 100, 101, 100, 100, 100, 101]
def P_bl : List Nat := [0, 0, 1024, 32, 32, 0, 300, 300, 3000, 10, 0, 500, 500, 500, 500, 500, 10000, 500, 500, 500, 5000, 0, 1000, 0, 100, 100, 0, 0, 0, 0, 100, 100, 80, 20, 0, 0, 20, 4, 0, 100, 100, 100, 100, 100, 100, 100, 100, 0, 20, 0, 1616, 1616, 0, 3000, 20, 0, 0, 20, 16, 16, 200, 200, 60, 60, 0, 20, 10, 0, 20, 24, 12, 12, 300, 300, 3000, 500, 500, 500, 500, 500, 500, 12000, 64, 100, 100, 100, 100, 100, 100, 100, 100, 100, 80, 20, 100, 100, 1000, 1000, 100000, 100000, 100, 100, 24, 100, 100, 100, 100, 100, 6000, 6000, 10, 20, 3000, 60, 60, 60, 360, 400, 400, 24, 24, 24, 24, 24, 24, 480, 72, 8, 16, 8, 8]
def P_fr : List (List (Option Nat)) := [[some 1, some 5, some 10, some 21, some 34, some 38, some 49, some 52, some 55, some 64, some 66], [some 2, some 3, some 4], [], [], [], [some 1, some 6, some 7, some 8, none, some 9], [], [], [], [], [some 5, some 11, some 12, some 13, some 14, some 15, some 16, some 17, some 18, some 19, some 20], [], [], [], [], [], [], [], [], [], [], [some 1, some 22, none, some 23, some 26, some 29, none, some 32, none, some 33], [], [some 24, some 25], [], [], [some 27, some 28], [], [], [some 30, some 31], [], [], [], [], [some 1, some 5, some 10, some 21, some 35, some 37], [some 36], [], [], [some 1, some 5, some 10, some 34, some 39, some 40, some 41, some 42, some 43, some 44, some 45, some 46, some 47], [], [], [], [], [], [], [], [], [some 48], [], [some 1, some 5, some 10, some 21, some 38, some 50, some 51], [], [], [some 53, none, some 54], [], [], [some 34, some 1, some 5, some 10, some 21, some 52, some 56, some 58, some 59, none, some 60, some 61, none, some 62, some 63], [some 57], [], [], [], [], [], [], [], [some 65], [], [], [some 68, none, some 69, none, some 70, some 71, none, some 72, some 73, some 74, none, some 75, some 76, some 77, some 78, some 79, some 80, some 81, none, none, none, none, some 82, some 83, some 84, some 85, some 86, some 87, some 88, some 89, some 90, some 91, none, none, some 92, none, some 93, none, some 94, some 95, none, some 96, some 97, some 98, some 99, none, some 100, some 101, none, none, some 102, some 103, some 104, some 105, some 106, some 107, none, some 108, some 109, none, none, none, none, none, none, none, none, some 110, none, none, none, none, none, none, some 111, some 112, none, none, none, none, none, none, none, none, none, none, none, some 113, some 114, some 115, some 116, none, some 117, some 118, none, some 119, some 120, some 121, some 122, some 123, some 124, some 125, none, some 126, none, none, none, some 127, none, some 128, some 129, some 130], [], [], [], [], [], [], [], [], [], [], [], [], [], [], [], [], [], [], [], [], [], [], [], [], [], [], [], [], [], [], [], [], [], [], [], [], [], [], [], [], [], [], [], [], [], [], [], [], [], [], [], [], [], [], [], [], [], [], [], [], [], [], []]
def P_HAS : List Int32 := [5, 0, 1, 3, 3, 2, 5, 1, 1, 0, 3, 2, 2, 2, 0, 1, 0, 0, 2, 3, 1, 1, 1, 1, 1, 1, 1, 2, 2, 1, 1, 1, 0, 0, 2]
def P_PARTS : List Int32 := [0, 1, 0, 0, 1, (-1), 1, 2, 2, 2, 1, 1, 1, 1, 3, 2, 2, (-1), (-1), 0, 0, 0, 0, 0, 0, 0, 0, 0, 0, 0, 2, 0, 0, 0, 0]
def P_SO : List Int32 := [0, 1, 2, 3, 4, 5, 6, 7, 11, 12]
def P_KP : List Int32 := [3, 0, 2, 0, 0, 1, 1, 0, 1, 1, 2, 3, 1, 2, 1, 1, 2]
def P_KW : List Int64 := [26982, 7103860, 25711, 1819242352, 7631481, 24947, 439956431717, 1853189228, 7499639, 1936292453, 6776180, 7562612, 26995, 1935764837, 499968536439, 1668244581]
def P_KN : List Int64 := [118, 122, 98, 115, 99, 105, 106, 111, 110, 28538, 28514, 28531, 28515, 28521, 28522, 30825, 30826, 30831, 104, 101, 27440, 27441, 27442, 27443, 27444, 27445, 27446, 27447, 27448, 27449, 7024944, 7024945]
/-- the static int arrays: four, then the script -/
def P_sI (L : Nat) (xs : Nat → Int32) (j : Nat) : Nat × (Nat → Int32) := match j with
  | 0 => (35, fun k => P_HAS.getD k 0)
  | 1 => (35, fun k => P_PARTS.getD k 0)
  | 2 => (10, fun k => P_SO.getD k 0)
  | 3 => (17, fun k => P_KP.getD k 0)
  | _ => (L, xs)
def P_sJ (j : Nat) : Nat × (Nat → Int64) := match j with
  | 0 => (16, fun k => P_KW.getD k 0)
  | _ => (32, fun k => P_KN.getD k 0)
/-- the place of a sign among the ten -/
def P_ix (x : Int32) : Int32 := if x = 43 then 0 else if x = 45 then 1 else if x = 42 then 2 else if x = 47 then 3 else if x = 37 then 4 else if x = 38 then 5 else if x = 124 then 6 else if x = 94 then 7 else if x = 60 then 8 else if x = 61 then 9 else -1
def P_G (L : Nat) (xs : Nat → Int32) : sm_G := (131, fun a => P_bc.getD a 0, fun a => P_bl.getD a 0, fun a k => (P_fr.getD a []).getD k none, P_sI L xs, P_sJ, P_ix)
/-! THE RULES of runs: a run goes on from a place of a method's code -/
section SMex
variable {G : sm_G} {call : Nat → List Value → sm_H → Option Value × sm_H → Prop} {T : Nat → Option sm_I} {rt pc : Nat} {lc : sm_L} {st r : List Value} {h : sm_H} {res : Option Value × sm_H} {i : sm_I}
def Ex (G : sm_G) (call : Nat → List Value → sm_H → Option Value × sm_H → Prop) (T : Nat → Option sm_I) (rt pc : Nat) (lc : sm_L) (st : List Value) (h : sm_H) (res : Option Value × sm_H) : Prop := ∃ n, sm_go G call T rt n pc lc st h res
theorem Ex.step {pc' : Nat} {lc' : sm_L} {st' : List Value} {h' : sm_H} (ht : T pc = some i) (h1 : sm_one G i pc lc st h = some (pc', lc', st', h')) (k : Ex G call T rt pc' lc' st' h' res) : Ex G call T rt pc lc st h res := by
  obtain ⟨n, k⟩ := k
  refine ⟨n + 1, ?_⟩
  unfold sm_go
  rw [ht]
  dsimp only
  rw [h1]
  exact k
/-- some steps in a row -/
def sm_seg (G : sm_G) (T : Nat → Option sm_I) : Nat → Nat × sm_L × List Value × sm_H → Option (Nat × sm_L × List Value × sm_H)
  | 0, c => some c
  | k + 1, c => (match T c.1 with
    | none => none
    | some i => (match sm_one G i c.1 c.2.1 c.2.2.1 c.2.2.2 with
      | none => none
      | some c' => sm_seg G T k c'))
theorem Ex.segs : ∀ (k : Nat) (c c' : Nat × sm_L × List Value × sm_H), sm_seg G T k c = some c' → Ex G call T rt c'.1 c'.2.1 c'.2.2.1 c'.2.2.2 res → Ex G call T rt c.1 c.2.1 c.2.2.1 c.2.2.2 res := by
  intro k
  induction k with
  | zero => intro c c' e x; cases e; exact x
  | succ k ih =>
    intro c c' e x
    unfold sm_seg at e
    split at e
    · cases e
    · rename_i i hi
      split at e
      · cases e
      · rename_i c2 h2
        exact Ex.step hi h2 (ih c2 c' e x)
theorem Ex.seg (k : Nat) {pc' : Nat} {lc' : sm_L} {st' : List Value} {h' : sm_H} (e : sm_seg G T k (pc, lc, st, h) = some (pc', lc', st', h')) (x : Ex G call T rt pc' lc' st' h' res) : Ex G call T rt pc lc st h res := Ex.segs k (pc, lc, st, h) (pc', lc', st', h') e x
theorem Ex.iald {a : Nat} {k x : Int32} (e : sm_ldI G h a k = some x) (ht : T pc = some i) (hi : i.1 = .iaload) (n : Ex G call T rt (pc + 1) lc (.int x :: r) h res) : Ex G call T rt pc lc (.int k :: .ref a :: r) h res := by
  refine Ex.step ht ?_ n
  unfold sm_one
  rw [hi]
  dsimp only
  rw [e]
theorem Ex.lald {a : Nat} {k : Int32} {x : Int64} (e : sm_ldJ G h a k = some x) (ht : T pc = some i) (hi : i.1 = .laload) (n : Ex G call T rt (pc + 1) lc (.long x :: r) h res) : Ex G call T rt pc lc (.int k :: .ref a :: r) h res := by
  refine Ex.step ht ?_ n
  unfold sm_one
  rw [hi]
  dsimp only
  rw [e]
theorem Ex.zald {a : Nat} {k x : Int32} (e : sm_ldZ G h a k = some x) (ht : T pc = some i) (hi : i.1 = .baload) (n : Ex G call T rt (pc + 1) lc (.int x :: r) h res) : Ex G call T rt pc lc (.int k :: .ref a :: r) h res := by
  refine Ex.step ht ?_ n
  unfold sm_one
  rw [hi]
  dsimp only
  rw [e]
theorem Ex.iast {a : Nat} {k x : Int32} {h' : sm_H} (e : sm_stI G h a k x = some h') (ht : T pc = some i) (hi : i.1 = .iastore) (n : Ex G call T rt (pc + 1) lc r h' res) : Ex G call T rt pc lc (.int x :: .int k :: .ref a :: r) h res := by
  refine Ex.step ht ?_ n
  unfold sm_one
  rw [hi]
  dsimp only
  rw [e]
theorem Ex.last {a : Nat} {k : Int32} {x : Int64} {h' : sm_H} (e : sm_stJ G h a k x = some h') (ht : T pc = some i) (hi : i.1 = .lastore) (n : Ex G call T rt (pc + 1) lc r h' res) : Ex G call T rt pc lc (.long x :: .int k :: .ref a :: r) h res := by
  refine Ex.step ht ?_ n
  unfold sm_one
  rw [hi]
  dsimp only
  rw [e]
theorem Ex.zast {a : Nat} {k x : Int32} {h' : sm_H} (e : sm_stZ G h a k x = some h') (ht : T pc = some i) (hi : i.1 = .bastore) (n : Ex G call T rt (pc + 1) lc r h' res) : Ex G call T rt pc lc (.int x :: .int k :: .ref a :: r) h res := by
  refine Ex.step ht ?_ n
  unfold sm_one
  rw [hi]
  dsimp only
  rw [e]
/-- where an instruction is none of a step's -/
theorem Ex.ends {lc : sm_L} (ht : T pc = some i) (h1 : sm_one G i pc lc st h = none) {n : Nat} (k : sm_end G call rt i pc lc st h res (fun pc' lc' st' h' => sm_go G call T rt n pc' lc' st' h' res)) : Ex G call T rt pc lc st h res := by
  refine ⟨n + 1, ?_⟩
  unfold sm_go
  rw [ht]
  dsimp only
  rw [h1]
  exact k
theorem Ex.ifc {c : ClassFile.Cond} {off : Int} {x : Int32} (ht : T pc = some i) (hi : i.1 = .ifCond c off) (k1 : sm_q c x 0 → Ex G call T rt i.2.1 lc r h res) (k2 : ¬ sm_q c x 0 → Ex G call T rt (pc + 3) lc r h res) : Ex G call T rt pc lc (.int x :: r) h res := by
  have h1 : sm_one G i pc lc (.int x :: r) h = none := by
    unfold sm_one
    rw [hi]
    rfl
  rcases Classical.em (sm_q c x 0) with q | q
  · obtain ⟨n, k⟩ := k1 q
    refine Ex.ends (n := n) ht h1 ?_
    unfold sm_end
    rw [hi]
    exact ⟨x, r, rfl, fun _ => k, fun z => absurd q z⟩
  · obtain ⟨n, k⟩ := k2 q
    refine Ex.ends (n := n) ht h1 ?_
    unfold sm_end
    rw [hi]
    exact ⟨x, r, rfl, fun z => absurd z q, fun _ => k⟩
theorem Ex.icmp {c : ClassFile.Cond} {off : Int} {x y : Int32} (ht : T pc = some i) (hi : i.1 = .if_icmp c off) (k1 : sm_q c x y → Ex G call T rt i.2.1 lc r h res) (k2 : ¬ sm_q c x y → Ex G call T rt (pc + 3) lc r h res) : Ex G call T rt pc lc (.int y :: .int x :: r) h res := by
  have h1 : sm_one G i pc lc (.int y :: .int x :: r) h = none := by
    unfold sm_one
    rw [hi]
    rfl
  rcases Classical.em (sm_q c x y) with q | q
  · obtain ⟨n, k⟩ := k1 q
    refine Ex.ends (n := n) ht h1 ?_
    unfold sm_end
    rw [hi]
    exact ⟨y, x, r, rfl, fun _ => k, fun z => absurd q z⟩
  · obtain ⟨n, k⟩ := k2 q
    refine Ex.ends (n := n) ht h1 ?_
    unfold sm_end
    rw [hi]
    exact ⟨y, x, r, rfl, fun z => absurd z q, fun _ => k⟩
theorem Ex.iret {x : Int32} (ht : T pc = some i) (hi : i.1 = .ireturn) (h3 : rt = 3 → x = 0 ∨ x = 1) (hr : res = (some (.int x), h)) : Ex G call T rt pc lc [.int x] h res := by
  have h1 : sm_one G i pc lc [.int x] h = none := by
    unfold sm_one
    rw [hi]
    rfl
  refine Ex.ends (n := 0) ht h1 ?_
  unfold sm_end
  rw [hi]
  exact ⟨x, rfl, h3, hr⟩
theorem Ex.lret {x : Int64} (ht : T pc = some i) (hi : i.1 = .lreturn) (hr : res = (some (.long x), h)) : Ex G call T rt pc lc [.long x] h res := by
  have h1 : sm_one G i pc lc [.long x] h = none := by
    unfold sm_one
    rw [hi]
    rfl
  refine Ex.ends (n := 0) ht h1 ?_
  unfold sm_end
  rw [hi]
  exact ⟨x, rfl, hr⟩
theorem Ex.vret (ht : T pc = some i) (hi : i.1 = .return_) (hr : res = (none, h)) : Ex G call T rt pc lc [] h res := by
  have h1 : sm_one G i pc lc [] h = none := by
    unfold sm_one
    rw [hi]
    rfl
  refine Ex.ends (n := 0) ht h1 ?_
  unfold sm_end
  rw [hi]
  exact ⟨rfl, hr⟩
theorem Ex.aret {a : Nat} (ht : T pc = some i) (hi : i.1 = .areturn) (hr : res = (some (.ref a), h)) : Ex G call T rt pc lc [.ref a] h res := by
  have h1 : sm_one G i pc lc [.ref a] h = none := by
    unfold sm_one
    rw [hi]
    rfl
  refine Ex.ends (n := 0) ht h1 ?_
  unfold sm_end
  rw [hi]
  exact ⟨a, rfl, hr⟩
theorem Ex.callV {idx : Nat} {a : Nat} {As : List Value} {v : Option Value} {h' : sm_H} (ht : T pc = some i) (hi : i.1 = .invokevirtual idx) (hc : i.2.2.2.1 < 200) (hn : As.length = i.2.2.1) (hr : (r.map fun v => v.category).sum ≤ 8) (ha : sm_is G h a i.2.2.2.1 = true) (e : call i.2.1 (.ref a :: As) h (v, h')) (hs : st = As.reverse ++ .ref a :: r) (k : Ex G call T rt (pc + 3) lc (v.toList ++ r) h' res) : Ex G call T rt pc lc st h res := by
  have h1 : sm_one G i pc lc st h = none := by
    unfold sm_one
    rw [hi]
    rfl
  obtain ⟨n, k⟩ := k
  refine Ex.ends (n := n) ht h1 ?_
  unfold sm_end
  rw [hi]
  exact Or.inl ⟨hc, As, a, r, v, h', hs, hn, hr, ha, e, k⟩
theorem Ex.callS {idx : Nat} {As : List Value} {v : Option Value} {h' : sm_H} (ht : T pc = some i) (hi : i.1 = .invokestatic idx) (hc : i.2.2.2.1 = 0) (hn : As.length = i.2.2.1) (hr : (r.map fun v => v.category).sum ≤ 8) (e : call i.2.1 As h (v, h')) (hs : st = As.reverse ++ r) (k : Ex G call T rt (pc + 3) lc (v.toList ++ r) h' res) : Ex G call T rt pc lc st h res := by
  have h1 : sm_one G i pc lc st h = none := by
    unfold sm_one
    rw [hi]
    rfl
  obtain ⟨n, k⟩ := k
  refine Ex.ends (n := n) ht h1 ?_
  unfold sm_end
  rw [hi]
  exact Or.inl ⟨hc, As, r, v, h', hs, hn, hr, e, k⟩
end SMex
/-- a loop: its body gives a new state, or its end -/
def lp {σ ρ : Type} (body : σ → Option (σ ⊕ ρ)) : Nat → σ → Option ρ
  | 0, _ => none
  | n + 1, s => (match body s with
    | none => none
    | some (.inl s') => lp body n s'
    | some (.inr r) => some r)
theorem lp_ok {σ ρ : Type} {body : σ → Option (σ ⊕ ρ)} {P : σ → Prop} {S : ρ → Prop} (hb : ∀ s x, body s = some x → Sum.elim P S x → P s) : ∀ n s r, lp body n s = some r → S r → P s := by
  intro n
  induction n with
  | zero => intro s r h _; cases h
  | succ n ih =>
    intro s r h hS
    unfold lp at h
    split at h
    · cases h
    · rename_i s' e
      exact hb s _ e (ih s' r h hS)
    · rename_i r' e
      cases h
      exact hb s _ e hS
theorem bnd {α β : Type} {x : Option α} {f : α → Option β} {r : β} (h : x.bind f = some r) : ∃ a, x = some a ∧ f a = some r := by
  cases x with
  | none => cases h
  | some a => exact ⟨a, rfl, h⟩
