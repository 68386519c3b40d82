def sx_q (c : ClassFile.Cond) (x y : Int32) : Bool := match c with
  | .eq => decide (x = y)
  | .ne => !(decide (x = y))
  | .lt => decide (x < y)
  | .ge => decide (y ≤ x)
  | .gt => decide (y < x)
  | .le => decide (x ≤ y)
theorem sx_q_ok (c : ClassFile.Cond) (x y : Int32) : sx_q c x y = true ↔ sm_q c x y := by
  cases c <;> simp [sx_q, sm_q]
def sx_end (G : sm_G) (call : Nat → List Value → sm_H → Option (Option Value × sm_H)) (rt : Nat) (i : sm_I) (pc : Nat) (lc : sm_L) (st : List Value) (h : sm_H) : Option ((Nat × sm_L × List Value × sm_H) ⊕ (Option Value × sm_H)) := match i.1 with
  | .ifCond c _ => (match st with
    | .int x :: r => some (.inl (bif sx_q c x 0 then i.2.1 else pc + 3, lc, r, h))
    | _ => none)
  | .if_icmp c _ => (match st with
    | .int y :: .int x :: r => some (.inl (bif sx_q c x y then i.2.1 else pc + 3, lc, r, h))
    | _ => none)
  | .invokestatic _ => bif Nat.beq i.2.2.2.1 9 then (match st with
    | .int y :: .int x :: r => bif Nat.ble ((r.map fun v => v.category).sum) 8 then some (.inl (pc + 3, lc, .int (if x < y then y else x) :: r, h)) else none
    | _ => none) else none
  | .invokevirtual _ => bif Nat.blt i.2.2.2.1 200 then (match st.drop i.2.2.1 with
    | .ref a :: r => bif Nat.ble ((r.map fun v => v.category).sum) 8 && Nat.ble i.2.2.1 st.length && sm_is G h a i.2.2.2.1 then (match call i.2.1 (.ref a :: (st.take i.2.2.1).reverse) h with
      | some q => some (.inl (pc + 3, lc, q.1.toList ++ r, q.2))
      | none => none) else none
    | _ => none) else none
  | .invokespecial _ => bif Nat.beq i.2.2.2.1 0 then (match st with
    | .ref _ :: r => bif Nat.ble ((r.map fun v => v.category).sum) 8 then some (.inl (pc + 3, lc, r, h)) else none
    | _ => none) else bif Nat.beq i.2.2.2.1 1 || Nat.beq i.2.2.2.1 2 then (match st.drop i.2.2.1 with
    | .ref a :: r => bif Nat.ble ((r.map fun v => v.category).sum) 8 && Nat.ble i.2.2.1 st.length then (match call i.2.1 (.ref a :: (st.take i.2.2.1).reverse) h with
      | some (none, h') => some (.inl (pc + 3, lc, r, h'))
      | _ => none) else none
    | _ => none) else none
  | .areturn => (match st with
    | [.ref a] => some (.inr (some (.ref a), h))
    | _ => none)
  | .return_ => (match st with
    | [] => some (.inr (none, h))
    | _ => none)
  | _ => none
def sx_ok (i : Instr) : Bool := match i with
  | .iaload => false
  | .laload => false
  | .arraylength => false
  | _ => true
def sx_Gs (G G' : sm_G) : Prop := (∀ i pc lc st h, sx_ok i.1 = true → sm_one G i pc lc st h = sm_one G' i pc lc st h) ∧ ∀ h a c, sm_is G h a c = sm_is G' h a c
def sx_go (G : sm_G) (call : Nat → List Value → sm_H → Option (Option Value × sm_H)) (T : Nat → Option sm_I) (rt : Nat) : Nat → Nat → sm_L → List Value → sm_H → Option (Option Value × sm_H)
  | 0, _, _, _, _ => none
  | n + 1, pc, lc, st, h => match T pc with
    | none => none
    | some i => bif sx_ok i.1 then (match sm_one G i pc lc st h with
      | some c => sx_go G call T rt n c.1 c.2.1 c.2.2.1 c.2.2.2
      | none => (match sx_end G call rt i pc lc st h with
        | some (.inl c) => sx_go G call T rt n c.1 c.2.1 c.2.2.1 c.2.2.2
        | some (.inr r) => some r
        | none => none)) else none
def sx_run (G : sm_G) (T : Nat → Nat → Option sm_I) (mL rt : Nat → Nat) (f : Nat) : Nat → Nat → List Value → sm_H → Option (Option Value × sm_H)
  | 0, _, _, _ => none
  | d + 1, j, As, h => bif Nat.ble (sm_ent As).length (mL j) then sx_go G (sx_run G T mL rt f d) (T j) (rt j) f 0 (sm_ent As ++ List.replicate (mL j - (sm_ent As).length) none) [] h else none
theorem sx_end_ok {G G' : sm_G} (hG : sx_Gs G G') {call : Nat → List Value → sm_H → Option (Option Value × sm_H)} {call' : Nat → List Value → sm_H → Option Value × sm_H → Prop} (hc : ∀ j As h r, call j As h = some r → call' j As h r) {rt : Nat} {i : sm_I} {pc : Nat} {lc : sm_L} {st : List Value} {h : sm_H} {x : (Nat × sm_L × List Value × sm_H) ⊕ (Option Value × sm_H)} (e : sx_end G' call rt i pc lc st h = some x) (res : Option Value × sm_H) (k : Nat → sm_L → List Value → sm_H → Prop) (hk : Sum.elim (fun c => k c.1 c.2.1 c.2.2.1 c.2.2.2) (fun r => res = r) x) : sm_end G call' rt i pc lc st h res k := by
  unfold sx_end at e
  split at e
  · rename_i c off he
    unfold sm_end
    rw [he]
    dsimp only
    split at e
    · rename_i y r
      cases e
      refine ⟨y, r, rfl, fun z => ?_, fun z => ?_⟩
      · have hk : k (bif sx_q c y 0 then i.2.1 else pc + 3) lc r h := hk
        rw [(sx_q_ok c y 0).mpr z] at hk
        exact hk
      · have hk : k (bif sx_q c y 0 then i.2.1 else pc + 3) lc r h := hk
        have : sx_q c y 0 = false := Bool.eq_false_iff.mpr (fun w => z ((sx_q_ok c y 0).mp w))
        rw [this] at hk
        exact hk
    · cases e
  · rename_i c off he
    unfold sm_end
    rw [he]
    dsimp only
    split at e
    · rename_i y x' r
      cases e
      refine ⟨y, x', r, rfl, fun z => ?_, fun z => ?_⟩
      · have hk : k (bif sx_q c x' y then i.2.1 else pc + 3) lc r h := hk
        rw [(sx_q_ok c x' y).mpr z] at hk
        exact hk
      · have hk : k (bif sx_q c x' y then i.2.1 else pc + 3) lc r h := hk
        have : sx_q c x' y = false := Bool.eq_false_iff.mpr (fun w => z ((sx_q_ok c x' y).mp w))
        rw [this] at hk
        exact hk
    · cases e
  · rename_i idx he
    unfold sm_end
    rw [he]
    dsimp only
    cases h9 : Nat.beq i.2.2.2.1 9 with
    | false => rw [h9] at e; cases e
    | true =>
      rw [h9] at e
      simp only [cond_true] at e
      split at e
      · rename_i y x' r
        cases hb : Nat.ble ((r.map fun v => v.category).sum) 8 with
        | false => rw [hb] at e; cases e
        | true =>
          rw [hb] at e
          cases e
          exact Or.inr (Or.inr (Or.inr (Or.inl ⟨Nat.eq_of_beq_eq_true h9, y, x', r, rfl, Nat.le_of_ble_eq_true hb, hk⟩)))
      · cases e
  · rename_i idx he
    unfold sm_end
    rw [he]
    dsimp only
    cases h9 : Nat.blt i.2.2.2.1 200 with
    | false => rw [h9] at e; cases e
    | true =>
      rw [h9] at e
      simp only [cond_true] at e
      split at e
      · rename_i a r hdr
        cases hb : (Nat.ble ((r.map fun v => v.category).sum) 8 && Nat.ble i.2.2.1 st.length && sm_is G' h a i.2.2.2.1) with
        | false => rw [hb] at e; cases e
        | true =>
          rw [hb] at e
          simp only [cond_true] at e
          simp only [Bool.and_eq_true] at hb
          obtain ⟨⟨hb1, hb2⟩, hb3⟩ := hb
          split at e
          · rename_i q hq
            cases e
            refine Or.inl ⟨Nat.blt_eq.mp h9, (st.take i.2.2.1).reverse, a, r, q.1, q.2, ?_, ?_, Nat.le_of_ble_eq_true hb1, (hG.2 _ _ _).trans hb3, hc _ _ _ _ hq, hk⟩
            · rw [List.reverse_reverse, ← hdr, List.take_append_drop]
            · rw [List.length_reverse, List.length_take]
              exact Nat.min_eq_left (Nat.le_of_ble_eq_true hb2)
          · cases e
      · cases e
  · rename_i idx he
    unfold sm_end
    rw [he]
    dsimp only
    cases h0 : Nat.beq i.2.2.2.1 0 with
    | true =>
      rw [h0] at e
      simp only [cond_true] at e
      split at e
      · rename_i a r
        cases hb : Nat.ble ((r.map fun v => v.category).sum) 8 with
        | false => rw [hb] at e; cases e
        | true =>
          rw [hb] at e
          cases e
          exact Or.inl ⟨Nat.eq_of_beq_eq_true h0, a, r, rfl, Nat.le_of_ble_eq_true hb, hk⟩
      · cases e
    | false =>
      rw [h0] at e
      simp only [cond_false] at e
      cases h12 : (Nat.beq i.2.2.2.1 1 || Nat.beq i.2.2.2.1 2) with
      | false => rw [h12] at e; cases e
      | true =>
        rw [h12] at e
        simp only [cond_true] at e
        split at e
        · rename_i a r hdr
          cases hb : (Nat.ble ((r.map fun v => v.category).sum) 8 && Nat.ble i.2.2.1 st.length) with
          | false => rw [hb] at e; cases e
          | true =>
            rw [hb] at e
            simp only [cond_true] at e
            simp only [Bool.and_eq_true] at hb
            obtain ⟨hb1, hb2⟩ := hb
            split at e
            · rename_i h' hq
              cases e
              refine Or.inr ⟨?_, (st.take i.2.2.1).reverse, a, r, h', ?_, ?_, Nat.le_of_ble_eq_true hb1, hc _ _ _ _ hq, hk⟩
              · rcases (Bool.or_eq_true _ _).mp h12 with z | z
                · exact Or.inl (Nat.eq_of_beq_eq_true z)
                · exact Or.inr (Nat.eq_of_beq_eq_true z)
              · rw [List.reverse_reverse, ← hdr, List.take_append_drop]
              · rw [List.length_reverse, List.length_take]
                exact Nat.min_eq_left (Nat.le_of_ble_eq_true hb2)
            · cases e
        · cases e
  · rename_i he
    unfold sm_end
    rw [he]
    dsimp only
    split at e
    · rename_i a
      cases e
      exact ⟨a, rfl, hk⟩
    · cases e
  · rename_i he
    unfold sm_end
    rw [he]
    dsimp only
    split at e
    · cases e
      exact ⟨rfl, hk⟩
    · cases e
  · cases e
theorem sx_go_ok {G G' : sm_G} (hG : sx_Gs G G') {call : Nat → List Value → sm_H → Option (Option Value × sm_H)} {call' : Nat → List Value → sm_H → Option Value × sm_H → Prop} (hc : ∀ j As h r, call j As h = some r → call' j As h r) {T : Nat → Option sm_I} {rt : Nat} : ∀ (n pc : Nat) (lc : sm_L) (st : List Value) (h : sm_H) (res : Option Value × sm_H), sx_go G' call T rt n pc lc st h = some res → sm_go G call' T rt n pc lc st h res := by
  intro n
  induction n with
  | zero => intro pc lc st h res e; cases e
  | succ n ih =>
    intro pc lc st h res e
    unfold sx_go at e
    unfold sm_go
    split at e
    · cases e
    · rename_i i hi
      rw [hi]
      dsimp only
      cases hok : sx_ok i.1 with
      | false => rw [hok] at e; cases e
      | true =>
        rw [hok] at e
        simp only [cond_true] at e
        rw [hG.1 i pc lc st h hok]
        split at e
        · rename_i c hone
          rw [hone]
          exact ih _ _ _ _ _ e
        · rename_i hone
          rw [hone]
          dsimp only
          split at e
          · rename_i c hend
            exact sx_end_ok hG hc hend res _ (ih _ _ _ _ _ e)
          · rename_i r hend
            cases e
            exact sx_end_ok hG hc hend _ _ rfl
          · cases e
theorem sx_run_ok {G G' : sm_G} (hG : sx_Gs G G') {T : Nat → Nat → Option sm_I} {mL rt : Nat → Nat} {f : Nat} : ∀ (d j : Nat) (As : List Value) (h : sm_H) (res : Option Value × sm_H), sx_run G' T mL rt f d j As h = some res → sm_run G T mL rt d j As h res := by
  intro d
  induction d with
  | zero => intro j As h res e; cases e
  | succ d ih =>
    intro j As h res e
    unfold sx_run at e
    cases hb : Nat.ble (sm_ent As).length (mL j) with
    | false => rw [hb] at e; cases e
    | true =>
      rw [hb] at e
      exact ⟨Nat.le_of_ble_eq_true hb, f, sx_go_ok hG ih _ _ _ _ _ _ e⟩
