/-! what the simple machine keeps: references point to cells that are there -/
def sm_okv (N : Nat) (v : Value) : Prop := match v with
  | .ref a => a < N ∨ 1000000 ≤ a
  | _ => True
def sm_okh (G : sm_G) (h : sm_H) : Prop := (∀ a k b, h.2.2.1 a k = some b → a < G.1 + h.n → b < G.1 + h.n ∨ 1000000 ≤ b) ∧ ∀ a k b, G.2.2.2.1 a k = some b → h.2.2.1 a k = some b ∧ a < G.1
def sm_okl (N : Nat) (lc : sm_L) : Prop := ∀ (j : Nat) (v : Value), lc[j]? = some (some v) → sm_okv N v
def sm_oks (N : Nat) (st : List Value) : Prop := ∀ v ∈ st, sm_okv N v
def sm_inv (G : sm_G) (h : sm_H) (lc : sm_L) (st : List Value) : Prop := sm_okh G h ∧ sm_okl (G.1 + h.n) lc ∧ sm_oks (G.1 + h.n) st
theorem sm_okv_mono {N M : Nat} {v : Value} (h : sm_okv N v) (hm : N ≤ M) : sm_okv M v := by
  cases v with
  | ref a =>
    exact Or.elim h (fun q => Or.inl (Nat.lt_of_lt_of_le q hm)) Or.inr
  | _ => trivial
theorem sm_okl_mono {N M : Nat} {lc : sm_L} (h : sm_okl N lc) (hm : N ≤ M) : sm_okl M lc := fun j v e => sm_okv_mono (h j v e) hm
theorem sm_oks_mono {N M : Nat} {st : List Value} (h : sm_oks N st) (hm : N ≤ M) : sm_oks M st := fun v e => sm_okv_mono (h v e) hm
theorem sm_kill_at {lc : sm_L} {i j : Nat} {w : Value} (h : (sm_kill lc i)[j]? = some (some w)) : lc[j]? = some (some w) := by
  unfold sm_kill at h
  split at h
  · exact h
  · split at h
    · rw [List.getElem?_set] at h
      split at h
      · split at h <;> simp at h
      · exact h
    · rw [List.getElem?_set] at h
      split at h
      · split at h <;> simp at h
      · exact h
    · exact h
theorem sm_kill_cat {lc : sm_L} {i j : Nat} {w : Value} (h : (sm_kill lc i)[j]? = some (some w)) : ¬ (j + 1 = i ∧ w.category = 2) := by
  rintro ⟨rfl, hc⟩
  unfold sm_kill at h
  dsimp only at h
  split at h
  · rw [List.getElem?_set] at h
    rw [if_pos rfl] at h
    split at h <;> simp at h
  · rw [List.getElem?_set] at h
    rw [if_pos rfl] at h
    split at h <;> simp at h
  · rename_i h1 h2
    cases w with
    | long x => exact h1 x h
    | double x => exact h2 x h
    | _ => simp [Value.category] at hc
theorem sm_set1_cat {lc : sm_L} {i j : Nat} {v w : Value} (hj : j ≠ i) (h : (sm_set1 lc i v)[j]? = some (some w)) : ¬ (j + 1 = i ∧ w.category = 2) := by
  unfold sm_set1 at h
  rw [List.getElem?_set, if_neg (fun q => hj q.symm)] at h
  exact sm_kill_cat h
theorem sm_set2_cat {lc : sm_L} {i j : Nat} {v w : Value} (hj : j ≠ i) (hj2 : j ≠ i + 1) (h : (sm_set2 lc i v)[j]? = some (some w)) : ¬ (j + 1 = i ∧ w.category = 2) := by
  unfold sm_set2 at h
  rw [List.getElem?_set, if_neg (fun q => hj2 q.symm), List.getElem?_set, if_neg (fun q => hj q.symm)] at h
  exact sm_kill_cat h
theorem sm_set1_at {lc : sm_L} {i j : Nat} {v w : Value} (h : (sm_set1 lc i v)[j]? = some (some w)) : (j = i ∧ w = v) ∨ (j ≠ i ∧ lc[j]? = some (some w)) := by
  unfold sm_set1 at h
  rw [List.getElem?_set] at h
  split at h
  · rename_i e
    split at h
    · left
      simp at h
      exact ⟨e.symm, h.symm⟩
    · simp at h
  · rename_i e
    exact Or.inr ⟨fun q => e q.symm, sm_kill_at h⟩
theorem sm_set2_at {lc : sm_L} {i j : Nat} {v w : Value} (h : (sm_set2 lc i v)[j]? = some (some w)) : (j = i ∧ w = v) ∨ (j ≠ i ∧ j ≠ i + 1 ∧ lc[j]? = some (some w)) := by
  unfold sm_set2 at h
  rw [List.getElem?_set] at h
  split at h
  · split at h <;> simp at h
  · rename_i e1
    rw [List.getElem?_set] at h
    split at h
    · rename_i e
      split at h
      · left
        simp at h
        exact ⟨e.symm, h.symm⟩
      · simp at h
    · rename_i e
      exact Or.inr ⟨fun q => e q.symm, fun q => e1 q.symm, sm_kill_at h⟩
theorem sm_okl_set1 {N : Nat} {lc : sm_L} {i : Nat} {v : Value} (h : sm_okl N lc) (hv : sm_okv N v) : sm_okl N (sm_set1 lc i v) := by
  intro j w e
  rcases sm_set1_at e with ⟨-, q⟩ | ⟨-, q⟩
  · rw [q]; exact hv
  · exact h j w q
theorem sm_okl_set2 {N : Nat} {lc : sm_L} {i : Nat} {v : Value} (h : sm_okl N lc) (hv : sm_okv N v) : sm_okl N (sm_set2 lc i v) := by
  intro j w e
  rcases sm_set2_at e with ⟨-, q⟩ | ⟨-, -, q⟩
  · rw [q]; exact hv
  · exact h j w q
theorem sm_oks_cons {N : Nat} {v : Value} {st : List Value} : sm_oks N (v :: st) ↔ sm_okv N v ∧ sm_oks N st := by
  unfold sm_oks
  simp
theorem sm_live_lt {G : sm_G} {h : sm_H} {a : Nat} (e : sm_live G h a = true) : a < G.1 + h.n := by
  unfold sm_live at e
  rw [Bool.or_eq_true] at e
  rcases e with e | e
  · have := Nat.blt_eq.mp e
    omega
  · exact Nat.blt_eq.mp e
theorem sm_is_lt {G : sm_G} {h : sm_H} {a c : Nat} (e : sm_is G h a c = true) : a < G.1 + h.n ∧ sm_cl G h a = c := by
  unfold sm_is at e
  rw [Bool.and_eq_true] at e
  exact ⟨sm_live_lt e.1, Nat.eq_of_beq_eq_true e.2⟩
theorem sm_rr_eq {G : sm_G} {h : sm_H} (ho : sm_okh G h) (a k : Nat) : sm_rr G h a k = h.2.2.1 a k := by
  unfold sm_rr
  split
  · rename_i b e
    exact (ho.2 a k b e).1.symm
  · rfl
theorem sm_ov_ok {N : Nat} {o : Option Nat} (h : ∀ b, o = some b → b < N ∨ 1000000 ≤ b) : sm_okv N (sm_ov o) := by
  cases o with
  | none => trivial
  | some b => exact h b rfl
theorem sm_okh_wI {G : sm_G} {h : sm_H} {a k : Nat} {x : Int32} (ho : sm_okh G h) : sm_okh G (sm_wI h a k x) := ho
theorem sm_okh_wJ {G : sm_G} {h : sm_H} {a k : Nat} {x : Int64} (ho : sm_okh G h) : sm_okh G (sm_wJ h a k x) := ho
theorem sm_okh_wR {G : sm_G} {h : sm_H} {a k b : Nat} (ho : sm_okh G h) (hf : G.2.2.2.1 a k = none) (hb : b < G.1 + h.n ∨ 1000000 ≤ b) : sm_okh G (sm_wR h a k (some b)) := by
  refine ⟨fun a' k' b' e hl => ?_, fun a' k' b' e => ?_⟩
  · show b' < G.1 + h.n ∨ 1000000 ≤ b'
    have e : va_up h.2.2.1 a (va_up (h.2.2.1 a) k (some b)) a' k' = some b' := e
    unfold va_up at e
    split at e
    · rename_i q
      subst q
      dsimp only at e
      split at e
      · cases e; exact hb
      · exact ho.1 a' k' b' e hl
    · exact ho.1 a' k' b' e hl
  · refine ⟨?_, (ho.2 a' k' b' e).2⟩
    show va_up h.2.2.1 a (va_up (h.2.2.1 a) k (some b)) a' k' = some b'
    unfold va_up
    split
    · rename_i q
      subst q
      dsimp only
      split
      · rename_i q
        subst q
        rw [hf] at e
        cases e
      · exact (ho.2 a' k' b' e).1
    · exact (ho.2 a' k' b' e).1
theorem sm_okh_mk {G : sm_G} {h : sm_H} {c n : Nat} (ho : sm_okh G h) : sm_okh G (sm_mk G h c n) := by
  refine ⟨fun a k b e hl => ?_, fun a k b e => ?_⟩
  · have e : va_up h.2.2.1 (G.1 + h.n) (fun _ => none) a k = some b := e
    show b < G.1 + (h.n + 1) ∨ 1000000 ≤ b
    have hl : a < G.1 + (h.n + 1) := hl
    unfold va_up at e
    split at e
    · cases e
    · have := ho.1 a k b e (by omega)
      omega
  · have := ho.2 a k b e
    refine ⟨?_, this.2⟩
    show va_up h.2.2.1 (G.1 + h.n) (fun _ => none) a k = some b
    unfold va_up
    rw [if_neg (by omega)]
    exact this.1
theorem sm_alu_ok {ins : Instr} {N : Nat} {st st' : List Value} (h : sm_oks N st) (e : sm_alu ins st = some st') : sm_oks N st' := by
  unfold sm_alu sm_ii sm_jj sm_ji sm_i sm_j at e
  split at e
  all_goals first
    | (cases e; done)
    | (split at e
       all_goals first
         | (cases e; done)
         | (split at e <;> first | (cases e; done) | (cases e; simp only [sm_oks_cons] at h ⊢; simp [sm_okv] at h ⊢ <;> (try simp_all)))
         | (cases e; simp only [sm_oks_cons] at h ⊢; simp [sm_okv] at h ⊢ <;> (try simp_all)))
theorem sm_gf_ok {G : sm_G} {h : sm_H} {a c k t : Nat} {v : Value} (ho : sm_okh G h) (q : sm_gf G h a c k t = some v) : sm_okv (G.1 + h.n) v := by
  unfold sm_gf at q
  cases w : sm_is G h a c with
  | false => rw [w] at q; cases q
  | true =>
    rw [w] at q
    cases q
    split
    · trivial
    · trivial
    · rw [sm_rr_eq ho]
      exact sm_ov_ok (fun b hb => ho.1 _ _ _ hb (sm_is_lt w).1)
    · trivial
theorem sm_pf_ok {G : sm_G} {h h' : sm_H} {a c k t : Nat} {v : Value} (ho : sm_okh G h) (hv : sm_okv (G.1 + h.n) v) (q : sm_pf G h a c k t v = some h') : sm_okh G h' ∧ h'.n = h.n ∧ h'.sl = h.sl := by
  unfold sm_pf at q
  cases w : sm_is G h a c with
  | false => rw [w] at q; cases q
  | true =>
    rw [w] at q
    simp only [cond_true] at q
    split at q
    · split at q
      · cases q; exact ⟨ho, rfl, rfl⟩
      · cases q
    · split at q
      · cases q; exact ⟨ho, rfl, rfl⟩
      · cases q
    · split at q
      · cases q
      · rename_i hf
        split at q
        · cases q; exact ⟨sm_okh_wR ho hf hv, rfl, rfl⟩
        · cases q
    · split at q
      · split at q
        · cases q; exact ⟨ho, rfl, rfl⟩
        · cases q
      · cases q
theorem sm_ldR_ok {G : sm_G} {h : sm_H} {a : Nat} {k : Int32} {o : Option Nat} (ho : sm_okh G h) (q : sm_ldR G h a k = some o) : sm_okv (G.1 + h.n) (sm_ov o) := by
  unfold sm_ldR at q
  cases w : sm_is G h a 103 with
  | false => rw [w] at q; cases q
  | true =>
    rw [w] at q
    simp only [cond_true] at q
    split at q
    · cases q
      exact sm_ov_ok (fun b hb => ho.1 _ _ _ hb (sm_is_lt w).1)
    · cases q
theorem sm_stI_ok {G : sm_G} {h h' : sm_H} {a : Nat} {k x : Int32} (ho : sm_okh G h) (q : sm_stI G h a k x = some h') : sm_okh G h' ∧ h'.n = h.n ∧ h'.sl = h.sl := by
  unfold sm_stI at q
  cases w : sm_is G h a 100 with
  | false => rw [w] at q; cases q
  | true =>
    rw [w] at q
    simp only [cond_true] at q
    split at q
    · cases q; exact ⟨ho, rfl, rfl⟩
    · cases q
theorem sm_stJ_ok {G : sm_G} {h h' : sm_H} {a : Nat} {k : Int32} {x : Int64} (ho : sm_okh G h) (q : sm_stJ G h a k x = some h') : sm_okh G h' ∧ h'.n = h.n ∧ h'.sl = h.sl := by
  unfold sm_stJ at q
  cases w : sm_is G h a 101 with
  | false => rw [w] at q; cases q
  | true =>
    rw [w] at q
    simp only [cond_true] at q
    split at q
    · cases q; exact ⟨ho, rfl, rfl⟩
    · cases q
theorem sm_stZ_ok {G : sm_G} {h h' : sm_H} {a : Nat} {k x : Int32} (ho : sm_okh G h) (q : sm_stZ G h a k x = some h') : sm_okh G h' ∧ h'.n = h.n ∧ h'.sl = h.sl := by
  unfold sm_stZ at q
  cases w : sm_is G h a 102 with
  | false => rw [w] at q; cases q
  | true =>
    rw [w] at q
    simp only [cond_true] at q
    split at q
    · cases q; exact ⟨ho, rfl, rfl⟩
    · cases q
/-- references of the base that stand for good are fields: no array of the base holds one -/
theorem sm_stR_ok {G : sm_G} {h h' : sm_H} {c a b : Nat} {k : Int32} (hfr : ∀ a k, sm_cl G h a = 103 → G.2.2.2.1 a k = none) (ho : sm_okh G h) (q : sm_stR G h c a k b = some h') : sm_okh G h' ∧ h'.n = h.n ∧ h'.sl = h.sl := by
  unfold sm_stR at q
  cases w : sm_is G h a 103 with
  | false => rw [w] at q; cases q
  | true =>
    cases w2 : sm_is G h b c with
    | false => rw [w, w2] at q; cases q
    | true =>
      rw [w, w2] at q
      simp only [Bool.and_true, cond_true] at q
      split at q
      · cases q; exact ⟨sm_okh_wR ho (hfr _ _ (sm_is_lt w).2) (Or.inl (sm_is_lt w2).1), rfl, rfl⟩
      · cases q
/-- constants are no cells, but for static ones -/
def sm_okc (i : sm_I) : Prop := sm_okv 0 i.2.2.2.2.2
theorem sm_one_ok {G : sm_G} (hfr : ∀ (h : sm_H) a k, sm_cl G h a = 103 → G.2.2.2.1 a k = none) {i : sm_I} {pc pc' : Nat} {lc lc' : sm_L} {st st' : List Value} {h h' : sm_H} (hi : sm_okc i) (I : sm_inv G h lc st) (e : sm_one G i pc lc st h = some (pc', lc', st', h')) : sm_inv G h' lc' st' ∧ h.n ≤ h'.n ∧ h.sl ≤ h'.sl := by
  obtain ⟨ho, hl, hs⟩ := I
  have hc : ∀ N, sm_okv N i.2.2.2.2.2 := fun N => sm_okv_mono hi (Nat.zero_le N)
  unfold sm_one at e
  split at e
  · cases e; exact ⟨⟨ho, hl, sm_oks_cons.mpr ⟨hc _, hs⟩⟩, Nat.le_refl _, Nat.le_refl _⟩
  · cases e; exact ⟨⟨ho, hl, sm_oks_cons.mpr ⟨hc _, hs⟩⟩, Nat.le_refl _, Nat.le_refl _⟩
  · cases e; exact ⟨⟨ho, hl, sm_oks_cons.mpr ⟨hc _, hs⟩⟩, Nat.le_refl _, Nat.le_refl _⟩
  · cases e; exact ⟨⟨ho, hl, sm_oks_cons.mpr ⟨hc _, hs⟩⟩, Nat.le_refl _, Nat.le_refl _⟩
  · cases e; exact ⟨⟨ho, hl, sm_oks_cons.mpr ⟨hc _, hs⟩⟩, Nat.le_refl _, Nat.le_refl _⟩
  · cases e; exact ⟨⟨ho, hl, sm_oks_cons.mpr ⟨hc _, hs⟩⟩, Nat.le_refl _, Nat.le_refl _⟩
  · cases e; exact ⟨⟨ho, hl, sm_oks_cons.mpr ⟨hc _, hs⟩⟩, Nat.le_refl _, Nat.le_refl _⟩
  -- loads
  · split at e
    · rename_i q; cases e; exact ⟨⟨ho, hl, sm_oks_cons.mpr ⟨hl _ _ q, hs⟩⟩, Nat.le_refl _, Nat.le_refl _⟩
    · cases e
  · split at e
    · rename_i q; cases e; exact ⟨⟨ho, hl, sm_oks_cons.mpr ⟨hl _ _ q, hs⟩⟩, Nat.le_refl _, Nat.le_refl _⟩
    · cases e
  · split at e
    · rename_i q; cases e; exact ⟨⟨ho, hl, sm_oks_cons.mpr ⟨hl _ _ q, hs⟩⟩, Nat.le_refl _, Nat.le_refl _⟩
    · cases e
  · split at e
    · rename_i q; cases e; exact ⟨⟨ho, hl, sm_oks_cons.mpr ⟨hl _ _ q, hs⟩⟩, Nat.le_refl _, Nat.le_refl _⟩
    · cases e
  · split at e
    · rename_i q; cases e; exact ⟨⟨ho, hl, sm_oks_cons.mpr ⟨hl _ _ q, hs⟩⟩, Nat.le_refl _, Nat.le_refl _⟩
    · cases e
  · split at e
    · rename_i q; cases e; exact ⟨⟨ho, hl, sm_oks_cons.mpr ⟨hl _ _ q, hs⟩⟩, Nat.le_refl _, Nat.le_refl _⟩
    · cases e
  -- stores of one place
  · split at e
    · cases e; have hs := sm_oks_cons.mp hs; exact ⟨⟨ho, sm_okl_set1 hl hs.1, hs.2⟩, Nat.le_refl _, Nat.le_refl _⟩
    · cases e
  · split at e
    · cases e; have hs := sm_oks_cons.mp hs; exact ⟨⟨ho, sm_okl_set1 hl hs.1, hs.2⟩, Nat.le_refl _, Nat.le_refl _⟩
    · cases e
  · split at e
    · cases e; have hs := sm_oks_cons.mp hs; exact ⟨⟨ho, sm_okl_set1 hl hs.1, hs.2⟩, Nat.le_refl _, Nat.le_refl _⟩
    · cases e
  · split at e
    · cases e; have hs := sm_oks_cons.mp hs; exact ⟨⟨ho, sm_okl_set1 hl hs.1, hs.2⟩, Nat.le_refl _, Nat.le_refl _⟩
    · cases e
  · split at e
    · cases e; have hs := sm_oks_cons.mp hs; exact ⟨⟨ho, sm_okl_set2 hl hs.1, hs.2⟩, Nat.le_refl _, Nat.le_refl _⟩
    · cases e
  · split at e
    · cases e; have hs := sm_oks_cons.mp hs; exact ⟨⟨ho, sm_okl_set2 hl hs.1, hs.2⟩, Nat.le_refl _, Nat.le_refl _⟩
    · cases e
  -- iinc, goto
  · split at e
    · cases e; exact ⟨⟨ho, sm_okl_set1 hl trivial, hs⟩, Nat.le_refl _, Nat.le_refl _⟩
    · cases e
  · cases e; exact ⟨⟨ho, hl, hs⟩, Nat.le_refl _, Nat.le_refl _⟩
  -- getfield, putfield
  · split at e
    · split at e
      · rename_i q; cases e; have hs := sm_oks_cons.mp hs; exact ⟨⟨ho, hl, sm_oks_cons.mpr ⟨sm_gf_ok ho q, hs.2⟩⟩, Nat.le_refl _, Nat.le_refl _⟩
      · cases e
    · cases e
  · split at e
    · split at e
      · rename_i q; cases e; have hs := sm_oks_cons.mp hs; have z := sm_pf_ok ho hs.1 q; exact ⟨⟨z.1, by rw [z.2.1]; exact hl, by rw [z.2.1]; exact (sm_oks_cons.mp hs.2).2⟩, Nat.le_of_eq z.2.1.symm, Nat.le_of_eq z.2.2.symm⟩
      · cases e
    · cases e
  -- array loads
  · split at e
    · split at e
      · rename_i q; cases e; have hs := (sm_oks_cons.mp (sm_oks_cons.mp hs).2).2; exact ⟨⟨ho, hl, sm_oks_cons.mpr ⟨trivial, hs⟩⟩, Nat.le_refl _, Nat.le_refl _⟩
      · cases e
    · cases e
  · split at e
    · split at e
      · rename_i q; cases e; have hs := (sm_oks_cons.mp (sm_oks_cons.mp hs).2).2; exact ⟨⟨ho, hl, sm_oks_cons.mpr ⟨trivial, hs⟩⟩, Nat.le_refl _, Nat.le_refl _⟩
      · cases e
    · cases e
  · split at e
    · split at e
      · rename_i q; cases e; have hs := (sm_oks_cons.mp (sm_oks_cons.mp hs).2).2; exact ⟨⟨ho, hl, sm_oks_cons.mpr ⟨trivial, hs⟩⟩, Nat.le_refl _, Nat.le_refl _⟩
      · cases e
    · cases e
  · split at e
    · split at e
      · rename_i q; cases e; have hs := (sm_oks_cons.mp (sm_oks_cons.mp hs).2).2; exact ⟨⟨ho, hl, sm_oks_cons.mpr ⟨sm_ldR_ok ho q, hs⟩⟩, Nat.le_refl _, Nat.le_refl _⟩
      · cases e
    · cases e
  -- array stores
  · split at e
    · split at e
      · rename_i q; cases e; have hs := (sm_oks_cons.mp (sm_oks_cons.mp (sm_oks_cons.mp hs).2).2).2; have z := sm_stI_ok ho q; exact ⟨⟨z.1, by rw [z.2.1]; exact hl, by rw [z.2.1]; exact hs⟩, Nat.le_of_eq z.2.1.symm, Nat.le_of_eq z.2.2.symm⟩
      · cases e
    · cases e
  · split at e
    · split at e
      · rename_i q; cases e; have hs := (sm_oks_cons.mp (sm_oks_cons.mp (sm_oks_cons.mp hs).2).2).2; have z := sm_stJ_ok ho q; exact ⟨⟨z.1, by rw [z.2.1]; exact hl, by rw [z.2.1]; exact hs⟩, Nat.le_of_eq z.2.1.symm, Nat.le_of_eq z.2.2.symm⟩
      · cases e
    · cases e
  · split at e
    · split at e
      · rename_i q; cases e; have hs := (sm_oks_cons.mp (sm_oks_cons.mp (sm_oks_cons.mp hs).2).2).2; have z := sm_stZ_ok ho q; exact ⟨⟨z.1, by rw [z.2.1]; exact hl, by rw [z.2.1]; exact hs⟩, Nat.le_of_eq z.2.1.symm, Nat.le_of_eq z.2.2.symm⟩
      · cases e
    · cases e
  · split at e
    · split at e
      · rename_i q; cases e; have hs := (sm_oks_cons.mp (sm_oks_cons.mp (sm_oks_cons.mp hs).2).2).2; have z := sm_stR_ok (hfr h) ho q; exact ⟨⟨z.1, by rw [z.2.1]; exact hl, by rw [z.2.1]; exact hs⟩, Nat.le_of_eq z.2.1.symm, Nat.le_of_eq z.2.2.symm⟩
      · cases e
    · cases e
  -- arraylength, new
  · split at e
    · split at e
      · cases e; exact ⟨⟨ho, hl, sm_oks_cons.mpr ⟨trivial, (sm_oks_cons.mp hs).2⟩⟩, Nat.le_refl _, Nat.le_refl _⟩
      · cases e
    · cases e
  · cases e
    exact ⟨⟨sm_okh_mk ho, sm_okl_mono hl (Nat.le_succ _), sm_oks_cons.mpr ⟨Or.inl (Nat.lt_succ_self _), sm_oks_mono hs (Nat.le_succ _)⟩⟩, Nat.le_succ _, Nat.le_add_right _ _⟩
  · split at e
    · split at e
      · cases e
      · cases e
        exact ⟨⟨sm_okh_mk ho, sm_okl_mono hl (Nat.le_succ _), sm_oks_cons.mpr ⟨Or.inl (Nat.lt_succ_self _), sm_oks_mono (sm_oks_cons.mp hs).2 (Nat.le_succ _)⟩⟩, Nat.le_succ _, Nat.le_add_right _ _⟩
    · cases e
  · split at e
    · split at e
      · cases e
      · cases e
        exact ⟨⟨sm_okh_mk ho, sm_okl_mono hl (Nat.le_succ _), sm_oks_cons.mpr ⟨Or.inl (Nat.lt_succ_self _), sm_oks_mono (sm_oks_cons.mp hs).2 (Nat.le_succ _)⟩⟩, Nat.le_succ _, Nat.le_add_right _ _⟩
    · cases e
  · split at e
    · rename_i q; cases e; exact ⟨⟨ho, hl, sm_alu_ok hs q⟩, Nat.le_refl _, Nat.le_refl _⟩
    · cases e
