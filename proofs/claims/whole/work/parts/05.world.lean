/-! THE WORLD of a logical heap, and the real locals -/
def sm_r (ad : Nat → Nat) : Value → Value
  | .ref a => .ref (ad a)
  | v => v
theorem sm_r_cat (ad : Nat → Nat) (v : Value) : (sm_r ad v).category = v.category := by cases v <;> rfl
theorem sm_r_ov (ad : Nat → Nat) (o : Option Nat) : sm_r ad (sm_ov o) = va_rf (o.map ad) := by cases o <;> rfl
theorem sm_r_ext {ad ad' : Nat → Nat} {N : Nat} {v : Value} (h : sm_okv N v) (he : ∀ a, a < N ∨ 1000000 ≤ a → ad' a = ad a) : sm_r ad' v = sm_r ad v := by
  cases v with
  | ref a => exact congrArg Value.ref (he a h)
  | _ => rfl
theorem sm_rs_ext {ad ad' : Nat → Nat} {N : Nat} {st : List Value} (h : sm_oks N st) (he : ∀ a, a < N ∨ 1000000 ≤ a → ad' a = ad a) : st.map (sm_r ad') = st.map (sm_r ad) := List.map_congr_left (fun v q => sm_r_ext (h v q) he)
theorem sm_rs_sum (ad : Nat → Nat) (r : List Value) : ((r.map (sm_r ad)).map fun v => v.category).sum = (r.map fun v => v.category).sum := by
  rw [List.map_map]
  congr 1
  exact List.map_congr_left (fun v _ => sm_r_cat ad v)
def sm_Lr (ls : Array Slot) (nL : Nat) (lc : sm_L) (ad : Nat → Nat) : Prop := ls.size = nL ∧ lv_wf ls ∧ ∀ (j : Nat) (v : Value), lc[j]? = some (some v) → ls[j]? = some (.val (sm_r ad v))
def sm_prs (ad : Nat → Nat) (lc : sm_L) : List (Nat × Value) := (List.range lc.length).filterMap fun j => match lc[j]? with
  | some (some v) => some (j, sm_r ad v)
  | _ => none
theorem sm_prs_mem {ad : Nat → Nat} {lc : sm_L} {j : Nat} {w : Value} : (j, w) ∈ sm_prs ad lc ↔ ∃ v, lc[j]? = some (some v) ∧ w = sm_r ad v := by
  unfold sm_prs
  rw [List.mem_filterMap]
  constructor
  · rintro ⟨k, -, hk⟩
    split at hk
    · rename_i v hv
      cases hk
      exact ⟨v, hv, rfl⟩
    · cases hk
  · rintro ⟨v, hv, rfl⟩
    refine ⟨j, List.mem_range.mpr (List.getElem?_eq_some_iff.mp hv).1, ?_⟩
    rw [hv]
theorem sm_Lr.has {ls : Array Slot} {nL : Nat} {lc : sm_L} {ad : Nat → Nat} (h : sm_Lr ls nL lc ad) : lv_has ls nL (sm_prs ad lc) := by
  refine ⟨h.1, h.2.1, fun q hq => ?_⟩
  obtain ⟨v, hv, e⟩ := sm_prs_mem.mp (show (q.1, q.2) ∈ sm_prs ad lc from hq)
  rw [e]
  exact h.2.2 _ _ hv
theorem sm_Lr.ext {ls : Array Slot} {nL : Nat} {lc : sm_L} {ad ad' : Nat → Nat} {N : Nat} (h : sm_Lr ls nL lc ad) (ho : sm_okl N lc) (he : ∀ a, a < N ∨ 1000000 ≤ a → ad' a = ad a) : sm_Lr ls nL lc ad' :=
  ⟨h.1, h.2.1, fun j v e => by rw [sm_r_ext (ho j v e) he]; exact h.2.2 j v e⟩
theorem sm_Lr.set1 {ls' : Array Slot} {nL i : Nat} {lc : sm_L} {ad : Nat → Nat} {v : Value} (h : lv_has ls' nL ((i, sm_r ad v) :: (sm_prs ad lc).filter (fun q => !(q.1 == i) && !(q.1 + 1 == i && q.2.category == 2)))) : sm_Lr ls' nL (sm_set1 lc i v) ad := by
  refine ⟨h.1, h.2.1, fun j w e => ?_⟩
  rcases sm_set1_at e with ⟨rfl, rfl⟩ | ⟨hj, q⟩
  · exact h.2.2 (j, _) List.mem_cons_self
  · refine h.2.2 (j, sm_r ad w) (List.mem_cons_of_mem _ (List.mem_filter.mpr ⟨sm_prs_mem.mpr ⟨w, q, rfl⟩, ?_⟩))
    have := sm_set1_cat hj e
    simp only [Bool.and_eq_true, Bool.not_eq_true', beq_eq_false_iff_ne, ne_eq, Bool.and_eq_false_iff, sm_r_cat]
    refine ⟨hj, ?_⟩
    rcases Classical.em (j + 1 = i) with z | z
    · exact Or.inr (fun y => this ⟨z, y⟩)
    · exact Or.inl z
theorem sm_Lr.set2 {ls' : Array Slot} {nL i : Nat} {lc : sm_L} {ad : Nat → Nat} {v : Value} (h : lv_has ls' nL ((i, sm_r ad v) :: (sm_prs ad lc).filter (fun q => !(q.1 == i) && (!(q.1 == i + 1) && !(q.1 + 1 == i && q.2.category == 2))))) : sm_Lr ls' nL (sm_set2 lc i v) ad := by
  refine ⟨h.1, h.2.1, fun j w e => ?_⟩
  rcases sm_set2_at e with ⟨rfl, rfl⟩ | ⟨hj, hj2, q⟩
  · exact h.2.2 (j, _) List.mem_cons_self
  · refine h.2.2 (j, sm_r ad w) (List.mem_cons_of_mem _ (List.mem_filter.mpr ⟨sm_prs_mem.mpr ⟨w, q, rfl⟩, ?_⟩))
    have := sm_set2_cat hj hj2 e
    simp only [Bool.and_eq_true, Bool.not_eq_true', beq_eq_false_iff_ne, ne_eq, Bool.and_eq_false_iff, sm_r_cat]
    refine ⟨hj, hj2, ?_⟩
    rcases Classical.em (j + 1 = i) with z | z
    · exact Or.inr (fun y => this ⟨z, y⟩)
    · exact Or.inl z
/-- a field's value, by its kind -/
def sm_fv (h : sm_H) (ad : Nat → Nat) (a k t : Nat) : Value := match t with
  | 0 => .int (h.1 a k)
  | 1 => .long (h.2.1 a k)
  | 2 => va_rf ((h.2.2.1 a k).map ad)
  | _ => .int (h.1 a k)
/-- classes' fields: how many, their kinds -/
abbrev sm_F : Type := (Nat → Nat) × (Nat → Nat → Nat)
def sm_ac (h : sm_H) (ad : Nat → Nat) (a c : Nat) : (Nat → Int32) ⊕ (Nat → Int64) ⊕ (Nat → UInt32) ⊕ (Nat → UInt64) ⊕ (Nat → Option Nat) := match c with
  | 101 => .inr (.inl (h.2.1 a))
  | 103 => .inr (.inr (.inr (.inr (fun k => (h.2.2.1 a k).map ad))))
  | _ => .inl (h.1 a)
def sm_fs (F : sm_F) (h : sm_H) (ad : Nat → Nat) (a c : Nat) : List Value := (List.range (F.1 c)).map fun k => sm_fv h ad a k (F.2 c k)
def sm_E (G : sm_G) (F : sm_F) (kA : Nat → ClassId) (h : sm_H) (ad : Nat → Nat) (a : Nat) : va_E := if sm_cl G h a < 100 then .inr (sm_cl G h a, sm_fs F h ad a (sm_cl G h a)) else .inl (kA (sm_cl G h a), sm_ln G h a, sm_ac h ad a (sm_cl G h a))
def sm_ws (G : sm_G) (F : sm_F) (kA : Nat → ClassId) (h : sm_H) (ad : Nat → Nat) : va_W := (List.range (G.1 + h.n)).map fun a => (ad a, sm_E G F kA h ad a)
theorem sm_ws_get {G : sm_G} {F : sm_F} {kA : Nat → ClassId} {h : sm_H} {ad : Nat → Nat} {a : Nat} (ha : a < G.1 + h.n) : (sm_ws G F kA h ad)[a]? = some (ad a, sm_E G F kA h ad a) := by
  unfold sm_ws
  rw [List.getElem?_map, List.getElem?_range ha]
  rfl
theorem sm_ws_set {G : sm_G} {F : sm_F} {kA : Nat → ClassId} {h h' : sm_H} {ad : Nat → Nat} {a : Nat} (hn : h'.n = h.n) (hE : ∀ b, b ≠ a → sm_E G F kA h' ad b = sm_E G F kA h ad b) : (sm_ws G F kA h ad).set a (ad a, sm_E G F kA h' ad a) = sm_ws G F kA h' ad := by
  unfold sm_ws
  rw [hn]
  apply List.ext_getElem?
  intro j
  rw [List.getElem?_set]
  split
  · rename_i e
    subst e
    split
    · rename_i q
      have q : a < G.1 + h.n := by simpa using q
      rw [List.getElem?_map, List.getElem?_range q]
      rfl
    · rename_i q
      have q : ¬ a < G.1 + h.n := by simpa using q
      rw [List.getElem?_map, List.getElem?_eq_none (by simpa using q)]
      rfl
  · rename_i e
    rw [List.getElem?_map, List.getElem?_map]
    rcases Nat.lt_or_ge j (G.1 + h.n) with q | q
    · rw [List.getElem?_range q]
      simp only [Option.map_some]
      rw [hE j (fun z => e z.symm)]
    · rw [List.getElem?_eq_none (by simpa using q)]
      rfl
