/-! a program's tables, all of them checked -/
def sm_rkb (r : Option FieldType) (rt : Nat) (ins : Instr) : Bool := match ins with
  | .ireturn => decide (r = some .int) || (decide (r = some .boolean) && Nat.beq rt 3)
  | .lreturn => decide (r = some .long)
  | .areturn => (match r with
    | some (.object _) => true
    | _ => false)
  | .return_ => decide (r = none)
  | _ => true
theorem sm_rkb_ok {r : Option FieldType} {rt : Nat} {ins : Instr} (h : sm_rkb r rt ins = true) : sm_rk r rt ins := by
  unfold sm_rkb at h
  unfold sm_rk
  split at h
  · simp only [Bool.or_eq_true, Bool.and_eq_true, decide_eq_true_eq] at h
    rcases h with h | h
    · exact Or.inl h
    · exact Or.inr ⟨h.1, Nat.eq_of_beq_eq_true h.2⟩
  · exact of_decide_eq_true h
  · split at h
    · exact ⟨_, rfl⟩
    · cases h
  · exact of_decide_eq_true h
  · split
    · rename_i h1 _ _ _; exact absurd rfl h1
    · rename_i _ h1 _ _; exact absurd rfl h1
    · rename_i _ _ h1 _; exact absurd rfl h1
    · rename_i _ _ _ h1; exact absurd rfl h1
    · trivial
def sm_okb (i : sm_I) : Bool := match i.2.2.2.2.2 with
  | .ref a => Nat.ble 1000000 a
  | _ => true
theorem sm_okb_ok {i : sm_I} (h : sm_okb i = true) : sm_okc i := by
  unfold sm_okb at h
  unfold sm_okc sm_okv
  split at h
  · rename_i a e
    rw [e]
    exact Or.inr (Nat.le_of_ble_eq_true h)
  · split
    · rename_i h1 _ a e
      exact absurd e (h1 a)
    · trivial
section SMscan
variable (K : sm_Q) (CL : List vw_C) (F : sm_F) (eC : Nat) (Y : sm_Y) (own : String) (isI : Bool) (cc : ByteArray) (nL : Nat) (ret : Option FieldType) (rt : Nat)
def sm_scan : List (Nat × sm_I) → Nat → List Nat → Bool
  | [], _, _ => true
  | e :: es, pc, bs => (match bs with
    | [] => false
    | op :: r => Nat.beq e.1 pc && sm_cd cc pc e.2 op r && sm_cp K CL F eC Y own isI nL pc e.2 && sm_rkb ret rt e.2.1 && sm_okb e.2 && sm_scan es (pc + sm_len e.2) (bs.drop (sm_len e.2)))
end SMscan
theorem sm_scan_ok {K : sm_Q} {Ts : List Cond} {CL : List vw_C} {F : sm_F} {eC : Nat} {eT : String} {X : sm_X} {Y : sm_Y} {own : String} {isI : Bool} {cc : ByteArray} {nL : Nat} {ret : Option FieldType} {rt : Nat} (hK : sm_Kok K Ts CL eC eT X Y) : ∀ (es : List (Nat × sm_I)) (pc : Nat) (bs : List Nat), sm_scan K CL F eC Y own isI cc nL ret rt es pc bs = true → (∀ k b, bs[k]? = some b → sm_by cc (pc + k) = some b) → ∀ e ∈ es, sm_okc e.2 ∧ sm_val Ts CL F eT X Y own (isI = true) cc nL e.1 e.2 ∧ sm_rk ret rt e.2.1 := by
  intro es
  induction es with
  | nil => intro pc bs _ _ e h; cases h
  | cons a l ih =>
    intro pc bs h hb e he
    unfold sm_scan at h
    split at h
    · cases h
    · rename_i op r
      simp only [Bool.and_eq_true] at h
      obtain ⟨⟨⟨⟨⟨h1, h2⟩, h3⟩, h4⟩, h5⟩, h6⟩ := h
      have e1 := Nat.eq_of_beq_eq_true h1
      rcases List.mem_cons.mp he with rfl | he
      · rw [e1]
        have hd := sm_cd_ok h2 (hb 0 op rfl) (fun k b q => by
          have := hb (k + 1) b q
          rw [show pc + 1 + k = pc + (k + 1) by omega]
          exact this)
        exact ⟨sm_okb_ok h5, sm_cp_ok hK h3 hd ⟨op, r, h2⟩, sm_rkb_ok h4⟩
      · refine ih _ _ h6 (fun k b q => ?_) e he
        rw [List.getElem?_drop] at q
        have := hb _ b q
        rw [show pc + sm_len a.2 + k = pc + (sm_len a.2 + k) by omega]
        exact this
def sm_bs (cc : ByteArray) : List Nat := cc.data.toList.map UInt8.toNat
theorem sm_bs_by {cc : ByteArray} {k b : Nat} (h : (sm_bs cc)[k]? = some b) : sm_by cc k = some b := by
  unfold sm_bs at h
  rw [List.getElem?_map] at h
  cases e : cc.data.toList[k]? with
  | none => rw [e] at h; cases h
  | some u =>
    rw [e] at h
    cases h
    obtain ⟨h1, h2⟩ := List.getElem?_eq_some_iff.mp e
    unfold sm_by
    have h1' : k < cc.size := by simpa using h1
    rw [dif_pos h1']
    congr 2
def sm_lk (L : List (List (Nat × sm_I))) (pc : Nat) : Option sm_I := match L[pc / 16]? with
  | some c => List.lookup pc c
  | none => none
theorem sm_lookup_mem {pc : Nat} {i : sm_I} : ∀ c : List (Nat × sm_I), List.lookup pc c = some i → (pc, i) ∈ c := by
  intro c
  induction c with
  | nil => intro h; cases h
  | cons a l ih =>
    intro h
    obtain ⟨p, q⟩ := a
    rw [List.lookup_cons] at h
    split at h
    · rename_i e
      have e := eq_of_beq e
      cases h
      subst e
      exact List.mem_cons_self
    · exact List.mem_cons_of_mem _ (ih h)
theorem sm_lk_mem {L : List (List (Nat × sm_I))} {pc : Nat} {i : sm_I} (h : sm_lk L pc = some i) : (pc, i) ∈ L.flatten := by
  unfold sm_lk at h
  split at h
  · rename_i c e
    exact List.mem_flatten.mpr ⟨c, List.mem_of_getElem? e, sm_lookup_mem c h⟩
  · cases h
/-- a method's table is right -/
def sm_mok (K : sm_Q) (CL : List vw_C) (F : sm_F) (eC : Nat) (Y : sm_Y) (TT : Nat → List (List (Nat × sm_I))) (j : Nat) : Bool := sm_scan K CL F eC Y (Y.1 j).cls (decide ((Y.1 j).name = "<init>")) (Y.2.1 j) (Y.2.2.1 j) (Y.2.2.2.1 j) (Y.2.2.2.2 j) (TT j).flatten 0 (sm_bs (Y.2.1 j))
theorem sm_prog {G : sm_G} {K : sm_Q} {Ts : List Cond} {CL : List vw_C} {F : sm_F} {eC : Nat} {eT : String} {X : sm_X} {Y : sm_Y} {TT : Nat → List (List (Nat × sm_I))} (hK : sm_Kok K Ts CL eC eT X Y) (hgood : ∀ w ∈ Ts, goodWord w = true) (hCF : sm_CF CL F Ts) (hX : sm_Xok X) (hfr : ∀ (h : sm_H) a k, sm_cl G h a = 103 → G.2.2.2.1 a k = none) (hnw : nativeFrameWords "java/lang/System" "arraycopy" 5 ≤ 40) (hpl : ∀ j, plainName (Y.1 j).cls = true) (hall : ∀ j, sm_mok K CL F eC Y TT j = true) : sm_Prog G F CL eT X Ts Y (fun j pc => sm_lk (TT j) pc) := by
  refine ⟨fun w hw => good_of_word (hgood w hw), hCF, hX, hfr, hnw, hpl, fun j pc i h => ?_⟩
  have z := sm_scan_ok hK _ _ _ (hall j) (fun k b q => by rw [Nat.zero_add]; exact sm_bs_by q) (pc, i) (sm_lk_mem h)
  simp only [decide_eq_true_eq] at z
  exact z
def sm_at {α : Type} (L : List (List α)) (d : α) (j : Nat) : α := match L[j / 16]? with
  | some c => (match c[j % 16]? with
    | some x => x
    | none => d)
  | none => d
