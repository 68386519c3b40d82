/-! THE PROGRAM: what stands behind the checker's tables -/
theorem P_tw_in {q : Nat} {w : Cond} (h : P_tw q = some w) : w ∈ P_Ts := by
  unfold P_tw at h
  split at h
  · rename_i c hc
    split at h
    · rename_i w2 hw2
      cases hg : goodWord w2 with
      | false => rw [hg] at h; cases h
      | true =>
        rw [hg] at h
        cases h
        have hw := List.mem_of_getElem? hw2
        have hcm := List.mem_of_getElem? hc
        refine List.mem_filter.mpr ⟨?_, hg⟩
        unfold lw_tbl tables_1
        unfold P_ch at hcm
        simp only [List.mem_cons, List.not_mem_nil, or_false] at hcm
        simp only [List.mem_append]
        rcases hcm with rfl | rfl | rfl | rfl | rfl | rfl | rfl | rfl | rfl | rfl | rfl | rfl | rfl | rfl <;> simp only [hw, true_or, or_true]
    · cases h
  · cases h
theorem P_good : ∀ w ∈ P_Ts, goodWord w = true := fun w hw => (List.mem_filter.mp hw).2
/-- a method's words -/
def P_fz (k j : Nat) : Bool := match k with
  | 1 => decide (P_tw (P_y j).2.2.2.2.2.2.2.2.2.1 = some (.static (P_y j).1))
  | 2 => decide (P_tw (P_y j).2.2.2.2.2.2.2.2.2.1 = some (.instanceMethod (P_y j).1)) && decide (P_tw (P_y j).2.2.2.2.2.2.2.2.2.2 = some (.selects (P_y j).1.cls (P_y j).1 (P_y j).1))
  | _ => decide (P_tw (P_y j).2.2.2.2.2.2.2.2.2.1 = some (.instanceMethod (P_y j).1)) && decide ((P_y j).2.2.2.1 = none) && decide ((P_y j).1.name = "<init>")
def P_fk (j : Nat) : Bool := (match (P_y j).2.2.2.2.2.1 with
  | 0 => true
  | k => decide (P_tw (P_y j).2.2.2.2.2.2.2.2.1 = some (.initialized (P_y j).1.cls)) && (decide ((P_y j).1.cls ≠ "java/lang/invoke/MethodHandle") && decide ((P_y j).1.cls ≠ "java/lang/invoke/VarHandle") && decide ((parseMethodDescriptor (P_y j).1.desc).map (fun d => d.parameters.length) = some (P_y j).2.2.2.2.2.2.1)) && Nat.ble (P_y j).2.2.1 60 && P_fz k j) && plainName (P_y j).1.cls
def P_cw (y : P_R) : Prop := y.2.2.2.2.2.1 = 0 ∨ P_tw y.2.2.2.2.2.2.2.1 = some (.code y.1 y.2.1 y.2.2.1 y.2.2.2.1)
theorem P_cc0 : ∀ y ∈ P_Y0, P_cw y := List.forall_mem_cons.mpr ⟨Or.inr rfl, List.forall_mem_cons.mpr ⟨Or.inr rfl, List.forall_mem_cons.mpr ⟨Or.inr rfl, List.forall_mem_cons.mpr ⟨Or.inr rfl, List.forall_mem_cons.mpr ⟨Or.inr rfl, List.forall_mem_cons.mpr ⟨Or.inr rfl, List.forall_mem_cons.mpr ⟨Or.inr rfl, List.forall_mem_cons.mpr ⟨Or.inr rfl, List.forall_mem_cons.mpr ⟨Or.inr rfl, List.forall_mem_cons.mpr ⟨Or.inr rfl, List.forall_mem_cons.mpr ⟨Or.inr rfl, List.forall_mem_cons.mpr ⟨Or.inr rfl, List.forall_mem_cons.mpr ⟨Or.inr rfl, List.forall_mem_cons.mpr ⟨Or.inr rfl, List.forall_mem_cons.mpr ⟨Or.inr rfl, List.forall_mem_cons.mpr ⟨Or.inr rfl, fun _ h => absurd h List.not_mem_nil⟩⟩⟩⟩⟩⟩⟩⟩⟩⟩⟩⟩⟩⟩⟩⟩
theorem P_cc1 : ∀ y ∈ P_Y1, P_cw y := List.forall_mem_cons.mpr ⟨Or.inr rfl, List.forall_mem_cons.mpr ⟨Or.inr rfl, List.forall_mem_cons.mpr ⟨Or.inr rfl, List.forall_mem_cons.mpr ⟨Or.inr rfl, List.forall_mem_cons.mpr ⟨Or.inr rfl, List.forall_mem_cons.mpr ⟨Or.inr rfl, List.forall_mem_cons.mpr ⟨Or.inr rfl, List.forall_mem_cons.mpr ⟨Or.inr rfl, List.forall_mem_cons.mpr ⟨Or.inr rfl, List.forall_mem_cons.mpr ⟨Or.inr rfl, List.forall_mem_cons.mpr ⟨Or.inr rfl, List.forall_mem_cons.mpr ⟨Or.inr rfl, List.forall_mem_cons.mpr ⟨Or.inr rfl, List.forall_mem_cons.mpr ⟨Or.inr rfl, List.forall_mem_cons.mpr ⟨Or.inr rfl, List.forall_mem_cons.mpr ⟨Or.inr rfl, fun _ h => absurd h List.not_mem_nil⟩⟩⟩⟩⟩⟩⟩⟩⟩⟩⟩⟩⟩⟩⟩⟩
theorem P_cc2 : ∀ y ∈ P_Y2, P_cw y := List.forall_mem_cons.mpr ⟨Or.inr rfl, List.forall_mem_cons.mpr ⟨Or.inr rfl, List.forall_mem_cons.mpr ⟨Or.inr rfl, List.forall_mem_cons.mpr ⟨Or.inr rfl, List.forall_mem_cons.mpr ⟨Or.inr rfl, List.forall_mem_cons.mpr ⟨Or.inr rfl, List.forall_mem_cons.mpr ⟨Or.inr rfl, List.forall_mem_cons.mpr ⟨Or.inr rfl, List.forall_mem_cons.mpr ⟨Or.inr rfl, List.forall_mem_cons.mpr ⟨Or.inr rfl, List.forall_mem_cons.mpr ⟨Or.inr rfl, List.forall_mem_cons.mpr ⟨Or.inr rfl, List.forall_mem_cons.mpr ⟨Or.inr rfl, List.forall_mem_cons.mpr ⟨Or.inr rfl, List.forall_mem_cons.mpr ⟨Or.inr rfl, List.forall_mem_cons.mpr ⟨Or.inr rfl, fun _ h => absurd h List.not_mem_nil⟩⟩⟩⟩⟩⟩⟩⟩⟩⟩⟩⟩⟩⟩⟩⟩
theorem P_cc3 : ∀ y ∈ P_Y3, P_cw y := List.forall_mem_cons.mpr ⟨Or.inr rfl, List.forall_mem_cons.mpr ⟨Or.inr rfl, List.forall_mem_cons.mpr ⟨Or.inr rfl, List.forall_mem_cons.mpr ⟨Or.inr rfl, List.forall_mem_cons.mpr ⟨Or.inr rfl, List.forall_mem_cons.mpr ⟨Or.inr rfl, List.forall_mem_cons.mpr ⟨Or.inr rfl, List.forall_mem_cons.mpr ⟨Or.inr rfl, List.forall_mem_cons.mpr ⟨Or.inr rfl, List.forall_mem_cons.mpr ⟨Or.inr rfl, List.forall_mem_cons.mpr ⟨Or.inr rfl, List.forall_mem_cons.mpr ⟨Or.inr rfl, List.forall_mem_cons.mpr ⟨Or.inr rfl, List.forall_mem_cons.mpr ⟨Or.inr rfl, List.forall_mem_cons.mpr ⟨Or.inr rfl, List.forall_mem_cons.mpr ⟨Or.inr rfl, fun _ h => absurd h List.not_mem_nil⟩⟩⟩⟩⟩⟩⟩⟩⟩⟩⟩⟩⟩⟩⟩⟩
theorem P_cc4 : ∀ y ∈ P_Y4, P_cw y := List.forall_mem_cons.mpr ⟨Or.inr rfl, List.forall_mem_cons.mpr ⟨Or.inr rfl, List.forall_mem_cons.mpr ⟨Or.inr rfl, List.forall_mem_cons.mpr ⟨Or.inr rfl, List.forall_mem_cons.mpr ⟨Or.inr rfl, List.forall_mem_cons.mpr ⟨Or.inr rfl, List.forall_mem_cons.mpr ⟨Or.inr rfl, List.forall_mem_cons.mpr ⟨Or.inr rfl, List.forall_mem_cons.mpr ⟨Or.inr rfl, List.forall_mem_cons.mpr ⟨Or.inr rfl, List.forall_mem_cons.mpr ⟨Or.inr rfl, List.forall_mem_cons.mpr ⟨Or.inr rfl, List.forall_mem_cons.mpr ⟨Or.inr rfl, List.forall_mem_cons.mpr ⟨Or.inr rfl, List.forall_mem_cons.mpr ⟨Or.inr rfl, List.forall_mem_cons.mpr ⟨Or.inr rfl, fun _ h => absurd h List.not_mem_nil⟩⟩⟩⟩⟩⟩⟩⟩⟩⟩⟩⟩⟩⟩⟩⟩
theorem P_cc5 : ∀ y ∈ P_Y5, P_cw y := List.forall_mem_cons.mpr ⟨Or.inr rfl, List.forall_mem_cons.mpr ⟨Or.inr rfl, List.forall_mem_cons.mpr ⟨Or.inr rfl, List.forall_mem_cons.mpr ⟨Or.inr rfl, List.forall_mem_cons.mpr ⟨Or.inr rfl, List.forall_mem_cons.mpr ⟨Or.inr rfl, List.forall_mem_cons.mpr ⟨Or.inr rfl, List.forall_mem_cons.mpr ⟨Or.inr rfl, List.forall_mem_cons.mpr ⟨Or.inr rfl, List.forall_mem_cons.mpr ⟨Or.inr rfl, List.forall_mem_cons.mpr ⟨Or.inr rfl, List.forall_mem_cons.mpr ⟨Or.inr rfl, List.forall_mem_cons.mpr ⟨Or.inr rfl, List.forall_mem_cons.mpr ⟨Or.inr rfl, List.forall_mem_cons.mpr ⟨Or.inr rfl, List.forall_mem_cons.mpr ⟨Or.inr rfl, fun _ h => absurd h List.not_mem_nil⟩⟩⟩⟩⟩⟩⟩⟩⟩⟩⟩⟩⟩⟩⟩⟩
theorem P_cc6 : ∀ y ∈ P_Y6, P_cw y := List.forall_mem_cons.mpr ⟨Or.inr rfl, List.forall_mem_cons.mpr ⟨Or.inr rfl, List.forall_mem_cons.mpr ⟨Or.inr rfl, List.forall_mem_cons.mpr ⟨Or.inr rfl, List.forall_mem_cons.mpr ⟨Or.inr rfl, List.forall_mem_cons.mpr ⟨Or.inr rfl, List.forall_mem_cons.mpr ⟨Or.inr rfl, List.forall_mem_cons.mpr ⟨Or.inr rfl, List.forall_mem_cons.mpr ⟨Or.inr rfl, List.forall_mem_cons.mpr ⟨Or.inr rfl, List.forall_mem_cons.mpr ⟨Or.inr rfl, List.forall_mem_cons.mpr ⟨Or.inr rfl, List.forall_mem_cons.mpr ⟨Or.inr rfl, List.forall_mem_cons.mpr ⟨Or.inr rfl, List.forall_mem_cons.mpr ⟨Or.inr rfl, List.forall_mem_cons.mpr ⟨Or.inr rfl, fun _ h => absurd h List.not_mem_nil⟩⟩⟩⟩⟩⟩⟩⟩⟩⟩⟩⟩⟩⟩⟩⟩
theorem P_cc7 : ∀ y ∈ P_Y7, P_cw y := List.forall_mem_cons.mpr ⟨Or.inr rfl, List.forall_mem_cons.mpr ⟨Or.inr rfl, List.forall_mem_cons.mpr ⟨Or.inr rfl, List.forall_mem_cons.mpr ⟨Or.inr rfl, List.forall_mem_cons.mpr ⟨Or.inr rfl, List.forall_mem_cons.mpr ⟨Or.inr rfl, List.forall_mem_cons.mpr ⟨Or.inr rfl, List.forall_mem_cons.mpr ⟨Or.inr rfl, List.forall_mem_cons.mpr ⟨Or.inr rfl, List.forall_mem_cons.mpr ⟨Or.inr rfl, List.forall_mem_cons.mpr ⟨Or.inr rfl, List.forall_mem_cons.mpr ⟨Or.inr rfl, List.forall_mem_cons.mpr ⟨Or.inr rfl, List.forall_mem_cons.mpr ⟨Or.inr rfl, List.forall_mem_cons.mpr ⟨Or.inr rfl, List.forall_mem_cons.mpr ⟨Or.inr rfl, fun _ h => absurd h List.not_mem_nil⟩⟩⟩⟩⟩⟩⟩⟩⟩⟩⟩⟩⟩⟩⟩⟩
theorem P_cc8 : ∀ y ∈ P_Y8, P_cw y := List.forall_mem_cons.mpr ⟨Or.inr rfl, List.forall_mem_cons.mpr ⟨Or.inr rfl, List.forall_mem_cons.mpr ⟨Or.inr rfl, List.forall_mem_cons.mpr ⟨Or.inr rfl, List.forall_mem_cons.mpr ⟨Or.inr rfl, List.forall_mem_cons.mpr ⟨Or.inr rfl, List.forall_mem_cons.mpr ⟨Or.inr rfl, List.forall_mem_cons.mpr ⟨Or.inr rfl, List.forall_mem_cons.mpr ⟨Or.inr rfl, List.forall_mem_cons.mpr ⟨Or.inr rfl, List.forall_mem_cons.mpr ⟨Or.inr rfl, List.forall_mem_cons.mpr ⟨Or.inr rfl, List.forall_mem_cons.mpr ⟨Or.inr rfl, List.forall_mem_cons.mpr ⟨Or.inr rfl, List.forall_mem_cons.mpr ⟨Or.inr rfl, List.forall_mem_cons.mpr ⟨Or.inr rfl, fun _ h => absurd h List.not_mem_nil⟩⟩⟩⟩⟩⟩⟩⟩⟩⟩⟩⟩⟩⟩⟩⟩
theorem P_cc9 : ∀ y ∈ P_Y9, P_cw y := List.forall_mem_cons.mpr ⟨Or.inr rfl, List.forall_mem_cons.mpr ⟨Or.inr rfl, List.forall_mem_cons.mpr ⟨Or.inr rfl, List.forall_mem_cons.mpr ⟨Or.inr rfl, List.forall_mem_cons.mpr ⟨Or.inr rfl, List.forall_mem_cons.mpr ⟨Or.inr rfl, List.forall_mem_cons.mpr ⟨Or.inr rfl, List.forall_mem_cons.mpr ⟨Or.inr rfl, List.forall_mem_cons.mpr ⟨Or.inr rfl, List.forall_mem_cons.mpr ⟨Or.inr rfl, List.forall_mem_cons.mpr ⟨Or.inr rfl, List.forall_mem_cons.mpr ⟨Or.inr rfl, List.forall_mem_cons.mpr ⟨Or.inr rfl, List.forall_mem_cons.mpr ⟨Or.inr rfl, List.forall_mem_cons.mpr ⟨Or.inr rfl, List.forall_mem_cons.mpr ⟨Or.inr rfl, fun _ h => absurd h List.not_mem_nil⟩⟩⟩⟩⟩⟩⟩⟩⟩⟩⟩⟩⟩⟩⟩⟩
theorem P_cc10 : ∀ y ∈ P_Y10, P_cw y := List.forall_mem_cons.mpr ⟨Or.inr rfl, List.forall_mem_cons.mpr ⟨Or.inr rfl, List.forall_mem_cons.mpr ⟨Or.inr rfl, List.forall_mem_cons.mpr ⟨Or.inr rfl, List.forall_mem_cons.mpr ⟨Or.inr rfl, List.forall_mem_cons.mpr ⟨Or.inr rfl, List.forall_mem_cons.mpr ⟨Or.inr rfl, List.forall_mem_cons.mpr ⟨Or.inr rfl, List.forall_mem_cons.mpr ⟨Or.inr rfl, List.forall_mem_cons.mpr ⟨Or.inr rfl, List.forall_mem_cons.mpr ⟨Or.inr rfl, List.forall_mem_cons.mpr ⟨Or.inr rfl, List.forall_mem_cons.mpr ⟨Or.inr rfl, List.forall_mem_cons.mpr ⟨Or.inr rfl, List.forall_mem_cons.mpr ⟨Or.inr rfl, List.forall_mem_cons.mpr ⟨Or.inr rfl, fun _ h => absurd h List.not_mem_nil⟩⟩⟩⟩⟩⟩⟩⟩⟩⟩⟩⟩⟩⟩⟩⟩
theorem P_cc11 : ∀ y ∈ P_Y11, P_cw y := List.forall_mem_cons.mpr ⟨Or.inr rfl, List.forall_mem_cons.mpr ⟨Or.inr rfl, List.forall_mem_cons.mpr ⟨Or.inr rfl, List.forall_mem_cons.mpr ⟨Or.inr rfl, List.forall_mem_cons.mpr ⟨Or.inr rfl, List.forall_mem_cons.mpr ⟨Or.inr rfl, List.forall_mem_cons.mpr ⟨Or.inr rfl, List.forall_mem_cons.mpr ⟨Or.inr rfl, List.forall_mem_cons.mpr ⟨Or.inr rfl, List.forall_mem_cons.mpr ⟨Or.inr rfl, List.forall_mem_cons.mpr ⟨Or.inr rfl, List.forall_mem_cons.mpr ⟨Or.inr rfl, List.forall_mem_cons.mpr ⟨Or.inr rfl, List.forall_mem_cons.mpr ⟨Or.inr rfl, List.forall_mem_cons.mpr ⟨Or.inr rfl, List.forall_mem_cons.mpr ⟨Or.inr rfl, fun _ h => absurd h List.not_mem_nil⟩⟩⟩⟩⟩⟩⟩⟩⟩⟩⟩⟩⟩⟩⟩⟩
theorem P_cc12 : ∀ y ∈ P_Y12, P_cw y := List.forall_mem_cons.mpr ⟨Or.inr rfl, List.forall_mem_cons.mpr ⟨Or.inr rfl, List.forall_mem_cons.mpr ⟨Or.inr rfl, List.forall_mem_cons.mpr ⟨Or.inr rfl, List.forall_mem_cons.mpr ⟨Or.inr rfl, List.forall_mem_cons.mpr ⟨Or.inr rfl, List.forall_mem_cons.mpr ⟨Or.inr rfl, List.forall_mem_cons.mpr ⟨Or.inr rfl, List.forall_mem_cons.mpr ⟨Or.inr rfl, List.forall_mem_cons.mpr ⟨Or.inr rfl, List.forall_mem_cons.mpr ⟨Or.inr rfl, List.forall_mem_cons.mpr ⟨Or.inr rfl, List.forall_mem_cons.mpr ⟨Or.inr rfl, List.forall_mem_cons.mpr ⟨Or.inr rfl, List.forall_mem_cons.mpr ⟨Or.inr rfl, List.forall_mem_cons.mpr ⟨Or.inr rfl, fun _ h => absurd h List.not_mem_nil⟩⟩⟩⟩⟩⟩⟩⟩⟩⟩⟩⟩⟩⟩⟩⟩
theorem P_cc13 : ∀ y ∈ P_Y13, P_cw y := List.forall_mem_cons.mpr ⟨Or.inr rfl, List.forall_mem_cons.mpr ⟨Or.inr rfl, List.forall_mem_cons.mpr ⟨Or.inr rfl, List.forall_mem_cons.mpr ⟨Or.inr rfl, List.forall_mem_cons.mpr ⟨Or.inr rfl, List.forall_mem_cons.mpr ⟨Or.inr rfl, List.forall_mem_cons.mpr ⟨Or.inr rfl, List.forall_mem_cons.mpr ⟨Or.inr rfl, List.forall_mem_cons.mpr ⟨Or.inr rfl, List.forall_mem_cons.mpr ⟨Or.inr rfl, List.forall_mem_cons.mpr ⟨Or.inr rfl, List.forall_mem_cons.mpr ⟨Or.inr rfl, List.forall_mem_cons.mpr ⟨Or.inr rfl, List.forall_mem_cons.mpr ⟨Or.inr rfl, List.forall_mem_cons.mpr ⟨Or.inr rfl, List.forall_mem_cons.mpr ⟨Or.inr rfl, fun _ h => absurd h List.not_mem_nil⟩⟩⟩⟩⟩⟩⟩⟩⟩⟩⟩⟩⟩⟩⟩⟩
theorem P_cc14 : ∀ y ∈ P_Y14, P_cw y := List.forall_mem_cons.mpr ⟨Or.inr rfl, List.forall_mem_cons.mpr ⟨Or.inr rfl, List.forall_mem_cons.mpr ⟨Or.inr rfl, List.forall_mem_cons.mpr ⟨Or.inr rfl, List.forall_mem_cons.mpr ⟨Or.inr rfl, List.forall_mem_cons.mpr ⟨Or.inr rfl, List.forall_mem_cons.mpr ⟨Or.inr rfl, List.forall_mem_cons.mpr ⟨Or.inr rfl, List.forall_mem_cons.mpr ⟨Or.inr rfl, List.forall_mem_cons.mpr ⟨Or.inr rfl, List.forall_mem_cons.mpr ⟨Or.inr rfl, List.forall_mem_cons.mpr ⟨Or.inr rfl, List.forall_mem_cons.mpr ⟨Or.inr rfl, List.forall_mem_cons.mpr ⟨Or.inr rfl, List.forall_mem_cons.mpr ⟨Or.inr rfl, List.forall_mem_cons.mpr ⟨Or.inr rfl, fun _ h => absurd h List.not_mem_nil⟩⟩⟩⟩⟩⟩⟩⟩⟩⟩⟩⟩⟩⟩⟩⟩
theorem P_cc15 : ∀ y ∈ P_Y15, P_cw y := List.forall_mem_cons.mpr ⟨Or.inr rfl, List.forall_mem_cons.mpr ⟨Or.inr rfl, List.forall_mem_cons.mpr ⟨Or.inr rfl, List.forall_mem_cons.mpr ⟨Or.inr rfl, List.forall_mem_cons.mpr ⟨Or.inr rfl, List.forall_mem_cons.mpr ⟨Or.inr rfl, List.forall_mem_cons.mpr ⟨Or.inr rfl, List.forall_mem_cons.mpr ⟨Or.inr rfl, List.forall_mem_cons.mpr ⟨Or.inr rfl, List.forall_mem_cons.mpr ⟨Or.inr rfl, List.forall_mem_cons.mpr ⟨Or.inr rfl, List.forall_mem_cons.mpr ⟨Or.inr rfl, List.forall_mem_cons.mpr ⟨Or.inr rfl, List.forall_mem_cons.mpr ⟨Or.inr rfl, List.forall_mem_cons.mpr ⟨Or.inr rfl, List.forall_mem_cons.mpr ⟨Or.inr rfl, fun _ h => absurd h List.not_mem_nil⟩⟩⟩⟩⟩⟩⟩⟩⟩⟩⟩⟩⟩⟩⟩⟩
theorem P_cc16 : ∀ y ∈ P_Y16, P_cw y := List.forall_mem_cons.mpr ⟨Or.inr rfl, List.forall_mem_cons.mpr ⟨Or.inr rfl, List.forall_mem_cons.mpr ⟨Or.inr rfl, List.forall_mem_cons.mpr ⟨Or.inr rfl, List.forall_mem_cons.mpr ⟨Or.inr rfl, List.forall_mem_cons.mpr ⟨Or.inr rfl, List.forall_mem_cons.mpr ⟨Or.inr rfl, List.forall_mem_cons.mpr ⟨Or.inr rfl, List.forall_mem_cons.mpr ⟨Or.inr rfl, List.forall_mem_cons.mpr ⟨Or.inr rfl, List.forall_mem_cons.mpr ⟨Or.inr rfl, List.forall_mem_cons.mpr ⟨Or.inr rfl, List.forall_mem_cons.mpr ⟨Or.inr rfl, List.forall_mem_cons.mpr ⟨Or.inr rfl, List.forall_mem_cons.mpr ⟨Or.inr rfl, List.forall_mem_cons.mpr ⟨Or.inr rfl, fun _ h => absurd h List.not_mem_nil⟩⟩⟩⟩⟩⟩⟩⟩⟩⟩⟩⟩⟩⟩⟩⟩
theorem P_cc17 : ∀ y ∈ P_Y17, P_cw y := List.forall_mem_cons.mpr ⟨Or.inr rfl, List.forall_mem_cons.mpr ⟨Or.inr rfl, List.forall_mem_cons.mpr ⟨Or.inr rfl, List.forall_mem_cons.mpr ⟨Or.inr rfl, List.forall_mem_cons.mpr ⟨Or.inr rfl, List.forall_mem_cons.mpr ⟨Or.inr rfl, List.forall_mem_cons.mpr ⟨Or.inr rfl, List.forall_mem_cons.mpr ⟨Or.inr rfl, List.forall_mem_cons.mpr ⟨Or.inr rfl, List.forall_mem_cons.mpr ⟨Or.inr rfl, List.forall_mem_cons.mpr ⟨Or.inr rfl, List.forall_mem_cons.mpr ⟨Or.inr rfl, List.forall_mem_cons.mpr ⟨Or.inr rfl, List.forall_mem_cons.mpr ⟨Or.inr rfl, List.forall_mem_cons.mpr ⟨Or.inr rfl, List.forall_mem_cons.mpr ⟨Or.inr rfl, fun _ h => absurd h List.not_mem_nil⟩⟩⟩⟩⟩⟩⟩⟩⟩⟩⟩⟩⟩⟩⟩⟩
theorem P_cc18 : ∀ y ∈ P_Y18, P_cw y := List.forall_mem_cons.mpr ⟨Or.inr rfl, List.forall_mem_cons.mpr ⟨Or.inr rfl, List.forall_mem_cons.mpr ⟨Or.inr rfl, List.forall_mem_cons.mpr ⟨Or.inr rfl, List.forall_mem_cons.mpr ⟨Or.inr rfl, List.forall_mem_cons.mpr ⟨Or.inr rfl, List.forall_mem_cons.mpr ⟨Or.inr rfl, List.forall_mem_cons.mpr ⟨Or.inr rfl, List.forall_mem_cons.mpr ⟨Or.inr rfl, List.forall_mem_cons.mpr ⟨Or.inr rfl, List.forall_mem_cons.mpr ⟨Or.inr rfl, List.forall_mem_cons.mpr ⟨Or.inr rfl, List.forall_mem_cons.mpr ⟨Or.inr rfl, List.forall_mem_cons.mpr ⟨Or.inr rfl, List.forall_mem_cons.mpr ⟨Or.inr rfl, List.forall_mem_cons.mpr ⟨Or.inr rfl, fun _ h => absurd h List.not_mem_nil⟩⟩⟩⟩⟩⟩⟩⟩⟩⟩⟩⟩⟩⟩⟩⟩
theorem P_cc19 : ∀ y ∈ P_Y19, P_cw y := List.forall_mem_cons.mpr ⟨Or.inr rfl, List.forall_mem_cons.mpr ⟨Or.inr rfl, List.forall_mem_cons.mpr ⟨Or.inr rfl, List.forall_mem_cons.mpr ⟨Or.inr rfl, List.forall_mem_cons.mpr ⟨Or.inr rfl, List.forall_mem_cons.mpr ⟨Or.inr rfl, List.forall_mem_cons.mpr ⟨Or.inr rfl, List.forall_mem_cons.mpr ⟨Or.inr rfl, List.forall_mem_cons.mpr ⟨Or.inr rfl, List.forall_mem_cons.mpr ⟨Or.inr rfl, List.forall_mem_cons.mpr ⟨Or.inr rfl, List.forall_mem_cons.mpr ⟨Or.inr rfl, List.forall_mem_cons.mpr ⟨Or.inr rfl, List.forall_mem_cons.mpr ⟨Or.inr rfl, List.forall_mem_cons.mpr ⟨Or.inr rfl, List.forall_mem_cons.mpr ⟨Or.inr rfl, fun _ h => absurd h List.not_mem_nil⟩⟩⟩⟩⟩⟩⟩⟩⟩⟩⟩⟩⟩⟩⟩⟩
theorem P_cc20 : ∀ y ∈ P_Y20, P_cw y := List.forall_mem_cons.mpr ⟨Or.inr rfl, List.forall_mem_cons.mpr ⟨Or.inr rfl, List.forall_mem_cons.mpr ⟨Or.inr rfl, List.forall_mem_cons.mpr ⟨Or.inr rfl, List.forall_mem_cons.mpr ⟨Or.inr rfl, List.forall_mem_cons.mpr ⟨Or.inr rfl, List.forall_mem_cons.mpr ⟨Or.inr rfl, List.forall_mem_cons.mpr ⟨Or.inr rfl, List.forall_mem_cons.mpr ⟨Or.inr rfl, List.forall_mem_cons.mpr ⟨Or.inr rfl, List.forall_mem_cons.mpr ⟨Or.inr rfl, List.forall_mem_cons.mpr ⟨Or.inr rfl, List.forall_mem_cons.mpr ⟨Or.inr rfl, List.forall_mem_cons.mpr ⟨Or.inr rfl, List.forall_mem_cons.mpr ⟨Or.inr rfl, List.forall_mem_cons.mpr ⟨Or.inr rfl, fun _ h => absurd h List.not_mem_nil⟩⟩⟩⟩⟩⟩⟩⟩⟩⟩⟩⟩⟩⟩⟩⟩
theorem P_cc21 : ∀ y ∈ P_Y21, P_cw y := List.forall_mem_cons.mpr ⟨Or.inr rfl, List.forall_mem_cons.mpr ⟨Or.inr rfl, List.forall_mem_cons.mpr ⟨Or.inr rfl, List.forall_mem_cons.mpr ⟨Or.inr rfl, List.forall_mem_cons.mpr ⟨Or.inr rfl, List.forall_mem_cons.mpr ⟨Or.inr rfl, List.forall_mem_cons.mpr ⟨Or.inr rfl, List.forall_mem_cons.mpr ⟨Or.inr rfl, List.forall_mem_cons.mpr ⟨Or.inr rfl, List.forall_mem_cons.mpr ⟨Or.inr rfl, List.forall_mem_cons.mpr ⟨Or.inr rfl, List.forall_mem_cons.mpr ⟨Or.inr rfl, List.forall_mem_cons.mpr ⟨Or.inr rfl, List.forall_mem_cons.mpr ⟨Or.inr rfl, List.forall_mem_cons.mpr ⟨Or.inr rfl, List.forall_mem_cons.mpr ⟨Or.inr rfl, fun _ h => absurd h List.not_mem_nil⟩⟩⟩⟩⟩⟩⟩⟩⟩⟩⟩⟩⟩⟩⟩⟩
theorem P_cc22 : ∀ y ∈ P_Y22, P_cw y := List.forall_mem_cons.mpr ⟨Or.inr rfl, List.forall_mem_cons.mpr ⟨Or.inr rfl, List.forall_mem_cons.mpr ⟨Or.inr rfl, List.forall_mem_cons.mpr ⟨Or.inr rfl, List.forall_mem_cons.mpr ⟨Or.inr rfl, List.forall_mem_cons.mpr ⟨Or.inr rfl, List.forall_mem_cons.mpr ⟨Or.inr rfl, List.forall_mem_cons.mpr ⟨Or.inr rfl, List.forall_mem_cons.mpr ⟨Or.inr rfl, List.forall_mem_cons.mpr ⟨Or.inr rfl, List.forall_mem_cons.mpr ⟨Or.inr rfl, List.forall_mem_cons.mpr ⟨Or.inr rfl, List.forall_mem_cons.mpr ⟨Or.inr rfl, List.forall_mem_cons.mpr ⟨Or.inr rfl, List.forall_mem_cons.mpr ⟨Or.inr rfl, List.forall_mem_cons.mpr ⟨Or.inr rfl, fun _ h => absurd h List.not_mem_nil⟩⟩⟩⟩⟩⟩⟩⟩⟩⟩⟩⟩⟩⟩⟩⟩
theorem P_cc23 : ∀ y ∈ P_Y23, P_cw y := List.forall_mem_cons.mpr ⟨Or.inr rfl, List.forall_mem_cons.mpr ⟨Or.inr rfl, List.forall_mem_cons.mpr ⟨Or.inr rfl, List.forall_mem_cons.mpr ⟨Or.inr rfl, List.forall_mem_cons.mpr ⟨Or.inr rfl, List.forall_mem_cons.mpr ⟨Or.inr rfl, List.forall_mem_cons.mpr ⟨Or.inr rfl, List.forall_mem_cons.mpr ⟨Or.inr rfl, List.forall_mem_cons.mpr ⟨Or.inr rfl, List.forall_mem_cons.mpr ⟨Or.inr rfl, List.forall_mem_cons.mpr ⟨Or.inr rfl, List.forall_mem_cons.mpr ⟨Or.inr rfl, List.forall_mem_cons.mpr ⟨Or.inr rfl, List.forall_mem_cons.mpr ⟨Or.inr rfl, List.forall_mem_cons.mpr ⟨Or.inr rfl, List.forall_mem_cons.mpr ⟨Or.inr rfl, fun _ h => absurd h List.not_mem_nil⟩⟩⟩⟩⟩⟩⟩⟩⟩⟩⟩⟩⟩⟩⟩⟩
theorem P_cc24 : ∀ y ∈ P_Y24, P_cw y := List.forall_mem_cons.mpr ⟨Or.inr rfl, List.forall_mem_cons.mpr ⟨Or.inr rfl, List.forall_mem_cons.mpr ⟨Or.inr rfl, List.forall_mem_cons.mpr ⟨Or.inr rfl, List.forall_mem_cons.mpr ⟨Or.inr rfl, List.forall_mem_cons.mpr ⟨Or.inr rfl, List.forall_mem_cons.mpr ⟨Or.inr rfl, List.forall_mem_cons.mpr ⟨Or.inr rfl, List.forall_mem_cons.mpr ⟨Or.inr rfl, List.forall_mem_cons.mpr ⟨Or.inr rfl, List.forall_mem_cons.mpr ⟨Or.inr rfl, List.forall_mem_cons.mpr ⟨Or.inr rfl, List.forall_mem_cons.mpr ⟨Or.inr rfl, List.forall_mem_cons.mpr ⟨Or.inr rfl, List.forall_mem_cons.mpr ⟨Or.inr rfl, List.forall_mem_cons.mpr ⟨Or.inr rfl, fun _ h => absurd h List.not_mem_nil⟩⟩⟩⟩⟩⟩⟩⟩⟩⟩⟩⟩⟩⟩⟩⟩
theorem P_cc25 : ∀ y ∈ P_Y25, P_cw y := List.forall_mem_cons.mpr ⟨Or.inr rfl, List.forall_mem_cons.mpr ⟨Or.inr rfl, List.forall_mem_cons.mpr ⟨Or.inr rfl, List.forall_mem_cons.mpr ⟨Or.inr rfl, List.forall_mem_cons.mpr ⟨Or.inr rfl, List.forall_mem_cons.mpr ⟨Or.inr rfl, List.forall_mem_cons.mpr ⟨Or.inr rfl, List.forall_mem_cons.mpr ⟨Or.inr rfl, List.forall_mem_cons.mpr ⟨Or.inr rfl, List.forall_mem_cons.mpr ⟨Or.inr rfl, List.forall_mem_cons.mpr ⟨Or.inr rfl, List.forall_mem_cons.mpr ⟨Or.inr rfl, List.forall_mem_cons.mpr ⟨Or.inr rfl, List.forall_mem_cons.mpr ⟨Or.inr rfl, List.forall_mem_cons.mpr ⟨Or.inr rfl, List.forall_mem_cons.mpr ⟨Or.inr rfl, fun _ h => absurd h List.not_mem_nil⟩⟩⟩⟩⟩⟩⟩⟩⟩⟩⟩⟩⟩⟩⟩⟩
theorem P_cc26 : ∀ y ∈ P_Y26, P_cw y := List.forall_mem_cons.mpr ⟨Or.inr rfl, List.forall_mem_cons.mpr ⟨Or.inr rfl, List.forall_mem_cons.mpr ⟨Or.inr rfl, List.forall_mem_cons.mpr ⟨Or.inr rfl, List.forall_mem_cons.mpr ⟨Or.inr rfl, List.forall_mem_cons.mpr ⟨Or.inr rfl, List.forall_mem_cons.mpr ⟨Or.inr rfl, List.forall_mem_cons.mpr ⟨Or.inr rfl, List.forall_mem_cons.mpr ⟨Or.inr rfl, List.forall_mem_cons.mpr ⟨Or.inr rfl, List.forall_mem_cons.mpr ⟨Or.inr rfl, List.forall_mem_cons.mpr ⟨Or.inr rfl, List.forall_mem_cons.mpr ⟨Or.inr rfl, List.forall_mem_cons.mpr ⟨Or.inr rfl, List.forall_mem_cons.mpr ⟨Or.inr rfl, List.forall_mem_cons.mpr ⟨Or.inr rfl, fun _ h => absurd h List.not_mem_nil⟩⟩⟩⟩⟩⟩⟩⟩⟩⟩⟩⟩⟩⟩⟩⟩
theorem P_cc27 : ∀ y ∈ P_Y27, P_cw y := List.forall_mem_cons.mpr ⟨Or.inr rfl, List.forall_mem_cons.mpr ⟨Or.inr rfl, List.forall_mem_cons.mpr ⟨Or.inr rfl, List.forall_mem_cons.mpr ⟨Or.inr rfl, List.forall_mem_cons.mpr ⟨Or.inr rfl, List.forall_mem_cons.mpr ⟨Or.inr rfl, List.forall_mem_cons.mpr ⟨Or.inr rfl, List.forall_mem_cons.mpr ⟨Or.inr rfl, List.forall_mem_cons.mpr ⟨Or.inr rfl, List.forall_mem_cons.mpr ⟨Or.inr rfl, List.forall_mem_cons.mpr ⟨Or.inr rfl, List.forall_mem_cons.mpr ⟨Or.inr rfl, List.forall_mem_cons.mpr ⟨Or.inr rfl, List.forall_mem_cons.mpr ⟨Or.inr rfl, List.forall_mem_cons.mpr ⟨Or.inr rfl, List.forall_mem_cons.mpr ⟨Or.inr rfl, fun _ h => absurd h List.not_mem_nil⟩⟩⟩⟩⟩⟩⟩⟩⟩⟩⟩⟩⟩⟩⟩⟩
theorem P_cc28 : ∀ y ∈ P_Y28, P_cw y := List.forall_mem_cons.mpr ⟨Or.inr rfl, List.forall_mem_cons.mpr ⟨Or.inr rfl, List.forall_mem_cons.mpr ⟨Or.inr rfl, List.forall_mem_cons.mpr ⟨Or.inr rfl, List.forall_mem_cons.mpr ⟨Or.inr rfl, List.forall_mem_cons.mpr ⟨Or.inr rfl, List.forall_mem_cons.mpr ⟨Or.inr rfl, List.forall_mem_cons.mpr ⟨Or.inr rfl, List.forall_mem_cons.mpr ⟨Or.inr rfl, List.forall_mem_cons.mpr ⟨Or.inr rfl, List.forall_mem_cons.mpr ⟨Or.inr rfl, List.forall_mem_cons.mpr ⟨Or.inr rfl, List.forall_mem_cons.mpr ⟨Or.inr rfl, List.forall_mem_cons.mpr ⟨Or.inr rfl, List.forall_mem_cons.mpr ⟨Or.inr rfl, List.forall_mem_cons.mpr ⟨Or.inr rfl, fun _ h => absurd h List.not_mem_nil⟩⟩⟩⟩⟩⟩⟩⟩⟩⟩⟩⟩⟩⟩⟩⟩
theorem P_cc29 : ∀ y ∈ P_Y29, P_cw y := List.forall_mem_cons.mpr ⟨Or.inr rfl, List.forall_mem_cons.mpr ⟨Or.inr rfl, List.forall_mem_cons.mpr ⟨Or.inr rfl, List.forall_mem_cons.mpr ⟨Or.inr rfl, List.forall_mem_cons.mpr ⟨Or.inr rfl, List.forall_mem_cons.mpr ⟨Or.inr rfl, List.forall_mem_cons.mpr ⟨Or.inl rfl, fun _ h => absurd h List.not_mem_nil⟩⟩⟩⟩⟩⟩⟩
theorem P_at_mem {α : Type} {L : List (List α)} {d : α} {j : Nat} : sm_at L d j = d ∨ ∃ c ∈ L, sm_at L d j ∈ c := by
  unfold sm_at
  split
  · rename_i c hc
    split
    · rename_i x hx
      exact Or.inr ⟨c, List.mem_of_getElem? hc, List.mem_of_getElem? hx⟩
    · exact Or.inl rfl
  · exact Or.inl rfl
theorem P_cwAll (j : Nat) : P_cw (P_y j) := by
  rcases P_at_mem (L := P_YL) (d := (⟨"HandleHouse", "<init>", "()V"⟩, prog_1_method_1_code, 1, none, 0, 0, 0, 0, 0, 0, 0)) (j := j) with h | ⟨c, hc, h⟩
  · exact Or.inl (by show (sm_at P_YL _ j).2.2.2.2.2.1 = 0; rw [h])
  · have h : P_y j ∈ c := h
    unfold P_YL at hc
    simp only [List.mem_cons, List.not_mem_nil, or_false] at hc
    rcases hc with rfl | rfl | rfl | rfl | rfl | rfl | rfl | rfl | rfl | rfl | rfl | rfl | rfl | rfl | rfl | rfl | rfl | rfl | rfl | rfl | rfl | rfl | rfl | rfl | rfl | rfl | rfl | rfl | rfl | rfl
    · exact P_cc0 _ h
    · exact P_cc1 _ h
    · exact P_cc2 _ h
    · exact P_cc3 _ h
    · exact P_cc4 _ h
    · exact P_cc5 _ h
    · exact P_cc6 _ h
    · exact P_cc7 _ h
    · exact P_cc8 _ h
    · exact P_cc9 _ h
    · exact P_cc10 _ h
    · exact P_cc11 _ h
    · exact P_cc12 _ h
    · exact P_cc13 _ h
    · exact P_cc14 _ h
    · exact P_cc15 _ h
    · exact P_cc16 _ h
    · exact P_cc17 _ h
    · exact P_cc18 _ h
    · exact P_cc19 _ h
    · exact P_cc20 _ h
    · exact P_cc21 _ h
    · exact P_cc22 _ h
    · exact P_cc23 _ h
    · exact P_cc24 _ h
    · exact P_cc25 _ h
    · exact P_cc26 _ h
    · exact P_cc27 _ h
    · exact P_cc28 _ h
    · exact P_cc29 _ h
theorem P_fc0 : ((List.range' 0 40).all fun j => P_fk j) = true := by decide +kernel
theorem P_fc1 : ((List.range' 40 40).all fun j => P_fk j) = true := by decide +kernel
theorem P_fc2 : ((List.range' 80 40).all fun j => P_fk j) = true := by decide +kernel
theorem P_fc3 : ((List.range' 120 40).all fun j => P_fk j) = true := by decide +kernel
theorem P_fc4 : ((List.range' 160 40).all fun j => P_fk j) = true := by decide +kernel
theorem P_fc5 : ((List.range' 200 40).all fun j => P_fk j) = true := by decide +kernel
theorem P_fc6 : ((List.range' 240 40).all fun j => P_fk j) = true := by decide +kernel
theorem P_fc7 : ((List.range' 280 40).all fun j => P_fk j) = true := by decide +kernel
theorem P_fc8 : ((List.range' 320 40).all fun j => P_fk j) = true := by decide +kernel
theorem P_fc9 : ((List.range' 360 40).all fun j => P_fk j) = true := by decide +kernel
theorem P_fc10 : ((List.range' 400 40).all fun j => P_fk j) = true := by decide +kernel
theorem P_fc11 : ((List.range' 440 31).all fun j => P_fk j) = true := by decide +kernel
theorem P_fpick {a m : Nat} (h : ((List.range' a m).all fun j => P_fk j) = true) {j : Nat} (h1 : a ≤ j) (h2 : j < a + m) : P_fk j = true := List.all_eq_true.mp h j (List.mem_range'_1.mpr ⟨h1, h2⟩)
theorem P_far {j : Nat} (h : 471 ≤ j) : P_y j = (⟨"HandleHouse", "<init>", "()V"⟩, prog_1_method_1_code, 1, none, 0, 0, 0, 0, 0, 0, 0) ∧ P_TT j = [] := by
  rcases Nat.lt_or_ge j 480 with h2 | h2
  · have : j = 471 ∨ j = 472 ∨ j = 473 ∨ j = 474 ∨ j = 475 ∨ j = 476 ∨ j = 477 ∨ j = 478 ∨ j = 479 := by omega
    rcases this with rfl | rfl | rfl | rfl | rfl | rfl | rfl | rfl | rfl <;> exact ⟨rfl, rfl⟩
  · have hd : 30 ≤ j / 16 := by omega
    have e1 : P_YL[j / 16]? = none := List.getElem?_eq_none hd
    have e2 : P_TL[j / 16]? = none := List.getElem?_eq_none hd
    refine ⟨?_, ?_⟩
    · unfold P_y sm_at
      rw [e1]
    · unfold P_TT sm_at
      rw [e2]
theorem P_fall (j : Nat) (hj : j < 471) : P_fk j = true := by
  rcases Nat.lt_or_ge j 40 with h40 | h40
  · exact P_fpick P_fc0 (by omega) (by omega)
  rcases Nat.lt_or_ge j 80 with h80 | h80
  · exact P_fpick P_fc1 (by omega) (by omega)
  rcases Nat.lt_or_ge j 120 with h120 | h120
  · exact P_fpick P_fc2 (by omega) (by omega)
  rcases Nat.lt_or_ge j 160 with h160 | h160
  · exact P_fpick P_fc3 (by omega) (by omega)
  rcases Nat.lt_or_ge j 200 with h200 | h200
  · exact P_fpick P_fc4 (by omega) (by omega)
  rcases Nat.lt_or_ge j 240 with h240 | h240
  · exact P_fpick P_fc5 (by omega) (by omega)
  rcases Nat.lt_or_ge j 280 with h280 | h280
  · exact P_fpick P_fc6 (by omega) (by omega)
  rcases Nat.lt_or_ge j 320 with h320 | h320
  · exact P_fpick P_fc7 (by omega) (by omega)
  rcases Nat.lt_or_ge j 360 with h360 | h360
  · exact P_fpick P_fc8 (by omega) (by omega)
  rcases Nat.lt_or_ge j 400 with h400 | h400
  · exact P_fpick P_fc9 (by omega) (by omega)
  rcases Nat.lt_or_ge j 440 with h440 | h440
  · exact P_fpick P_fc10 (by omega) (by omega)
  rcases Nat.lt_or_ge j 471 with h471 | h471
  · exact P_fpick P_fc11 (by omega) (by omega)
  omega
theorem P_plain (j : Nat) : plainName (P_Y.1 j).cls = true := by
  rcases Nat.lt_or_ge j 471 with h | h
  · have z := P_fall j h
    unfold P_fk at z
    rw [Bool.and_eq_true] at z
    exact z.2
  · show plainName (P_y j).1.cls = true
    rw [(P_far h).1]
    decide +kernel
theorem P_allOk (j : Nat) : sm_mok P_K P_CL P_F 8 P_Y P_TT j = true := by
  rcases Nat.lt_or_ge j 471 with h | h
  · exact P_all j h
  · unfold sm_mok
    rw [(P_far h).2]
    rfl
theorem P_flag {j k : Nat} (hk : (P_y j).2.2.2.2.2.1 = k) (h0 : k ≠ 0) : sm_yok P_Ts P_Y j (P_y j).2.2.2.2.2.2.1 ∧ P_fz k j = true := by
  rcases Nat.lt_or_ge j 471 with h | h
  · have z := P_fall j h
    unfold P_fk at z
    rw [Bool.and_eq_true] at z
    have z := z.1
    rw [hk] at z
    split at z
    · exact absurd rfl h0
    · simp only [Bool.and_eq_true, decide_eq_true_eq] at z
      obtain ⟨⟨⟨z2, ⟨z3, z4⟩, z5⟩, z6⟩, z7⟩ := z
      have z1 := (P_cwAll j).resolve_left (by rw [hk]; exact h0)
      exact ⟨⟨P_tw_in z1, P_tw_in z2, ⟨z3, z4, z5⟩, Nat.le_of_ble_eq_true z6⟩, z7⟩
  · rw [(P_far h).1] at hk
    exact absurd hk.symm h0
def P_pf : List (List Nat) := [[1213, 1215, 1217, 1219, 1221, 1223, 1225, 1227, 1229, 1231, 1233, 1235, 1237, 1239, 2001], [1096, 1098, 1100, 1102, 1104, 1106, 1108, 1110, 1112, 1114, 1116, 1118], [1039, 1041, 1043, 1045], [2077, 2079, 2081, 2083, 2085, 2087, 2089, 2091, 2093, 2095, 2097, 2099, 2101], [2027, 2029, 2031, 2033, 2035, 2037, 2039, 2041, 2043, 2045, 2047, 2049, 2051, 2053, 2055], [1193, 1195], [1156, 1158, 1160, 1162, 1164, 1166, 1168, 1170, 1172, 1174, 1176], [2187, 2189, 2191, 2193, 2195, 2197, 2199, 2201, 2203, 2205, 2207, 2209, 2211, 2213, 2215, 2217, 2219, 2221, 2223], [1140, 1142], [1063, 1065, 1067, 1069, 1071, 1073, 1075], [2121, 2123, 2125, 2127, 2129, 2131, 2133, 2135, 2137, 2139, 2141], [3001, 3003, 3005, 3007, 3009, 3011, 3013, 3015, 3017, 3019, 3021, 3023, 3025], [9026, 9028, 9030, 9032, 9034, 9036, 9038, 9040, 9042, 9044, 9046, 9048, 9050, 9052, 9054, 9056, 9058, 9060, 9062, 9064, 9066, 9068, 9070, 9072, 9074, 9076, 9078, 9080, 9082, 9084, 9086, 9088, 9090, 9092, 9094, 9096, 9098, 9100, 9102, 9104, 9106, 9108, 9110, 9112, 9114, 9116, 9118, 9120, 9122, 9124, 9126, 9128, 9130, 9132, 9134, 9136, 9138, 9140, 9142, 9144, 9146, 9148, 9150, 9152, 9154, 9156, 9158, 9160, 9162, 9164, 9166, 9168, 9170, 9172, 9174, 9176, 9178, 9180, 9182, 9184, 9186, 9188, 9190, 9192, 9194, 9196, 9198, 9200, 9202, 9204, 9206, 9208, 9210, 9212, 9214, 9216, 9218, 9220, 9222, 9224, 9226, 9228, 9230, 9232, 9234, 9236, 9238, 10000, 10002, 10004, 10006, 10008]]
def P_ci : List (Nat × Nat) := [(1180, 1008), (1079, 1004), (1030, 1002), (2059, 1011), (2005, 1010), (1186, 1009), (1123, 1005), (2145, 1013), (1130, 1006), (1051, 1003), (2105, 1012), (1022, 1001), (8149, 1014)]
def P_ty0 : Nat → FieldType := fun k => ([(.object "HandleHouse$Kinds"), (.object "HandleHouse$Types"), (.object "HandleHouse$Handles"), (.object "HandleHouse$Store"), (.object "HandleHouse$Row"), (.array .int), .int, .int, .int, .int, .long, (.object "HandleHouse$Row"), .int, .int, .int] : List FieldType).getD k .int
def P_ty1 : Nat → FieldType := fun k => ([(.object "HandleHouse$Types"), (.array .int), (.array .int), (.array .int), (.array .long), (.array .int), (.array .int), (.array .int), (.array .int), (.array .int), (.array .int), .int] : List FieldType).getD k .int
def P_ty2 : Nat → FieldType := fun k => ([(.array .boolean), (.array .int), (.array .int), .int] : List FieldType).getD k .int
def P_ty3 : Nat → FieldType := fun k => ([(.object "HandleHouse$Kinds"), (.object "HandleHouse$Types"), (.object "HandleHouse$Handles"), (.object "HandleHouse$Store"), (.object "HandleHouse$Members"), (.array .long), (.array .int), .int, .int, .long, .int, .int, .int] : List FieldType).getD k .int
def P_ty4 : Nat → FieldType := fun k => ([(.object "HandleHouse$Kinds"), (.object "HandleHouse$Types"), (.object "HandleHouse$Handles"), (.object "HandleHouse$Forms"), (.array .int), (.array .int), (.array .int), (.array .boolean), (.array .int), (.array .int), (.array .int), (.array .int), (.object "HandleHouse$Row"), .int, .int] : List FieldType).getD k .int
def P_ty5 : Nat → FieldType := fun k => ([(.array .int), .int] : List FieldType).getD k .int
def P_ty6 : Nat → FieldType := fun k => ([(.object "HandleHouse$Kinds"), (.array (.object "HandleHouse$Thing")), .int, (.object "HandleHouse$Thing"), (.object "HandleHouse$Thing"), (.object "HandleHouse$Thing"), .int, (.array .int), .int, (.array .boolean), .int] : List FieldType).getD k .int
def P_ty7 : Nat → FieldType := fun k => ([(.object "HandleHouse$Forms"), (.object "HandleHouse$Kinds"), (.object "HandleHouse$Types"), (.object "HandleHouse$Handles"), (.object "HandleHouse$Store"), (.object "HandleHouse$Words"), (.object "HandleHouse$Row"), (.array .long), (.array .int), .int, (.array .int), (.array .long), .int, (.array .long), (.array .int), .int, .int, .int, .int] : List FieldType).getD k .int
def P_ty8 : Nat → FieldType := fun k => ([(.array .long), (.array .int)] : List FieldType).getD k .int
def P_ty9 : Nat → FieldType := fun k => ([(.object "HandleHouse$Kinds"), (.array .int), (.array .int), (.array .int), .int, (.array .int), .int] : List FieldType).getD k .int
def P_ty10 : Nat → FieldType := fun k => ([(.array .int), .int, (.array .int), .int, .int, .int, .int, .int, .long, .int, .long] : List FieldType).getD k .int
def P_ty11 : Nat → FieldType := fun k => ([(.object "HandleHouse$Kinds"), (.object "HandleHouse$Types"), (.object "HandleHouse$Handles"), (.object "HandleHouse$Store"), (.object "HandleHouse$Forms"), (.object "HandleHouse$Members"), (.object "HandleHouse$Machine"), (.object "HandleHouse$Words"), (.object "HandleHouse$Texts"), (.object "HandleHouse$Row"), (.array .long), .int, .int] : List FieldType).getD k .int
def P_ty12 : Nat → FieldType := fun k => ([(.array .int), .int, (.array .int), .int, (.array .int), (.array .int), .int, (.array .int), (.array .int), (.array .int), .int, (.array .int), (.array .int), (.array .int), (.array .int), (.array .long), (.array .int), (.array .int), .int, .int, .int, .int, (.array .int), (.array .int), (.array .int), (.array .int), (.array .boolean), (.array .boolean), (.array .int), (.array .int), (.array .int), (.array .int), .int, .int, (.array .int), .int, (.array .boolean), .int, (.array .int), (.array .long), .int, (.array .int), (.array .int), (.array .int), (.array .long), .int, (.array .int), (.array .long), .int, .long, (.array .int), (.array .int), (.array .int), (.array .int), (.array .int), (.array .int), .int, (.array .int), (.array .long), .int, .int, .long, .boolean, .boolean, .int, .int, .int, (.array .long), .int, .int, .int, .int, .long, .int, (.array .int), (.array .int), .int, .int, .int, .int, .int, .int, .int, .long, .long, .int, .int, (.array .long), (.array .int), (.array .int), (.array .int), .int, (.array .long), (.array .int), .int, (.array .int), (.array .int), (.array .int), (.array .int), (.array .int), (.array .int), (.array .int), .int, (.array .long), .int, .int, .int, (.array .int), .long, (.array .int), (.array .int), (.array .long)] : List FieldType).getD k .int
def P_cfk (ci : Nat) (q : vw_C) (ty : Nat → FieldType) : Bool := decide ((P_pf.getD ci []).map P_tw = (u_ws q.1 q.2.1 q.2.2).map some) && Nat.beq (P_F.1 ci) q.2.2 && ((List.range q.2.2).all fun k => decide (parseFieldDescriptor (q.2.1 k).2.2.1 = some (ty k)) && Nat.beq (sm_tt (ty k)) (P_F.2 ci k) && Nat.blt (P_F.2 ci k) 4 && decide ((q.2.1 k).1 = q.1)) && decide (P_tw (P_ci.getD ci (0, 0)).1 = some (.instantiable q.1 q.2.2)) && decide (P_tw (P_ci.getD ci (0, 0)).2 = some (.initialized q.1))
theorem P_cfk_ok {ci : Nat} {q : vw_C} {ty : Nat → FieldType} (h : P_cfk ci q ty = true) : P_F.1 ci = q.2.2 ∧ (∀ w ∈ u_ws q.1 q.2.1 q.2.2, w ∈ P_Ts) ∧ (∀ k, k < q.2.2 → parseFieldDescriptor (q.2.1 k).2.2.1 = some (ty k) ∧ sm_tt (ty k) = P_F.2 ci k ∧ P_F.2 ci k < 4 ∧ (q.2.1 k).1 = q.1) ∧ Cond.instantiable q.1 q.2.2 ∈ P_Ts ∧ Cond.initialized q.1 ∈ P_Ts := by
  unfold P_cfk at h
  simp only [Bool.and_eq_true, decide_eq_true_eq, List.all_eq_true, List.mem_range] at h
  obtain ⟨⟨⟨⟨h1, h2⟩, h3⟩, h4⟩, h5⟩ := h
  refine ⟨Nat.eq_of_beq_eq_true h2, fun w hw => ?_, fun k hk => ?_, P_tw_in h4, P_tw_in h5⟩
  · have : some w ∈ (u_ws q.1 q.2.1 q.2.2).map some := List.mem_map.mpr ⟨w, hw, rfl⟩
    rw [← h1] at this
    obtain ⟨p, -, hp⟩ := List.mem_map.mp this
    exact P_tw_in hp
  · obtain ⟨⟨⟨a, b⟩, c⟩, d⟩ := h3 k hk
    exact ⟨a, Nat.eq_of_beq_eq_true b, Nat.blt_eq.mp c, d⟩
theorem P_cf0 : P_cfk 0 ("HandleHouse$Forms", P_T0, 15) P_ty0 = true := by decide +kernel
theorem P_nd0 : ∀ a, a < 15 → ∀ b, b < 15 → a ≠ b → (P_T0 a).2.1 ≠ (P_T0 b).2.1 := by decide +kernel
theorem P_cf1 : P_cfk 1 ("HandleHouse$Handles", P_T1, 12) P_ty1 = true := by decide +kernel
theorem P_nd1 : ∀ a, a < 12 → ∀ b, b < 12 → a ≠ b → (P_T1 a).2.1 ≠ (P_T1 b).2.1 := by decide +kernel
theorem P_cf2 : P_cfk 2 ("HandleHouse$Kinds", P_T2, 4) P_ty2 = true := by decide +kernel
theorem P_nd2 : ∀ a, a < 4 → ∀ b, b < 4 → a ≠ b → (P_T2 a).2.1 ≠ (P_T2 b).2.1 := by decide +kernel
theorem P_cf3 : P_cfk 3 ("HandleHouse$Machine", P_T3, 13) P_ty3 = true := by decide +kernel
theorem P_nd3 : ∀ a, a < 13 → ∀ b, b < 13 → a ≠ b → (P_T3 a).2.1 ≠ (P_T3 b).2.1 := by decide +kernel
theorem P_cf4 : P_cfk 4 ("HandleHouse$Members", P_T4, 15) P_ty4 = true := by decide +kernel
theorem P_nd4 : ∀ a, a < 15 → ∀ b, b < 15 → a ≠ b → (P_T4 a).2.1 ≠ (P_T4 b).2.1 := by decide +kernel
theorem P_cf5 : P_cfk 5 ("HandleHouse$Row", P_T5, 2) P_ty5 = true := by decide +kernel
theorem P_nd5 : ∀ a, a < 2 → ∀ b, b < 2 → a ≠ b → (P_T5 a).2.1 ≠ (P_T5 b).2.1 := by decide +kernel
theorem P_cf6 : P_cfk 6 ("HandleHouse$Store", P_T6, 11) P_ty6 = true := by decide +kernel
theorem P_nd6 : ∀ a, a < 11 → ∀ b, b < 11 → a ≠ b → (P_T6 a).2.1 ≠ (P_T6 b).2.1 := by decide +kernel
theorem P_cf7 : P_cfk 7 ("HandleHouse$Texts", P_T7, 19) P_ty7 = true := by decide +kernel
theorem P_nd7 : ∀ a, a < 19 → ∀ b, b < 19 → a ≠ b → (P_T7 a).2.1 ≠ (P_T7 b).2.1 := by decide +kernel
theorem P_cf8 : P_cfk 8 ("HandleHouse$Thing", P_T8, 2) P_ty8 = true := by decide +kernel
theorem P_nd8 : ∀ a, a < 2 → ∀ b, b < 2 → a ≠ b → (P_T8 a).2.1 ≠ (P_T8 b).2.1 := by decide +kernel
theorem P_cf9 : P_cfk 9 ("HandleHouse$Types", P_T9, 7) P_ty9 = true := by decide +kernel
theorem P_nd9 : ∀ a, a < 7 → ∀ b, b < 7 → a ≠ b → (P_T9 a).2.1 ≠ (P_T9 b).2.1 := by decide +kernel
theorem P_cf10 : P_cfk 10 ("HandleHouse$Words", P_T10, 11) P_ty10 = true := by decide +kernel
theorem P_nd10 : ∀ a, a < 11 → ∀ b, b < 11 → a ≠ b → (P_T10 a).2.1 ≠ (P_T10 b).2.1 := by decide +kernel
theorem P_cf11 : P_cfk 11 ("HandleHouse", P_T11, 13) P_ty11 = true := by decide +kernel
theorem P_nd11 : ∀ a, a < 13 → ∀ b, b < 13 → a ≠ b → (P_T11 a).2.1 ≠ (P_T11 b).2.1 := by decide +kernel
theorem P_cf12 : P_cfk 12 ("HandleHouseModel", P_T12, 112) P_ty12 = true := by decide +kernel
theorem P_nd12 : ∀ a, a < 112 → ∀ b, b < 112 → a ≠ b → (P_T12 a).2.1 ≠ (P_T12 b).2.1 := by decide +kernel
theorem P_CFall : ∀ (ci : Nat) (q : vw_C), P_CL[ci]? = some q → ∃ ty, ci < 100 ∧ P_cfk ci q ty = true ∧ (∀ a, a < q.2.2 → ∀ b, b < q.2.2 → a ≠ b → (q.2.1 a).2.1 ≠ (q.2.1 b).2.1) := by
  intro ci q h
  have hl : ci < 13 := (List.getElem?_eq_some_iff.mp h).1
  have : ci = 0 ∨ ci = 1 ∨ ci = 2 ∨ ci = 3 ∨ ci = 4 ∨ ci = 5 ∨ ci = 6 ∨ ci = 7 ∨ ci = 8 ∨ ci = 9 ∨ ci = 10 ∨ ci = 11 ∨ ci = 12 := by omega
  rcases this with rfl | rfl | rfl | rfl | rfl | rfl | rfl | rfl | rfl | rfl | rfl | rfl | rfl
  · cases h; exact ⟨P_ty0, by decide, P_cf0, P_nd0⟩
  · cases h; exact ⟨P_ty1, by decide, P_cf1, P_nd1⟩
  · cases h; exact ⟨P_ty2, by decide, P_cf2, P_nd2⟩
  · cases h; exact ⟨P_ty3, by decide, P_cf3, P_nd3⟩
  · cases h; exact ⟨P_ty4, by decide, P_cf4, P_nd4⟩
  · cases h; exact ⟨P_ty5, by decide, P_cf5, P_nd5⟩
  · cases h; exact ⟨P_ty6, by decide, P_cf6, P_nd6⟩
  · cases h; exact ⟨P_ty7, by decide, P_cf7, P_nd7⟩
  · cases h; exact ⟨P_ty8, by decide, P_cf8, P_nd8⟩
  · cases h; exact ⟨P_ty9, by decide, P_cf9, P_nd9⟩
  · cases h; exact ⟨P_ty10, by decide, P_cf10, P_nd10⟩
  · cases h; exact ⟨P_ty11, by decide, P_cf11, P_nd11⟩
  · cases h; exact ⟨P_ty12, by decide, P_cf12, P_nd12⟩
theorem P_CF : sm_CF P_CL P_F P_Ts := by
  intro ci C T N h
  obtain ⟨ty, h1, h2, h3⟩ := P_CFall ci _ h
  obtain ⟨a1, a2, a3, -, -⟩ := P_cfk_ok h2
  exact ⟨h1, a1, a2, ⟨ty, fun k hk => (a3 k hk).1, fun k hk => ⟨(a3 k hk).2.1, (a3 k hk).2.2.1⟩⟩, h3, fun k hk => (a3 k hk).2.2.2⟩
theorem P_w_arr_int : Cond.arrayClass .int ∈ P_Ts := P_tw_in (q := 1049) (by decide +kernel)
theorem P_w_arr_long : Cond.arrayClass .long ∈ P_Ts := P_tw_in (q := 1121) (by decide +kernel)
theorem P_w_arr_boolean : Cond.arrayClass .boolean ∈ P_Ts := P_tw_in (q := 1048) (by decide +kernel)
theorem P_w_nat : Cond.native arraycopyName ∈ P_Ts := P_tw_in (q := 3095) (by decide +kernel)
theorem P_w_sta : Cond.static arraycopyName ∈ P_Ts := P_tw_in (q := 3094) (by decide +kernel)
theorem P_w_sys : Cond.initialized "java/lang/System" ∈ P_Ts := P_tw_in (q := 1015) (by decide +kernel)
theorem P_w_oi : Cond.instanceMethod Lib.objectInit ∈ P_Ts := P_tw_in (q := 1027) (by decide +kernel)
theorem P_w_oc : Cond.code Lib.objectInit ⟨#[0xb1]⟩ 1 none ∈ P_Ts := P_tw_in (q := 1028) (by decide +kernel)
theorem P_w_st_max : Cond.static Lib.Math.max.name ∈ P_Ts := P_tw_in (q := 1136) (by decide +kernel)
theorem P_w_co_max : Cond.code Lib.Math.max.name Lib.Math.max.code 2 (some .int) ∈ P_Ts := P_tw_in (q := 1137) (by decide +kernel)
theorem P_w_st_min : Cond.static Lib.Math.min.name ∈ P_Ts := P_tw_in (q := 6038) (by decide +kernel)
theorem P_w_co_min : Cond.code Lib.Math.min.name Lib.Math.min.code 2 (some .int) ∈ P_Ts := P_tw_in (q := 6039) (by decide +kernel)
theorem P_w_math : Cond.initialized "java/lang/Math" ∈ P_Ts := P_tw_in (q := 1007) (by decide +kernel)
