/-! every method that the simple machine runs keeps its contract -/
theorem sm_ent_len (ad : Nat → Nat) : ∀ As : List Value, (lg_sl (As.map (sm_r ad))).length = (sm_ent As).length := by
  intro As
  induction As with
  | nil => rfl
  | cons v l ih =>
    have e : lg_sl ((v :: l).map (sm_r ad)) = (if (sm_r ad v).category = 2 then [.val (sm_r ad v), .second] else [.val (sm_r ad v)]) ++ lg_sl (l.map (sm_r ad)) := by
      unfold lg_sl
      rw [List.map_cons, List.flatMap_cons]
    rw [e, List.length_append, ih]
    cases v <;> simp [sm_ent, sm_r, Value.category] <;> omega
theorem sm_ent_args (ad : Nat → Nat) : ∀ (As : List Value) (k j : Nat) (v : Value), (sm_ent As)[j]? = some (some v) → (k + j, sm_r ad v) ∈ lv_args k (As.map (sm_r ad)) := by
  intro As
  induction As with
  | nil => intro k j v h; simp [sm_ent] at h
  | cons a l ih =>
    intro k j v h
    rw [List.map_cons]
    unfold lv_args
    rw [sm_r_cat]
    cases hc : j with
    | zero =>
      subst hc
      have : v = a := by
        unfold sm_ent at h
        split at h <;> simp at h <;> exact h.symm
      subst this
      exact List.mem_cons_self
    | succ j' =>
      subst hc
      refine List.mem_cons_of_mem _ ?_
      unfold sm_ent at h
      split at h
      · cases j' with
        | zero => simp at h
        | succ j2 =>
          have h2 : (sm_ent l)[j2]? = some (some v) := by simpa using h
          have := ih (k + 2) j2 v h2
          rw [show k + 2 + j2 = k + (j2 + 1 + 1) by omega] at this
          exact this
      · cases j' with
        | zero => simp at h
        | succ j2 =>
          have h2 : (sm_ent l)[j2]? = some (some v) := by simpa using h
          have := ih (k + 2) j2 v h2
          rw [show k + 2 + j2 = k + (j2 + 1 + 1) by omega] at this
          exact this
      · rename_i n1 n2
        have h2 : (sm_ent l)[j']? = some (some v) := by simpa using h
        have := ih (k + 1) j' v h2
        rw [show k + 1 + j' = k + (j' + 1) by omega] at this
        have hcat : a.category = 1 := by
          cases a with
          | long x => exact absurd rfl (n1 x)
          | double x => exact absurd rfl (n2 x)
          | _ => rfl
        rw [hcat]
        exact this
/-- a return fits the method's kind of answer -/
def sm_rk (r : Option FieldType) (rt : Nat) (ins : Instr) : Prop := match ins with
  | .ireturn => r = some .int ∨ (r = some .boolean ∧ rt = 3)
  | .lreturn => r = some .long
  | .areturn => ∃ n, r = some (.object n)
  | .return_ => r = none
  | _ => True
section SMmets
variable {G : sm_G} {F : sm_F} {kA : Nat → ClassId} {D : va_G} {CL : List vw_C} {eT : String} {X : sm_X} {Ts : List Cond} {Y : sm_Y} {T : Nat → Nat → Option sm_I}
/-- all that must be right of the program's tables -/
def sm_Prog (G : sm_G) (F : sm_F) (CL : List vw_C) (eT : String) (X : sm_X) (Ts : List Cond) (Y : sm_Y) (T : Nat → Nat → Option sm_I) : Prop :=
  (∀ w ∈ Ts, (w.onTables && w.keeps) = true ∨ ∃ ty, w = .arrayClass ty) ∧ sm_CF CL F Ts ∧ sm_Xok X ∧ (∀ (h : sm_H) a k, sm_cl G h a = 103 → G.2.2.2.1 a k = none) ∧ nativeFrameWords "java/lang/System" "arraycopy" 5 ≤ 40 ∧
  (∀ j, plainName (Y.1 j).cls = true) ∧ (∀ j pc i, T j pc = some i → sm_okc i ∧ sm_val Ts CL F eT X Y (Y.1 j).cls ((Y.1 j).name = "<init>") (Y.2.1 j) (Y.2.2.1 j) pc i ∧ sm_rk (Y.2.2.2.1 j) (Y.2.2.2.2 j) i.1)
/-- the one call of the library that is taken as one step: String.indexOf of the one constant -/
def sm_Ix (l : Launch) (G : sm_G) (X : sm_X) (Ts : List Cond) (Y : sm_Y) (T : Nat → Nat → Option sm_I) : Prop := ∀ (j d : Nat) (p : Program) (e : Env) (R : Room) (s : State) (m : MethodId) (args : Array Value) (below : List Frame) (meth : Method) (c : Code) (Q : State → Prop) (A : Nat → Prop) (pc : Nat) (i : sm_I) (idx : Nat) (H : Heap) (locs : List Loc) (cells slots : Nat) (ls : Array Slot) (ad : Nat → Nat) (x : Int32) (rest : List Value),
  p.tables.exec = Jvm.exec → c.code = Y.2.1 j → c.maxLocals = Y.2.2.1 j → s.vm.findClass (Y.1 j).cls = some m.cls → (∀ w ∈ Ts, w.before args s = true) → d + 7 ≤ R.frames → 80 * (d + 7) ≤ R.locals → (∀ q, s.heap.size ≤ q → A q) → T j pc = some i → i.1 = .invokevirtual idx → i.2.2.2.1 = 200 → sm_stat G X A ad s → va_S A s.heap H locs → ls.size = Y.2.2.1 j → (cells ≤ R.cells ∧ slots ≤ R.slots) → (rest.map fun v => v.category).sum ≤ 8 → W p l e R s m args below meth c H locs cells slots Q (F0 m (pc + 3) ls (.int (G.2.2.2.2.2.2 x) :: rest)) → W p l e R s m args below meth c H locs cells slots Q (F0 m pc ls (.int x :: .ref (ad 3000000) :: rest))
theorem sm_mets {l : Launch} (hPr : sm_Prog G F CL eT X Ts Y T) (hIx : sm_Ix l G X Ts Y T) : ∀ d, sm_Met l G F kA D CL eT X Ts Y d (sm_run G T Y.2.2.1 Y.2.2.2.2 d) := by
  obtain ⟨hgood, hCF, hX, hfr, hnw, hpl, hT⟩ := hPr
  intro d
  induction d with
  | zero => intro j As h res e; exact e.elim
  | succ d ih =>
    intro j As h res eR ho hAs hbig hsl ad sz
    obtain ⟨hlen, n, g⟩ := eR
    have hcok : sm_okcall G (sm_run G T Y.2.2.1 Y.2.2.2.2 d) := sm_run_ok hfr (fun j pc i q => (hT j pc i q).1) d
    have hmono := sm_go_ok hfr hcok (fun pc i q => (hT j pc i q).1) n _ _ _ _ _ ⟨ho, sm_ent_okl hAs _, fun v q => by cases q⟩ g
    refine Met.ofW (cc := Y.2.1 j) (maxL := Y.2.2.1 j) (ret := Y.2.2.2.1 j) (hpl j) rfl ?_
    intro p e s m args below meth c s₁ B hml hv
    obtain ⟨rfl, hsz, hP, hK, hD0, hst0⟩ := hv
    have hx := B.exec
    have hb := B.bytes
    have hr := B.returns
    have hts0 := atoms_spec (ws := sm_W Ts Y j) B.pre
    have hts : ∀ w ∈ Ts, w.before (As.map (sm_r ad)).toArray s = true := fun w hw => hts0 w (List.mem_cons_of_mem _ hw)
    have hown : s.vm.findClass (Y.1 j).cls = some m.cls := findClass_of_methodNamed B.named
    have hlocks := B.notSynchronized
    have hin : meth.name = (Y.1 j).name := (name_of_methodNamed B.named B.method).1
    subst hsz
    have hD := hD0.self (sz := s.heap.size)
    generalize hAe : va_A (sm_ws G F kA h ad) s.heap.size = A at hD hst0 ⊢
    have hA : ∀ q : Nat, s.heap.size ≤ q → A q := fun q h => by rw [← hAe]; exact Or.inr h
    have hS : va_S A s.heap s.heap [] := va_S.rf
    have hl0 := lv_entry (As.map (sm_r ad)) (n := Y.2.2.1 j) (by rw [sm_ent_len]; exact hlen)
    rw [lg_entry_eq]
    generalize (lg_sl (As.map (sm_r ad)) ++ List.replicate (Y.2.2.1 j - (lg_sl (As.map (sm_r ad))).length) Slot.unset).toArray = ls at hl0 ⊢
    have hL : sm_Lr ls (Y.2.2.1 j) (sm_ent As ++ List.replicate (Y.2.2.1 j - (sm_ent As).length) none) ad := by
      refine ⟨hl0.1, hl0.2.1, fun k v e => ?_⟩
      rw [List.getElem?_append] at e
      split at e
      · have := sm_ent_args ad As 0 k v e
        rw [Nat.zero_add] at this
        exact hl0.2.2 _ this
      · have := List.mem_of_getElem? e
        have := List.eq_of_mem_replicate this
        cases this
    have key := sm_main (p := p) (l := l) (e := e) (R := sm_RM (d + 1) h res) (s := s) (m := m) (args := (As.map (sm_r ad)).toArray) (below := below) (meth := meth) (c := c) (Q := MQ below (sm_Post G F kA D CL ad h res A) (As.map (sm_r ad)).toArray s (res.2.n - h.n) (res.2.sl - h.sl) A)
      (G := G) (F := F) (kA := kA) (D := D) (CL := CL) (eT := eT) (X := X) (Ts := Ts) (Y := Y) (own := (Y.1 j).cls) (isI := (Y.1 j).name = "<init>") (cc := Y.2.1 j) (nL := Y.2.2.1 j) (d := d) (rt := Y.2.2.2.2 j) (n0 := h.n) (s0 := h.sl) (b0 := 0) (b1 := 0) (N0 := G.1 + h.n) (T := T j) (call := sm_run G T Y.2.2.1 Y.2.2.2.2 d) (A := A) (ad0 := ad) (res := res)
      hx hb hml hown hts hgood hCF hK hA hX (fun q => hin.trans q) (fun pc i q => ⟨(hT j pc i q).1, (hT j pc i q).2.1⟩) hfr hcok ih (by have e : (sm_RM (d + 1) h res).frames = d + 1 + 6 := rfl; omega) (by have e : (sm_RM (d + 1) h res).locals = 80 * (d + 1 + 6) := rfl; omega) (by have : h.n ≤ res.2.n := hmono.2.1; show res.2.n + 0 ≤ res.2.n - h.n + h.n; omega) (by have : h.sl ≤ res.2.sl := hmono.2.2.1; show res.2.sl + 0 ≤ res.2.sl - h.sl + h.sl; omega) hsl hnw hbig
      (fun pc i idx H locs cells slots ls ad x rest q1 q2 q3 q4 q5 q6 q7 q8 q9 => hIx j d p e (sm_RM (d + 1) h res) s m _ below meth c _ A pc i idx H locs cells slots ls ad x rest hx hb hml hown hts (by have e : (sm_RM (d + 1) h res).frames = d + 1 + 6 := rfl; omega) (by have e : (sm_RM (d + 1) h res).locals = 80 * (d + 1 + 6) := rfl; omega) hA q1 q2 q3 q4 q5 q6 q7 q8 q9) ?_
      n 0 _ [] h g ad s.heap [] 0 0 ls ⟨⟨ho, sm_ent_okl hAs _, fun v q => by cases q⟩, hP, hD, hS, hL, fun _ _ => rfl, Nat.le_refl _, hst0, by omega, by omega⟩
    · exact key
    · intro pc H locs cells slots ls2 ad' hTi hrv hdg hz he hP9 hD9 hS9 hc1 hc2
      obtain ⟨i, hi, hii⟩ := hTi
      have hrk := (hT j pc i hi).2.2
      rw [hii] at hrk
      have hcm : res.2.n - h.n = cells := by omega
      have hsm : res.2.sl - h.sl = slots := by omega
      rw [hcm, hsm]
      have post : ∀ t : State, t.heap = H → s.WarmedH t.vm → sm_Post G F kA D CL ad h res A (As.map (sm_r ad)).toArray s (.returned (res.1.map (sm_r ad'))) t := fun t ht hW => ⟨⟨ad', he, rfl, by rw [ht]; exact hP9, hD9⟩, hS9.F ht⟩
      cases hr1 : res.1 with
      | none =>
        rw [hr1] at hrk hdg post
        exact W.vret hx hb (hr.trans hrk) post hS9.2.2 hdg
      | some v =>
        rw [hr1] at hrk hdg post
        cases v with
        | int x =>
          rcases hrk with hrk | ⟨hrk, h3⟩
          · exact W.iret hx hb (hr.trans hrk) post hS9.2.2 hdg
          · rcases hz x hr1 h3 with rfl | rfl
            · exact W.zret hx hb (hr.trans hrk) (by decide) post hS9.2.2 hdg
            · exact W.zret hx hb (hr.trans hrk) (by decide) post hS9.2.2 hdg
        | long x => exact W.lret hx hb (hr.trans hrk) post hS9.2.2 hdg
        | ref a =>
          obtain ⟨nm, hrk⟩ := hrk
          exact W.aret hx hb (hr.trans hrk) (Or.inl ⟨nm, rfl⟩) (Or.inr ⟨_, rfl⟩) post hS9.2.2 hdg
        | _ => rcases hrv _ hr1 with ⟨x, q⟩ | ⟨x, q⟩ | ⟨x, q⟩ <;> cases q
end SMmets
