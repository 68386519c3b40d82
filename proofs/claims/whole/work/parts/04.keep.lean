/-! what a whole run of the simple machine keeps -/
def sm_okr (G : sm_G) (h : sm_H) (res : Option Value × sm_H) : Prop := sm_okh G res.2 ∧ h.n ≤ res.2.n ∧ h.sl ≤ res.2.sl ∧ ∀ w, res.1 = some w → sm_okv (G.1 + res.2.n) w
theorem sm_okr_trans {G : sm_G} {h h1 : sm_H} {res : Option Value × sm_H} (a : h.n ≤ h1.n) (b : h.sl ≤ h1.sl) (r : sm_okr G h1 res) : sm_okr G h res := ⟨r.1, Nat.le_trans a r.2.1, Nat.le_trans b r.2.2.1, r.2.2.2⟩
theorem sm_oks_app {N : Nat} {a b : List Value} : sm_oks N (a ++ b) ↔ sm_oks N a ∧ sm_oks N b := by
  unfold sm_oks
  simp only [List.mem_append]
  exact ⟨fun h => ⟨fun v q => h v (Or.inl q), fun v q => h v (Or.inr q)⟩, fun h v q => q.elim (h.1 v) (h.2 v)⟩
theorem sm_oks_rev {N : Nat} {a : List Value} : sm_oks N a.reverse ↔ sm_oks N a := by
  unfold sm_oks
  simp
theorem sm_oks_opt {N : Nat} {v : Option Value} (h : ∀ w, v = some w → sm_okv N w) : sm_oks N v.toList := by
  intro w q
  cases v with
  | none => simp at q
  | some z => simp at q; exact h w (by rw [q])
def sm_okcall (G : sm_G) (call : Nat → List Value → sm_H → Option Value × sm_H → Prop) : Prop := ∀ j As h res, sm_okh G h → sm_oks (G.1 + h.n) As → call j As h res → sm_okr G h res
theorem sm_cpI_ok {G : sm_G} {h h' : sm_H} {a b : Nat} {sp dp n : Int32} (ho : sm_okh G h) (q : sm_cpI G h a sp b dp n = some h') : sm_okh G h' ∧ h'.n = h.n ∧ h'.sl = h.sl := by
  unfold sm_cpI at q
  cases w : (sm_is G h a 100 && sm_is G h b 100) with
  | false => rw [w] at q; cases q
  | true =>
    rw [w] at q
    simp only [cond_true] at q
    split at q
    · cases q; exact ⟨ho, rfl, rfl⟩
    · cases q
theorem sm_cpJ_ok {G : sm_G} {h h' : sm_H} {a b : Nat} {sp dp n : Int32} (ho : sm_okh G h) (q : sm_cpJ G h a sp b dp n = some h') : sm_okh G h' ∧ h'.n = h.n ∧ h'.sl = h.sl := by
  unfold sm_cpJ at q
  cases w : (sm_is G h a 101 && sm_is G h b 101) with
  | false => rw [w] at q; cases q
  | true =>
    rw [w] at q
    simp only [cond_true] at q
    split at q
    · cases q; exact ⟨ho, rfl, rfl⟩
    · cases q
theorem sm_end_ok {G : sm_G} {call : Nat → List Value → sm_H → Option Value × sm_H → Prop} (hcall : sm_okcall G call) {rt : Nat} {i : sm_I} {pc : Nat} {lc : sm_L} {st : List Value} {h : sm_H} {res : Option Value × sm_H} {k : Nat → sm_L → List Value → sm_H → Prop}
    (hk : ∀ pc' lc' st' h', sm_inv G h' lc' st' → k pc' lc' st' h' → sm_okr G h' res) (I : sm_inv G h lc st) (e : sm_end G call rt i pc lc st h res k) : sm_okr G h res := by
  obtain ⟨ho, hl, hs⟩ := I
  unfold sm_end at e
  split at e
  · obtain ⟨x, r, rfl, e1, e2⟩ := e
    have hs := (sm_oks_cons.mp hs).2
    exact (Classical.em _).elim (fun q => hk _ _ _ _ ⟨ho, hl, hs⟩ (e1 q)) (fun q => hk _ _ _ _ ⟨ho, hl, hs⟩ (e2 q))
  · obtain ⟨y, x, r, rfl, e1, e2⟩ := e
    have hs := (sm_oks_cons.mp (sm_oks_cons.mp hs).2).2
    exact (Classical.em _).elim (fun q => hk _ _ _ _ ⟨ho, hl, hs⟩ (e1 q)) (fun q => hk _ _ _ _ ⟨ho, hl, hs⟩ (e2 q))
  · obtain ⟨o, r, rfl, e1, e2⟩ := e
    have hs := (sm_oks_cons.mp hs).2
    exact (Classical.em (o = none)).elim (fun q => hk _ _ _ _ ⟨ho, hl, hs⟩ (e2 q)) (fun q => hk _ _ _ _ ⟨ho, hl, hs⟩ (e1 q))
  · obtain ⟨x, r, t, rfl, -, e1⟩ := e
    exact hk _ _ _ _ ⟨ho, hl, (sm_oks_cons.mp hs).2⟩ e1
  · obtain ⟨x, r, t, rfl, -, e1⟩ := e
    exact hk _ _ _ _ ⟨ho, hl, (sm_oks_cons.mp hs).2⟩ e1
  · rcases e with ⟨-, As, r, v, h', rfl, -, -, e1, e2⟩ | ⟨-, n, dp, b, sp, a, r, h', rfl, -, e1, e2⟩ | ⟨-, n, dp, b, sp, a, r, h', rfl, -, e1, e2⟩ | ⟨-, y, x, r, rfl, -, e2⟩ | ⟨-, y, x, r, rfl, -, e2⟩
    · have hs := sm_oks_app.mp hs
      have z := hcall _ _ _ _ ho (sm_oks_rev.mp hs.1) e1
      have hN : G.1 + h.n ≤ G.1 + h'.n := Nat.add_le_add_left z.2.1 _
      exact sm_okr_trans z.2.1 z.2.2.1 (hk _ _ _ _ ⟨z.1, sm_okl_mono hl hN, sm_oks_app.mpr ⟨sm_oks_opt z.2.2.2, sm_oks_mono hs.2 hN⟩⟩ e2)
    · have hs := (sm_oks_cons.mp (sm_oks_cons.mp (sm_oks_cons.mp (sm_oks_cons.mp (sm_oks_cons.mp hs).2).2).2).2).2
      have z := sm_cpI_ok ho e1
      exact sm_okr_trans (Nat.le_of_eq z.2.1.symm) (Nat.le_of_eq z.2.2.symm) (hk _ _ _ _ ⟨z.1, by rw [z.2.1]; exact hl, by rw [z.2.1]; exact hs⟩ e2)
    · have hs := (sm_oks_cons.mp (sm_oks_cons.mp (sm_oks_cons.mp (sm_oks_cons.mp (sm_oks_cons.mp hs).2).2).2).2).2
      have z := sm_cpJ_ok ho e1
      exact sm_okr_trans (Nat.le_of_eq z.2.1.symm) (Nat.le_of_eq z.2.2.symm) (hk _ _ _ _ ⟨z.1, by rw [z.2.1]; exact hl, by rw [z.2.1]; exact hs⟩ e2)
    · exact hk _ _ _ _ ⟨ho, hl, sm_oks_cons.mpr ⟨(show sm_okv _ (.int _) from trivial), (sm_oks_cons.mp (sm_oks_cons.mp hs).2).2⟩⟩ e2
    · exact hk _ _ _ _ ⟨ho, hl, sm_oks_cons.mpr ⟨(show sm_okv _ (.int _) from trivial), (sm_oks_cons.mp (sm_oks_cons.mp hs).2).2⟩⟩ e2
  · rcases e with ⟨-, As, a, r, v, h', rfl, -, -, -, e1, e2⟩ | ⟨-, x, r, rfl, -, e2⟩
    · have hs := sm_oks_app.mp hs
      have hs2 := sm_oks_cons.mp hs.2
      have z := hcall _ _ _ _ ho (sm_oks_cons.mpr ⟨hs2.1, sm_oks_rev.mp hs.1⟩) e1
      have hN : G.1 + h.n ≤ G.1 + h'.n := Nat.add_le_add_left z.2.1 _
      exact sm_okr_trans z.2.1 z.2.2.1 (hk _ _ _ _ ⟨z.1, sm_okl_mono hl hN, sm_oks_app.mpr ⟨sm_oks_opt z.2.2.2, sm_oks_mono hs2.2 hN⟩⟩ e2)
    · exact hk _ _ _ _ ⟨ho, hl, sm_oks_cons.mpr ⟨(show sm_okv _ (.int _) from trivial), (sm_oks_cons.mp (sm_oks_cons.mp hs).2).2⟩⟩ e2
  · rcases e with ⟨-, a, r, rfl, -, e1⟩ | ⟨-, As, a, r, h', rfl, -, -, e1, e2⟩
    · exact hk _ _ _ _ ⟨ho, hl, (sm_oks_cons.mp hs).2⟩ e1
    · have hs := sm_oks_app.mp hs
      have hs2 := sm_oks_cons.mp hs.2
      have z := hcall _ _ _ _ ho (sm_oks_cons.mpr ⟨hs2.1, sm_oks_rev.mp hs.1⟩) e1
      have hN : G.1 + h.n ≤ G.1 + h'.n := Nat.add_le_add_left z.2.1 _
      exact sm_okr_trans z.2.1 z.2.2.1 (hk _ _ _ _ ⟨z.1, sm_okl_mono hl hN, sm_oks_mono hs2.2 hN⟩ e2)
  · obtain ⟨x, rfl, -, rfl⟩ := e
    exact ⟨ho, Nat.le_refl _, Nat.le_refl _, fun w q => by cases q; trivial⟩
  · obtain ⟨x, rfl, rfl⟩ := e
    exact ⟨ho, Nat.le_refl _, Nat.le_refl _, fun w q => by cases q; trivial⟩
  · obtain ⟨a, rfl, rfl⟩ := e
    exact ⟨ho, Nat.le_refl _, Nat.le_refl _, fun w q => by cases q; exact hs _ List.mem_cons_self⟩
  · obtain ⟨rfl, rfl⟩ := e
    exact ⟨ho, Nat.le_refl _, Nat.le_refl _, fun w q => by cases q⟩
  · exact e.elim
theorem sm_go_ok {G : sm_G} (hfr : ∀ (h : sm_H) a k, sm_cl G h a = 103 → G.2.2.2.1 a k = none) {call : Nat → List Value → sm_H → Option Value × sm_H → Prop} (hcall : sm_okcall G call) {T : Nat → Option sm_I} (hT : ∀ pc i, T pc = some i → sm_okc i) {rt : Nat} :
    ∀ (n pc : Nat) (lc : sm_L) (st : List Value) (h : sm_H) (res : Option Value × sm_H), sm_inv G h lc st → sm_go G call T rt n pc lc st h res → sm_okr G h res := by
  intro n
  induction n with
  | zero => intro pc lc st h res _ e; exact e.elim
  | succ n ih =>
    intro pc lc st h res I e
    unfold sm_go at e
    split at e
    · exact e.elim
    · rename_i i hi
      split at e
      · rename_i pc' lc' st' h' q
        have z := sm_one_ok hfr (hT _ _ hi) I q
        exact sm_okr_trans z.2.1 z.2.2 (ih _ _ _ _ _ z.1 e)
      · exact sm_end_ok hcall (fun pc' lc' st' h' I' k' => ih _ _ _ _ _ I' k') I e
theorem sm_ent_okl {N : Nat} {As : List Value} (h : sm_oks N As) (m : Nat) : sm_okl N (sm_ent As ++ List.replicate m none) := by
  have key : ∀ As : List Value, sm_oks N As → ∀ v, some v ∈ sm_ent As → sm_okv N v := by
    intro As
    induction As with
    | nil => intro _ v q; simp [sm_ent] at q
    | cons a l ih =>
      intro h v q
      have h := sm_oks_cons.mp h
      unfold sm_ent at q
      split at q
      · simp only [List.mem_cons, Option.some.injEq, reduceCtorEq, false_or] at q
        rcases q with q | q
        · rw [q]; exact h.1
        · exact ih h.2 v q
      · simp only [List.mem_cons, Option.some.injEq, reduceCtorEq, false_or] at q
        rcases q with q | q
        · rw [q]; exact h.1
        · exact ih h.2 v q
      · simp only [List.mem_cons, Option.some.injEq] at q
        rcases q with q | q
        · rw [q]; exact h.1
        · exact ih h.2 v q
  intro j v e
  have e := List.mem_of_getElem? e
  rcases List.mem_append.mp e with q | q
  · exact key As h v q
  · have := List.eq_of_mem_replicate q
    cases this
theorem sm_run_ok {G : sm_G} (hfr : ∀ (h : sm_H) a k, sm_cl G h a = 103 → G.2.2.2.1 a k = none) {T : Nat → Nat → Option sm_I} (hT : ∀ j pc i, T j pc = some i → sm_okc i) {mL rt : Nat → Nat} : ∀ d, sm_okcall G (sm_run G T mL rt d) := by
  intro d
  induction d with
  | zero => intro j As h res _ _ e; exact e.elim
  | succ d ih =>
    intro j As h res ho hA e
    obtain ⟨-, n, e⟩ := e
    exact sm_go_ok hfr ih (hT j) n _ _ _ _ _ ⟨ho, sm_ent_okl hA _, fun v q => by cases q⟩ e
