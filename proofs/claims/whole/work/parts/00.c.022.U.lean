theorem lp_n {σ ρ : Type} {body : σ → Option (σ ⊕ ρ)} {n : Nat} {s : σ} (e : body s = none) : lp body (n + 1) s = none := by
  show (match body s with | none => none | some (.inl s') => lp body n s' | some (.inr r) => some r) = none
  rw [e]
abbrev isRw (o p : Nat) : Prop := (∀ h, sm_is G0 h o 5 = true) ∧ (∀ h, sm_rr G0 h o 0 = some p) ∧ (p < 1000000) ∧ (∀ h, sm_is G0 h p 100 = true) ∧ (∀ h, sm_ln G0 h p = 20)
theorem isRw.i {o p : Nat} (F_ : isRw o p) : ∀ h, sm_is G0 h o 5 = true := F_.1
theorem isRw.r {o p : Nat} (F_ : isRw o p) : ∀ h, sm_rr G0 h o 0 = some p := F_.2.1
theorem isRw.l {o p : Nat} (F_ : isRw o p) : p < 1000000 := F_.2.2.1
theorem isRw.a {o p : Nat} (F_ : isRw o p) : ∀ h, sm_is G0 h p 100 = true := F_.2.2.2.1
theorem isRw.n {o p : Nat} (F_ : isRw o p) : ∀ h, sm_ln G0 h p = 20 := F_.2.2.2.2
theorem rw64 : isRw 64 65 := ⟨fun _ => rfl, fun _ => rfl, by decide, fun _ => rfl, fun _ => rfl⟩
theorem rw35 : isRw 35 36 := ⟨fun _ => rfl, fun _ => rfl, by decide, fun _ => rfl, fun _ => rfl⟩
theorem rw47 : isRw 47 48 := ⟨fun _ => rfl, fun _ => rfl, by decide, fun _ => rfl, fun _ => rfl⟩
theorem rw56 : isRw 56 57 := ⟨fun _ => rfl, fun _ => rfl, by decide, fun _ => rfl, fun _ => rfl⟩
def hasL (h : sm_H) (o p : Nat) (ps : List Int32) : Prop := h.1 o 1 = I3 ps.length ∧ ps.length ≤ 20 ∧ ∀ k, k < ps.length → h.1 p k = at0 ps k
theorem C_rsize {h : sm_H} {o p : Nat} (w : isRw o p) {ps : List Int32} (e : hasL h o p ps) : F_136 o h = some (I3 ps.length, h) := by
  show F_136_0 o h = _
  unfold F_136_0
  rw [if_pos (w.i h), e.1]
theorem C_rat {h : sm_H} {o p : Nat} (w : isRw o p) {ps : List Int32} (e : hasL h o p ps) {k : Nat} (hk : k < ps.length) : F_137 o (I3 k) h = some (at0 ps k, h) := by
  have l20 := e.2.1
  show F_137_0 o (I3 k) h = _
  unfold F_137_0
  rw [if_neg (I3_nn (by omega)), if_pos (w.i h), e.1, if_neg (by rw [I3_le (by omega) (by omega)]; omega), if_pos (w.i h), w.r h]
  simp only [Option.bind_some]
  rw [ldD_ar w.l (w.a h) (by rw [w.n h]; omega) (by rw [w.n h]; decide)]
  simp only [Option.bind_some]
  rw [e.2.2 k hk]; rfl
theorem C_rat_o {h : sm_H} {o p : Nat} (w : isRw o p) {ps : List Int32} (e : hasL h o p ps) {x : Int32} (hx : inR x ps.length = false) : F_137 o x h = some (-1, h) := by
  have l20 := e.2.1
  show F_137_0 o x h = _
  unfold F_137_0
  rcases I3_cases x with ⟨k, hk, rfl⟩ | hn
  · rw [inR_I hk] at hx
    have := of_decide_eq_false hx
    rw [if_neg (I3_nn hk), if_pos (w.i h), e.1, if_pos (by rw [I3_le (by omega) (by omega)]; omega)]; rfl
  · rw [if_pos hn]; rfl
def kV (g : sm_H) (x : Int32) : Bool := inR x (20 + nC g) && decide (x ≠ 0)
theorem kV_iff {g : sm_H} (wK : wfK g) {x : Int32} : kV g x = true ↔ ∃ q, x = I3 q ∧ 0 < q ∧ q < 20 + nC g := by
  have h12 := wK.2.1
  unfold kV
  simp only [Bool.and_eq_true, decide_eq_true_eq]
  constructor
  · rintro ⟨a, b⟩
    obtain ⟨q, z1, z2⟩ := inR_x (by omega) a
    refine ⟨q, z2, ?_, z1⟩
    rcases Nat.eq_zero_or_pos q with z | z
    · exact absurd (by rw [z2, z]; rfl) b
    · exact z
  · rintro ⟨q, rfl, z1, z2⟩
    refine ⟨by rw [inR_I (by omega)]; simp [z2], fun z => ?_⟩
    have := (I3_inj (a := q) (b := 0) (by omega) (by decide)).mp z
    omega
theorem C_hasV {h g : sm_H} (wK : wfK g) (cK : cK h g) (x : Int32) : F_54 x h = some (b2 (kV g x), h) := by
  have C := C_has wK cK x
  show F_54_0 x h = _
  unfold F_54_0 F_54_16 F_54_17 kV
  rw [C]
  simp only [Option.bind_some]
  cases inR x (20 + nC g) with
  | false => rfl
  | true =>
    rw [if_neg (show ¬ b2 true = 0 by decide)]
    by_cases c : x = 0
    · rw [if_pos c, c]; rfl
    · rw [if_neg c, decide_eq_true c]; rfl
theorem cR_L {h g : sm_H} (c : cR h g) : hasL h 64 65 (lst (g.1 68) (tn (g.1 67 1))) := by
  obtain ⟨r1, ⟨r2, r3⟩, r4⟩ := c
  refine ⟨by rw [lst_len, r1]; exact r2, by rw [lst_len]; exact r3, fun k hk => ?_⟩
  rw [lst_len] at hk
  rw [at0_lst hk]; exact r4 k (by omega)
theorem hasL_agr {S : Nat → Nat → Prop} {h h1 : sm_H} {o p : Nat} {ps : List Int32} (e : hasL h o p ps) (a : agr S h h1) (d : ∀ j, ¬ S o j ∧ ¬ S p j) : hasL h1 o p ps := by
  refine ⟨by rw [a.1 o 1 (d 1).1]; exact e.1, e.2.1, fun k hk => by rw [a.1 p k (d k).2]; exact e.2.2 k hk⟩
theorem C_draftsRow {h g : sm_H} (K : K1 h g) {ps : List Int32} (R : hasL h 64 65 ps) : ∃ h1, F_261 h = some (b2 (all1 (fun k => kV g (at0 ps k)) ps.length), h1) ∧ agr SCd h h1 ∧ (all1 (fun k => kV g (at0 ps k)) ps.length = true → dC h1 ps) := by
  have l20 := R.2.1
  obtain ⟨h0, b1, b2', b3⟩ := C_begin h
  have L := lp_ex (body := F_261_9B) (P := fun k s => s.1 = I3 k ∧ dC s.2 (seg ps 0 k) ∧ agr SCd h s.2 ∧ ∀ j, j < k → kV g (at0 ps j) = true) (Q := fun r => r.1 = b2 (all1 (fun k => kV g (at0 ps k)) ps.length) ∧ agr SCd h r.2 ∧ (all1 (fun k => kV g (at0 ps k)) ps.length = true → dC r.2 ps)) ps.length (fun k s hk p => ?_) (fun s p => ?_) (I3 0, h0) 1000000 ⟨rfl, b2', b3, fun j hj => by omega⟩ (by omega)
  · obtain ⟨⟨r1, r2⟩, e, q1, q2, q3⟩ := L
    refine ⟨r2, ?_, q2, q3⟩
    show F_261_0 h = _
    unfold F_261_0
    rw [b1]
    simp only [Option.bind_some]
    refine Eq.trans e ?_
    rw [← q1]
  · obtain ⟨s1, s2⟩ := s
    obtain ⟨p1, p2, p3, p4⟩ := p
    have p1 : s1 = I3 k := p1
    subst p1
    have K' := K1_h K (agr_mono SCd_not p3)
    have R' : hasL s2 64 65 ps := hasL_agr R p3 (fun j => by unfold SCd; omega)
    have e1 := C_rsize rw64 R'
    have e2 := C_rat rw64 R' hk
    have e3 := C_hasV K'.1 K'.2.1 (at0 ps k)
    cases q : kV g (at0 ps k) with
    | false =>
      rw [q] at e3
      refine Or.inr ⟨(0, s2), ?_, ?_, p3, fun z => ?_⟩
      · simp (disch := omega) only [↓reduceIte, if_true, if_false, ite_self, Option.bind_some, Option.map_some, wI_rd, wJ_rd, wI_2, wJ_1, wJ_22, I3_lit, I3_add, I3_mul, I3_lt, I3_le, I3_inj, I3_nn', I3_n1, I3_n2, m2m1, ldI_I, ldJ_I, ldZ_I, stI_I, stJ_I, true_or, or_true, false_or, or_false, true_and, and_true, false_and, and_false, not_true_eq_false, not_false_eq_true, reduceCtorEq, Nat.reduceEqDiff, Nat.lt_irrefl, Nat.not_lt_zero, Nat.le_refl, Nat.reduceLT, Nat.reduceLeDiff, eq_self, zbbI, bbI0, bbI1, decide_eq_false_iff_not, decide_eq_true_eq, Bool.not_eq_false, Bool.not_eq_true, Bool.not_true, Bool.not_false, cond_true, cond_false, F_261_9B, e1, e2, e3, show ¬ ps.length ≤ k by omega]
      · have : all1 (fun k => kV g (at0 ps k)) ps.length = false := by
          cases w : all1 (fun k => kV g (at0 ps k)) ps.length with
          | false => rfl
          | true => have := all1_iff.mp w k hk; rw [q] at this; cases this
        rw [this]; rfl
      · have := all1_iff.mp z k hk; rw [q] at this; cases this
    | true =>
      rw [q] at e3
      obtain ⟨h1, q1, q2, q3⟩ := C_with p2 (by rw [seg_len]; omega) (at0 ps k)
      refine Or.inl ⟨(I3 (k + 1), h1), ?_, rfl, ?_, agr_trans p3 q3, fun j hj => ?_⟩
      · have q1' : F_229 (at0 ps k) s2 = some h1 := q1
        simp (disch := omega) only [↓reduceIte, if_true, if_false, ite_self, Option.bind_some, Option.map_some, wI_rd, wJ_rd, wI_2, wJ_1, wJ_22, I3_lit, I3_add, I3_mul, I3_lt, I3_le, I3_inj, I3_nn', I3_n1, I3_n2, m2m1, ldI_I, ldJ_I, ldZ_I, stI_I, stJ_I, true_or, or_true, false_or, or_false, true_and, and_true, false_and, and_false, not_true_eq_false, not_false_eq_true, reduceCtorEq, Nat.reduceEqDiff, Nat.lt_irrefl, Nat.not_lt_zero, Nat.le_refl, Nat.reduceLT, Nat.reduceLeDiff, eq_self, zbbI, bbI0, bbI1, decide_eq_false_iff_not, decide_eq_true_eq, Bool.not_eq_false, Bool.not_eq_true, Bool.not_true, Bool.not_false, cond_true, cond_false, F_261_9B, e1, e2, e3, show ¬ ps.length ≤ k by omega, q1']
      · have : seg ps 0 (k + 1) = seg ps 0 k ++ [at0 ps k] := by unfold seg; rw [lst_succ, Nat.zero_add]
        rw [this]; exact q2
      · rcases Nat.lt_or_ge j k with z | z
        · exact p4 j z
        · have : j = k := by omega
          rw [this]; exact q
  · obtain ⟨s1, s2⟩ := s
    obtain ⟨p1, p2, p3, p4⟩ := p
    have p1 : s1 = I3 ps.length := p1
    subst p1
    have R' : hasL s2 64 65 ps := hasL_agr R p3 (fun j => by unfold SCd; omega)
    have e1 := C_rsize rw64 R'
    have al : all1 (fun k => kV g (at0 ps k)) ps.length = true := all1_iff.mpr p4
    refine ⟨(1, s2), ?_, by rw [al]; rfl, p3, fun _ => by rw [seg_all] at p2; exact p2⟩
    simp (disch := omega) only [↓reduceIte, if_true, if_false, ite_self, Option.bind_some, Option.map_some, wI_rd, wJ_rd, wI_2, wJ_1, wJ_22, I3_lit, I3_add, I3_mul, I3_lt, I3_le, I3_inj, I3_nn', I3_n1, I3_n2, m2m1, ldI_I, ldJ_I, ldZ_I, stI_I, stJ_I, true_or, or_true, false_or, or_false, true_and, and_true, false_and, and_false, not_true_eq_false, not_false_eq_true, reduceCtorEq, Nat.reduceEqDiff, Nat.lt_irrefl, Nat.not_lt_zero, Nat.le_refl, Nat.reduceLT, Nat.reduceLeDiff, eq_self, zbbI, bbI0, bbI1, decide_eq_false_iff_not, decide_eq_true_eq, Bool.not_eq_false, Bool.not_eq_true, Bool.not_true, Bool.not_false, cond_true, cond_false, F_261_9B, e1]
def rowR (g : sm_H) (ps : List Int32) : Prop := ps.length ≤ 20 ∧ ∀ k, k < ps.length → g.1 68 k = at0 ps k
theorem R_typeRow {h g : sm_H} (K : K1 h g) {ps : List Int32} (R : rowR g ps) (hl : ps.length ≤ 10) (d : dR g []) : ∃ g1, (lp F_382_93B 1000000 (I3 ps.length, I3 0, g) = (F_302 g1).bind fun q1 => some (q1.1, q1.2)) ∧ dR g1 ps ∧ agr SRd g g1 ∧ g1.1 67 20 = g.1 67 20 := by
  have key : ∀ (m k : Nat) (s : sm_H) (f : Nat), m + k = ps.length → m < f → dR s (seg ps 0 k) → agr SRd g s → s.1 67 20 = g.1 67 20 → (∀ x, F_302 x ≠ none ∨ True) → ∃ g1, (lp F_382_93B f (I3 ps.length, I3 k, s) = (F_302 g1).bind fun q1 => some (q1.1, q1.2)) ∧ dR g1 ps ∧ agr SRd g g1 ∧ g1.1 67 20 = g.1 67 20 := by
    intro m
    induction m with
    | zero =>
      intro k s f hk hf d a e _
      have : k = ps.length := by omega
      subst this
      rw [seg_all] at d
      refine ⟨s, ?_, d, a, e⟩
      obtain ⟨f, rfl⟩ : ∃ q, f = q + 1 := ⟨f - 1, by omega⟩
      have b : F_382_93B (I3 ps.length, I3 ps.length, s) = (F_302 s).bind fun q1 => some (.inr (q1.1, q1.2)) := by
        simp (disch := omega) only [↓reduceIte, if_true, if_false, ite_self, Option.bind_some, Option.map_some, wI_rd, wJ_rd, wI_2, wJ_1, wJ_22, I3_lit, I3_add, I3_mul, I3_lt, I3_le, I3_inj, I3_nn', I3_n1, I3_n2, m2m1, ldI_I, ldJ_I, ldZ_I, stI_I, stJ_I, true_or, or_true, false_or, or_false, true_and, and_true, false_and, and_false, not_true_eq_false, not_false_eq_true, reduceCtorEq, Nat.reduceEqDiff, Nat.lt_irrefl, Nat.not_lt_zero, Nat.le_refl, Nat.reduceLT, Nat.reduceLeDiff, eq_self, zbbI, bbI0, bbI1, decide_eq_false_iff_not, decide_eq_true_eq, Bool.not_eq_false, Bool.not_eq_true, Bool.not_true, Bool.not_false, cond_true, cond_false, F_382_93B]
      cases w : F_302 s with
      | none =>
        rw [w] at b
        exact lp_n b
      | some q =>
        rw [w] at b
        exact lp_0 b
    | succ m ih =>
      intro k s f hk hf d a e _
      obtain ⟨f, rfl⟩ : ∃ q, f = q + 1 := ⟨f - 1, by omega⟩
      have e68 : s.1 68 k = at0 ps k := (a.1 68 k (by unfold SRd; omega)).trans (R.2 k (by omega))
      obtain ⟨h1, q1, q2, q3, q4⟩ := R_addNew d (by rw [seg_len]; omega) (at0 ps k)
      have b : F_382_93B (I3 ps.length, I3 k, s) = some (.inl (I3 ps.length, I3 (k + 1), h1)) := by
        have q1' : F_309 (at0 ps k) s = some h1 := q1
        simp (disch := omega) only [↓reduceIte, if_true, if_false, ite_self, Option.bind_some, Option.map_some, wI_rd, wJ_rd, wI_2, wJ_1, wJ_22, I3_lit, I3_add, I3_mul, I3_lt, I3_le, I3_inj, I3_nn', I3_n1, I3_n2, m2m1, ldI_I, ldJ_I, ldZ_I, stI_I, stJ_I, true_or, or_true, false_or, or_false, true_and, and_true, false_and, and_false, not_true_eq_false, not_false_eq_true, reduceCtorEq, Nat.reduceEqDiff, Nat.lt_irrefl, Nat.not_lt_zero, Nat.le_refl, Nat.reduceLT, Nat.reduceLeDiff, eq_self, zbbI, bbI0, bbI1, decide_eq_false_iff_not, decide_eq_true_eq, Bool.not_eq_false, Bool.not_eq_true, Bool.not_true, Bool.not_false, cond_true, cond_false, F_382_93B, show ¬ ps.length ≤ k by omega, e68, q1']
      rw [lp_1 b]
      have : seg ps 0 (k + 1) = seg ps 0 k ++ [at0 ps k] := by unfold seg; rw [lst_succ, Nat.zero_add]
      exact ih (k + 1) h1 f (by omega) (by omega) (by rw [this]; exact q2) (agr_trans a q3) (q4.trans e) (fun _ => Or.inr trivial)
  exact key ps.length 0 g 1000000 (by omega) (by omega) d agr_rfl rfl (fun _ => Or.inr trivial)
theorem R_typeGood {h g : sm_H} (K : K1 h g) {ps : List Int32} (R : rowR g ps) (x : Int32) (b : Bool) : F_382_33 x (I3 ps.length) (b2 b) 0 g = F_382_79 x (I3 ps.length) (b2 (b && all1 (fun k => kV g (at0 ps k)) ps.length)) g := by
  have l20 := R.1
  have wK := K.1
  have tot : ∀ b, ∃ q, F_382_79 x (I3 ps.length) (b2 b) g = q := fun b => ⟨_, rfl⟩
  have fin : ∀ (f k : Nat) (b : Bool), (ps.length ≤ k ∨ b = false) → k ≤ 20 → lp F_382_33B (f + 1) (x, I3 ps.length, b2 b, I3 k, g) = F_382_79 x (I3 ps.length) (b2 b) g := by
    intro f k b hk h20
    have e : F_382_33B (x, I3 ps.length, b2 b, I3 k, g) = (F_382_79 x (I3 ps.length) (b2 b) g).map Sum.inr := by
      by_cases c : ps.length ≤ k
      · simp (disch := omega) only [↓reduceIte, if_true, if_false, ite_self, Option.bind_some, Option.map_some, wI_rd, wJ_rd, wI_2, wJ_1, wJ_22, I3_lit, I3_add, I3_mul, I3_lt, I3_le, I3_inj, I3_nn', I3_n1, I3_n2, m2m1, ldI_I, ldJ_I, ldZ_I, stI_I, stJ_I, true_or, or_true, false_or, or_false, true_and, and_true, false_and, and_false, not_true_eq_false, not_false_eq_true, reduceCtorEq, Nat.reduceEqDiff, Nat.lt_irrefl, Nat.not_lt_zero, Nat.le_refl, Nat.reduceLT, Nat.reduceLeDiff, eq_self, zbbI, bbI0, bbI1, decide_eq_false_iff_not, decide_eq_true_eq, Bool.not_eq_false, Bool.not_eq_true, Bool.not_true, Bool.not_false, cond_true, cond_false, F_382_33B, c]
      · have : b = false := hk.resolve_left c
        subst this
        simp (disch := omega) only [↓reduceIte, if_true, if_false, ite_self, Option.bind_some, Option.map_some, wI_rd, wJ_rd, wI_2, wJ_1, wJ_22, I3_lit, I3_add, I3_mul, I3_lt, I3_le, I3_inj, I3_nn', I3_n1, I3_n2, m2m1, ldI_I, ldJ_I, ldZ_I, stI_I, stJ_I, true_or, or_true, false_or, or_false, true_and, and_true, false_and, and_false, not_true_eq_false, not_false_eq_true, reduceCtorEq, Nat.reduceEqDiff, Nat.lt_irrefl, Nat.not_lt_zero, Nat.le_refl, Nat.reduceLT, Nat.reduceLeDiff, eq_self, zbbI, bbI0, bbI1, decide_eq_false_iff_not, decide_eq_true_eq, Bool.not_eq_false, Bool.not_eq_true, Bool.not_true, Bool.not_false, cond_true, cond_false, F_382_33B, c]
    cases w : F_382_79 x (I3 ps.length) (b2 b) g with
    | none => rw [w] at e; exact lp_n e
    | some q => rw [w] at e; exact lp_0 e
  have key : ∀ (m k : Nat) (b : Bool) (f : Nat), m + k = ps.length → m < f → lp F_382_33B f (x, I3 ps.length, b2 b, I3 k, g) = F_382_79 x (I3 ps.length) (b2 (b && all1 (fun j => kV g (at0 ps (k + j))) m)) g := by
    intro m
    induction m with
    | zero =>
      intro k b f hk hf
      obtain ⟨f, rfl⟩ : ∃ q, f = q + 1 := ⟨f - 1, by omega⟩
      rw [fin f k b (Or.inl (by omega)) (by omega), show all1 (fun j => kV g (at0 ps (k + j))) 0 = true from rfl, Bool.and_true]
    | succ m ih =>
      intro k b f hk hf
      obtain ⟨f, rfl⟩ : ∃ q, f = q + 1 := ⟨f - 1, by omega⟩
      cases b with
      | false => rw [fin f k false (Or.inr rfl) (by omega), Bool.false_and]
      | true =>
        have e68 : g.1 68 k = at0 ps k := R.2 k (by omega)
        have kd := R_kind wK (at0 ps k)
        have : F_382_33B (x, I3 ps.length, b2 true, I3 k, g) = some (.inl (x, I3 ps.length, b2 (kV g (at0 ps k)), I3 (k + 1), g)) := by
          unfold kV
          cases q : inR (at0 ps k) (20 + nC g) with
          | false =>
            rw [q] at kd
            simp (disch := omega) only [↓reduceIte, if_true, if_false, ite_self, Option.bind_some, Option.map_some, wI_rd, wJ_rd, wI_2, wJ_1, wJ_22, I3_lit, I3_add, I3_mul, I3_lt, I3_le, I3_inj, I3_nn', I3_n1, I3_n2, m2m1, ldI_I, ldJ_I, ldZ_I, stI_I, stJ_I, true_or, or_true, false_or, or_false, true_and, and_true, false_and, and_false, not_true_eq_false, not_false_eq_true, reduceCtorEq, Nat.reduceEqDiff, Nat.lt_irrefl, Nat.not_lt_zero, Nat.le_refl, Nat.reduceLT, Nat.reduceLeDiff, eq_self, zbbI, bbI0, bbI1, decide_eq_false_iff_not, decide_eq_true_eq, Bool.not_eq_false, Bool.not_eq_true, Bool.not_true, Bool.not_false, cond_true, cond_false, F_382_33B, F_382_71, F_382_72, show ¬ ps.length ≤ k by omega, e68, kd]; rfl
          | true =>
            rw [q] at kd
            by_cases c : at0 ps k = 0
            · have hb : (true && decide (at0 ps k ≠ 0)) = false := by rw [decide_eq_false (not_not_intro c)]; rfl
              rw [hb]
              rw [c] at kd e68
              have kd' : F_289 (I3 0) g = some (b2 true, g) := kd
              have e' : g.1 68 k = I3 0 := e68
              simp (disch := omega) only [↓reduceIte, if_true, if_false, ite_self, Option.bind_some, Option.map_some, wI_rd, wJ_rd, wI_2, wJ_1, wJ_22, I3_lit, I3_add, I3_mul, I3_lt, I3_le, I3_inj, I3_nn', I3_n1, I3_n2, m2m1, ldI_I, ldJ_I, ldZ_I, stI_I, stJ_I, true_or, or_true, false_or, or_false, true_and, and_true, false_and, and_false, not_true_eq_false, not_false_eq_true, reduceCtorEq, Nat.reduceEqDiff, Nat.lt_irrefl, Nat.not_lt_zero, Nat.le_refl, Nat.reduceLT, Nat.reduceLeDiff, eq_self, zbbI, bbI0, bbI1, decide_eq_false_iff_not, decide_eq_true_eq, Bool.not_eq_false, Bool.not_eq_true, Bool.not_true, Bool.not_false, cond_true, cond_false, F_382_33B, F_382_71, F_382_72, show ¬ ps.length ≤ k by omega, e', kd']; rfl
            · have hb : (true && decide (at0 ps k ≠ 0)) = true := by rw [decide_eq_true c]; rfl
              rw [hb]
              have c' : (at0 ps k = I3 0) = False := eq_false c
              simp (disch := omega) only [↓reduceIte, if_true, if_false, ite_self, Option.bind_some, Option.map_some, wI_rd, wJ_rd, wI_2, wJ_1, wJ_22, I3_lit, I3_add, I3_mul, I3_lt, I3_le, I3_inj, I3_nn', I3_n1, I3_n2, m2m1, ldI_I, ldJ_I, ldZ_I, stI_I, stJ_I, true_or, or_true, false_or, or_false, true_and, and_true, false_and, and_false, not_true_eq_false, not_false_eq_true, reduceCtorEq, Nat.reduceEqDiff, Nat.lt_irrefl, Nat.not_lt_zero, Nat.le_refl, Nat.reduceLT, Nat.reduceLeDiff, eq_self, zbbI, bbI0, bbI1, decide_eq_false_iff_not, decide_eq_true_eq, Bool.not_eq_false, Bool.not_eq_true, Bool.not_true, Bool.not_false, cond_true, cond_false, F_382_33B, F_382_71, F_382_72, show ¬ ps.length ≤ k by omega, e68, kd, c']; rfl
        rw [lp_1 this, ih (k + 1) _ f (by omega) (by omega), Bool.true_and]
        congr 2
        rw [Bool.eq_iff_iff]
        simp only [Bool.and_eq_true, all1_iff]
        constructor
        · rintro ⟨y1, y2⟩ j hj
          cases j with
          | zero => exact y1
          | succ j => have := y2 j (by omega); rw [show k + 1 + j = k + (j + 1) by omega] at this; exact this
        · intro y
          refine ⟨y 0 (by omega), fun j hj => ?_⟩
          have := y (j + 1) (by omega)
          rw [show k + 1 + j = k + (j + 1) by omega]; exact this
  have := key ps.length 0 b 1000000 (by omega) (by omega)
  simp only [Nat.zero_add] at this
  exact this
theorem kL_of {g : sm_H} (wK : wfK g) {ps : List Int32} (a : all1 (fun k => kV g (at0 ps k)) ps.length = true) : kL g ps := fun i hi => (kV_iff wK).mp (all1_iff.mp a i hi)
theorem agr_wI2 {S : Nat → Nat → Prop} {h h1 : sm_H} (a : agr S h h1) (b k : Nat) (x : Int32) : agr S (sm_wI h b k x) (sm_wI h1 b k x) := by
  refine ⟨fun c j n => ?_, a.2.1, a.2.2.1, a.2.2.2⟩
  rw [wI_rd, wI_rd, a.1 c j n]
theorem I1_row0 {h g : sm_H} (I : I1 h g) : I1 (sm_wI h 64 1 0) (sm_wI g 67 1 0) := by
  obtain ⟨wK, cK, wT, cT, wH, cH, wM, cM, cR, cP, cG, cO, cV, wX, cX, cXh, cU, cY, cF, cZ⟩ := I
  exact ⟨wK, cK, wT, cT, wH, cH, wM, cM, ⟨rfl, cnt_up (by decide) (by decide), cR.2.2⟩, cP, cG, cO, cV, wX, cX, cXh_fr (by repeat first | exact hi_rfl | refine hi_wI ?_ (by decide) | refine hi_wJ ?_ (by decide)) cXh, cU, cY, cF, cZ⟩
theorem kR_agr {S : Nat → Nat → Prop} {h h1 : sm_H} (a : agr S h h1) (d : ∀ b j, S b j → b < 67 ∨ 131 ≤ b) : kR h h1 := fun b j h1 h2 => ⟨a.1 b j (fun z => by have := d b j z; omega), a.2.1 b j (fun z => by have := d b j z; omega)⟩
theorem kC_agr {S : Nat → Nat → Prop} {g g1 : sm_H} (a : agr S g g1) (d : ∀ b j, S b j → 67 ≤ b ∧ b < 131) : kC g g1 := agr_mono d a
theorem type2 (x : Int32) (h g : sm_H) (I : I1 h g) : ∃ v h1 g1, F_260 x h = some (v, h1) ∧ F_382 x g = some (v, g1) ∧ I1 h1 g1 ∧ kR h h1 ∧ kC g g1 := by
  have K := (I1_K.mp I).1
  have cRr := (I1_K.mp I).2.1
  have wK := K.1
  have h12 := wK.2.1
  have RC := cR_L cRr
  have n20 : tn (g.1 67 1) ≤ 20 := cRr.2.1.2
  have e1 : g.1 67 1 = I3 (tn (g.1 67 1)) := cRr.2.1.1
  generalize hps : lst (g.1 68) (tn (g.1 67 1)) = ps at RC
  have len : ps.length = tn (g.1 67 1) := by rw [← hps, lst_len]
  have RR : rowR (sm_wI g 67 1 0) ps := ⟨by omega, fun k hk => by rw [← hps, at0_lst (by omega)]; rfl⟩
  have CH := C_has wK K.2.1 x
  have I0' := I1_row0 I
  have K0 : K1 h (sm_wI g 67 1 0) := by
    obtain ⟨wK, cK, wT, cT, wH, cH, wM, cM, cG, cO, cV, wX, cX, cXh, wF⟩ := K
    exact ⟨wK, cK, wT, cT, wH, cH, wM, cM, cG, cO, cV, wX, cX, cXh, wF⟩
  have RK := R_kind (g := sm_wI g 67 1 0) wK x
  have nCe : nC (sm_wI g 67 1 0) = nC g := rfl
  rw [nCe] at RK
  have none1 : ∀ h1, agr SCd h h1 → I1 (sm_wI h1 64 1 0) (sm_wI g 67 1 0) ∧ kR h (sm_wI h1 64 1 0) ∧ kC g (sm_wI g 67 1 0) := fun h1 a => by
    refine ⟨I1_h I0' (agr_mono SCd_not (agr_wI2 a 64 1 0)), ?_, ?_⟩
    · exact kR_agr (S := fun b j => SCd b j ∨ b = 64) (agr_wI (agr_mono (fun _ _ z => Or.inl z) a) (Or.inr rfl)) (fun b j z => by unfold SCd at z; omega)
    · exact kC_agr (S := fun b _ => b = 67) (agr_wI agr_rfl rfl) (fun b j z => by omega)
  have clr : ∀ (v : Int32) (h1 : sm_H), F_260_29 v h1 = some (v, sm_wI h1 64 1 0) := fun v h1 => by
    unfold F_260_29
    rfl
  by_cases c0 : inR x (20 + nC g) = true
  · rw [c0] at CH RK
    obtain ⟨h1, d1, d2, d3⟩ := C_draftsRow K RC
    have RG := fun b => R_typeGood K0 RR x b
    have kve : (fun k => kV (sm_wI g 67 1 0) (at0 ps k)) = (fun k => kV g (at0 ps k)) := rfl
    rw [kve] at RG
    generalize hal : all1 (fun k => kV g (at0 ps k)) ps.length = al at d1 d3 RG
    by_cases c1 : al = true ∧ ps.length ≤ 10
    · obtain ⟨c1, c2⟩ := c1
      subst c1
      have d3 := d3 rfl
      obtain ⟨g0, f1, f2, f3, f4⟩ := R_clear (sm_wI g 67 1 0) x
      have K2 : K1 h1 g0 := K1_g (K1_h K0 (agr_mono SCd_not d2)) (agr_mono SRd_not f3)
      have RR2 : rowR g0 ps := ⟨RR.1, fun k hk => (f3.1 68 k (by unfold SRd; omega)).trans (RR.2 k hk)⟩
      obtain ⟨g2, t1, t2, t3, t4⟩ := R_typeRow K2 RR2 c2 f2
      have K3 : K1 h1 g2 := K1_g K2 (agr_mono SRd_not t3)
      have er : g2.1 67 20 = x := t4.trans f4
      have nC2 : nC g2 = nC g := by show tn _ = tn _; rw [t3.1 67 6 (by unfold SRd; omega), f3.1 67 6 (by unfold SRd; omega)]; rfl
      have ref : ∀ w g3, F_302 g2 = some (w, g3) → F_382 x g = some (w, g3) := fun w g3 e => by
        show F_382_0 x g = _
        unfold F_382_0
        simp only [Option.bind_some]
        rw [RK]
        simp only [Option.bind_some]
        rw [if_neg (show ¬ b2 true = 0 by decide), e1, ← len, if_neg (by rw [I3_lit, I3_lt (by decide) (by omega)]; omega)]
        unfold F_382_29
        have := RG true
        refine Eq.trans this ?_
        unfold F_382_79
        rw [if_neg (show ¬ b2 (true && true) = 0 by decide), f1]
        simp only [Option.bind_some]
        refine Eq.trans t1 ?_
        rw [e]; rfl
      have cls : ∀ w h3, F_234 x h1 = some (w, h3) → F_260 x h = some (w, sm_wI h3 64 1 0) := fun w h3 e => by
        show F_260_0 x h = _
        unfold F_260_0
        rw [CH]
        simp only [Option.bind_some]
        rw [if_neg (show ¬ b2 true = 0 by decide), d1]
        simp only [Option.bind_some]
        rw [if_neg (show ¬ b2 true = 0 by decide), e]
        simp only [Option.bind_some]
        exact clr _ _
      have ag : agr SRd (sm_wI g 67 1 0) g2 := agr_trans f3 t3
      by_cases room : nT g2 < 300 ∨ fT g2 x ps < nT g2
      · obtain ⟨q, z1, z2⟩ := inR_x (by omega) c0
        obtain ⟨h3, g3, s1, s2, s3, s4, s5, s6, s7, s8, s9⟩ := settled (r := x) (l := ps) K3 d3 t2 er c2 room ⟨q, z2, by rw [nC2]; exact z1 |> fun z => by omega⟩ (kL_of K3.1 (by
          rw [← hal]
          have : (fun k => kV g2 (at0 ps k)) = (fun k => kV g (at0 ps k)) := by funext k; unfold kV; rw [nC2]
          rw [this]))
        refine ⟨_, _, g3, cls _ _ s1, ref _ _ s2, ?_, ?_, ?_⟩
        · have I2 : I1 (sm_wI h1 64 1 0) g2 := I1_g (I1_h I0' (agr_mono SCd_not (agr_wI2 d2 64 1 0))) (fun b j ok => by
            have n : ¬ SRd b j := fun z => by have := SRd_not b j z; rw [show okR b j = false from this] at ok; cases ok
            exact ⟨ag.1 b j n, ag.2.1 b j n⟩)
          refine I1_re I2 (h1 := sm_wI h3 64 1 0) ?_ s4 s5 ?_ ?_
          · obtain ⟨wK, cK, wT, cT, wH, cH, wM, cM, cG, cO, cV, wX, cX, cXh, wF⟩ := s3
            exact ⟨wK, cK, wT, cT, wH, cH, wM, cM, cG, cO, cV, wX, cX, cXh_fr (by repeat first | exact hi_rfl | refine hi_wI ?_ (by decide) | refine hi_wJ ?_ (by decide)) cXh, wF⟩
          · exact oC_agr (agr_wI2 s8 64 1 0) (fun b j z => by unfold SCt at z; unfold oC; omega)
          · exact oR_agr s9 (fun b j z => by unfold SRt at z; unfold oR; omega)
        · exact kR_agr (S := fun b j => SCd b j ∨ SCt b j ∨ b = 64) (agr_wI (agr_trans (agr_mono (fun _ _ z => Or.inl z) d2) (agr_mono (fun _ _ z => Or.inr (Or.inl z)) s8)) (Or.inr (Or.inr rfl))) (fun b j z => by unfold SCd SCt at z; omega)
        · exact kC_agr (S := fun b j => SRd b j ∨ SRt b j ∨ b = 67) (agr_trans (agr_trans (agr_wI agr_rfl (Or.inr (Or.inr rfl))) (agr_mono (fun _ _ z => Or.inl z) ag)) (agr_mono (fun _ _ z => Or.inr (Or.inl z)) s9)) (fun b j z => by unfold SRd SRt at z; omega)
      · have n1 := C_settle0 K3.2.2.1 K3.2.2.2.1 d3 (by omega) x (by omega)
        have n2 := R_made0 K3.2.2.1 t2 (by omega) er (by omega)
        obtain ⟨m1, m2, m3⟩ := none1 h1 d2
        refine ⟨_, _, g2, cls _ _ n1, ref _ _ n2, I1_g m1 (fun b j ok => ?_), m2, kC_agr (S := fun b j => SRd b j ∨ b = 67) (agr_trans (agr_wI agr_rfl (Or.inr rfl)) (agr_mono (fun _ _ z => Or.inl z) ag)) (fun b j z => by unfold SRd at z; omega)⟩
        have n : ¬ SRd b j := fun z => by have := SRd_not b j z; rw [show okR b j = false from this] at ok; cases ok
        exact ⟨ag.1 b j n, ag.2.1 b j n⟩
    ·
      obtain ⟨m1, m2, m3⟩ := none1 h1 d2
      refine ⟨-1, sm_wI h1 64 1 0, sm_wI g 67 1 0, ?_, ?_, m1, m2, m3⟩
      · show F_260_0 x h = _
        unfold F_260_0
        rw [CH]
        simp only [Option.bind_some]
        rw [if_neg (show ¬ b2 true = 0 by decide), d1]
        simp only [Option.bind_some]
        cases al with
        | false => rw [if_pos (show b2 false = 0 by decide)]; exact clr _ _
        | true =>
          have d3 := d3 rfl
          have n1 := C_settle0 (g := g) K.2.2.1 (K1_h K (agr_mono SCd_not d2)).2.2.2.1 d3 (by omega) x (fun z => c1 ⟨rfl, z.1⟩)
          rw [if_neg (show ¬ b2 true = 0 by decide), n1]
          simp only [Option.bind_some]
          exact clr _ _
      · show F_382_0 x g = _
        unfold F_382_0
        simp only [Option.bind_some]
        rw [RK]
        simp only [Option.bind_some]
        rw [if_neg (show ¬ b2 true = 0 by decide), e1, ← len]
        by_cases c2 : ps.length ≤ 10
        · have : al = false := by cases al with
            | false => rfl
            | true => exact absurd ⟨rfl, c2⟩ c1
          subst this
          rw [if_neg (by rw [I3_lit, I3_lt (by decide) (by omega)]; omega)]
          unfold F_382_29
          have := RG true
          refine Eq.trans this ?_
          rfl
        · rw [if_pos (by rw [I3_lit, I3_lt (by decide) (by omega)]; omega)]
          unfold F_382_28 F_382_29
          have := RG false
          refine Eq.trans this ?_
          rfl
  · have c0 : inR x (20 + nC g) = false := by cases q : inR x (20 + nC g) with
      | false => rfl
      | true => exact absurd q c0
    rw [c0] at CH RK
    obtain ⟨m1, m2, m3⟩ := none1 h agr_rfl
    refine ⟨-1, sm_wI h 64 1 0, sm_wI g 67 1 0, ?_, ?_, m1, m2, m3⟩
    · show F_260_0 x h = _
      unfold F_260_0
      rw [CH]
      simp only [Option.bind_some]
      rw [if_pos (show b2 false = 0 by decide)]; exact clr _ _
    · show F_382_0 x g = _
      unfold F_382_0
      simp only [Option.bind_some]
      rw [RK]
      simp only [Option.bind_some]
      rw [if_pos (show b2 false = 0 by decide), e1, ← len]
      unfold F_382_28 F_382_29
      have := R_typeGood K0 RR x false
      refine Eq.trans this ?_
      rfl
theorem op_type {h : sm_H} (x : Int32) (I : I0 h) : ∃ v h1 h2, F_260 x h = some (v, h1) ∧ F_382 x h1 = some (v, h2) ∧ I0 h2 := op_of2 (type2 x) I
