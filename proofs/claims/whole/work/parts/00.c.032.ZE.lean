def mkB (g : sm_H) (m : Nat) : Bool := decide (g.1 87 m = 0 ∧ g.1 86 m = 0 ∧ g.1 84 m = 0 ∧ rs g (tn (g.1 89 m)) = 0)
theorem mkB_iff {g : sm_H} {m : Nat} : mkB g m = true ↔ mkr g m := by unfold mkB mkr; exact decide_eq_true_iff
def suB (g : sm_H) (m : Nat) (t : Int32) (w : Nat) : Bool := if 4 ≤ w then decide (g.1 87 m = 1) else decide (g.1 87 m = 0 ∧ g.1 89 m = t) && (if w = 0 then decide (g.1 86 m = 1) else decide (g.1 86 m = 0) && (mkB g m == decide (w = 3)))
theorem C_mhas {h g : sm_H} (wM : wfM g) (cM : cM h g) {m : Nat} (hm : m < nM g) : F_113 (I3 m) h = some (1, h) := by
  have m100 : nM g ≤ 100 := wM.1.2
  have e : h.1 38 13 = I3 (nM g) := cM.1.trans wM.1.1
  simp (disch := omega) only [F_113_17, F_113_16, F_113_0, F_113, ↓reduceIte, if_true, if_false, ite_self, Option.bind_some, Option.map_some, wI_rd, wJ_rd, wI_2, wJ_1, wJ_22, I3_lit, I3_add, I3_mul, I3_lt, I3_le, I3_inj, I3_nn', I3_n1, I3_n2, m2m1, ldI_I, ldJ_I, ldZ_I, stI_I, stJ_I, true_or, or_true, false_or, or_false, true_and, and_true, false_and, and_false, not_true_eq_false, not_false_eq_true, reduceCtorEq, Nat.reduceEqDiff, Nat.lt_irrefl, Nat.not_lt_zero, Nat.le_refl, Nat.reduceLT, Nat.reduceLeDiff, eq_self, zbbI, bbI0, bbI1, decide_eq_false_iff_not, decide_eq_true_eq, Bool.not_eq_false, Bool.not_eq_true, Bool.not_true, Bool.not_false, cond_true, cond_false, e, show ¬ nM g ≤ m by omega]
theorem C_kindOf {h g : sm_H} (wM : wfM g) (cM : cM h g) {m : Nat} (hm : m < nM g) : F_128 (I3 m) h = some (if g.1 87 m = 1 then g.1 88 m else 0, h) := by
  have m100 : nM g ≤ 100 := wM.1.2
  have H := C_mhas wM cM hm
  have e43 : h.1 43 m = if g.1 87 m = 1 then g.1 88 m else 0 := by
    obtain ⟨-, -, -, -, y5, y6⟩ := cM.2.2 m hm
    rcases (wM.2.2 m hm).2.2.2.2 with ⟨z, -⟩ | ⟨z, -⟩
    · rw [if_pos z]; exact (y5 z).1
    · rw [if_neg (by rw [z]; decide)]; exact (y6 z).1
  show F_128_0 (I3 m) h = _
  unfold F_128_0 F_128_18
  rw [H]; simp only [Option.bind_some]
  rw [if_neg (by decide), ldI_I (by omega) (by omega), e43]; rfl
theorem fld_ne {g : sm_H} (wK : wfK g) (wM : wfM g) {m : Nat} (hm : m < nM g) : ((if g.1 87 m = 1 then g.1 88 m else 0) = 0) = (g.1 87 m = 0) := by
  rcases (wM.2.2 m hm).2.2.2.2 with ⟨z, z2, z3, -⟩ | ⟨z, -⟩
  · rw [if_pos z, z]
    simp only [eq_iff_iff]
    constructor
    · intro q; rw [q] at z3; exact absurd z3 (by decide)
    · intro q; exact absurd q (by decide)
  · rw [if_neg (by rw [z]; decide), z]
theorem C_isMaker {h g : sm_H} (wK : wfK g) (wT : wfT g) (cT : cT h g) (wM : wfM g) (cM : cM h g) {m : Nat} (hm : m < nM g) : F_121 (I3 m) h = some (b2 (mkB g m), h) := by
  have m100 : nM g ≤ 100 := wM.1.2
  have w300 : nT g ≤ 300 := wT.1.2
  have k1 := C_kindOf wM cM hm
  obtain ⟨y1, y2, y3, y4, y5, y6⟩ := cM.2.2 m hm
  have fn := fld_ne wK wM hm
  show F_121_0 (I3 m) h = _
  unfold F_121_0 F_121_46 F_121_47 mkB
  rw [k1]; simp only [Option.bind_some, true_or, or_true, if_true]
  simp only [fn]
  rw [ldZ_I (by omega) (by omega), ldI_I (by omega) (by omega), ldI_I (by omega) (by omega), y4, y2]
  simp only [Option.bind_some]
  rcases (wM.2.2 m hm).2.2.2.2 with ⟨z, -⟩ | ⟨z, -, t, t1, t2⟩
  · rw [if_neg (by rw [z]; decide), decide_eq_false (by rw [z]; rintro ⟨q, -⟩; exact absurd q (by decide))]; rfl
  · have C := C_tres wT cT t1
    have tt : tn (I3 t) = t := I3_clamp (by omega)
    rw [if_pos z, (y6 z).2.2.1, t2, C, tt]
    simp only [Option.bind_some]
    by_cases a : g.1 86 m = 0
    · rw [if_pos a]
      by_cases b : g.1 84 m = 0
      · rw [if_pos b]
        by_cases c : g.1 72 t = 0
        · rw [if_pos c, decide_eq_true ⟨z, a, b, c⟩]; rfl
        · rw [if_neg c, decide_eq_false (fun q => c q.2.2.2)]; rfl
      · rw [if_neg b, decide_eq_false (fun q => b q.2.2.1)]; rfl
    · rw [if_neg a, decide_eq_false (fun q => a q.2.1)]; rfl
theorem R_isMaker {g : sm_H} (wT : wfT g) (wM : wfM g) {m : Nat} (hm : m < nM g) : F_364 (I3 m) g = some (b2 (mkB g m), g) := by
  have m100 : nM g ≤ 100 := wM.1.2
  have w300 : nT g ≤ 300 := wT.1.2
  show F_364_0 (I3 m) g = _
  unfold F_364_0 F_364_45 F_364_46 mkB
  have z0 : (if (0 : Int32) = 0 ∨ (0 : Int32) = 1 then some ((0 : Int32), g) else none) = some (0, g) := if_pos (Or.inl rfl)
  have z1 : (if (1 : Int32) = 0 ∨ (1 : Int32) = 1 then some ((1 : Int32), g) else none) = some (1, g) := if_pos (Or.inr rfl)
  rw [z0, z1, ldZ_I (by omega) (by omega), ldZ_I (by omega) (by omega), ldI_I (by omega) (by omega), ldI_I (by omega) (by omega)]
  simp only [Option.bind_some]
  rcases (wM.2.2 m hm).2.2.2.2 with ⟨z, -⟩ | ⟨z, -, t, t1, t2⟩
  · rw [if_neg (by rw [z]; decide), decide_eq_false (by rw [z]; rintro ⟨q, -⟩; exact absurd q (by decide))]; rfl
  · have tt : tn (I3 t) = t := I3_clamp (by omega)
    rw [if_pos z, t2, ldI_I (by omega) (by omega), tt]
    simp only [Option.bind_some]
    by_cases a : g.1 86 m = 0
    · rw [if_pos a]
      by_cases b : g.1 84 m = 0
      · rw [if_pos b]
        by_cases c : g.1 72 t = 0
        · rw [if_pos c, decide_eq_true ⟨z, a, b, c⟩]; rfl
        · rw [if_neg c, decide_eq_false (fun q => c q.2.2.2)]; rfl
      · rw [if_neg b, decide_eq_false (fun q => b q.2.2.1)]; rfl
    · rw [if_neg a, decide_eq_false (fun q => a q.2.1)]; rfl
theorem C_suits {h g : sm_H} (wK : wfK g) (wT : wfT g) (cT : cT h g) (wM : wfM g) (cM : cM h g) {m : Nat} (hm : m < nM g) (t : Int32) {w : Nat} (hw : w ≤ 8) : F_120 (I3 m) t (I3 w) h = some (b2 (suB g m t w), h) := by
  have m100 : nM g ≤ 100 := wM.1.2
  have k1 := C_kindOf wM cM hm
  have mk := C_isMaker wK wT cT wM cM hm
  obtain ⟨y1, y2, y3, y4, y5, y6⟩ := cM.2.2 m hm
  have fn := fld_ne wK wM hm
  have z0 : (if (0 : Int32) = 0 ∨ (0 : Int32) = 1 then some ((0 : Int32), h) else none) = some (0, h) := if_pos (Or.inl rfl)
  have z1 : (if (1 : Int32) = 0 ∨ (1 : Int32) = 1 then some ((1 : Int32), h) else none) = some (1, h) := if_pos (Or.inr rfl)
  obtain ⟨sb, s1⟩ := (wM.2.2 m hm).2.2.2.1
  show F_120_0 (I3 m) t (I3 w) h = _
  unfold F_120_0 F_120_81 F_120_82 F_120_74 F_120_37 F_120_18 suB
  rw [k1]; simp only [Option.bind_some, true_or, or_true, if_true]
  simp only [fn]
  by_cases c4 : 4 ≤ w
  · rw [if_neg (by rw [I3_lit, I3_lt (by omega) (by decide)]; omega), if_pos c4]
    rcases (wM.2.2 m hm).2.2.2.2 with ⟨z, -⟩ | ⟨z, -⟩
    · rw [if_neg (by rw [z]; decide), decide_eq_true z]; rfl
    · rw [if_pos z, decide_eq_false (by rw [z]; decide)]; rfl
  · rw [if_pos (by rw [I3_lit, I3_lt (by omega) (by decide)]; omega), if_neg c4]
    rcases (wM.2.2 m hm).2.2.2.2 with ⟨z, -⟩ | ⟨z, -⟩
    · rw [if_neg (by rw [z]; decide), decide_eq_false (by rw [z]; rintro ⟨q, -⟩; exact absurd q (by decide))]; rfl
    · rw [if_pos z, ldI_I (by omega) (by omega), (y6 z).2.2.1]; simp only [Option.bind_some]
      by_cases ct : g.1 89 m = t
      · rw [if_pos ct, decide_eq_true ⟨z, ct⟩, Bool.true_and, ldZ_I (by omega) (by omega), y4, s1]; simp only [Option.bind_some]
        by_cases w0 : w = 0
        · rw [if_pos (by rw [w0]; rfl), if_pos w0, if_pos (b2_ok sb)]
          cases sb <;> rfl
        · rw [if_neg (by rw [I3_lit, I3_inj (by omega) (by decide)]; exact w0), if_neg w0, mk]; simp only [Option.bind_some]
          cases sb with
          | true => rw [if_neg (by decide)]; rfl
          | false =>
            rw [if_pos (by decide)]
            by_cases w3 : w = 3
            · rw [if_pos (by rw [w3]; rfl), decide_eq_true w3]
              cases mkB g m <;> rfl
            · rw [if_neg (by rw [I3_lit, I3_inj (by omega) (by decide)]; exact w3), decide_eq_false w3]
              cases mkB g m <;> rfl
      · rw [if_neg ct, decide_eq_false (fun q => ct q.2)]; rfl
theorem R_isSought {g : sm_H} (wT : wfT g) (wM : wfM g) {m : Nat} (hm : m < nM g) (nm t : Int32) {w : Nat} (hw : w ≤ 8) : F_393 (I3 m) nm t (I3 w) g = some (b2 (decide (g.1 84 m = nm) && suB g m t w), g) := by
  have m100 : nM g ≤ 100 := wM.1.2
  have mk := R_isMaker wT wM hm
  have z0 : (if (0 : Int32) = 0 ∨ (0 : Int32) = 1 then some ((0 : Int32), g) else none) = some (0, g) := if_pos (Or.inl rfl)
  have z1 : (if (1 : Int32) = 0 ∨ (1 : Int32) = 1 then some ((1 : Int32), g) else none) = some (1, g) := if_pos (Or.inr rfl)
  obtain ⟨sb, s1⟩ := (wM.2.2 m hm).2.2.2.1
  show F_393_0 (I3 m) nm t (I3 w) g = _
  unfold F_393_0 F_393_92 F_393_93 F_393_85 F_393_44 suB
  rw [ldI_I (by omega) (by omega)]; simp only [Option.bind_some]
  by_cases cn : g.1 84 m = nm
  · rw [if_pos cn, decide_eq_true cn, Bool.true_and, ldZ_I (by omega) (by omega)]; simp only [Option.bind_some]
    by_cases c4 : 4 ≤ w
    · rw [if_neg (by rw [I3_lit, I3_le (by omega) (by decide)]; omega), if_pos c4]
      rcases (wM.2.2 m hm).2.2.2.2 with ⟨z, -⟩ | ⟨z, -⟩
      · rw [z]; rfl
      · rw [z]; rfl
    · rw [if_pos (by rw [I3_lit, I3_le (by omega) (by decide)]; omega), if_neg c4]
      rcases (wM.2.2 m hm).2.2.2.2 with ⟨z, -⟩ | ⟨z, -⟩
      · rw [if_neg (by rw [z]; decide), decide_eq_false (by rw [z]; rintro ⟨q, -⟩; exact absurd q (by decide))]; rfl
      · rw [if_pos z, ldI_I (by omega) (by omega)]; simp only [Option.bind_some]
        by_cases ct : g.1 89 m = t
        · rw [if_pos ct, decide_eq_true ⟨z, ct⟩, Bool.true_and, ldZ_I (by omega) (by omega), s1]; simp only [Option.bind_some]
          by_cases w0 : w = 0
          · rw [if_pos (by rw [w0]; rfl), if_pos w0, if_pos (b2_ok sb)]
            cases sb <;> rfl
          · rw [if_neg (by rw [I3_lit, I3_inj (by omega) (by decide)]; exact w0), if_neg w0, mk]; simp only [Option.bind_some]
            cases sb with
            | true => rw [if_neg (by decide)]; rfl
            | false =>
              rw [if_pos (by decide)]
              by_cases w3 : w = 3
              · rw [if_pos (by rw [w3]; rfl), decide_eq_true w3]
                cases mkB g m <;> rfl
              · rw [if_neg (by rw [I3_lit, I3_inj (by omega) (by decide)]; exact w3), decide_eq_false w3]
                cases mkB g m <;> rfl
        · rw [if_neg ct, decide_eq_false (fun q => ct q.2)]; rfl
  · rw [if_neg cn, decide_eq_false cn]; rfl
def sP (g : sm_H) (c : Nat) (nm t : Int32) (w m : Nat) : Bool := decide (g.1 83 m = I3 c) && (decide (g.1 84 m = nm) && suB g m t w)
theorem C_parentOf {h g : sm_H} (wK : wfK g) (cK : cK h g) {c : Nat} (h1 : 20 ≤ c) (h2 : c < 20 + nC g) : F_61 (I3 c) h = some (I3 (par g (c - 20)), h) := by
  have h12 := wK.2.1
  have C := C_isC (h := h) wK cK (x := c) (by omega)
  rw [decide_eq_true ⟨h1, h2⟩] at C
  have e := (cK.2.1 (c - 20) (by omega)).1
  rw [show 20 + (c - 20) = c by omega] at e
  show F_61_0 (I3 c) h = _
  unfold F_61_0 F_61_18
  rw [C]; simp only [Option.bind_some]
  rw [if_neg (by decide), ldI_I (by omega) (by omega), e, (wK.2.2 (c - 20) (by omega)).1]; rfl
theorem C_inClass {h g : sm_H} (wK : wfK g) (cK : cK h g) (wT : wfT g) (cT : cT h g) (wM : wfM g) (cM : cM h g) {c : Nat} (h1 : 20 ≤ c) (h2 : c < 20 + nC g) (nm t : Int32) {w : Nat} (hw : w ≤ 8) (up : Int32) : F_119_28 nm t (I3 w) (I3 c) up 0 h = some (if fst1 (sP g c nm t w) (nM g) < nM g then .inr (I3 (fst1 (sP g c nm t w) (nM g)), h) else .inl (nm, t, I3 w, (if w = 3 then -1 else I3 (par g (c - 20))), up + 1, h)) := by
  have h12 := wK.2.1
  have m100 : nM g ≤ 100 := wM.1.2
  have e : h.1 38 13 = I3 (nM g) := cM.1.trans wM.1.1
  refine lp_fst (body := F_119_28B) (sP g c nm t w) (nM g) (fun k => (nm, t, I3 w, I3 c, up, I3 k, h)) (fun k => .inr (I3 k, h)) (.inl (nm, t, I3 w, (if w = 3 then -1 else I3 (par g (c - 20))), up + 1, h)) (f := 1000000) (by omega) (fun k hk q => ?_) (fun k hk q => ?_) ?_
  · obtain ⟨y1, y2, y3, y4, y5, y6⟩ := cM.2.2 k hk
    have S := C_suits wK wT cT wM cM hk t hw
    show F_119_28B (nm, t, I3 w, I3 c, up, I3 k, h) = _
    unfold F_119_28B F_119_75
    rw [e, if_neg (by rw [I3_le (by omega) (by omega)]; omega), ldI_I (by omega) (by omega), y1]; simp only [Option.bind_some]
    unfold sP at q
    by_cases c1 : g.1 83 k = I3 c
    · rw [if_pos c1, ldI_I (by omega) (by omega), y2]; simp only [Option.bind_some]
      by_cases c2 : g.1 84 k = nm
      · rw [if_pos c2, S]; simp only [Option.bind_some]
        rw [decide_eq_true c1, decide_eq_true c2, Bool.true_and, Bool.true_and] at q
        rw [q, if_pos (by decide), I3_lit, I3_add]
      · rw [if_neg c2, I3_lit, I3_add]
    · rw [if_neg c1, I3_lit, I3_add]
  · obtain ⟨y1, y2, y3, y4, y5, y6⟩ := cM.2.2 k hk
    have S := C_suits wK wT cT wM cM hk t hw
    unfold sP at q
    simp only [Bool.and_eq_true, decide_eq_true_eq] at q
    obtain ⟨c1, c2, c3⟩ := q
    show F_119_28B (nm, t, I3 w, I3 c, up, I3 k, h) = _
    unfold F_119_28B
    rw [e, if_neg (by rw [I3_le (by omega) (by omega)]; omega), ldI_I (by omega) (by omega), y1]; simp only [Option.bind_some]
    rw [if_pos c1, ldI_I (by omega) (by omega), y2]; simp only [Option.bind_some]
    rw [if_pos c2, S]; simp only [Option.bind_some]
    rw [c3, if_neg (by decide)]
  · have P := C_parentOf wK cK h1 h2
    show F_119_28B (nm, t, I3 w, I3 c, up, I3 (nM g), h) = _
    unfold F_119_28B F_119_100
    rw [e, if_pos (by rw [I3_le (by omega) (by omega)]; omega)]
    by_cases w3 : w = 3
    · rw [if_pos (by rw [w3]; rfl), if_pos w3]; rfl
    · rw [if_neg (by rw [I3_lit, I3_inj (by omega) (by decide)]; exact w3), if_neg w3, P]; rfl
theorem R_inClass {g : sm_H} (wK : wfK g) (wT : wfT g) (wM : wfM g) {c : Nat} (h1 : 20 ≤ c) (h2 : c < 20 + nC g) (nm t : Int32) {w : Nat} (hw : w ≤ 8) : F_394_13 nm t (I3 w) (I3 c) 0 g = some (if fst1 (sP g c nm t w) (nM g) < nM g then .inr (I3 (fst1 (sP g c nm t w) (nM g)), g) else .inl (nm, t, I3 w, (if w = 3 then -1 else I3 (par g (c - 20))), g)) := by
  have h12 := wK.2.1
  have m100 : nM g ≤ 100 := wM.1.2
  have e : g.1 67 32 = I3 (nM g) := wM.1.1
  refine lp_fst (body := F_394_13B) (sP g c nm t w) (nM g) (fun k => (nm, t, I3 w, I3 c, I3 k, g)) (fun k => .inr (I3 k, g)) (.inl (nm, t, I3 w, (if w = 3 then -1 else I3 (par g (c - 20))), g)) (f := 1000000) (by omega) (fun k hk q => ?_) (fun k hk q => ?_) ?_
  · have S := R_isSought wT wM hk nm t hw
    show F_394_13B (nm, t, I3 w, I3 c, I3 k, g) = _
    unfold F_394_13B F_394_50
    rw [e, if_neg (by rw [I3_le (by omega) (by omega)]; omega), ldI_I (by omega) (by omega)]; simp only [Option.bind_some]
    unfold sP at q
    by_cases c1 : g.1 83 k = I3 c
    · rw [decide_eq_true c1, Bool.true_and] at q
      rw [if_pos c1, S, q]; simp only [Option.bind_some]
      rw [if_pos (by decide), I3_lit, I3_add]
    · rw [if_neg c1, I3_lit, I3_add]
  · have S := R_isSought wT wM hk nm t hw
    unfold sP at q
    rw [Bool.and_eq_true, decide_eq_true_eq] at q
    obtain ⟨c1, c2⟩ := q
    show F_394_13B (nm, t, I3 w, I3 c, I3 k, g) = _
    unfold F_394_13B
    rw [e, if_neg (by rw [I3_le (by omega) (by omega)]; omega), ldI_I (by omega) (by omega)]; simp only [Option.bind_some]
    rw [if_pos c1, S, c2]; simp only [Option.bind_some]
    rw [if_neg (by decide)]
  · show F_394_13B (nm, t, I3 w, I3 c, I3 (nM g), g) = _
    unfold F_394_13B F_394_76
    rw [e, if_pos (by rw [I3_le (by omega) (by omega)]; omega)]
    by_cases w3 : w = 3
    · rw [if_pos (by rw [w3]; rfl), if_pos w3]; rfl
    · rw [if_neg (by rw [I3_lit, I3_inj (by omega) (by decide)]; exact w3), if_neg w3, I3_lit, I3_sub h1, ldI_I (by omega) (by omega), (wK.2.2 (c - 20) (by omega)).1]; rfl
theorem sought2 {h g : sm_H} (wK : wfK g) (cK : cK h g) (wT : wfT g) (cT : cT h g) (wM : wfM g) (cM : cM h g) (nm t : Int32) {w : Nat} (hw : w ≤ 8) : ∀ c, 20 ≤ c → c < 20 + nC g → ∃ r, (∀ up f, up + c ≤ 31 → c < f → lp F_119_6B f (nm, t, I3 w, I3 c, I3 up, h) = some (r, h)) ∧ (∀ f, c < f → lp F_394_3B f (nm, t, I3 w, I3 c, g) = some (r, g)) ∧ (r = -1 ∨ ∃ m d, m < nM g ∧ r = I3 m ∧ 20 ≤ d ∧ d < 20 + nC g ∧ B g c d = true ∧ (w = 3 → d = c) ∧ sP g d nm t w m = true ∧ ∀ n, n < m → sP g d nm t w n = false) := by
  have h12 := wK.2.1
  intro c
  induction c using Nat.strongRecOn with
  | ind c ih =>
  intro h1 h2
  have CC := C_isC (h := h) wK cK (x := c) (by omega)
  rw [decide_eq_true ⟨h1, h2⟩] at CC
  have ⟨s1, s2, s3⟩ := fst1_spec (sP g c nm t w) (nM g)
  have step1 : ∀ up, up + c ≤ 31 → F_119_6B (nm, t, I3 w, I3 c, I3 up, h) = some (if fst1 (sP g c nm t w) (nM g) < nM g then .inr (I3 (fst1 (sP g c nm t w) (nM g)), h) else .inl (nm, t, I3 w, (if w = 3 then -1 else I3 (par g (c - 20))), I3 (up + 1), h)) := fun up hu => by
    have := C_inClass wK cK wT cT wM cM h1 h2 nm t hw (I3 up)
    have e1 : I3 up + 1 = I3 (up + 1) := by rw [I3_lit, I3_add]
    rw [e1] at this
    show F_119_6B (nm, t, I3 w, I3 c, I3 up, h) = _
    unfold F_119_6B
    rw [if_neg (by rw [I3_lit, I3_le (by decide) (by omega)]; omega), CC]; simp only [Option.bind_some]
    rw [if_neg (by decide)]; exact this
  have step2 : F_394_3B (nm, t, I3 w, I3 c, g) = some (if fst1 (sP g c nm t w) (nM g) < nM g then .inr (I3 (fst1 (sP g c nm t w) (nM g)), g) else .inl (nm, t, I3 w, (if w = 3 then -1 else I3 (par g (c - 20))), g)) := by
    have := R_inClass wK wT wM h1 h2 nm t hw
    show F_394_3B (nm, t, I3 w, I3 c, g) = _
    unfold F_394_3B
    rw [if_neg (by rw [I3_lit, I3_lt (by omega) (by decide)]; omega)]; exact this
  by_cases q : fst1 (sP g c nm t w) (nM g) < nM g
  · refine ⟨I3 (fst1 (sP g c nm t w) (nM g)), fun up f hu hf => ?_, fun f hf => ?_, Or.inr ⟨_, c, q, rfl, h1, h2, B_self g 12 c, fun _ => rfl, s3 q, fun n hn => s2 n hn⟩⟩
    · have := step1 up hu
      rw [if_pos q] at this
      exact lp_e (by omega) this
    · rw [if_pos q] at step2
      exact lp_e (by omega) step2
  · rw [if_neg q] at step2
    have stop1 : ∀ (x : Int32) (up : Int32) (f : Nat), F_55 x h = some (0, h) → 0 < f → lp F_119_6B f (nm, t, I3 w, x, up, h) = some (-1, h) := fun x up f e hf => by
      refine lp_e hf ?_
      show F_119_6B (nm, t, I3 w, x, up, h) = _
      unfold F_119_6B F_119_108
      rw [e]; simp only [Option.bind_some]
      by_cases z : 32 ≤ up
      · rw [if_pos z]; rfl
      · rw [if_neg z, if_pos (by decide)]; rfl
    have stop2 : ∀ (x : Int32) (f : Nat), x < 20 → 0 < f → lp F_394_3B f (nm, t, I3 w, x, g) = some (-1, g) := fun x f e hf => by
      refine lp_e hf ?_
      show F_394_3B (nm, t, I3 w, x, g) = _
      unfold F_394_3B
      rw [if_pos e]
    by_cases w3 : w = 3
    · rw [if_pos w3] at step2
      refine ⟨-1, fun up f hu hf => ?_, fun f hf => ?_, Or.inl rfl⟩
      · have := step1 up hu
        rw [if_neg q, if_pos w3] at this
        rw [lp_s (by omega) this]
        exact stop1 _ _ _ (C_isC_n (by decide)) (by omega)
      · rw [lp_s (by omega) step2]
        exact stop2 _ _ (by decide) (by omega)
    · rw [if_neg w3] at step2
      have pp := (wK.2.2 (c - 20) (by omega)).2
      have np : B g c (par g (c - 20)) = true ∨ True := Or.inr trivial
      by_cases p20 : 20 ≤ par g (c - 20)
      · obtain ⟨r, r1, r2, r3⟩ := ih (par g (c - 20)) (by omega) p20 (by omega)
        refine ⟨r, fun up f hu hf => ?_, fun f hf => ?_, ?_⟩
        · have := step1 up hu
          rw [if_neg q, if_neg w3] at this
          rw [lp_s (by omega) this]
          exact r1 (up + 1) (f - 1) (by omega) (by omega)
        · rw [lp_s (by omega) step2]
          exact r2 (f - 1) (by omega)
        · rcases r3 with z | ⟨m, d, z1, z2, z3, z4, z5, z6, z7, z8⟩
          · exact Or.inl z
          · refine Or.inr ⟨m, d, z1, z2, z3, z4, ?_, fun z => absurd z w3, z7, z8⟩
            rw [B_ge20 wK h2 h1, z5, Bool.or_true]
      · have nc : F_55 (I3 (par g (c - 20))) h = some (0, h) := by
          rw [C_isC wK cK (by omega), decide_eq_false (by omega)]; rfl
        refine ⟨-1, fun up f hu hf => ?_, fun f hf => ?_, Or.inl rfl⟩
        · have := step1 up hu
          rw [if_neg q, if_neg w3] at this
          rw [lp_s (by omega) this]
          exact stop1 _ _ _ nc (by omega)
        · rw [lp_s (by omega) step2]
          exact stop2 _ _ (by rw [I3_lit, I3_lt (by omega) (by decide)]; omega) (by omega)
theorem B_trans {g : sm_H} (wK : wfK g) {y z : Nat} (hy : 20 ≤ y) (hyz : B g y z = true) : ∀ x, x < 20 + nC g → B g x y = true → B g x z = true := by
  intro x
  induction x using Nat.strongRecOn with
  | ind x ih =>
  intro hx hxy
  rcases Nat.lt_or_ge x 20 with c | c
  · rw [B_lt20 c, kB_eq (by omega) (by omega)] at hxy
    have := of_decide_eq_true hxy
    omega
  · rw [B_ge20 wK hx c] at hxy ⊢
    have pp := (wK.2.2 (x - 20) (by omega)).2
    rw [Bool.or_eq_true] at hxy
    rcases hxy with q | q
    · have := Nat.eq_of_beq_eq_true q
      subst this
      rw [B_ge20 wK hx c] at hyz
      exact hyz
    · rw [ih (par g (x - 20)) (by omega) (by omega) q, Bool.or_true]
def rcB (g : sm_H) (a m : Nat) : Bool := if g.1 85 m = 0 then decide (I3 (20 + a) = g.1 83 m) else if g.1 85 m = 1 then decide (g.1 71 a = g.1 71 (tn (g.1 83 m) - 20)) else if g.1 85 m = 2 then decide (g.1 71 a = g.1 71 (tn (g.1 83 m) - 20)) || B g (20 + a) (tn (g.1 83 m)) else true
theorem reaches2 {h g : sm_H} (wK : wfK g) (cK : cK h g) (wM : wfM g) (cM : cM h g) {a m : Nat} (ha : a < nC g) (hm : m < nM g) : F_123 (I3 (20 + a)) (I3 m) h = some (b2 (rcB g a m), h) ∧ F_392 (I3 (20 + a)) (I3 m) g = some (b2 (rcB g a m), g) := by
  have h12 := wK.2.1
  have m100 : nM g ≤ 100 := wM.1.2
  obtain ⟨⟨d, d1, d2⟩, -, r1, -⟩ := wM.2.2 m hm
  obtain ⟨y1, y2, y3, y4, y5, y6⟩ := cM.2.2 m hm
  have td : tn (I3 (20 + d)) = 20 + d := I3_clamp (by omega)
  have C1 := C_isC (h := h) wK cK (x := 20 + a) (by omega)
  have C2 := C_isC (h := h) wK cK (x := 20 + d) (by omega)
  rw [decide_eq_true (by omega)] at C1 C2
  have p1 := (cK.2.1 a ha).2
  have p2 := (cK.2.1 d d1).2
  have CB := C_belowN wK cK (x := 20 + a) (y := 20 + d) (by omega) (by omega)
  have RB := R_below wK (x := 20 + a) (o := 20 + d) (by omega) (by omega)
  have z0 : ∀ g : sm_H, (if (0 : Int32) = 0 ∨ (0 : Int32) = 1 then some ((0 : Int32), g) else none) = some (0, g) := fun g => if_pos (Or.inl rfl)
  have z1 : ∀ g : sm_H, (if (1 : Int32) = 0 ∨ (1 : Int32) = 1 then some ((1 : Int32), g) else none) = some (1, g) := fun g => if_pos (Or.inr rfl)
  have SP : F_62 (I3 (20 + a)) (I3 (20 + d)) h = some (b2 (decide (g.1 71 a = g.1 71 d)), h) := by
    show F_62_0 _ _ h = _
    unfold F_62_0 F_62_35 F_62_36
    rw [C1]; simp only [Option.bind_some]
    rw [if_neg (by decide), C2]; simp only [Option.bind_some]
    rw [if_neg (by decide), ldI_I (by omega) (by omega), ldI_I (by omega) (by omega), p1, p2]; simp only [Option.bind_some, true_or, or_true, if_true]
    by_cases c : g.1 71 a = g.1 71 d
    · rw [if_pos c, decide_eq_true c]; rfl
    · rw [if_neg c, decide_eq_false c]; rfl
  unfold rcB
  rw [d2, td, show 20 + d - 20 = d by omega]
  constructor
  · show F_123_0 _ _ h = _
    unfold F_123_0 F_123_85 F_123_90 F_123_50
    rw [ldI_I (by omega) (by omega), ldI_I (by omega) (by omega), y1, y3, d2]; simp only [Option.bind_some, true_or, or_true, if_true]
    by_cases q0 : g.1 85 m = 0
    · rw [if_pos q0, if_pos q0]
      by_cases q : I3 (20 + a) = I3 (20 + d)
      · rw [if_pos q, decide_eq_true q]; rfl
      · rw [if_neg q, decide_eq_false q]; rfl
    · rw [if_neg q0, if_neg q0, SP]; simp only [Option.bind_some]
      by_cases q1 : g.1 85 m = 1
      · rw [if_pos q1, if_pos q1, if_pos (b2_ok _)]
      · rw [if_neg q1, if_neg q1]
        by_cases q2 : g.1 85 m = 2
        · rw [if_pos q2, if_pos q2, CB]; simp only [Option.bind_some]
          cases decide (g.1 71 a = g.1 71 d) with
          | true => rfl
          | false => cases B g (20 + a) (20 + d) <;> rfl
        · rw [if_neg q2, if_neg q2]; rfl
  · show F_392_0 _ _ g = _
    unfold F_392_0
    rw [ldI_I (by omega) (by omega), d2]; simp only [Option.bind_some]
    rw [I3_lit, I3_sub (by omega), I3_sub (by omega), show 20 + a - 20 = a by omega, show 20 + d - 20 = d by omega, ldI_I (by omega) (by omega), ldI_I (by omega) (by omega)]; simp only [Option.bind_some]
    have u : (if g.1 71 a = g.1 71 d then F_392_33 (I3 (20 + a)) (I3 m) (I3 (20 + d)) 1 g else F_392_33 (I3 (20 + a)) (I3 m) (I3 (20 + d)) 0 g) = F_392_33 (I3 (20 + a)) (I3 m) (I3 (20 + d)) (b2 (decide (g.1 71 a = g.1 71 d))) g := by
      by_cases c : g.1 71 a = g.1 71 d
      · rw [if_pos c, decide_eq_true c]; rfl
      · rw [if_neg c, decide_eq_false c]; rfl
    refine Eq.trans u ?_
    unfold F_392_33 F_392_96 F_392_101 F_392_78
    rw [ldI_I (by omega) (by omega)]; simp only [Option.bind_some, true_or, or_true, if_true]
    by_cases q0 : g.1 85 m = 0
    · rw [if_pos q0, if_pos q0]
      by_cases q : I3 (20 + a) = I3 (20 + d)
      · rw [if_pos q, decide_eq_true q]; rfl
      · rw [if_neg q, decide_eq_false q]; rfl
    · rw [if_neg q0, if_neg q0]
      by_cases q1 : g.1 85 m = 1
      · rw [if_pos q1, if_pos q1, if_pos (b2_ok _)]
      · rw [if_neg q1, if_neg q1]
        by_cases q2 : g.1 85 m = 2
        · rw [if_pos q2, if_pos q2, RB]; simp only [Option.bind_some]
          cases decide (g.1 71 a = g.1 71 d) with
          | true => rfl
          | false => cases B g (20 + a) (20 + d) <;> rfl
        · rw [if_neg q2, if_neg q2]; rfl
