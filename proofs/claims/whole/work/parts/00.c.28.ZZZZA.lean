def TXC (n : Nat) (bt : Nat → Nat) (h : sm_H) : Prop := h.1 52 1 = I3 n ∧ n ≤ 3000 ∧ ∀ i, i < n → h.1 53 i = I3 (bt i) ∧ bt i ≤ 255
def TXR (n : Nat) (bt : Nat → Nat) (g : sm_H) : Prop := g.1 67 76 = I3 n ∧ n ≤ 3000 ∧ ∀ i, i < n → g.1 112 i = I3 (bt i) ∧ bt i ≤ 255
def blN (b : Nat) : Bool := decide (b = 32 ∨ b = 10)
def isL (b : Nat) : Bool := decide (97 ≤ b ∧ b ≤ 122)
def isD (b : Nat) : Bool := decide (48 ≤ b ∧ b ≤ 57)
def far (p : Nat → Bool) (n : Nat) : Nat → Nat → Nat
  | 0, i => i
  | r + 1, i => if i < n ∧ p i = true then far p n r (i + 1) else i
theorem far_ge (p : Nat → Bool) (n : Nat) : ∀ r i, i ≤ far p n r i := by
  intro r
  induction r with
  | zero => intro i; exact Nat.le_refl _
  | succ r ih =>
    intro i
    unfold far
    split
    · exact Nat.le_trans (Nat.le_succ i) (ih (i + 1))
    · exact Nat.le_refl _
theorem far_le (p : Nat → Bool) (n : Nat) : ∀ r i, i ≤ n → far p n r i ≤ n := by
  intro r
  induction r with
  | zero => intro i h; exact h
  | succ r ih =>
    intro i h
    unfold far
    split
    · exact ih (i + 1) (by omega)
    · exact h
theorem far_stop (p : Nat → Bool) (n : Nat) : ∀ r i, n ≤ i + r → ¬ (far p n r i < n ∧ p (far p n r i) = true) := by
  intro r
  induction r with
  | zero => intro i h; unfold far; omega
  | succ r ih =>
    intro i h
    unfold far
    split
    · exact ih (i + 1) (by omega)
    · assumption
theorem far_all (p : Nat → Bool) (n : Nat) : ∀ r i j, i ≤ j → j < far p n r i → j < n ∧ p j = true := by
  intro r
  induction r with
  | zero => intro i j h1 h2; unfold far at h2; omega
  | succ r ih =>
    intro i j h1 h2
    unfold far at h2
    split at h2
    · by_cases q : j = i
      · subst q; assumption
      · exact ih (i + 1) j (by omega) h2
    · omega
theorem far_id (p : Nat → Bool) (n r i : Nat) (h : ¬ (i < n ∧ p i = true)) : far p n r i = i := by
  cases r with
  | zero => rfl
  | succ r => unfold far; rw [if_neg h]
def sk (n : Nat) (bt : Nat → Nat) (i : Nat) : Nat := far (fun j => blN (bt j)) n n i
theorem sk_sk (n : Nat) (bt : Nat → Nat) (i : Nat) : sk n bt (sk n bt i) = sk n bt i := far_id _ _ _ _ (far_stop _ n n i (by omega))
theorem sk_nb {n : Nat} {bt : Nat → Nat} {i : Nat} (h : sk n bt i < n) : blN (bt (sk n bt i)) = false := by
  have := far_stop (fun j => blN (bt j)) n n i (by omega)
  cases q : blN (bt (sk n bt i)) with
  | false => rfl
  | true => exact absurd ⟨h, q⟩ this
def foldN (bt : Nat → Nat) (f : Nat) : Nat → Int64
  | 0 => 0
  | k + 1 => (foldN bt f k <<< (Int32.toInt64 8 &&& 63)) ||| Int32.toInt64 (I3 (bt (f + k)))
theorem foldN_s (bt : Nat → Nat) (f k : Nat) : foldN bt f (k + 1) = (foldN bt f k <<< (Int32.toInt64 8 &&& 63)) ||| Int32.toInt64 (I3 (bt (f + k))) := rfl
def numV (bt : Nat → Nat) (s : Nat) : Nat → Bool × Int64
  | 0 => (true, 0)
  | k + 1 => ((numV bt s k).1 && !decide ((numV bt s k).2.toInt < (((-9223372036854775808) + Int32.toInt64 (I3 (bt (s + k)) - 48)) / 10 : Int64).toInt), (numV bt s k).2 * 10 - Int32.toInt64 (I3 (bt (s + k)) - 48))
theorem numV_s (bt : Nat → Nat) (s k : Nat) : numV bt s (k + 1) = ((numV bt s k).1 && !decide ((numV bt s k).2.toInt < (((-9223372036854775808) + Int32.toInt64 (I3 (bt (s + k)) - 48)) / 10 : Int64).toInt), (numV bt s k).2 * 10 - Int32.toInt64 (I3 (bt (s + k)) - 48)) := rfl
def sgn (b : Nat) : Option Nat := if b = 43 then some 0 else if b = 45 then some 1 else if b = 42 then some 2 else if b = 47 then some 3 else if b = 37 then some 4 else if b = 38 then some 5 else if b = 124 then some 6 else if b = 94 then some 7 else if b = 60 then some 11 else if b = 61 then some 12 else none
theorem sgn_12 {b o : Nat} (h : sgn b = some o) : o ≤ 12 := by
  unfold sgn at h
  repeat' split at h
  all_goals first | (cases h; decide) | cases h
def nst (bt : Nat → Nat) (f : Nat) : Nat := if bt f = 45 then f + 1 else f
def nen (n : Nat) (bt : Nat → Nat) (f : Nat) : Nat := far (fun j => isD (bt j)) n n (nst bt f)
def isl (n : Nat) (bt : Nat → Nat) (f : Nat) : Bool := decide (nen n bt f < n ∧ bt (nen n bt f) = 108)
def nok (n : Nat) (bt : Nat → Nat) (f : Nat) : Bool := (numV bt (nst bt f) (nen n bt f - nst bt f)).1 && !(decide (¬ bt f = 45) && decide ((numV bt (nst bt f) (nen n bt f - nst bt f)).2 = -9223372036854775808))
def nva (n : Nat) (bt : Nat → Nat) (f : Nat) : Int64 := if bt f = 45 then (numV bt (nst bt f) (nen n bt f - nst bt f)).2 else -(numV bt (nst bt f) (nen n bt f - nst bt f)).2
def nfi (n : Nat) (bt : Nat → Nat) (f : Nat) : Bool := decide (nva n bt f = Int32.toInt64 (Int64.toInt32 (nva n bt f)))
def men (n : Nat) (bt : Nat → Nat) (f : Nat) : Nat := far (fun j => isL (bt j) || isD (bt j)) n n f
def isN (n : Nat) (bt : Nat → Nat) (f : Nat) : Bool := isD (bt f) || (decide (bt f = 45) && (decide (f + 1 < n) && isD (bt (f + 1))))
def wrd (n : Nat) (bt : Nat → Nat) (f : Nat) : Nat := if n ≤ f then 0 else if bt f = 40 then 1 else if bt f = 41 then 2 else if isN n bt f = true then (if nok n bt f = true ∧ (isl n bt f = true ∨ nfi n bt f = true) then 3 else 6) else if isL (bt f) = true then (if men n bt f - f ≤ 8 then 4 else 6) else if sgn (bt f) = none then 6 else 5
def wen (n : Nat) (bt : Nat → Nat) (f : Nat) : Nat := if n ≤ f then f else if isN n bt f = true then (if isl n bt f = true then nen n bt f + 1 else nen n bt f) else if isL (bt f) = true then men n bt f else f + 1
def wtr (n : Nat) (bt : Nat → Nat) (f : Nat) : Nat := if isN n bt f = true then 3 else if isL (bt f) = true then 2 else 1
abbrev S52 (b j : Nat) : Prop := b = 52 ∧ 3 ≤ j
theorem TXC_agr {n : Nat} {bt : Nat → Nat} {h h1 : sm_H} {P : Nat → Nat → Prop} (t : TXC n bt h) (a : agr P h h1) (p : ∀ b j, P b j → ¬ (b = 52 ∧ j = 1 ∨ b = 53)) : TXC n bt h1 := ⟨(a.1 52 1 (fun z => p _ _ z (by omega))).trans t.1, t.2.1, fun i hi => ⟨(a.1 53 i (fun z => p _ _ z (by omega))).trans (t.2.2 i hi).1, (t.2.2 i hi).2⟩⟩
theorem S52_p (b j : Nat) (z : S52 b j) : ¬ (b = 52 ∧ j = 1 ∨ b = 53) := by unfold S52 at z; omega
theorem TXC_52 {n : Nat} {bt : Nat → Nat} {h h1 : sm_H} (t : TXC n bt h) (a : agr S52 h h1) : TXC n bt h1 := TXC_agr t a S52_p
theorem ld53 {n : Nat} {bt : Nat → Nat} {h : sm_H} (t : TXC n bt h) {i : Nat} (hi : i < n) : ldI h 53 3000 (I3 i) = some (I3 (bt i)) := by
  have := t.2.1
  rw [ldI_I (by omega) (by decide), (t.2.2 i hi).1]
section
variable {n : Nat} {bt : Nat → Nat} {h : sm_H}
theorem C_skip (t : TXC n bt h) {a : Nat} (ea : h.1 52 3 = I3 a) (an : a ≤ n) : ∃ h1, F_253 h = some h1 ∧ h1.1 52 3 = I3 (sk n bt a) ∧ agr S52 h h1 := by
  have n3 := t.2.1
  have LP : ∀ r i u f, n ≤ i + r → i ≤ n → r < f → u.1 52 3 = I3 i → agr S52 h u → ∃ h1, lp F_253_0B f u = some h1 ∧ h1.1 52 3 = I3 (far (fun j => blN (bt j)) n r i) ∧ agr S52 h h1 := by
    intro r
    induction r with
    | zero =>
      intro i u f h1 h2 hf eu au
      refine ⟨u, lp_e (by omega) ?_, eu, au⟩
      unfold F_253_0B F_253_52
      rw [(TXC_52 t au).1, eu, if_pos (by rw [I3_le (by omega) (by omega)]; omega)]; rfl
    | succ r ih =>
      intro i u f h1 h2 hf eu au
      have tu := TXC_52 t au
      unfold far
      by_cases q : i < n ∧ blN (bt i) = true
      · have b5 := (t.2.2 i q.1).2
        rw [if_pos q, lp_s (s' := sm_wI u 52 3 (I3 (i + 1))) (by omega) (by
          unfold F_253_0B F_253_39
          rw [tu.1, eu, if_neg (by rw [I3_le (by omega) (by omega)]; omega), ld53 tu q.1]; simp only [obs]
          have hb : bt i = 32 ∨ bt i = 10 := of_decide_eq_true q.2
          rw [show I3 i + 1 = I3 (i + 1) from I3_add i 1]
          by_cases w : bt i = 32
          · rw [if_pos (show I3 (bt i) = (32 : Int32) by rw [w]; rfl)]
          · rw [if_neg (show ¬ I3 (bt i) = (32 : Int32) by rw [I3_lit, I3_inj (by omega) (by decide)]; exact w), if_pos (show I3 (bt i) = (10 : Int32) by rw [hb.resolve_left w]; rfl)])]
        exact ih (i + 1) _ (f - 1) (by omega) (by omega) (by omega) rfl (agr_wI au ⟨rfl, by omega⟩)
      · rw [if_neg q]
        refine ⟨u, lp_e (by omega) ?_, eu, au⟩
        unfold F_253_0B F_253_52
        by_cases w : n ≤ i
        · rw [tu.1, eu, if_pos (by rw [I3_le (by omega) (by omega)]; omega)]; rfl
        · have b5 := (t.2.2 i (by omega)).2
          have nb : ¬ (bt i = 32 ∨ bt i = 10) := fun z => q ⟨by omega, decide_eq_true z⟩
          rw [tu.1, eu, if_neg (by rw [I3_le (by omega) (by omega)]; omega), ld53 tu (by omega)]; simp only [obs]
          rw [if_neg (show ¬ I3 (bt i) = (32 : Int32) by rw [I3_lit, I3_inj (by omega) (by decide)]; omega), if_neg (show ¬ I3 (bt i) = (10 : Int32) by rw [I3_lit, I3_inj (by omega) (by decide)]; omega)]; rfl
  exact LP n a h 1000000 (by omega) an (by omega) ea agr_rfl
def gb (n : Nat) (bt : Nat → Nat) (i : Nat) : Int32 := if i < n then I3 (bt i) else -1
theorem C_250 (t : TXC n bt h) {i : Nat} (hi : i ≤ 4000) : F_250 (I3 i) h = some (gb n bt i, h) := by
  have n3 := t.2.1
  show F_250_0 (I3 i) h = _
  unfold F_250_0 F_250_28 F_250_29 gb
  rw [if_neg (I3_nn (by omega)), t.1]
  by_cases q : i < n
  · rw [if_neg (by rw [I3_le (by omega) (by omega)]; omega), if_neg (by rw [I3_lit, I3_le (by decide) (by omega)]; omega), ld53 t q, if_pos q]; simp only [obs]
  · rw [if_pos (by rw [I3_le (by omega) (by omega)]; omega), if_neg q]
theorem isD_b {b : Nat} (hb : b ≤ 255) : isD b = (!decide (I3 b < 48) && !decide (57 < I3 b)) := by
  unfold isD
  have e1 : (I3 b < 48) ↔ b < 48 := by rw [I3_lit, I3_lt (by omega) (by decide)]
  have e2 : ((57 : Int32) < I3 b) ↔ 57 < b := by rw [I3_lit, I3_lt (by decide) (by omega)]
  rw [← decide_not, ← decide_not, ← Bool.decide_and]
  exact decide_eq_decide.mpr (by rw [e1, e2]; omega)
theorem isL_b {b : Nat} (hb : b ≤ 255) : isL b = (!decide (I3 b < 97) && !decide (122 < I3 b)) := by
  unfold isL
  have e1 : (I3 b < 97) ↔ b < 97 := by rw [I3_lit, I3_lt (by omega) (by decide)]
  have e2 : ((122 : Int32) < I3 b) ↔ 122 < b := by rw [I3_lit, I3_lt (by decide) (by omega)]
  rw [← decide_not, ← decide_not, ← Bool.decide_and]
  exact decide_eq_decide.mpr (by rw [e1, e2]; omega)
theorem C_251 (x : Int32) (h : sm_H) : F_251 x h = some (b2 (!decide (x < 48) && !decide (57 < x)), h) := by
  show F_251_0 x h = _
  unfold F_251_0 F_251_16 F_251_17
  by_cases a : x < 48
  · rw [if_pos a, if_pos (by decide), decide_eq_true a]; rfl
  · rw [if_neg a, decide_eq_false a]
    by_cases b : 57 < x
    · rw [if_pos b, if_pos (by decide), decide_eq_true b]; rfl
    · rw [if_neg b, if_pos (by decide), decide_eq_false b]; rfl
theorem C_252 (x : Int32) (h : sm_H) : F_252 x h = some (b2 (!decide (x < 97) && !decide (122 < x)), h) := by
  show F_252_0 x h = _
  unfold F_252_0 F_252_16 F_252_17
  by_cases a : x < 97
  · rw [if_pos a, if_pos (by decide), decide_eq_true a]; rfl
  · rw [if_neg a, decide_eq_false a]
    by_cases b : 122 < x
    · rw [if_pos b, if_pos (by decide), decide_eq_true b]; rfl
    · rw [if_neg b, if_pos (by decide), decide_eq_false b]; rfl
theorem C_251b {b : Nat} (hb : b ≤ 255) (h : sm_H) : F_251 (I3 b) h = some (b2 (isD b), h) := by rw [C_251, isD_b hb]
theorem C_252b {b : Nat} (hb : b ≤ 255) (h : sm_H) : F_252 (I3 b) h = some (b2 (isL b), h) := by rw [C_252, isL_b hb]
theorem C_name (t : TXC n bt h) {f : Nat} (ef : h.1 52 3 = I3 f) (fn : f ≤ n) : ∃ h1, F_255 h = some (if men n bt f - f ≤ 8 then 4 else 6, h1) ∧ h1.1 52 3 = I3 (men n bt f) ∧ h1.2.1 52 10 = foldN bt f (men n bt f - f) ∧ h1.1 52 6 = 2 ∧ h1.1 52 5 = h.1 52 5 ∧ agr S52 h h1 := by
  have n3 := t.2.1
  have LP : ∀ r i u fu, n ≤ i + r → f ≤ i → i ≤ n → r < fu → u.1 52 3 = I3 i → u.2.1 52 10 = foldN bt f (i - f) → u.1 52 5 = h.1 52 5 → agr S52 h u → ∃ h1, lp F_255_7B fu (I3 (i - f), u) = some (if far (fun j => isL (bt j) || isD (bt j)) n r i - f ≤ 8 then 4 else 6, h1) ∧ h1.1 52 3 = I3 (far (fun j => isL (bt j) || isD (bt j)) n r i) ∧ h1.2.1 52 10 = foldN bt f (far (fun j => isL (bt j) || isD (bt j)) n r i - f) ∧ h1.1 52 6 = 2 ∧ h1.1 52 5 = h.1 52 5 ∧ agr S52 h h1 := by
    intro r
    induction r with
    | zero =>
      intro i u fu h1 h2 h3 hf eu e10 e5 au
      refine ⟨sm_wI u 52 6 2, lp_e (by omega) ?_, eu, e10, rfl, e5, agr_wI au ⟨rfl, by omega⟩⟩
      unfold F_255_7B F_255_112 F_255_129 far
      simp only []
      rw [(TXC_52 t au).1, eu, if_pos (by rw [I3_le (by omega) (by omega)]; omega)]; simp only [obs]
      by_cases q : i - f ≤ 8
      · rw [if_pos (by rw [I3_lit, I3_le (by omega) (by decide)]; exact q), if_pos q]; rfl
      · rw [if_neg (by rw [I3_lit, I3_le (by omega) (by decide)]; exact q), if_neg q]; rfl
    | succ r ih =>
      intro i u fu h1 h2 h3 hf eu e10 e5 au
      have tu := TXC_52 t au
      unfold far
      by_cases q : i < n ∧ (isL (bt i) || isD (bt i)) = true
      · have b5 := (t.2.2 i q.1).2
        have go : F_255_7B (I3 (i - f), u) = some (.inl (I3 (i + 1 - f), sm_wI (sm_wJ u 52 10 (foldN bt f (i + 1 - f))) 52 3 (I3 (i + 1)))) := by
          have s74 : F_255_74 (I3 (i - f)) u = some (.inl (I3 (i + 1 - f), sm_wI (sm_wJ u 52 10 (foldN bt f (i + 1 - f))) 52 3 (I3 (i + 1)))) := by
            unfold F_255_74
            rw [eu, ld53 tu q.1]; simp only [obs]
            rw [e10, show (sm_wJ u 52 10 (foldN bt f (i - f) <<< (Int32.toInt64 8 &&& 63) ||| Int32.toInt64 (I3 (bt i)))).1 52 3 = u.1 52 3 from rfl, eu, show I3 i + 1 = I3 (i + 1) from I3_add i 1, show I3 (i - f) + 1 = I3 (i + 1 - f) by rw [show i + 1 - f = i - f + 1 by omega]; exact I3_add _ 1, show foldN bt f (i + 1 - f) = foldN bt f (i - f) <<< (Int32.toInt64 8 &&& 63) ||| Int32.toInt64 (I3 (bt i)) by rw [show i + 1 - f = i - f + 1 by omega, foldN_s, show f + (i - f) = i by omega]]
          unfold F_255_7B F_255_46
          simp only []
          rw [tu.1, eu, if_neg (by rw [I3_le (by omega) (by omega)]; omega), ld53 tu q.1]; simp only [obs]
          have ll := isL_b b5
          have dd := isD_b b5
          by_cases w : isL (bt i) = true
          · rw [w] at ll
            have : ¬ I3 (bt i) < 97 ∧ ¬ (122 : Int32) < I3 (bt i) := by
              have z := ll.symm
              rw [Bool.and_eq_true, Bool.not_eq_true', Bool.not_eq_true', decide_eq_false_iff_not, decide_eq_false_iff_not] at z; exact z
            rw [if_neg this.1, if_pos (Int32.not_lt.mp this.2), s74]
          · have wd : isD (bt i) = true := by
              cases z : isL (bt i) with
              | true => exact absurd z w
              | false => have := q.2; rw [z, Bool.false_or] at this; exact this
            rw [wd] at dd
            have : ¬ I3 (bt i) < 48 ∧ ¬ (57 : Int32) < I3 (bt i) := by
              have z := dd.symm
              rw [Bool.and_eq_true, Bool.not_eq_true', Bool.not_eq_true', decide_eq_false_iff_not, decide_eq_false_iff_not] at z; exact z
            rw [if_neg this.1, if_neg this.2, s74, ite_self, ite_self]
        rw [if_pos q, lp_s (by omega) go]
        exact ih (i + 1) _ (fu - 1) (by omega) (by omega) (by omega) (by omega) rfl rfl e5 (agr_wI (agr_wJ au ⟨rfl, by omega⟩) ⟨rfl, by omega⟩)
      · rw [if_neg q]
        have s112 : F_255_112 (I3 (i - f)) u = some (if i - f ≤ 8 then 4 else 6, sm_wI u 52 6 2) := by
          unfold F_255_112 F_255_129
          simp only [obs]
          by_cases w : i - f ≤ 8
          · rw [if_pos (by rw [I3_lit, I3_le (by omega) (by decide)]; exact w), if_pos w]
          · rw [if_neg (by rw [I3_lit, I3_le (by omega) (by decide)]; exact w), if_neg w]
        refine ⟨sm_wI u 52 6 2, lp_e (by omega) ?_, eu, e10, rfl, e5, agr_wI au ⟨rfl, by omega⟩⟩
        unfold F_255_7B F_255_46
        simp only []
        by_cases w : n ≤ i
        · rw [tu.1, eu, if_pos (by rw [I3_le (by omega) (by omega)]; omega), s112]; rfl
        · have b5 := (t.2.2 i (by omega)).2
          have nL : isL (bt i) = false := by
            cases z : isL (bt i) with
            | false => rfl
            | true => exact absurd ⟨by omega, by rw [z]; rfl⟩ q
          have nD : isD (bt i) = false := by
            cases z : isD (bt i) with
            | false => rfl
            | true => exact absurd ⟨by omega, by rw [z, Bool.or_true]⟩ q
          have l1 : I3 (bt i) < 97 ∨ (122 : Int32) < I3 (bt i) := by
            unfold isL at nL
            have := of_decide_eq_false nL
            rcases (show bt i < 97 ∨ 122 < bt i by omega) with z | z
            · exact Or.inl (by rw [I3_lit, I3_lt (by omega) (by decide)]; exact z)
            · exact Or.inr (by rw [I3_lit, I3_lt (by decide) (by omega)]; exact z)
          have d1 : I3 (bt i) < 48 ∨ (57 : Int32) < I3 (bt i) := by
            unfold isD at nD
            have := of_decide_eq_false nD
            rcases (show bt i < 48 ∨ 57 < bt i by omega) with z | z
            · exact Or.inl (by rw [I3_lit, I3_lt (by omega) (by decide)]; exact z)
            · exact Or.inr (by rw [I3_lit, I3_lt (by decide) (by omega)]; exact z)
          rw [tu.1, eu, if_neg (by rw [I3_le (by omega) (by omega)]; omega), ld53 tu (by omega)]; simp only [obs]
          rw [s112]
          have in46 : (if I3 (bt i) < 48 then Option.map (fun r => Sum.inr r) (some ((if i - f ≤ 8 then (4 : Int32) else 6), sm_wI u 52 6 2)) else if 57 < I3 (bt i) then Option.map (fun r => Sum.inr r) (some ((if i - f ≤ 8 then (4 : Int32) else 6), sm_wI u 52 6 2)) else F_255_74 (I3 (i - f)) u) = some (.inr (if i - f ≤ 8 then (4 : Int32) else 6, sm_wI u 52 6 2)) := by
            by_cases z : I3 (bt i) < 48
            · rw [if_pos z]; rfl
            · rw [if_neg z, if_pos (d1.resolve_left z)]; rfl
          by_cases z : I3 (bt i) < 97
          · rw [if_pos z]; exact in46
          · rw [if_neg z, if_neg (Int32.not_le.mpr (l1.resolve_left z))]; exact in46
  obtain ⟨h1, a1, a2, a3, a4, a5, a6⟩ := LP n f (sm_wJ h 52 10 0) 1000000 (by omega) (Nat.le_refl _) fn (by omega) ef (by rw [Nat.sub_self]; rfl) rfl (agr_wJ agr_rfl ⟨rfl, by omega⟩)
  rw [Nat.sub_self] at a1
  exact ⟨h1, a1, a2, a3, a4, a5, a6⟩
theorem d48 {i : Nat} (b5 : bt i ≤ 255) (d : isD (bt i) = true) : ¬ I3 (bt i) < 48 ∧ ¬ (57 : Int32) < I3 (bt i) := by
  unfold isD at d
  have := of_decide_eq_true d
  exact ⟨by rw [I3_lit, I3_lt (by omega) (by decide)]; omega, by rw [I3_lit, I3_lt (by decide) (by omega)]; omega⟩
theorem n48 {i : Nat} (b5 : bt i ≤ 255) (d : isD (bt i) = false) : I3 (bt i) < 48 ∨ (57 : Int32) < I3 (bt i) := by
  unfold isD at d
  have := of_decide_eq_false d
  rcases (show bt i < 48 ∨ 57 < bt i by omega) with z | z
  · exact Or.inl (by rw [I3_lit, I3_lt (by omega) (by decide)]; exact z)
  · exact Or.inr (by rw [I3_lit, I3_lt (by decide) (by omega)]; exact z)
theorem oKm {σ ρ : Type} {body : σ → Option (σ ⊕ ρ)} {fu : Nat} {x : Option ρ} : oK body fu (x.map fun r => .inr r) = x := by cases x <;> rfl
theorem C_digits (t : TXC n bt h) {s : Nat} (neg : Int32) : ∀ r i u fu, n ≤ i + r → s ≤ i → i ≤ n → r < fu → u.1 52 3 = I3 i → u.1 52 5 = h.1 52 5 → agr S52 h u → ∃ h1, lp F_256_18B fu (neg, b2 (numV bt s (i - s)).1, (numV bt s (i - s)).2, u) = F_256_120 neg (b2 (numV bt s (far (fun j => isD (bt j)) n r i - s)).1) (numV bt s (far (fun j => isD (bt j)) n r i - s)).2 h1 ∧ h1.1 52 3 = I3 (far (fun j => isD (bt j)) n r i) ∧ h1.1 52 5 = h.1 52 5 ∧ agr S52 h h1 := by
  have n3 := t.2.1
  intro r
  induction r with
  | zero =>
    intro i u fu h1 h2 h3 hf eu e5 au
    refine ⟨u, ?_, eu, e5, au⟩
    rw [lp_oK (by omega)]
    unfold F_256_18B far
    simp only []
    rw [(TXC_52 t au).1, eu, if_pos (by rw [I3_le (by omega) (by omega)]; omega), oKm]
  | succ r ih =>
    intro i u fu h1 h2 h3 hf eu e5 au
    have tu := TXC_52 t au
    unfold far
    by_cases q : i < n ∧ isD (bt i) = true
    · have b5 := (t.2.2 i q.1).2
      have dd := d48 b5 q.2
      have go : F_256_18B (neg, b2 (numV bt s (i - s)).1, (numV bt s (i - s)).2, u) = some (.inl (neg, b2 (numV bt s (i + 1 - s)).1, (numV bt s (i + 1 - s)).2, sm_wI u 52 3 (I3 (i + 1)))) := by
        have s96 : ∀ z, F_256_96 neg (numV bt s (i - s)).2 (I3 (bt i) - 48) z u = some (.inl (neg, z, (numV bt s (i + 1 - s)).2, sm_wI u 52 3 (I3 (i + 1)))) := fun z => by
          unfold F_256_96
          simp only [obs]
          rw [eu, show I3 i + 1 = I3 (i + 1) from I3_add i 1, show i + 1 - s = i - s + 1 by omega, numV_s, show s + (i - s) = i by omega]
        have e1 : (numV bt s (i + 1 - s)).1 = ((numV bt s (i - s)).1 && !decide ((numV bt s (i - s)).2.toInt < (((-9223372036854775808) + Int32.toInt64 (I3 (bt i) - 48)) / 10 : Int64).toInt)) := by rw [show i + 1 - s = i - s + 1 by omega, numV_s, show s + (i - s) = i by omega]
        unfold F_256_18B F_256_95
        simp only []
        rw [tu.1, eu, if_neg (by rw [I3_le (by omega) (by omega)]; omega), ld53 tu q.1]; simp only [obs]
        rw [if_neg dd.1, if_neg dd.2, s96, s96, e1, if_neg (show ¬ (10 : Int64) = 0 by decide)]
        cases c : (numV bt s (i - s)).1 with
        | false => rw [if_pos (by decide)]; rfl
        | true =>
          rw [if_neg (by decide)]
          by_cases w : (numV bt s (i - s)).2.toInt < (((-9223372036854775808) + Int32.toInt64 (I3 (bt i) - 48)) / 10 : Int64).toInt
          · rw [if_pos (cmp_lt.mpr w), decide_eq_true w]; rfl
          · rw [if_neg (fun z => w (cmp_lt.mp z)), decide_eq_false w]; rfl
      rw [if_pos q, lp_s (by omega) go]
      exact ih (i + 1) _ (fu - 1) (by omega) (by omega) (by omega) (by omega) rfl e5 (agr_wI au ⟨rfl, by omega⟩)
    · rw [if_neg q]
      refine ⟨u, ?_, eu, e5, au⟩
      rw [lp_oK (by omega)]
      unfold F_256_18B
      simp only []
      by_cases w : n ≤ i
      · rw [tu.1, eu, if_pos (by rw [I3_le (by omega) (by omega)]; omega), oKm]
      · have b5 := (t.2.2 i (by omega)).2
        have nD : isD (bt i) = false := by
          cases z : isD (bt i) with
          | false => rfl
          | true => exact absurd ⟨by omega, z⟩ q
        rw [tu.1, eu, if_neg (by rw [I3_le (by omega) (by omega)]; omega), ld53 tu (by omega)]; simp only [obs]
        rcases n48 b5 nD with z | z
        · rw [if_pos z, oKm]
        · by_cases z2 : I3 (bt i) < 48
          · rw [if_pos z2, oKm]
          · rw [if_neg z2, if_pos z, oKm]
theorem isl_c {f : Nat} : isl n bt f = true ↔ nen n bt f < n ∧ bt (nen n bt f) = 108 := decide_eq_true_iff
theorem C_number (t : TXC n bt h) {f : Nat} (ef : h.1 52 3 = I3 f) (fn : f < n) (hs : bt f = 45 → f + 1 < n) : ∃ h1, F_256 (if bt f = 45 then 1 else 0) h = some (if nok n bt f = true ∧ (isl n bt f = true ∨ nfi n bt f = true) then 3 else 6, h1) ∧ h1.1 52 3 = I3 (if isl n bt f = true then nen n bt f + 1 else nen n bt f) ∧ h1.2.1 52 8 = nva n bt f ∧ h1.1 52 9 = (if isl n bt f = true then 6 else 5) ∧ h1.1 52 6 = 3 ∧ h1.1 52 5 = h.1 52 5 ∧ agr S52 h h1 := by
  have n3 := t.2.1
  have st : ∃ u, F_256 (if bt f = 45 then 1 else 0) h = F_256_18 (if bt f = 45 then 1 else 0) 1 0 u ∧ u.1 52 3 = I3 (nst bt f) ∧ u.1 52 5 = h.1 52 5 ∧ agr S52 h u := by
    show ∃ u, F_256_0 (if bt f = 45 then 1 else 0) h = _ ∧ _
    unfold F_256_0 nst
    by_cases q : bt f = 45
    · rw [if_pos q, if_pos q, if_neg (by decide), ef, show I3 f + 1 = I3 (f + 1) from I3_add f 1]; simp only [obs]
      exact ⟨_, rfl, rfl, rfl, agr_wI agr_rfl ⟨rfl, by omega⟩⟩
    · rw [if_neg q, if_neg q, if_pos rfl]
      exact ⟨h, rfl, ef, rfl, agr_rfl⟩
  obtain ⟨u, u1, u2, u3, u4⟩ := st
  have sn : nst bt f ≤ n := by
    unfold nst
    by_cases q : bt f = 45
    · rw [if_pos q]; have := hs q; omega
    · rw [if_neg q]; omega
  obtain ⟨v, v1, v2, v3, v4⟩ := C_digits t (s := nst bt f) (if bt f = 45 then 1 else 0) n (nst bt f) u 1000000 (by omega) (Nat.le_refl _) sn (by omega) u2 u3 u4
  rw [Nat.sub_self] at v1
  have F0 : F_256 (if bt f = 45 then 1 else 0) h = F_256_120 (if bt f = 45 then 1 else 0) (b2 (numV bt (nst bt f) (nen n bt f - nst bt f)).1) (numV bt (nst bt f) (nen n bt f - nst bt f)).2 v := u1.trans v1
  have en : nen n bt f ≤ n := far_le _ _ _ _ sn
  have v2' : v.1 52 3 = I3 (nen n bt f) := v2
  have F1 : F_256 (if bt f = 45 then 1 else 0) h = F_256_153 (b2 (nok n bt f)) (nva n bt f) v := by
    rw [F0]
    unfold F_256_120 F_256_140 F_256_136 F_256_141 nok nva
    by_cases q : bt f = 45
    · rw [if_pos q, if_pos q, decide_eq_false (not_not_intro q), Bool.false_and, Bool.not_false, Bool.and_true]
      cases c : (numV bt (nst bt f) (nen n bt f - nst bt f)).1 with
      | false => rw [if_pos (by decide), if_neg (by decide)]; rfl
      | true => rw [if_neg (by decide), if_neg (by decide), if_neg (by decide)]; rfl
    · rw [if_neg q, if_neg q, decide_eq_true q, Bool.true_and]
      cases c : (numV bt (nst bt f) (nen n bt f - nst bt f)).1 with
      | false => rw [if_pos (by decide), if_pos rfl]; rfl
      | true =>
        rw [if_neg (by decide), if_pos rfl, if_pos rfl, if_pos rfl]
        by_cases w : (numV bt (nst bt f) (nen n bt f - nst bt f)).2 = -9223372036854775808
        · rw [if_pos (cmp_eq.mpr w), decide_eq_true w]; rfl
        · rw [if_neg (fun z => w (cmp_eq.mp z)), decide_eq_false w]; rfl
  have tv := TXC_52 t v4
  rw [F1]
  unfold F_256_153
  simp only [obs]
  rw [show (sm_wI (sm_wJ v 52 8 (nva n bt f)) 52 9 5).1 52 1 = v.1 52 1 from rfl, show (sm_wI (sm_wJ v 52 8 (nva n bt f)) 52 9 5).1 52 3 = v.1 52 3 from rfl, tv.1, v2']
  have aw : agr S52 h (sm_wI (sm_wJ v 52 8 (nva n bt f)) 52 9 5) := agr_wI (agr_wJ v4 ⟨rfl, by omega⟩) ⟨rfl, by omega⟩
  have no : isl n bt f = false → ∃ h1, F_256_205 (b2 (nok n bt f)) (sm_wI (sm_wJ v 52 8 (nva n bt f)) 52 9 5) = some (if nok n bt f = true ∧ (isl n bt f = true ∨ nfi n bt f = true) then 3 else 6, h1) ∧ h1.1 52 3 = I3 (nen n bt f) ∧ h1.2.1 52 8 = nva n bt f ∧ h1.1 52 9 = 5 ∧ h1.1 52 6 = 3 ∧ h1.1 52 5 = h.1 52 5 ∧ agr S52 h h1 := fun il => by
    refine ⟨sm_wI (sm_wI (sm_wJ v 52 8 (nva n bt f)) 52 9 5) 52 6 3, ?_, v2', rfl, rfl, rfl, v3, agr_wI aw ⟨rfl, by omega⟩⟩
    unfold F_256_205 F_256_227 F_256_228 F_256_229 F_256_244
    simp only [obs]
    rw [show (sm_wI (sm_wJ v 52 8 (nva n bt f)) 52 9 5).2.1 52 8 = nva n bt f from rfl, il]
    cases c : nok n bt f with
    | false => rw [if_pos (by decide), if_pos trivial, if_neg (by simp)]
    | true =>
      rw [if_neg (by decide)]
      unfold nfi
      by_cases w : nva n bt f = Int32.toInt64 (Int64.toInt32 (nva n bt f))
      · rw [if_pos (cmp_eq.mpr w), if_neg (by decide), if_pos ⟨rfl, Or.inr (decide_eq_true w)⟩]
      · rw [if_neg (fun z => w (cmp_eq.mp z)), if_pos trivial, if_neg (by rw [decide_eq_false w]; simp)]
  by_cases q : nen n bt f < n
  · have b5 := (t.2.2 _ q).2
    rw [if_neg (by rw [I3_le (by omega) (by omega)]; omega), show ldI (sm_wI (sm_wJ v 52 8 (nva n bt f)) 52 9 5) 53 3000 (I3 (nen n bt f)) = some (I3 (bt (nen n bt f))) from ld53 (TXC_52 t aw) q]; simp only [obs]
    by_cases w : bt (nen n bt f) = 108
    · have il : isl n bt f = true := isl_c.mpr ⟨q, w⟩
      rw [if_pos (show I3 (bt (nen n bt f)) = (108 : Int32) by rw [w]; rfl), il]
      refine ⟨sm_wI (sm_wI (sm_wI (sm_wI (sm_wJ v 52 8 (nva n bt f)) 52 9 5) 52 9 6) 52 3 (I3 (nen n bt f + 1))) 52 6 3, ?_, rfl, rfl, rfl, rfl, v3, agr_wI (agr_wI (agr_wI aw ⟨rfl, by omega⟩) ⟨rfl, by omega⟩) ⟨rfl, by omega⟩⟩
      rw [show (sm_wI (sm_wI (sm_wJ v 52 8 (nva n bt f)) 52 9 5) 52 9 6).1 52 3 = v.1 52 3 from rfl, v2', show I3 (nen n bt f) + 1 = I3 (nen n bt f + 1) from I3_add _ 1]
      unfold F_256_229 F_256_244
      simp only [obs]
      cases c : nok n bt f with
      | false => rw [if_pos (by decide), if_neg (by simp)]
      | true => rw [if_neg (by decide), if_pos ⟨rfl, Or.inl trivial⟩]
    · have il : isl n bt f = false := decide_eq_false (fun z => w z.2)
      rw [if_neg (show ¬ I3 (bt (nen n bt f)) = (108 : Int32) by rw [I3_lit, I3_inj (by omega) (by decide)]; exact w)]
      obtain ⟨h1, z1, z2, z3, z4, z5⟩ := no il
      exact ⟨h1, z1, by rw [il]; exact z2, z3, by rw [il]; exact z4, z5⟩
  · have il : isl n bt f = false := decide_eq_false (fun z => q z.1)
    rw [if_pos (by rw [I3_le (by omega) (by omega)]; omega)]
    obtain ⟨h1, z1, z2, z3, z4, z5⟩ := no il
    exact ⟨h1, z1, by rw [il]; exact z2, z3, by rw [il]; exact z4, z5⟩
theorem C_sign {b : Nat} (b5 : b ≤ 255) (h : sm_H) : F_254 (I3 b) h = match sgn b with
    | some o => some (5, sm_wI h 52 7 (I3 o))
    | none => some (6, sm_wI h 52 6 1) := by
  have e : (Int32.toUInt32 (I3 b) % 65536).toInt32 = I3 b := by
    have : ∀ b : Fin 256, (Int32.toUInt32 (I3 b) % 65536).toInt32 = I3 b := by decide +kernel
    exact this ⟨b, by omega⟩
  show F_254_0 (I3 b) h = _
  unfold F_254_0 F_254_20
  simp only [obs]
  rw [e, show sm_al G0 h 1000002 = some 10 from rfl]; simp only [obs]
  have k : ∀ x : Nat, x < 256 → (I3 b = I3 x ↔ b = x) := fun x hx => I3_inj (by omega) (by omega)
  unfold sgn
  by_cases q0 : b = 43
  · subst q0; rfl
  by_cases q1 : b = 45
  · subst q1; rfl
  by_cases q2 : b = 42
  · subst q2; rfl
  by_cases q3 : b = 47
  · subst q3; rfl
  by_cases q4 : b = 37
  · subst q4; rfl
  by_cases q5 : b = 38
  · subst q5; rfl
  by_cases q6 : b = 124
  · subst q6; rfl
  by_cases q7 : b = 94
  · subst q7; rfl
  by_cases q8 : b = 60
  · subst q8; rfl
  by_cases q9 : b = 61
  · subst q9; rfl
  have z : P_ix (I3 b) = -1 := by
    unfold P_ix
    rw [if_neg (show ¬ I3 b = (43 : Int32) from fun z => q0 ((k 43 (by decide)).mp z)), if_neg (show ¬ I3 b = (45 : Int32) from fun z => q1 ((k 45 (by decide)).mp z)), if_neg (show ¬ I3 b = (42 : Int32) from fun z => q2 ((k 42 (by decide)).mp z)), if_neg (show ¬ I3 b = (47 : Int32) from fun z => q3 ((k 47 (by decide)).mp z)), if_neg (show ¬ I3 b = (37 : Int32) from fun z => q4 ((k 37 (by decide)).mp z)), if_neg (show ¬ I3 b = (38 : Int32) from fun z => q5 ((k 38 (by decide)).mp z)), if_neg (show ¬ I3 b = (124 : Int32) from fun z => q6 ((k 124 (by decide)).mp z)), if_neg (show ¬ I3 b = (94 : Int32) from fun z => q7 ((k 94 (by decide)).mp z)), if_neg (show ¬ I3 b = (60 : Int32) from fun z => q8 ((k 60 (by decide)).mp z)), if_neg (show ¬ I3 b = (61 : Int32) from fun z => q9 ((k 61 (by decide)).mp z))]
  rw [z, if_neg q0, if_neg q1, if_neg q2, if_neg q3, if_neg q4, if_neg q5, if_neg q6, if_neg q7, if_neg q8, if_neg q9]; rfl
def LXC (n : Nat) (bt : Nat → Nat) (f : Nat) (h : sm_H) : Prop := h.1 52 5 = I3 f ∧ h.1 52 4 = I3 (wrd n bt f) ∧ (wrd n bt f = 6 → h.1 52 6 = I3 (wtr n bt f)) ∧ (wrd n bt f ≠ 6 → h.1 52 3 = I3 (wen n bt f)) ∧ (wrd n bt f = 3 → h.2.1 52 8 = nva n bt f ∧ h.1 52 9 = (if isl n bt f = true then 6 else 5)) ∧ (wrd n bt f = 4 → h.2.1 52 10 = foldN bt f (men n bt f - f)) ∧ (wrd n bt f = 5 → ∃ o, sgn (bt f) = some o ∧ h.1 52 7 = I3 o)
theorem C_step (t : TXC n bt h) {a : Nat} (ea : h.1 52 3 = I3 a) (an : a ≤ n) : ∃ h1, F_249 h = some (I3 (wrd n bt (sk n bt a)), h1) ∧ LXC n bt (sk n bt a) h1 ∧ agr S52 h h1 := by
  have n3 := t.2.1
  obtain ⟨h0, s1, s2, s3⟩ := C_skip t ea an
  have fn : sk n bt a ≤ n := far_le _ _ _ _ an
  generalize hf : sk n bt a = f at *
  have C0 : F_249 h = F_249_0 h := rfl
  unfold F_249_0 at C0
  rw [s1] at C0; simp only [obs] at C0
  have a5 : agr S52 h (sm_wI h0 52 5 (I3 f)) := agr_wI s3 ⟨rfl, by omega⟩
  rw [s2] at C0
  have e3 : (sm_wI h0 52 5 (I3 f)).1 52 3 = I3 f := s2
  have e5 : (sm_wI h0 52 5 (I3 f)).1 52 5 = I3 f := rfl
  generalize hu : sm_wI h0 52 5 (I3 f) = u at *
  have tu := TXC_52 t a5
  rw [e3, C_250 tu (by omega)] at C0; simp only [obs] at C0
  rw [C0]
  unfold gb wrd
  by_cases q : n ≤ f
  · rw [if_neg (show ¬ f < n by omega), if_pos rfl, if_pos q]
    refine ⟨sm_wI u 52 4 0, rfl, ⟨e5, ?_, ?_, ?_, ?_, ?_, ?_⟩, agr_wI a5 ⟨rfl, by omega⟩⟩
    all_goals unfold wrd
    all_goals rw [if_pos q]
    · rfl
    · intro z; cases z
    · intro _
      unfold wen
      rw [if_pos q]; exact e3
    · intro z; cases z
    · intro z; cases z
    · intro z; cases z
  have fl : f < n := by omega
  have b5 := (t.2.2 f fl).2
  have m1 : ¬ I3 (bt f) = (-1 : Int32) := I3_m1 (by omega)
  rw [if_pos fl, if_neg m1, if_neg q, C_251b b5]; simp only [obs]
  have LX : ∀ (w : Nat) (h1 : sm_H), wrd n bt f = w → h1.1 52 5 = I3 f → h1.1 52 4 = I3 w → (w = 6 → h1.1 52 6 = I3 (wtr n bt f)) → (w ≠ 6 → h1.1 52 3 = I3 (wen n bt f)) → (w = 3 → h1.2.1 52 8 = nva n bt f ∧ h1.1 52 9 = (if isl n bt f = true then 6 else 5)) → (w = 4 → h1.2.1 52 10 = foldN bt f (men n bt f - f)) → (w = 5 → ∃ o, sgn (bt f) = some o ∧ h1.1 52 7 = I3 o) → LXC n bt f h1 := fun w h1 e a b c d e' f' g' => by
    unfold LXC
    rw [e]
    exact ⟨a, b, c, d, e', f', g'⟩
  have NUM : isN n bt f = true → ∃ h1, F_249_65 (I3 (bt f)) u = some (I3 (if bt f = 40 then 1 else if bt f = 41 then 2 else if isN n bt f = true then (if nok n bt f = true ∧ (isl n bt f = true ∨ nfi n bt f = true) then 3 else 6) else if isL (bt f) = true then (if men n bt f - f ≤ 8 then 4 else 6) else if sgn (bt f) = none then 6 else 5), h1) ∧ LXC n bt f h1 ∧ agr S52 h h1 := fun hN => by
    have hc : bt f = 45 ∧ f + 1 < n ∨ isD (bt f) = true := by
      unfold isN at hN
      rw [Bool.or_eq_true, Bool.and_eq_true, Bool.and_eq_true, decide_eq_true_iff, decide_eq_true_iff] at hN
      rcases hN with z | z
      · exact Or.inr z
      · exact Or.inl ⟨z.1, z.2.1⟩
    have n40 : bt f ≠ 40 ∧ bt f ≠ 41 := by
      rcases hc with z | z
      · omega
      · unfold isD at z; have := of_decide_eq_true z; omega
    rw [if_neg n40.1, if_neg n40.2, if_pos hN]
    have hs : bt f = 45 → f + 1 < n := fun z => by
      rcases hc with w | w
      · exact w.2
      · unfold isD at w; have := of_decide_eq_true w; omega
    obtain ⟨v, v1, v2, v3, v4, v5, v6, v7⟩ := C_number tu e3 fl hs
    have ew : wrd n bt f = (if nok n bt f = true ∧ (isl n bt f = true ∨ nfi n bt f = true) then 3 else 6) := by
      unfold wrd; rw [if_neg q, if_neg n40.1, if_neg n40.2, if_pos hN]
    have F0 : F_249_65 (I3 (bt f)) u = (F_256 (if bt f = 45 then 1 else 0) u).bind fun q7 => some (q7.1, sm_wI q7.2 52 4 q7.1) := by
      unfold F_249_65 F_249_78 F_249_145
      by_cases w : bt f = 45
      · rw [if_pos (show I3 (bt f) = (45 : Int32) by rw [w]; rfl), if_pos w]; rfl
      · rw [if_neg (show ¬ I3 (bt f) = (45 : Int32) by rw [I3_lit, I3_inj (by omega) (by decide)]; exact w), if_neg w]; rfl
    rw [F0, v1]; simp only [obs]
    have i3 : (if nok n bt f = true ∧ (isl n bt f = true ∨ nfi n bt f = true) then (3 : Int32) else 6) = I3 (if nok n bt f = true ∧ (isl n bt f = true ∨ nfi n bt f = true) then 3 else 6) := by split <;> rfl
    rw [i3]
    refine ⟨_, rfl, LX _ _ ew (v6.trans e5) rfl (fun _ => ?_) (fun _ => ?_) (fun _ => ⟨v3, v4⟩) (fun z => ?_) (fun z => ?_), agr_wI (agr_trans a5 v7) ⟨rfl, by omega⟩⟩
    · unfold wtr; rw [if_pos hN]; exact v5
    · unfold wen; rw [if_neg q, if_pos hN]; exact v2
    · split at z <;> cases z
    · split at z <;> cases z
  have RST : isN n bt f = false → ∃ h1, F_249_87 (I3 (bt f)) u = some (I3 (if bt f = 40 then 1 else if bt f = 41 then 2 else if isN n bt f = true then (if nok n bt f = true ∧ (isl n bt f = true ∨ nfi n bt f = true) then 3 else 6) else if isL (bt f) = true then (if men n bt f - f ≤ 8 then 4 else 6) else if sgn (bt f) = none then 6 else 5), h1) ∧ LXC n bt f h1 ∧ agr S52 h h1 := fun hN => by
    have nN : ¬ isN n bt f = true := by rw [hN]; decide
    unfold F_249_87
    rw [C_252b b5]; simp only [obs]
    cases l : isL (bt f) with
    | true =>
      have n40 : bt f ≠ 40 ∧ bt f ≠ 41 := by unfold isL at l; have := of_decide_eq_true l; omega
      have ew : wrd n bt f = (if men n bt f - f ≤ 8 then 4 else 6) := by
        unfold wrd; rw [if_neg q, if_neg n40.1, if_neg n40.2, if_neg nN, if_pos l]
      rw [if_neg (by decide), if_neg n40.1, if_neg n40.2, if_neg nN, if_pos rfl]
      obtain ⟨v, v1, v2, v3, v4, v5, v6⟩ := C_name tu e3 fn
      rw [v1]; simp only [obs]
      have i3 : (if men n bt f - f ≤ 8 then (4 : Int32) else 6) = I3 (if men n bt f - f ≤ 8 then 4 else 6) := by split <;> rfl
      rw [i3]
      refine ⟨_, rfl, LX _ _ ew (v5.trans e5) rfl (fun _ => ?_) (fun _ => ?_) (fun z => ?_) (fun _ => v3) (fun z => ?_), agr_wI (agr_trans a5 v6) ⟨rfl, by omega⟩⟩
      · unfold wtr; rw [if_neg nN, if_pos l]; exact v4
      · unfold wen; rw [if_neg q, if_neg nN, if_pos l]; exact v2
      · split at z <;> cases z
      · split at z <;> cases z
    | false =>
      have nl : ¬ isL (bt f) = true := by rw [l]; decide
      have we : wen n bt f = f + 1 := by unfold wen; rw [if_neg q, if_neg nN, if_neg nl]
      have wt : wtr n bt f = 1 := by unfold wtr; rw [if_neg nN, if_neg nl]
      rw [if_pos (by decide), e3, show I3 f + 1 = I3 (f + 1) from I3_add f 1]
      unfold F_249_142 F_249_145
      by_cases w0 : bt f = 40
      · rw [if_pos (show I3 (bt f) = (40 : Int32) by rw [w0]; rfl), if_pos w0]
        refine ⟨_, rfl, LX 1 _ (by unfold wrd; rw [if_neg q, if_pos w0]) e5 rfl (fun z => by cases z) (fun _ => by rw [we]; rfl) (fun z => by cases z) (fun z => by cases z) (fun z => by cases z), agr_wI (agr_wI a5 ⟨rfl, by omega⟩) ⟨rfl, by omega⟩⟩
      rw [if_neg (show ¬ I3 (bt f) = (40 : Int32) by rw [I3_lit, I3_inj (by omega) (by decide)]; exact w0), if_neg w0]
      by_cases w1 : bt f = 41
      · rw [if_pos (show I3 (bt f) = (41 : Int32) by rw [w1]; rfl), if_pos w1]
        refine ⟨_, rfl, LX 2 _ (by unfold wrd; rw [if_neg q, if_neg w0, if_pos w1]) e5 rfl (fun z => by cases z) (fun _ => by rw [we]; rfl) (fun z => by cases z) (fun z => by cases z) (fun z => by cases z), agr_wI (agr_wI a5 ⟨rfl, by omega⟩) ⟨rfl, by omega⟩⟩
      rw [if_neg (show ¬ I3 (bt f) = (41 : Int32) by rw [I3_lit, I3_inj (by omega) (by decide)]; exact w1), if_neg w1, if_neg nN, if_neg (show ¬ false = true by decide), C_sign b5]
      cases s : sgn (bt f) with
      | none =>
        simp only [obs]
        rw [if_pos trivial]
        refine ⟨_, rfl, LX 6 _ (by unfold wrd; rw [if_neg q, if_neg w0, if_neg w1, if_neg nN, if_neg nl, if_pos s]) e5 rfl (fun _ => by rw [wt]; rfl) (fun z => absurd rfl z) (fun z => by cases z) (fun z => by cases z) (fun z => by cases z), agr_wI (agr_wI (agr_wI a5 ⟨rfl, by omega⟩) ⟨rfl, by omega⟩) ⟨rfl, by omega⟩⟩
      | some o =>
        simp only [obs]
        rw [if_neg (by simp)]
        refine ⟨_, rfl, LX 5 _ (by unfold wrd; rw [if_neg q, if_neg w0, if_neg w1, if_neg nN, if_neg nl, if_neg (by rw [s]; simp)]) e5 rfl (fun z => by cases z) (fun _ => by rw [we]; rfl) (fun z => by cases z) (fun z => by cases z) (fun _ => ⟨o, s, rfl⟩), agr_wI (agr_wI (agr_wI a5 ⟨rfl, by omega⟩) ⟨rfl, by omega⟩) ⟨rfl, by omega⟩⟩
  cases d : isD (bt f) with
  | true =>
    rw [if_neg (by decide)]
    exact NUM (by unfold isN; rw [d]; rfl)
  | false =>
    rw [if_pos (by decide)]
    by_cases w : bt f = 45
    · rw [if_pos (show I3 (bt f) = (45 : Int32) by rw [w]; rfl), e3, show I3 f + 1 = I3 (f + 1) from I3_add f 1, C_250 tu (by omega)]; simp only [obs]
      unfold gb
      by_cases f1 : f + 1 < n
      · rw [if_pos f1, C_251b (t.2.2 _ f1).2]; simp only [obs]
        have eN : isN n bt f = isD (bt (f + 1)) := by unfold isN; rw [d, decide_eq_true w, decide_eq_true f1]; rfl
        cases d1 : isD (bt (f + 1)) with
        | true => rw [if_neg (by decide)]; exact NUM (eN.trans d1)
        | false => rw [if_pos (by decide)]; exact RST (eN.trans d1)
      · have eN : isN n bt f = false := by unfold isN; rw [d, decide_eq_false f1, Bool.false_and, Bool.and_false]; rfl
        rw [if_neg f1, show F_251 (-1) u = some (0, u) from rfl]; simp only [obs]
        rw [if_pos trivial]; exact RST eN
    · rw [if_neg (show ¬ I3 (bt f) = (45 : Int32) by rw [I3_lit, I3_inj (by omega) (by decide)]; exact w)]
      exact RST (by unfold isN; rw [d, decide_eq_false w]; rfl)
end
abbrev SLx (b j : Nat) : Prop := b = 67 ∧ 79 ≤ j ∧ j ≤ 85
theorem TXR_agr {n : Nat} {bt : Nat → Nat} {h h1 : sm_H} {P : Nat → Nat → Prop} (t : TXR n bt h) (a : agr P h h1) (p : ∀ b j, P b j → ¬ (b = 67 ∧ j = 76 ∨ b = 112)) : TXR n bt h1 := ⟨(a.1 67 76 (fun z => p _ _ z (by omega))).trans t.1, t.2.1, fun i hi => ⟨(a.1 112 i (fun z => p _ _ z (by omega))).trans (t.2.2 i hi).1, (t.2.2 i hi).2⟩⟩
theorem SLx_p (b j : Nat) (z : SLx b j) : ¬ (b = 67 ∧ j = 76 ∨ b = 112) := by unfold SLx at z; omega
theorem TXR_x {n : Nat} {bt : Nat → Nat} {h h1 : sm_H} (t : TXR n bt h) (a : agr SLx h h1) : TXR n bt h1 := TXR_agr t a SLx_p
theorem R_415 (x : Int32) (h : sm_H) : F_415 x h = some (b2 (!decide (x < 97) && !decide (122 < x)), h) := C_252 x h
theorem R_416 (x : Int32) (h : sm_H) : F_416 x h = some (b2 (!decide (x < 48) && !decide (57 < x)), h) := C_251 x h
theorem R_415b {b : Nat} (hb : b ≤ 255) (h : sm_H) : F_415 (I3 b) h = some (b2 (isL b), h) := C_252b hb h
theorem R_416b {b : Nat} (hb : b ≤ 255) (h : sm_H) : F_416 (I3 b) h = some (b2 (isD b), h) := C_251b hb h
section
variable {n : Nat} {bt : Nat → Nat} {g : sm_H}
theorem R_414 (t : TXR n bt g) {i : Nat} (hi : i ≤ 4000) : F_414 (I3 i) g = some (gb n bt i, g) := by
  have n3 := t.2.1
  show F_414_0 (I3 i) g = _
  unfold F_414_0 F_414_18 gb
  rw [t.1]
  by_cases q : i < n
  · rw [if_neg (by rw [I3_le (by omega) (by omega)]; omega), ldI_I (by omega) (by decide), (t.2.2 i q).1, if_pos q]; simp only [obs]
  · rw [if_pos (by rw [I3_le (by omega) (by omega)]; omega), if_neg q]
theorem R_415g (t : TXR n bt g) (i : Nat) (u : sm_H) : F_415 (gb n bt i) u = some (b2 (decide (i < n) && isL (bt i)), u) := by
  unfold gb
  by_cases q : i < n
  · rw [if_pos q, R_415b (t.2.2 i q).2, decide_eq_true q, Bool.true_and]
  · rw [if_neg q, decide_eq_false q]; rfl
theorem R_416g (t : TXR n bt g) (i : Nat) (u : sm_H) : F_416 (gb n bt i) u = some (b2 (decide (i < n) && isD (bt i)), u) := by
  unfold gb
  by_cases q : i < n
  · rw [if_pos q, R_416b (t.2.2 i q).2, decide_eq_true q, Bool.true_and]
  · rw [if_neg q, decide_eq_false q]; rfl
theorem R_fold (t : TXR n bt g) {f e : Nat} (fe : f ≤ e) (en : e ≤ n) (e82 : g.1 67 82 = I3 e) : ∃ g1, F_418_238 (I3 f) (sm_wJ g 67 83 0) = some (1, g1) ∧ g1.2.1 67 83 = foldN bt f (e - f) ∧ agr (fun b j => b = 67 ∧ j = 83) g g1 := by
  have n3 := t.2.1
  have LP : ∀ r i u fu, i + r = e → f ≤ i → r < fu → u.2.1 67 83 = foldN bt f (i - f) → agr (fun b j => b = 67 ∧ j = 83) g u → (u.1 67 82 = I3 e) → ∃ g1, lp F_418_238B fu (I3 i, u) = some (1, g1) ∧ g1.2.1 67 83 = foldN bt f (e - f) ∧ agr (fun b j => b = 67 ∧ j = 83) g g1 := by
    intro r
    induction r with
    | zero =>
      intro i u fu h1 h2 hf e83 au e2
      have ei : i = e := by omega
      subst ei
      refine ⟨u, lp_e (by omega) ?_, e83, au⟩
      unfold F_418_238B F_418_315
      simp only []
      rw [e2, if_pos (by rw [I3_le (by omega) (by omega)]; omega)]; rfl
    | succ r ih =>
      intro i u fu h1 h2 hf e83 au e2
      rw [lp_s (s' := (I3 (i + 1), sm_wJ u 67 83 (foldN bt f (i + 1 - f)))) (by omega) (by
        unfold F_418_238B
        simp only []
        rw [e2, if_neg (by rw [I3_le (by omega) (by omega)]; omega), ldI_I (by omega) (by decide), au.1 112 i (by omega), (t.2.2 i (by omega)).1]; simp only [obs]
        rw [e83, show I3 i + 1 = I3 (i + 1) from I3_add i 1, show i + 1 - f = i - f + 1 by omega, foldN_s, show f + (i - f) = i by omega])]
      exact ih (i + 1) _ (fu - 1) (by omega) (by omega) (by omega) rfl (agr_wJ au ⟨rfl, rfl⟩) e2
  exact LP (e - f) f _ 1000000 (by omega) (Nat.le_refl _) (by omega) (by rw [Nat.sub_self]; rfl) (agr_wJ agr_rfl ⟨rfl, rfl⟩) e82
theorem R_name (t : TXR n bt g) {f : Nat} (e81 : g.1 67 81 = I3 f) (e82 : g.1 67 82 = I3 f) (fn : f ≤ n) : ∃ g1, agr SLx g g1 ∧ g1.1 67 79 = g.1 67 79 ∧ g1.1 67 81 = I3 f ∧ g1.1 67 80 = 1 ∧ g1.1 67 82 = I3 (men n bt f) ∧ (if men n bt f - f ≤ 8 then F_418_158 g = some (1, g1) ∧ g1.2.1 67 83 = foldN bt f (men n bt f - f) else F_418_158 g = F_413 2 (I3 f) g1) := by
  have n3 := t.2.1
  have LP : ∀ r i u fu, n ≤ i + r → f ≤ i → i ≤ n → r < fu → u.1 67 82 = I3 i → u.1 67 81 = I3 f → u.1 67 79 = g.1 67 79 → agr SLx g u → ∃ g1, agr SLx g g1 ∧ g1.1 67 79 = g.1 67 79 ∧ g1.1 67 81 = I3 f ∧ g1.1 67 80 = 1 ∧ g1.1 67 82 = I3 (far (fun j => isL (bt j) || isD (bt j)) n r i) ∧ (if far (fun j => isL (bt j) || isD (bt j)) n r i - f ≤ 8 then lp F_418_158B fu u = some (1, g1) ∧ g1.2.1 67 83 = foldN bt f (far (fun j => isL (bt j) || isD (bt j)) n r i - f) else lp F_418_158B fu u = F_413 2 (I3 f) g1) := by
    have fin : ∀ i u fu, f ≤ i → i ≤ n → 0 < fu → ¬ (i < n ∧ (isL (bt i) || isD (bt i)) = true) → u.1 67 82 = I3 i → u.1 67 81 = I3 f → u.1 67 79 = g.1 67 79 → agr SLx g u → ∃ g1, agr SLx g g1 ∧ g1.1 67 79 = g.1 67 79 ∧ g1.1 67 81 = I3 f ∧ g1.1 67 80 = 1 ∧ g1.1 67 82 = I3 i ∧ (if i - f ≤ 8 then lp F_418_158B fu u = some (1, g1) ∧ g1.2.1 67 83 = foldN bt f (i - f) else lp F_418_158B fu u = F_413 2 (I3 f) g1) := by
      intro i u fu h1 h2 hf q eu e1 e9 au
      have tu := TXR_x t au
      have aL : (decide (i < n) && isL (bt i)) = false := by
        cases z : decide (i < n) && isL (bt i) with
        | false => rfl
        | true =>
          rw [Bool.and_eq_true, decide_eq_true_iff] at z
          exact absurd ⟨z.1, by rw [z.2]; rfl⟩ q
      have aD : (decide (i < n) && isD (bt i)) = false := by
        cases z : decide (i < n) && isD (bt i) with
        | false => rfl
        | true =>
          rw [Bool.and_eq_true, decide_eq_true_iff] at z
          exact absurd ⟨z.1, by rw [z.2, Bool.or_true]⟩ q
      have e80 : (sm_wI u 67 80 1).1 67 82 = I3 i := eu
      have e81' : (sm_wI u 67 80 1).1 67 81 = I3 f := e1
      have B : F_418_158B u = if i - f ≤ 8 then (F_418_238 (I3 f) (sm_wJ (sm_wI u 67 80 1) 67 83 0)).map (fun r => .inr r) else ((F_413 2 (I3 f) (sm_wI u 67 80 1)).bind fun q12 => if q12.1 = 0 ∨ q12.1 = 1 then some (.inr (q12.1, q12.2)) else none) := by
        unfold F_418_158B
        rw [eu, R_414 tu (by omega)]; simp only [obs]
        rw [R_415g t i, aL]; simp only [obs]
        rw [if_pos (by decide), eu, R_414 tu (by omega)]; simp only [obs]
        rw [R_416g t i, aD]; simp only [obs]
        rw [if_pos (by decide), e80, e81', I3_sub h1]
        by_cases w : i - f ≤ 8
        · rw [if_pos (by rw [I3_lit, I3_le (by omega) (by decide)]; exact w), if_pos w, show (sm_wJ (sm_wI u 67 80 1) 67 83 0).1 67 81 = I3 f from e1]
        · rw [if_neg (by rw [I3_lit, I3_le (by omega) (by decide)]; exact w), if_neg w]
      by_cases w : i - f ≤ 8
      · obtain ⟨g1, c1, c2, c3⟩ := R_fold (g := sm_wI u 67 80 1) (TXR_x tu (agr_wI agr_rfl ⟨rfl, by omega, by omega⟩)) h1 h2 e80
        refine ⟨g1, agr_trans (agr_wI au ⟨rfl, by omega, by omega⟩) (agr_mono (fun b j z => ⟨z.1, by omega, by omega⟩) c3), (c3.1 67 79 (by omega)).trans e9, (c3.1 67 81 (by omega)).trans e1, c3.1 67 80 (by omega), (c3.1 67 82 (by omega)).trans eu, ?_⟩
        rw [if_pos w, lp_oK hf, B, if_pos w, oKm, c1]
        exact ⟨rfl, c2⟩
      · refine ⟨sm_wI u 67 80 1, agr_wI au ⟨rfl, by omega, by omega⟩, e9, e1, rfl, eu, ?_⟩
        rw [if_neg w, lp_oK hf, B, if_neg w]
        show oK _ _ ((F_413_0 2 (I3 f) (sm_wI u 67 80 1)).bind _) = F_413_0 2 (I3 f) (sm_wI u 67 80 1)
        unfold F_413_0 F_413_17
        by_cases z : (sm_wI u 67 80 1).1 67 77 = 0
        · rw [if_pos z]; rfl
        · rw [if_neg z]; rfl
    intro r
    induction r with
    | zero =>
      intro i u fu h1 h2 h3 hf eu e1 e9 au
      exact fin i u fu h2 h3 (by omega) (by omega) eu e1 e9 au
    | succ r ih =>
      intro i u fu h1 h2 h3 hf eu e1 e9 au
      unfold far
      by_cases q : i < n ∧ (isL (bt i) || isD (bt i)) = true
      · have tu := TXR_x t au
        rw [if_pos q, lp_s (s' := sm_wI u 67 82 (I3 (i + 1))) (by omega) (by
          have s186 : F_418_186 u = some (.inl (sm_wI u 67 82 (I3 (i + 1)))) := by
            unfold F_418_186
            rw [eu, show I3 i + 1 = I3 (i + 1) from I3_add i 1]; rfl
          unfold F_418_158B
          rw [eu, R_414 tu (by omega)]; simp only [obs]
          rw [R_415g t i]; simp only [obs]
          cases z : decide (i < n) && isL (bt i) with
          | true => rw [if_neg (by decide), s186]
          | false =>
            have zD : (decide (i < n) && isD (bt i)) = true := by
              rw [decide_eq_true q.1, Bool.true_and] at z ⊢
              have := q.2
              rw [z, Bool.false_or] at this; exact this
            rw [if_pos (by decide), eu, R_414 tu (by omega)]; simp only [obs]
            rw [R_416g t i, zD]; simp only [obs]
            rw [if_neg (by decide), s186])]
        exact ih (i + 1) _ (fu - 1) (by omega) (by omega) (by omega) (by omega) rfl e1 e9 (agr_wI au ⟨rfl, by omega, by omega⟩)
      · rw [if_neg q]
        exact fin i u fu h2 h3 (by omega) q eu e1 e9 au
  exact LP n f g 1000000 (by omega) (Nat.le_refl _) fn (by omega) e82 e81 rfl agr_rfl
def rv (bt : Nat → Nat) (s k : Nat) : Int64 := if (numV bt s k).1 = true then (numV bt s k).2 else 0
theorem R_digits (t : TXR n bt g) {s : Nat} (neg : Int32) : ∀ r i u fu, n ≤ i + r → s ≤ i → i ≤ n → r < fu → u.1 67 82 = I3 i → agr (fun b j => b = 67 ∧ j = 82) g u → ∃ g1, lp F_419_43B fu (neg, rv bt s (i - s), b2 (!(numV bt s (i - s)).1), u) = F_419_149 neg (rv bt s (far (fun j => isD (bt j)) n r i - s)) (b2 (!(numV bt s (far (fun j => isD (bt j)) n r i - s)).1)) (if far (fun j => isD (bt j)) n r i < n ∧ bt (far (fun j => isD (bt j)) n r i) = 108 then 1 else 0) g1 ∧ g1.1 67 82 = I3 (far (fun j => isD (bt j)) n r i) ∧ agr (fun b j => b = 67 ∧ j = 82) g g1 := by
  have n3 := t.2.1
  have fin : ∀ i u fu, s ≤ i → i ≤ n → 0 < fu → ¬ (i < n ∧ isD (bt i) = true) → u.1 67 82 = I3 i → agr (fun b j => b = 67 ∧ j = 82) g u → ∃ g1, lp F_419_43B fu (neg, rv bt s (i - s), b2 (!(numV bt s (i - s)).1), u) = F_419_149 neg (rv bt s (i - s)) (b2 (!(numV bt s (i - s)).1)) (if i < n ∧ bt i = 108 then 1 else 0) g1 ∧ g1.1 67 82 = I3 i ∧ agr (fun b j => b = 67 ∧ j = 82) g g1 := by
    intro i u fu h1 h2 hf q eu au
    have tu : TXR n bt u := TXR_agr t au (fun b j z => by omega)
    have aD : (decide (i < n) && isD (bt i)) = false := by
      cases z : decide (i < n) && isD (bt i) with
      | false => rfl
      | true =>
        rw [Bool.and_eq_true, decide_eq_true_iff] at z
        exact absurd z q
    refine ⟨u, ?_, eu, au⟩
    rw [lp_oK hf]
    unfold F_419_43B
    simp only []
    rw [eu, R_414 tu (by omega)]; simp only [obs]
    rw [R_416g t i, aD]; simp only [obs]
    rw [if_pos (by decide), eu, R_414 tu (by omega)]; simp only [obs]
    unfold gb
    by_cases w : i < n
    · rw [if_pos w]
      have b5 := (t.2.2 i w).2
      by_cases x : bt i = 108
      · rw [if_pos (show I3 (bt i) = (108 : Int32) by rw [x]; rfl), if_pos ⟨w, x⟩, oKm]
      · rw [if_neg (show ¬ I3 (bt i) = (108 : Int32) by rw [I3_lit, I3_inj (by omega) (by decide)]; exact x), if_neg (fun z => x z.2), oKm]
    · rw [if_neg w, if_neg (show ¬ (-1 : Int32) = 108 by decide), if_neg (fun z => w z.1), oKm]
  intro r
  induction r with
  | zero =>
    intro i u fu h1 h2 h3 hf eu au
    exact fin i u fu h2 h3 (by omega) (by omega) eu au
  | succ r ih =>
    intro i u fu h1 h2 h3 hf eu au
    have tu : TXR n bt u := TXR_agr t au (fun b j z => by omega)
    unfold far
    by_cases q : i < n ∧ isD (bt i) = true
    · have e1 : (numV bt s (i + 1 - s)).1 = ((numV bt s (i - s)).1 && !decide ((numV bt s (i - s)).2.toInt < (((-9223372036854775808) + Int32.toInt64 (I3 (bt i) - 48)) / 10 : Int64).toInt)) := by rw [show i + 1 - s = i - s + 1 by omega, numV_s, show s + (i - s) = i by omega]
      have e2 : (numV bt s (i + 1 - s)).2 = (numV bt s (i - s)).2 * 10 - Int32.toInt64 (I3 (bt i) - 48) := by rw [show i + 1 - s = i - s + 1 by omega, numV_s, show s + (i - s) = i by omega]
      have go : F_419_43B (neg, rv bt s (i - s), b2 (!(numV bt s (i - s)).1), u) = some (.inl (neg, rv bt s (i + 1 - s), b2 (!(numV bt s (i + 1 - s)).1), sm_wI u 67 82 (I3 (i + 1)))) := by
        have s117 : ∀ y z, F_419_117 neg y z u = some (.inl (neg, z, y, sm_wI u 67 82 (I3 (i + 1)))) := fun y z => by
          unfold F_419_117
          rw [eu, show I3 i + 1 = I3 (i + 1) from I3_add i 1]; rfl
        unfold F_419_43B F_419_92 F_419_97
        simp only []
        rw [eu, R_414 tu (by omega)]; simp only [obs]
        rw [R_416g t i, decide_eq_true q.1, q.2]; simp only [obs]
        rw [if_neg (by decide), eu, ldI_I (by omega) (by decide), (tu.2.2 i q.1).1]; simp only [obs]
        simp only [s117, if_true, show ¬ ((1 : Int32) = 0) by decide, if_false]
        rw [if_neg (show ¬ (10 : Int64) = 0 by decide)]
        unfold rv
        rw [e1, e2]
        cases c : (numV bt s (i - s)).1 with
        | false => rw [if_neg (by decide)]; rfl
        | true =>
          rw [if_pos (by decide), if_pos rfl]
          by_cases w : (numV bt s (i - s)).2.toInt < (((-9223372036854775808) + Int32.toInt64 (I3 (bt i) - 48)) / 10 : Int64).toInt
          · rw [if_neg (fun z => absurd (cmp_ge.mp z) (by omega)), decide_eq_true w]; rfl
          · rw [if_pos (cmp_ge.mpr (by omega)), decide_eq_false w, Int64.mul_comm]; rfl
      rw [if_pos q, lp_s (by omega) go]
      exact ih (i + 1) _ (fu - 1) (by omega) (by omega) (by omega) (by omega) rfl (agr_wI au ⟨rfl, rfl⟩)
    · rw [if_neg q]
      exact fin i u fu h2 h3 (by omega) q eu au
theorem f413 (e : Int32) (f : Int32) (w : sm_H) : ((F_413 e f w).bind fun q1 => if q1.1 = 0 ∨ q1.1 = 1 then some (q1.1, q1.2) else none) = F_413 e f w := by
  show (F_413_0 e f w).bind _ = F_413_0 e f w
  unfold F_413_0 F_413_17
  by_cases z : w.1 67 77 = 0
  · rw [if_pos z]; rfl
  · rw [if_neg z]; rfl
theorem r201 {f : Nat} (z l : Bool) (val : Int64) (x : sm_H) (x4 : x.1 67 81 = I3 f) : F_419_201 (b2 z) (if l = true then 1 else 0) val x = if z = false ∧ (l = true ∨ val = Int32.toInt64 (Int64.toInt32 val)) then some (1, sm_wI (sm_wJ x 67 84 val) 67 85 (if l = true then 6 else 5)) else F_413 3 (I3 f) (sm_wI (sm_wJ x 67 84 val) 67 85 (if l = true then 6 else 5)) := by
  cases l with
  | true =>
    show F_419_201 (b2 z) 1 val x = if z = false ∧ (true = true ∨ _) then some (1, sm_wI (sm_wJ x 67 84 val) 67 85 6) else F_413 3 (I3 f) (sm_wI (sm_wJ x 67 84 val) 67 85 6)
    unfold F_419_201 F_419_216 F_419_253 F_419_243
    simp only [obs]
    rw [if_neg (show ¬ (1 : Int32) = 0 by decide), show (sm_wI (sm_wJ x 67 84 val) 67 85 6).1 67 81 = I3 f from x4, f413]
    cases z with
    | true => rw [if_neg (by decide), if_neg (by simp)]
    | false => rw [if_pos (by decide), if_neg (show ¬ (1 : Int32) = 0 by decide), if_pos ⟨rfl, Or.inl trivial⟩]
  | false =>
    show F_419_201 (b2 z) 0 val x = if z = false ∧ (false = true ∨ _) then some (1, sm_wI (sm_wJ x 67 84 val) 67 85 5) else F_413 3 (I3 f) (sm_wI (sm_wJ x 67 84 val) 67 85 5)
    unfold F_419_201 F_419_216 F_419_253 F_419_243
    simp only [obs]
    rw [if_pos trivial, show (sm_wI (sm_wJ x 67 84 val) 67 85 5).1 67 81 = I3 f from x4, f413, show (sm_wI (sm_wJ x 67 84 val) 67 85 5).2.1 67 84 = val from rfl]
    cases z with
    | true => rw [if_neg (by decide), if_neg (by simp)]
    | false =>
      rw [if_pos (by decide), if_pos trivial]
      by_cases w : val = Int32.toInt64 (Int64.toInt32 val)
      · rw [if_pos (cmp_eq.mpr w), if_pos ⟨rfl, Or.inr w⟩]
      · rw [if_neg (fun z => w (cmp_eq.mp z)), if_neg (fun z => w (z.2.resolve_left (by decide)))]
theorem R_number (t : TXR n bt g) {f : Nat} (e79 : g.1 67 79 = I3 f) (e81 : g.1 67 81 = I3 f) (e82 : g.1 67 82 = I3 f) (fn : f < n) (hs : bt f = 45 → f + 1 < n) : ∃ g1, agr SLx g g1 ∧ g1.1 67 79 = I3 f ∧ g1.1 67 81 = I3 f ∧ g1.1 67 80 = 2 ∧ g1.1 67 82 = I3 (if isl n bt f = true then nen n bt f + 1 else nen n bt f) ∧ (if nok n bt f = true ∧ (isl n bt f = true ∨ nfi n bt f = true) then F_419 g = some (1, g1) ∧ g1.2.1 67 84 = nva n bt f ∧ g1.1 67 85 = (if isl n bt f = true then 6 else 5) else F_419 g = F_413 3 (I3 f) g1) := by
  have n3 := t.2.1
  have b5 := (t.2.2 f fn).2
  have t2 : TXR n bt (sm_wI g 67 80 2) := TXR_x t (agr_wI agr_rfl ⟨rfl, by omega, by omega⟩)
  have st : ∃ u, F_419 g = F_419_43 (if bt f = 45 then 1 else 0) 0 0 u ∧ u.1 67 82 = I3 (nst bt f) ∧ u.1 67 79 = I3 f ∧ u.1 67 81 = I3 f ∧ u.1 67 80 = 2 ∧ agr SLx g u ∧ TXR n bt u := by
    show ∃ u, F_419_0 g = _ ∧ _
    unfold F_419_0 F_419_23 F_419_38 nst
    simp only [obs]
    rw [show (sm_wI g 67 80 2).1 67 79 = I3 f from e79, R_414 t2 (by omega)]; simp only [obs]
    unfold gb
    rw [if_pos fn]
    by_cases q : bt f = 45
    · rw [if_pos (show I3 (bt f) = (45 : Int32) by rw [q]; rfl), if_neg (by decide), if_pos q, if_pos q, show (sm_wI g 67 80 2).1 67 82 = I3 f from e82, show I3 f + 1 = I3 (f + 1) from I3_add f 1]
      exact ⟨sm_wI (sm_wI g 67 80 2) 67 82 (I3 (f + 1)), rfl, rfl, e79, e81, rfl, agr_wI (agr_wI agr_rfl ⟨rfl, by omega, by omega⟩) ⟨rfl, by omega, by omega⟩, TXR_x t2 (agr_wI agr_rfl ⟨rfl, by omega, by omega⟩)⟩
    · rw [if_neg (show ¬ I3 (bt f) = (45 : Int32) by rw [I3_lit, I3_inj (by omega) (by decide)]; exact q), if_pos trivial, if_neg q, if_neg q]
      exact ⟨sm_wI g 67 80 2, rfl, e82, e79, e81, rfl, agr_wI agr_rfl ⟨rfl, by omega, by omega⟩, t2⟩
  obtain ⟨u, u1, u2, u3, u4, u5, u6, u7⟩ := st
  have sn : nst bt f ≤ n := by
    unfold nst
    by_cases q : bt f = 45
    · rw [if_pos q]; have := hs q; omega
    · rw [if_neg q]; omega
  obtain ⟨v, v1, v2, v3⟩ := R_digits u7 (s := nst bt f) (if bt f = 45 then 1 else 0) n (nst bt f) u 1000000 (by omega) (Nat.le_refl _) sn (by omega) u2 agr_rfl
  rw [Nat.sub_self] at v1
  have e0 : F_419 g = F_419_149 (if bt f = 45 then 1 else 0) (rv bt (nst bt f) (nen n bt f - nst bt f)) (b2 (!(numV bt (nst bt f) (nen n bt f - nst bt f)).1)) (if isl n bt f = true then 1 else 0) v := by
    rw [u1]
    refine Eq.trans v1 ?_
    congr 1
    show (if nen n bt f < n ∧ bt (nen n bt f) = 108 then (1 : Int32) else 0) = _
    unfold isl
    by_cases q : nen n bt f < n ∧ bt (nen n bt f) = 108
    · rw [if_pos q, if_pos (decide_eq_true q)]
    · rw [if_neg q, if_neg (fun z => q (of_decide_eq_true z))]
  have w79 : v.1 67 79 = I3 f := (v3.1 67 79 (by omega)).trans u3
  have w81 : v.1 67 81 = I3 f := (v3.1 67 81 (by omega)).trans u4
  have w80 : v.1 67 80 = 2 := (v3.1 67 80 (by omega)).trans u5
  have w82 : v.1 67 82 = I3 (nen n bt f) := v2
  have wa : agr SLx g v := agr_trans u6 (agr_mono (fun b j z => ⟨z.1, by omega, by omega⟩) v3)
  have e1 : ∃ x, F_419 g = F_419_166 (if bt f = 45 then 1 else 0) (rv bt (nst bt f) (nen n bt f - nst bt f)) (b2 (!(numV bt (nst bt f) (nen n bt f - nst bt f)).1)) (if isl n bt f = true then 1 else 0) x ∧ x.1 67 82 = I3 (if isl n bt f = true then nen n bt f + 1 else nen n bt f) ∧ x.1 67 79 = I3 f ∧ x.1 67 81 = I3 f ∧ x.1 67 80 = 2 ∧ agr SLx g x := by
    rw [e0]
    unfold F_419_149
    cases il : isl n bt f with
    | true =>
      rw [if_pos rfl, if_neg (show ¬ (1 : Int32) = 0 by decide), w82, show I3 (nen n bt f) + 1 = I3 (nen n bt f + 1) from I3_add _ 1]
      exact ⟨sm_wI v 67 82 (I3 (nen n bt f + 1)), rfl, rfl, w79, w81, w80, agr_wI wa ⟨rfl, by omega, by omega⟩⟩
    | false =>
      rw [if_neg (show ¬ false = true by decide), if_pos rfl]
      exact ⟨v, rfl, w82, w79, w81, w80, wa⟩
  obtain ⟨x, x1, x2, x3, x4, x5, x6⟩ := e1
  have e2 : ∃ val : Int64, F_419 g = F_419_201 (b2 (!nok n bt f)) (if isl n bt f = true then 1 else 0) val x ∧ (nok n bt f = true → val = nva n bt f) := by
    rw [x1]
    unfold F_419_166 F_419_183 F_419_187 F_419_188 nok nva rv
    by_cases q : bt f = 45
    · rw [if_pos q, if_pos q, decide_eq_false (not_not_intro q), Bool.false_and, Bool.not_false, Bool.and_true]
      cases c : (numV bt (nst bt f) (nen n bt f - nst bt f)).1 with
      | false => exact ⟨_, rfl, fun z => by cases z⟩
      | true => exact ⟨_, rfl, fun _ => rfl⟩
    · rw [if_neg q, if_neg q, decide_eq_true q, Bool.true_and]
      cases c : (numV bt (nst bt f) (nen n bt f - nst bt f)).1 with
      | false => exact ⟨_, rfl, fun z => by cases z⟩
      | true =>
        rw [if_pos rfl]
        by_cases w : (numV bt (nst bt f) (nen n bt f - nst bt f)).2 = -9223372036854775808
        · rw [if_pos (show b2 (!true) = 0 by decide), if_pos rfl, if_pos (cmp_eq.mpr w), decide_eq_true w]
          exact ⟨_, rfl, fun z => by cases z⟩
        · rw [if_pos (show b2 (!true) = 0 by decide), if_pos rfl, if_neg (fun z => w (cmp_eq.mp z)), decide_eq_false w]
          exact ⟨_, rfl, fun _ => rfl⟩
  obtain ⟨val, y1, y2⟩ := e2
  have y3 := y1.trans (r201 (!nok n bt f) (isl n bt f) val x x4)
  refine ⟨sm_wI (sm_wJ x 67 84 val) 67 85 (if isl n bt f = true then 6 else 5), agr_wI (agr_wJ x6 ⟨rfl, by omega, by omega⟩) ⟨rfl, by omega, by omega⟩, x3, x4, x5, x2, ?_⟩
  rw [y3]
  cases c : nok n bt f with
  | false => rw [if_neg (by simp), if_neg (by simp)]
  | true =>
    have ev := y2 c
    subst ev
    unfold nfi
    by_cases w : isl n bt f = true ∨ nva n bt f = Int32.toInt64 (Int64.toInt32 (nva n bt f))
    · rw [if_pos ⟨rfl, w.imp id decide_eq_true⟩, if_pos ⟨rfl, w⟩]
      exact ⟨rfl, rfl, rfl⟩
    · rw [if_neg (fun z => w (z.2.imp id of_decide_eq_true)), if_neg (fun z => w z.2)]
def rwd (w : Nat) : Nat := if w = 1 then 3 else if w = 2 then 4 else if w = 3 then 2 else if w = 4 then 1 else w
def LXR (n : Nat) (bt : Nat → Nat) (f : Nat) (g : sm_H) : Prop := g.1 67 79 = I3 f ∧ g.1 67 81 = I3 f ∧ g.1 67 80 = I3 (rwd (wrd n bt f)) ∧ g.1 67 82 = I3 (wen n bt f) ∧ (wrd n bt f = 3 → g.2.1 67 84 = nva n bt f ∧ g.1 67 85 = (if isl n bt f = true then 6 else 5)) ∧ (wrd n bt f = 4 → g.2.1 67 83 = foldN bt f (men n bt f - f)) ∧ (wrd n bt f = 5 → g.2.1 67 83 = Int32.toInt64 (I3 (bt f)))
theorem R_417 {b : Nat} (b5 : b ≤ 255) (g : sm_H) : F_417 (I3 b) g = some (b2 (decide (sgn b ≠ none)), g) := by
  have k : ∀ x : Nat, x < 256 → (I3 b = I3 x ↔ b = x) := fun x hx => I3_inj (by omega) (by omega)
  show F_417_0 (I3 b) g = _
  unfold F_417_0 F_417_60 F_417_65 sgn
  by_cases q0 : b = 43
  · subst q0; rfl
  by_cases q1 : b = 45
  · subst q1; rfl
  by_cases q2 : b = 42
  · subst q2; rfl
  by_cases q3 : b = 47
  · subst q3; rfl
  by_cases q4 : b = 37
  · subst q4; rfl
  by_cases q5 : b = 38
  · subst q5; rfl
  by_cases q6 : b = 124
  · subst q6; rfl
  by_cases q7 : b = 94
  · subst q7; rfl
  by_cases q8 : b = 60
  · subst q8; rfl
  by_cases q9 : b = 61
  · subst q9; rfl
  rw [if_neg (show ¬ I3 b = (43 : Int32) from fun z => q0 ((k 43 (by decide)).mp z)), if_neg (show ¬ I3 b = (45 : Int32) from fun z => q1 ((k 45 (by decide)).mp z)), if_neg (show ¬ I3 b = (42 : Int32) from fun z => q2 ((k 42 (by decide)).mp z)), if_neg (show ¬ I3 b = (47 : Int32) from fun z => q3 ((k 47 (by decide)).mp z)), if_neg (show ¬ I3 b = (37 : Int32) from fun z => q4 ((k 37 (by decide)).mp z)), if_neg (show ¬ I3 b = (38 : Int32) from fun z => q5 ((k 38 (by decide)).mp z)), if_neg (show ¬ I3 b = (124 : Int32) from fun z => q6 ((k 124 (by decide)).mp z)), if_neg (show ¬ I3 b = (94 : Int32) from fun z => q7 ((k 94 (by decide)).mp z)), if_neg (show ¬ I3 b = (60 : Int32) from fun z => q8 ((k 60 (by decide)).mp z)), if_neg (show ¬ I3 b = (61 : Int32) from fun z => q9 ((k 61 (by decide)).mp z)), if_neg q0, if_neg q1, if_neg q2, if_neg q3, if_neg q4, if_neg q5, if_neg q6, if_neg q7, if_neg q8, if_neg q9]
  rfl
theorem R_look0 (t : TXR n bt g) {f : Nat} (e79 : g.1 67 79 = I3 f) (fn : f ≤ n) (nb : f < n → blN (bt f) = false) {fu : Nat} (hf : 0 < fu) : ∃ g1, agr SLx g g1 ∧ g1.1 67 79 = I3 f ∧ g1.1 67 81 = I3 f ∧ (if wrd n bt f = 6 then lp F_418_0B fu g = F_413 (I3 (wtr n bt f)) (I3 f) g1 else lp F_418_0B fu g = some (1, g1) ∧ LXR n bt f g1) := by
  have n3 := t.2.1
  have bb : ∀ x : Nat, x < 256 → (x = 32 ∨ x = 10) → ¬ gb n bt f = I3 x := fun x hx h => by
    unfold gb
    by_cases q : f < n
    · rw [if_pos q, I3_inj (by have := (t.2.2 f q).2; omega) (by omega)]
      have := of_decide_eq_false (nb q)
      omega
    · rw [if_neg q]
      rcases h with rfl | rfl <;> decide
  have a2 : agr SLx g (sm_wI (sm_wI g 67 81 (I3 f)) 67 82 (I3 f)) := agr_wI (agr_wI agr_rfl ⟨rfl, by omega, by omega⟩) ⟨rfl, by omega, by omega⟩
  have u79 : (sm_wI (sm_wI g 67 81 (I3 f)) 67 82 (I3 f)).1 67 79 = I3 f := e79
  have u81 : (sm_wI (sm_wI g 67 81 (I3 f)) 67 82 (I3 f)).1 67 81 = I3 f := rfl
  have u82 : (sm_wI (sm_wI g 67 81 (I3 f)) 67 82 (I3 f)).1 67 82 = I3 f := rfl
  have B : F_418_0B g = if gb n bt f = (-1) then ((F_418_315 (sm_wI (sm_wI (sm_wI g 67 81 (I3 f)) 67 82 (I3 f)) 67 80 0)).map fun r => (.inr r))
      else (if gb n bt f = 40 then ((F_418_89 (gb n bt f) (sm_wI (sm_wI g 67 81 (I3 f)) 67 82 (I3 f))).map fun r => (.inr r))
      else (if gb n bt f = 41 then ((F_418_89 (gb n bt f) (sm_wI (sm_wI g 67 81 (I3 f)) 67 82 (I3 f))).map fun r => (.inr r))
      else (if b2 (decide (f < n) && isD (bt f)) = 0 then (if gb n bt f = 45 then (if b2 (decide (f + 1 < n) && isD (bt (f + 1))) = 0 then ((F_418_151 (gb n bt f) (sm_wI (sm_wI g 67 81 (I3 f)) 67 82 (I3 f))).map fun r => (.inr r))
        else ((F_418_146 (sm_wI (sm_wI g 67 81 (I3 f)) 67 82 (I3 f))).map fun r => (.inr r)))
        else ((F_418_151 (gb n bt f) (sm_wI (sm_wI g 67 81 (I3 f)) 67 82 (I3 f))).map fun r => (.inr r)))
        else ((F_418_146 (sm_wI (sm_wI g 67 81 (I3 f)) 67 82 (I3 f))).map fun r => (.inr r))))) := by
    unfold F_418_0B
    rw [e79, R_414 t (by omega)]; simp only [obs]
    rw [if_neg (show ¬ gb n bt f = (32 : Int32) from bb 32 (by decide) (Or.inl rfl)), e79, R_414 t (by omega)]; simp only [obs]
    rw [if_neg (show ¬ gb n bt f = (10 : Int32) from bb 10 (by decide) (Or.inr rfl)), e79, show (sm_wI g 67 81 (I3 f)).1 67 79 = I3 f from e79, show (sm_wI (sm_wI g 67 81 (I3 f)) 67 82 (I3 f)).1 67 79 = I3 f from e79, R_414 (TXR_x t a2) (by omega)]; simp only [obs]
    rw [R_416g t f]; simp only [obs]
    rw [u79, show I3 f + 1 = I3 (f + 1) from I3_add f 1, R_414 (TXR_x t a2) (by omega)]; simp only [obs]
    rw [R_416g t (f + 1)]; simp only [obs]
  generalize hu : sm_wI (sm_wI g 67 81 (I3 f)) 67 82 (I3 f) = u at *
  have tu := TXR_x t a2
  rw [lp_oK hf, B]
  by_cases q : n ≤ f
  · have ew : wrd n bt f = 0 := by unfold wrd; rw [if_pos q]
    rw [if_pos (show gb n bt f = -1 by unfold gb; rw [if_neg (by omega)]), oKm]
    refine ⟨sm_wI u 67 80 0, agr_wI a2 ⟨rfl, by omega, by omega⟩, u79, u81, ?_⟩
    rw [if_neg (by rw [ew]; decide)]
    unfold LXR
    rw [ew]
    exact ⟨rfl, u79, u81, rfl, by unfold wen; rw [if_pos q]; exact u82, (fun z => by cases z), (fun z => by cases z), (fun z => by cases z)⟩
  have fl : f < n := by omega
  have b5 := (t.2.2 f fl).2
  have eg : gb n bt f = I3 (bt f) := if_pos fl
  have kk : ∀ x : Nat, x < 256 → (I3 (bt f) = I3 x ↔ bt f = x) := fun x hx => I3_inj (by omega) (by omega)
  rw [eg, if_neg (I3_m1 (by omega)), decide_eq_true fl, Bool.true_and]
  have NUM : isN n bt f = true → ∃ g1, agr SLx g g1 ∧ g1.1 67 79 = I3 f ∧ g1.1 67 81 = I3 f ∧ (if wrd n bt f = 6 then F_418_146 u = F_413 (I3 (wtr n bt f)) (I3 f) g1 else F_418_146 u = some (1, g1) ∧ LXR n bt f g1) := fun hN => by
    have hc : bt f = 45 ∧ f + 1 < n ∨ isD (bt f) = true := by
      unfold isN at hN
      rw [Bool.or_eq_true, Bool.and_eq_true, Bool.and_eq_true, decide_eq_true_iff, decide_eq_true_iff] at hN
      rcases hN with z | z
      · exact Or.inr z
      · exact Or.inl ⟨z.1, z.2.1⟩
    have n40 : bt f ≠ 40 ∧ bt f ≠ 41 := by
      rcases hc with z | z
      · omega
      · unfold isD at z; have := of_decide_eq_true z; omega
    have hs : bt f = 45 → f + 1 < n := fun z => by
      rcases hc with w | w
      · exact w.2
      · unfold isD at w; have := of_decide_eq_true w; omega
    obtain ⟨v, v1, v2, v3, v4, v5, v6⟩ := R_number tu u79 u81 u82 fl hs
    have ew : wrd n bt f = (if nok n bt f = true ∧ (isl n bt f = true ∨ nfi n bt f = true) then 3 else 6) := by
      unfold wrd; rw [if_neg q, if_neg n40.1, if_neg n40.2, if_pos hN]
    have et : wtr n bt f = 3 := by unfold wtr; rw [if_pos hN]
    have ee : wen n bt f = (if isl n bt f = true then nen n bt f + 1 else nen n bt f) := by unfold wen; rw [if_neg q, if_pos hN]
    refine ⟨v, agr_trans a2 v1, v2, v3, ?_⟩
    unfold F_418_146
    by_cases w : nok n bt f = true ∧ (isl n bt f = true ∨ nfi n bt f = true)
    · rw [if_pos w] at v6 ew
      rw [ew, if_neg (by decide), v6.1]; simp only [obs]
      refine ⟨if_pos (Or.inr trivial), ?_⟩
      unfold LXR
      rw [ew, ee]
      exact ⟨v2, v3, v4, v5, fun _ => v6.2, (fun z => by cases z), (fun z => by cases z)⟩
    · rw [if_neg w] at v6 ew
      rw [ew, if_pos rfl, v6, et, show (3 : Int32) = I3 3 from rfl, f413]
  have RST : isN n bt f = false → bt f ≠ 40 → bt f ≠ 41 → ∃ g1, agr SLx g g1 ∧ g1.1 67 79 = I3 f ∧ g1.1 67 81 = I3 f ∧ (if wrd n bt f = 6 then F_418_151 (I3 (bt f)) u = F_413 (I3 (wtr n bt f)) (I3 f) g1 else F_418_151 (I3 (bt f)) u = some (1, g1) ∧ LXR n bt f g1) := fun hN w0 w1 => by
    have nN : ¬ isN n bt f = true := by rw [hN]; decide
    unfold F_418_151
    rw [R_415b b5]; simp only [obs]
    cases l : isL (bt f) with
    | true =>
      have ew : wrd n bt f = (if men n bt f - f ≤ 8 then 4 else 6) := by
        unfold wrd; rw [if_neg q, if_neg w0, if_neg w1, if_neg nN, if_pos l]
      have et : wtr n bt f = 2 := by unfold wtr; rw [if_neg nN, if_pos l]
      have ee : wen n bt f = men n bt f := by unfold wen; rw [if_neg q, if_neg nN, if_pos l]
      obtain ⟨v, v1, v2, v3, v4, v5, v6⟩ := R_name tu u81 u82 fn
      refine ⟨v, agr_trans a2 v1, v2.trans u79, v3, ?_⟩
      rw [if_neg (show ¬ b2 true = 0 by decide)]
      by_cases w : men n bt f - f ≤ 8
      · rw [if_pos w] at v6 ew
        rw [ew, if_neg (by decide), v6.1]
        refine ⟨rfl, ?_⟩
        unfold LXR
        rw [ew, ee]
        exact ⟨v2.trans u79, v3, v4, v5, (fun z => by cases z), fun _ => v6.2, (fun z => by cases z)⟩
      · rw [if_neg w] at v6 ew
        rw [ew, if_pos rfl, v6, et]; rfl
    | false =>
      have nl : ¬ isL (bt f) = true := by rw [l]; decide
      have we : wen n bt f = f + 1 := by unfold wen; rw [if_neg q, if_neg nN, if_neg nl]
      have wt : wtr n bt f = 1 := by unfold wtr; rw [if_neg nN, if_neg nl]
      rw [if_pos (show b2 false = 0 by decide), R_417 b5]; simp only [obs]
      by_cases s : sgn (bt f) = none
      · have ew : wrd n bt f = 6 := by unfold wrd; rw [if_neg q, if_neg w0, if_neg w1, if_neg nN, if_neg nl, if_pos s]
        refine ⟨u, a2, u79, u81, ?_⟩
        rw [ew, if_pos rfl, decide_eq_false (not_not_intro s), if_pos (by decide), wt, u81]; exact f413 1 (I3 f) u
      · have ew : wrd n bt f = 5 := by unfold wrd; rw [if_neg q, if_neg w0, if_neg w1, if_neg nN, if_neg nl, if_neg s]
        refine ⟨sm_wJ (sm_wI (sm_wI u 67 80 5) 67 82 (I3 (f + 1))) 67 83 (Int32.toInt64 (I3 (bt f))), agr_wJ (agr_wI (agr_wI a2 ⟨rfl, by omega, by omega⟩) ⟨rfl, by omega, by omega⟩) ⟨rfl, by omega, by omega⟩, u79, u81, ?_⟩
        rw [ew, if_neg (by decide), decide_eq_true s, if_neg (by decide), show (sm_wI u 67 80 5).1 67 79 = I3 f from u79, show I3 f + 1 = I3 (f + 1) from I3_add f 1]
        refine ⟨rfl, ?_⟩
        unfold LXR
        rw [ew, we]
        exact ⟨u79, u81, rfl, rfl, (fun z => by cases z), (fun z => by cases z), fun _ => rfl⟩
  have OPN : ∀ (w : Nat), wrd n bt f = w → (w = 1 ∨ w = 2) → wen n bt f = f + 1 → ∀ z, z = I3 (rwd w) → F_418_101 z u = some (1, sm_wI (sm_wI u 67 80 (I3 (rwd w))) 67 82 (I3 (f + 1))) ∧ agr SLx g (sm_wI (sm_wI u 67 80 (I3 (rwd w))) 67 82 (I3 (f + 1))) ∧ LXR n bt f (sm_wI (sm_wI u 67 80 (I3 (rwd w))) 67 82 (I3 (f + 1))) := fun w ew hw we z hz => by
    refine ⟨?_, agr_wI (agr_wI a2 ⟨rfl, by omega, by omega⟩) ⟨rfl, by omega, by omega⟩, ?_⟩
    · unfold F_418_101 F_418_315
      simp only [obs]
      rw [hz, show (sm_wI u 67 80 (I3 (rwd w))).1 67 79 = I3 f from u79, show I3 f + 1 = I3 (f + 1) from I3_add f 1]
    · unfold LXR
      rw [ew, we]
      exact ⟨u79, u81, rfl, rfl, (fun z => by omega), (fun z => by omega), (fun z => by omega)⟩
  have nNp : bt f = 40 ∨ bt f = 41 → ¬ isN n bt f = true ∧ ¬ isL (bt f) = true := fun z => by
    rcases z with z | z
    · unfold isN isL isD; rw [z]; simp
    · unfold isN isL isD; rw [z]; simp
  by_cases w0 : bt f = 40
  · have nn := nNp (Or.inl w0)
    obtain ⟨c1, c2, c3⟩ := OPN 1 (by unfold wrd; rw [if_neg q, if_pos w0]) (Or.inl rfl) (by unfold wen; rw [if_neg q, if_neg nn.1, if_neg nn.2]) 3 rfl
    refine ⟨_, c2, u79, u81, ?_⟩
    rw [if_neg (by unfold wrd; rw [if_neg q, if_pos w0]; decide), if_pos (show I3 (bt f) = (40 : Int32) by rw [w0]; rfl), oKm]
    unfold F_418_89
    rw [if_pos (show I3 (bt f) = (40 : Int32) by rw [w0]; rfl)]
    exact ⟨c1, c3⟩
  by_cases w1 : bt f = 41
  · have nn := nNp (Or.inr w1)
    obtain ⟨c1, c2, c3⟩ := OPN 2 (by unfold wrd; rw [if_neg q, if_neg w0, if_pos w1]) (Or.inr rfl) (by unfold wen; rw [if_neg q, if_neg nn.1, if_neg nn.2]) 4 rfl
    refine ⟨_, c2, u79, u81, ?_⟩
    rw [if_neg (by unfold wrd; rw [if_neg q, if_neg w0, if_pos w1]; decide), if_neg (show ¬ I3 (bt f) = (40 : Int32) from fun z => w0 ((kk 40 (by decide)).mp z)), if_pos (show I3 (bt f) = (41 : Int32) by rw [w1]; rfl), oKm]
    unfold F_418_89
    rw [if_neg (show ¬ I3 (bt f) = (40 : Int32) from fun z => w0 ((kk 40 (by decide)).mp z))]
    exact ⟨c1, c3⟩
  rw [if_neg (show ¬ I3 (bt f) = (40 : Int32) from fun z => w0 ((kk 40 (by decide)).mp z)), if_neg (show ¬ I3 (bt f) = (41 : Int32) from fun z => w1 ((kk 41 (by decide)).mp z))]
  cases d : isD (bt f) with
  | true =>
    rw [if_neg (show ¬ b2 true = 0 by decide), oKm]
    exact NUM (by unfold isN; rw [d]; rfl)
  | false =>
    rw [if_pos (show b2 false = 0 by decide)]
    by_cases w : bt f = 45
    · rw [if_pos (show I3 (bt f) = (45 : Int32) by rw [w]; rfl)]
      have eN : isN n bt f = (decide (f + 1 < n) && isD (bt (f + 1))) := by unfold isN; rw [d, decide_eq_true w]; rfl
      cases d1 : decide (f + 1 < n) && isD (bt (f + 1)) with
      | true => rw [if_neg (show ¬ b2 true = 0 by decide), oKm]; exact NUM (eN.trans d1)
      | false => rw [if_pos (show b2 false = 0 by decide), oKm]; exact RST (eN.trans d1) w0 w1
    · rw [if_neg (show ¬ I3 (bt f) = (45 : Int32) from fun z => w ((kk 45 (by decide)).mp z)), oKm]
      exact RST (by unfold isN; rw [d, decide_eq_false w]; rfl) w0 w1
theorem R_look (t : TXR n bt g) {p : Nat} (e79 : g.1 67 79 = I3 p) (pn : p ≤ n) : ∃ g1, agr SLx g g1 ∧ g1.1 67 79 = I3 (sk n bt p) ∧ g1.1 67 81 = I3 (sk n bt p) ∧ (if wrd n bt (sk n bt p) = 6 then F_418 g = F_413 (I3 (wtr n bt (sk n bt p))) (I3 (sk n bt p)) g1 else F_418 g = some (1, g1) ∧ LXR n bt (sk n bt p) g1) := by
  have n3 := t.2.1
  have LP : ∀ r i u fu, n ≤ i + r → i ≤ n → r < fu → u.1 67 79 = I3 i → agr SLx g u → (∀ f, f = far (fun j => blN (bt j)) n r i → ∃ g1, agr SLx g g1 ∧ g1.1 67 79 = I3 f ∧ g1.1 67 81 = I3 f ∧ (if wrd n bt f = 6 then lp F_418_0B fu u = F_413 (I3 (wtr n bt f)) (I3 f) g1 else lp F_418_0B fu u = some (1, g1) ∧ LXR n bt f g1)) := by
    intro r
    induction r with
    | zero =>
      intro i u fu h1 h2 hf eu au f ef
      have : f = i := ef
      subst this
      obtain ⟨g1, c1, c2, c3, c4⟩ := R_look0 (TXR_x t au) eu h2 (fun z => by omega) hf
      exact ⟨g1, agr_trans au c1, c2, c3, c4⟩
    | succ r ih =>
      intro i u fu h1 h2 hf eu au f ef
      unfold far at ef
      by_cases q : i < n ∧ blN (bt i) = true
      · rw [if_pos q] at ef
        have tu := TXR_x t au
        have b5 := (t.2.2 i q.1).2
        rw [lp_s (s' := sm_wI u 67 79 (I3 (i + 1))) (by omega) (by
          have s26 : F_418_26 u = some (.inl (sm_wI u 67 79 (I3 (i + 1)))) := by
            unfold F_418_26
            rw [eu, show I3 i + 1 = I3 (i + 1) from I3_add i 1]; rfl
          have hb : bt i = 32 ∨ bt i = 10 := of_decide_eq_true q.2
          unfold F_418_0B
          rw [eu, R_414 tu (by omega)]; simp only [obs]
          rw [show gb n bt i = I3 (bt i) from if_pos q.1, s26]
          by_cases w : bt i = 32
          · rw [if_pos (show I3 (bt i) = (32 : Int32) by rw [w]; rfl)]
          · rw [if_neg (show ¬ I3 (bt i) = (32 : Int32) by rw [I3_lit, I3_inj (by omega) (by decide)]; exact w), eu, R_414 tu (by omega)]; simp only [obs]
            rw [show gb n bt i = I3 (bt i) from if_pos q.1, if_pos (show I3 (bt i) = (10 : Int32) by rw [hb.resolve_left w]; rfl), s26])]
        exact ih (i + 1) _ (fu - 1) (by omega) (by omega) (by omega) rfl (agr_wI au ⟨rfl, by omega, by omega⟩) f ef
      · rw [if_neg q] at ef
        subst ef
        obtain ⟨g1, c1, c2, c3, c4⟩ := R_look0 (TXR_x t au) eu h2 (fun z => by
          cases w : blN (bt f) with
          | false => rfl
          | true => exact absurd ⟨z, w⟩ q) (by omega : 0 < fu)
        exact ⟨g1, agr_trans au c1, c2, c3, c4⟩
  exact LP n p g 1000000 (by omega) pn (by omega) e79 agr_rfl _ rfl
end
