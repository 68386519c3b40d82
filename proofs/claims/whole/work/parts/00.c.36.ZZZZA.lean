def TXC (n : Nat) (bt : Nat → Nat) (h : sm_H) : Prop := h.1 52 1 = I3 n ∧ n ≤ 3000 ∧ ∀ i, i < n → h.1 53 i = I3 (bt i) ∧ bt i ≤ 255
def TXR (n : Nat) (bt : Nat → Nat) (g : sm_H) : Prop := g.1 67 76 = I3 n ∧ n ≤ 3000 ∧ ∀ i, i < n → g.1 112 i = I3 (bt i) ∧ bt i ≤ 255
def blN (b : Nat) : Bool := decide (b = 32 ∨ b = 10)
def isL (b : Nat) : Bool := decide (97 ≤ b ∧ b ≤ 122)
def isD (b : Nat) : Bool := decide (48 ≤ b ∧ b ≤ 57)
def far (p : Nat → Bool) (n : Nat) : Nat → Nat → Nat
  | 0, i => i
  | r + 1, i => if i < n ∧ p i = true then far p n r (i + 1) else i
theorem far_ge (p : Nat → Bool) (n : Nat) : ∀ r i, i ≤ far p n r i := by
  intro r
  induction r with
  | zero => intro i; exact Nat.le_refl _
  | succ r ih =>
    intro i
    unfold far
    split
    · exact Nat.le_trans (Nat.le_succ i) (ih (i + 1))
    · exact Nat.le_refl _
theorem far_le (p : Nat → Bool) (n : Nat) : ∀ r i, i ≤ n → far p n r i ≤ n := by
  intro r
  induction r with
  | zero => intro i h; exact h
  | succ r ih =>
    intro i h
    unfold far
    split
    · exact ih (i + 1) (by omega)
    · exact h
theorem far_stop (p : Nat → Bool) (n : Nat) : ∀ r i, n ≤ i + r → ¬ (far p n r i < n ∧ p (far p n r i) = true) := by
  intro r
  induction r with
  | zero => intro i h; unfold far; omega
  | succ r ih =>
    intro i h
    unfold far
    split
    · exact ih (i + 1) (by omega)
    · assumption
theorem far_all (p : Nat → Bool) (n : Nat) : ∀ r i j, i ≤ j → j < far p n r i → j < n ∧ p j = true := by
  intro r
  induction r with
  | zero => intro i j h1 h2; unfold far at h2; omega
  | succ r ih =>
    intro i j h1 h2
    unfold far at h2
    split at h2
    · by_cases q : j = i
      · subst q; assumption
      · exact ih (i + 1) j (by omega) h2
    · omega
theorem far_id (p : Nat → Bool) (n r i : Nat) (h : ¬ (i < n ∧ p i = true)) : far p n r i = i := by
  cases r with
  | zero => rfl
  | succ r => unfold far; rw [if_neg h]
def sk (n : Nat) (bt : Nat → Nat) (i : Nat) : Nat := far (fun j => blN (bt j)) n n i
theorem sk_sk (n : Nat) (bt : Nat → Nat) (i : Nat) : sk n bt (sk n bt i) = sk n bt i := far_id _ _ _ _ (far_stop _ n n i (by omega))
theorem sk_nb {n : Nat} {bt : Nat → Nat} {i : Nat} (h : sk n bt i < n) : blN (bt (sk n bt i)) = false := by
  have := far_stop (fun j => blN (bt j)) n n i (by omega)
  cases q : blN (bt (sk n bt i)) with
  | false => rfl
  | true => exact absurd ⟨h, q⟩ this
def foldN (bt : Nat → Nat) (f : Nat) : Nat → Int64
  | 0 => 0
  | k + 1 => (foldN bt f k <<< (Int32.toInt64 8 &&& 63)) ||| Int32.toInt64 (I3 (bt (f + k)))
theorem foldN_s (bt : Nat → Nat) (f k : Nat) : foldN bt f (k + 1) = (foldN bt f k <<< (Int32.toInt64 8 &&& 63)) ||| Int32.toInt64 (I3 (bt (f + k))) := rfl
def numV (bt : Nat → Nat) (s : Nat) : Nat → Bool × Int64
  | 0 => (true, 0)
  | k + 1 => ((numV bt s k).1 && !decide ((numV bt s k).2.toInt < (((-9223372036854775808) + Int32.toInt64 (I3 (bt (s + k)) - 48)) / 10 : Int64).toInt), (numV bt s k).2 * 10 - Int32.toInt64 (I3 (bt (s + k)) - 48))
theorem numV_s (bt : Nat → Nat) (s k : Nat) : numV bt s (k + 1) = ((numV bt s k).1 && !decide ((numV bt s k).2.toInt < (((-9223372036854775808) + Int32.toInt64 (I3 (bt (s + k)) - 48)) / 10 : Int64).toInt), (numV bt s k).2 * 10 - Int32.toInt64 (I3 (bt (s + k)) - 48)) := rfl
def sgn (b : Nat) : Option Nat := if b = 43 then some 0 else if b = 45 then some 1 else if b = 42 then some 2 else if b = 47 then some 3 else if b = 37 then some 4 else if b = 38 then some 5 else if b = 124 then some 6 else if b = 94 then some 7 else if b = 60 then some 11 else if b = 61 then some 12 else none
theorem sgn_12 {b o : Nat} (h : sgn b = some o) : o ≤ 12 := by
  unfold sgn at h
  repeat' split at h
  all_goals first | (cases h; decide) | cases h
def nst (bt : Nat → Nat) (f : Nat) : Nat := if bt f = 45 then f + 1 else f
def nen (n : Nat) (bt : Nat → Nat) (f : Nat) : Nat := far (fun j => isD (bt j)) n n (nst bt f)
def isl (n : Nat) (bt : Nat → Nat) (f : Nat) : Bool := decide (nen n bt f < n ∧ bt (nen n bt f) = 108)
def nok (n : Nat) (bt : Nat → Nat) (f : Nat) : Bool := (numV bt (nst bt f) (nen n bt f - nst bt f)).1 && !(decide (¬ bt f = 45) && decide ((numV bt (nst bt f) (nen n bt f - nst bt f)).2 = -9223372036854775808))
def nva (n : Nat) (bt : Nat → Nat) (f : Nat) : Int64 := if bt f = 45 then (numV bt (nst bt f) (nen n bt f - nst bt f)).2 else -(numV bt (nst bt f) (nen n bt f - nst bt f)).2
def nfi (n : Nat) (bt : Nat → Nat) (f : Nat) : Bool := decide (nva n bt f = Int32.toInt64 (Int64.toInt32 (nva n bt f)))
def men (n : Nat) (bt : Nat → Nat) (f : Nat) : Nat := far (fun j => isL (bt j) || isD (bt j)) n n f
def isN (n : Nat) (bt : Nat → Nat) (f : Nat) : Bool := isD (bt f) || (decide (bt f = 45) && (decide (f + 1 < n) && isD (bt (f + 1))))
def wrd (n : Nat) (bt : Nat → Nat) (f : Nat) : Nat := if n ≤ f then 0 else if bt f = 40 then 1 else if bt f = 41 then 2 else if isN n bt f = true then (if nok n bt f = true ∧ (isl n bt f = true ∨ nfi n bt f = true) then 3 else 6) else if isL (bt f) = true then (if men n bt f - f ≤ 8 then 4 else 6) else if sgn (bt f) = none then 6 else 5
def wen (n : Nat) (bt : Nat → Nat) (f : Nat) : Nat := if n ≤ f then f else if isN n bt f = true then (if isl n bt f = true then nen n bt f + 1 else nen n bt f) else if isL (bt f) = true then men n bt f else f + 1
def wtr (n : Nat) (bt : Nat → Nat) (f : Nat) : Nat := if isN n bt f = true then 3 else if isL (bt f) = true then 2 else 1
abbrev S52 (b j : Nat) : Prop := b = 52 ∧ 3 ≤ j
theorem TXC_agr {n : Nat} {bt : Nat → Nat} {h h1 : sm_H} {P : Nat → Nat → Prop} (t : TXC n bt h) (a : agr P h h1) (p : ∀ b j, P b j → ¬ (b = 52 ∧ j = 1 ∨ b = 53)) : TXC n bt h1 := ⟨(a.1 52 1 (fun z => p _ _ z (by omega))).trans t.1, t.2.1, fun i hi => ⟨(a.1 53 i (fun z => p _ _ z (by omega))).trans (t.2.2 i hi).1, (t.2.2 i hi).2⟩⟩
theorem S52_p (b j : Nat) (z : S52 b j) : ¬ (b = 52 ∧ j = 1 ∨ b = 53) := by unfold S52 at z; omega
theorem TXC_52 {n : Nat} {bt : Nat → Nat} {h h1 : sm_H} (t : TXC n bt h) (a : agr S52 h h1) : TXC n bt h1 := TXC_agr t a S52_p
theorem ld53 {n : Nat} {bt : Nat → Nat} {h : sm_H} (t : TXC n bt h) {i : Nat} (hi : i < n) : ldI h 53 3000 (I3 i) = some (I3 (bt i)) := by
  have := t.2.1
  rw [ldI_I (by omega) (by decide), (t.2.2 i hi).1]
section
variable {n : Nat} {bt : Nat → Nat} {h : sm_H}
theorem C_skip (t : TXC n bt h) {a : Nat} (ea : h.1 52 3 = I3 a) (an : a ≤ n) : ∃ h1, F_253 h = some h1 ∧ h1.1 52 3 = I3 (sk n bt a) ∧ agr S52 h h1 := by
  have n3 := t.2.1
  have LP : ∀ r i u f, n ≤ i + r → i ≤ n → r < f → u.1 52 3 = I3 i → agr S52 h u → ∃ h1, lp F_253_0B f u = some h1 ∧ h1.1 52 3 = I3 (far (fun j => blN (bt j)) n r i) ∧ agr S52 h h1 := by
    intro r
    induction r with
    | zero =>
      intro i u f h1 h2 hf eu au
      refine ⟨u, lp_e (by omega) ?_, eu, au⟩
      unfold F_253_0B F_253_52
      rw [(TXC_52 t au).1, eu, if_pos (by rw [I3_le (by omega) (by omega)]; omega)]; rfl
    | succ r ih =>
      intro i u f h1 h2 hf eu au
      have tu := TXC_52 t au
      unfold far
      by_cases q : i < n ∧ blN (bt i) = true
      · have b5 := (t.2.2 i q.1).2
        rw [if_pos q, lp_s (s' := sm_wI u 52 3 (I3 (i + 1))) (by omega) (by
          unfold F_253_0B F_253_39
          rw [tu.1, eu, if_neg (by rw [I3_le (by omega) (by omega)]; omega), ld53 tu q.1]; simp only [obs]
          have hb : bt i = 32 ∨ bt i = 10 := of_decide_eq_true q.2
          rw [show I3 i + 1 = I3 (i + 1) from I3_add i 1]
          by_cases w : bt i = 32
          · rw [if_pos (show I3 (bt i) = (32 : Int32) by rw [w]; rfl)]
          · rw [if_neg (show ¬ I3 (bt i) = (32 : Int32) by rw [I3_lit, I3_inj (by omega) (by decide)]; exact w), if_pos (show I3 (bt i) = (10 : Int32) by rw [hb.resolve_left w]; rfl)])]
        exact ih (i + 1) _ (f - 1) (by omega) (by omega) (by omega) rfl (agr_wI au ⟨rfl, by omega⟩)
      · rw [if_neg q]
        refine ⟨u, lp_e (by omega) ?_, eu, au⟩
        unfold F_253_0B F_253_52
        by_cases w : n ≤ i
        · rw [tu.1, eu, if_pos (by rw [I3_le (by omega) (by omega)]; omega)]; rfl
        · have b5 := (t.2.2 i (by omega)).2
          have nb : ¬ (bt i = 32 ∨ bt i = 10) := fun z => q ⟨by omega, decide_eq_true z⟩
          rw [tu.1, eu, if_neg (by rw [I3_le (by omega) (by omega)]; omega), ld53 tu (by omega)]; simp only [obs]
          rw [if_neg (show ¬ I3 (bt i) = (32 : Int32) by rw [I3_lit, I3_inj (by omega) (by decide)]; omega), if_neg (show ¬ I3 (bt i) = (10 : Int32) by rw [I3_lit, I3_inj (by omega) (by decide)]; omega)]; rfl
  exact LP n a h 1000000 (by omega) an (by omega) ea agr_rfl
def gb (n : Nat) (bt : Nat → Nat) (i : Nat) : Int32 := if i < n then I3 (bt i) else -1
theorem C_250 (t : TXC n bt h) {i : Nat} (hi : i ≤ 4000) : F_250 (I3 i) h = some (gb n bt i, h) := by
  have n3 := t.2.1
  show F_250_0 (I3 i) h = _
  unfold F_250_0 F_250_28 F_250_29 gb
  rw [if_neg (I3_nn (by omega)), t.1]
  by_cases q : i < n
  · rw [if_neg (by rw [I3_le (by omega) (by omega)]; omega), if_neg (by rw [I3_lit, I3_le (by decide) (by omega)]; omega), ld53 t q, if_pos q]; simp only [obs]
  · rw [if_pos (by rw [I3_le (by omega) (by omega)]; omega), if_neg q]
theorem isD_b {b : Nat} (hb : b ≤ 255) : isD b = (!decide (I3 b < 48) && !decide (57 < I3 b)) := by
  unfold isD
  have e1 : (I3 b < 48) ↔ b < 48 := by rw [I3_lit, I3_lt (by omega) (by decide)]
  have e2 : ((57 : Int32) < I3 b) ↔ 57 < b := by rw [I3_lit, I3_lt (by decide) (by omega)]
  rw [← decide_not, ← decide_not, ← Bool.decide_and]
  exact decide_eq_decide.mpr (by rw [e1, e2]; omega)
theorem isL_b {b : Nat} (hb : b ≤ 255) : isL b = (!decide (I3 b < 97) && !decide (122 < I3 b)) := by
  unfold isL
  have e1 : (I3 b < 97) ↔ b < 97 := by rw [I3_lit, I3_lt (by omega) (by decide)]
  have e2 : ((122 : Int32) < I3 b) ↔ 122 < b := by rw [I3_lit, I3_lt (by decide) (by omega)]
  rw [← decide_not, ← decide_not, ← Bool.decide_and]
  exact decide_eq_decide.mpr (by rw [e1, e2]; omega)
theorem C_251 (x : Int32) (h : sm_H) : F_251 x h = some (b2 (!decide (x < 48) && !decide (57 < x)), h) := by
  show F_251_0 x h = _
  unfold F_251_0 F_251_16 F_251_17
  by_cases a : x < 48
  · rw [if_pos a, if_pos (by decide), decide_eq_true a]; rfl
  · rw [if_neg a, decide_eq_false a]
    by_cases b : 57 < x
    · rw [if_pos b, if_pos (by decide), decide_eq_true b]; rfl
    · rw [if_neg b, if_pos (by decide), decide_eq_false b]; rfl
theorem C_252 (x : Int32) (h : sm_H) : F_252 x h = some (b2 (!decide (x < 97) && !decide (122 < x)), h) := by
  show F_252_0 x h = _
  unfold F_252_0 F_252_16 F_252_17
  by_cases a : x < 97
  · rw [if_pos a, if_pos (by decide), decide_eq_true a]; rfl
  · rw [if_neg a, decide_eq_false a]
    by_cases b : 122 < x
    · rw [if_pos b, if_pos (by decide), decide_eq_true b]; rfl
    · rw [if_neg b, if_pos (by decide), decide_eq_false b]; rfl
theorem C_251b {b : Nat} (hb : b ≤ 255) (h : sm_H) : F_251 (I3 b) h = some (b2 (isD b), h) := by rw [C_251, isD_b hb]
theorem C_252b {b : Nat} (hb : b ≤ 255) (h : sm_H) : F_252 (I3 b) h = some (b2 (isL b), h) := by rw [C_252, isL_b hb]
theorem C_name (t : TXC n bt h) {f : Nat} (ef : h.1 52 3 = I3 f) (fn : f ≤ n) : ∃ h1, F_255 h = some (if men n bt f - f ≤ 8 then 4 else 6, h1) ∧ h1.1 52 3 = I3 (men n bt f) ∧ h1.2.1 52 10 = foldN bt f (men n bt f - f) ∧ h1.1 52 6 = 2 ∧ h1.1 52 5 = h.1 52 5 ∧ agr S52 h h1 := by
  have n3 := t.2.1
  have LP : ∀ r i u fu, n ≤ i + r → f ≤ i → i ≤ n → r < fu → u.1 52 3 = I3 i → u.2.1 52 10 = foldN bt f (i - f) → u.1 52 5 = h.1 52 5 → agr S52 h u → ∃ h1, lp F_255_7B fu (I3 (i - f), u) = some (if far (fun j => isL (bt j) || isD (bt j)) n r i - f ≤ 8 then 4 else 6, h1) ∧ h1.1 52 3 = I3 (far (fun j => isL (bt j) || isD (bt j)) n r i) ∧ h1.2.1 52 10 = foldN bt f (far (fun j => isL (bt j) || isD (bt j)) n r i - f) ∧ h1.1 52 6 = 2 ∧ h1.1 52 5 = h.1 52 5 ∧ agr S52 h h1 := by
    intro r
    induction r with
    | zero =>
      intro i u fu h1 h2 h3 hf eu e10 e5 au
      refine ⟨sm_wI u 52 6 2, lp_e (by omega) ?_, eu, e10, rfl, e5, agr_wI au ⟨rfl, by omega⟩⟩
      unfold F_255_7B F_255_112 F_255_129 far
      simp only []
      rw [(TXC_52 t au).1, eu, if_pos (by rw [I3_le (by omega) (by omega)]; omega)]; simp only [obs]
      by_cases q : i - f ≤ 8
      · rw [if_pos (by rw [I3_lit, I3_le (by omega) (by decide)]; exact q), if_pos q]; rfl
      · rw [if_neg (by rw [I3_lit, I3_le (by omega) (by decide)]; exact q), if_neg q]; rfl
    | succ r ih =>
      intro i u fu h1 h2 h3 hf eu e10 e5 au
      have tu := TXC_52 t au
      unfold far
      by_cases q : i < n ∧ (isL (bt i) || isD (bt i)) = true
      · have b5 := (t.2.2 i q.1).2
        have go : F_255_7B (I3 (i - f), u) = some (.inl (I3 (i + 1 - f), sm_wI (sm_wJ u 52 10 (foldN bt f (i + 1 - f))) 52 3 (I3 (i + 1)))) := by
          have s74 : F_255_74 (I3 (i - f)) u = some (.inl (I3 (i + 1 - f), sm_wI (sm_wJ u 52 10 (foldN bt f (i + 1 - f))) 52 3 (I3 (i + 1)))) := by
            unfold F_255_74
            rw [eu, ld53 tu q.1]; simp only [obs]
            rw [e10, show (sm_wJ u 52 10 (foldN bt f (i - f) <<< (Int32.toInt64 8 &&& 63) ||| Int32.toInt64 (I3 (bt i)))).1 52 3 = u.1 52 3 from rfl, eu, show I3 i + 1 = I3 (i + 1) from I3_add i 1, show I3 (i - f) + 1 = I3 (i + 1 - f) by rw [show i + 1 - f = i - f + 1 by omega]; exact I3_add _ 1, show foldN bt f (i + 1 - f) = foldN bt f (i - f) <<< (Int32.toInt64 8 &&& 63) ||| Int32.toInt64 (I3 (bt i)) by rw [show i + 1 - f = i - f + 1 by omega, foldN_s, show f + (i - f) = i by omega]]
          unfold F_255_7B F_255_46
          simp only []
          rw [tu.1, eu, if_neg (by rw [I3_le (by omega) (by omega)]; omega), ld53 tu q.1]; simp only [obs]
          have ll := isL_b b5
          have dd := isD_b b5
          by_cases w : isL (bt i) = true
          · rw [w] at ll
            have : ¬ I3 (bt i) < 97 ∧ ¬ (122 : Int32) < I3 (bt i) := by
              have z := ll.symm
              rw [Bool.and_eq_true, Bool.not_eq_true', Bool.not_eq_true', decide_eq_false_iff_not, decide_eq_false_iff_not] at z; exact z
            rw [if_neg this.1, if_pos (Int32.not_lt.mp this.2), s74]
          · have wd : isD (bt i) = true := by
              cases z : isL (bt i) with
              | true => exact absurd z w
              | false => have := q.2; rw [z, Bool.false_or] at this; exact this
            rw [wd] at dd
            have : ¬ I3 (bt i) < 48 ∧ ¬ (57 : Int32) < I3 (bt i) := by
              have z := dd.symm
              rw [Bool.and_eq_true, Bool.not_eq_true', Bool.not_eq_true', decide_eq_false_iff_not, decide_eq_false_iff_not] at z; exact z
            rw [if_neg this.1, if_neg this.2, s74, ite_self, ite_self]
        rw [if_pos q, lp_s (by omega) go]
        exact ih (i + 1) _ (fu - 1) (by omega) (by omega) (by omega) (by omega) rfl rfl e5 (agr_wI (agr_wJ au ⟨rfl, by omega⟩) ⟨rfl, by omega⟩)
      · rw [if_neg q]
        have s112 : F_255_112 (I3 (i - f)) u = some (if i - f ≤ 8 then 4 else 6, sm_wI u 52 6 2) := by
          unfold F_255_112 F_255_129
          simp only [obs]
          by_cases w : i - f ≤ 8
          · rw [if_pos (by rw [I3_lit, I3_le (by omega) (by decide)]; exact w), if_pos w]
          · rw [if_neg (by rw [I3_lit, I3_le (by omega) (by decide)]; exact w), if_neg w]
        refine ⟨sm_wI u 52 6 2, lp_e (by omega) ?_, eu, e10, rfl, e5, agr_wI au ⟨rfl, by omega⟩⟩
        unfold F_255_7B F_255_46
        simp only []
        by_cases w : n ≤ i
        · rw [tu.1, eu, if_pos (by rw [I3_le (by omega) (by omega)]; omega), s112]; rfl
        · have b5 := (t.2.2 i (by omega)).2
          have nL : isL (bt i) = false := by
            cases z : isL (bt i) with
            | false => rfl
            | true => exact absurd ⟨by omega, by rw [z]; rfl⟩ q
          have nD : isD (bt i) = false := by
            cases z : isD (bt i) with
            | false => rfl
            | true => exact absurd ⟨by omega, by rw [z, Bool.or_true]⟩ q
          have l1 : I3 (bt i) < 97 ∨ (122 : Int32) < I3 (bt i) := by
            unfold isL at nL
            have := of_decide_eq_false nL
            rcases (show bt i < 97 ∨ 122 < bt i by omega) with z | z
            · exact Or.inl (by rw [I3_lit, I3_lt (by omega) (by decide)]; exact z)
            · exact Or.inr (by rw [I3_lit, I3_lt (by decide) (by omega)]; exact z)
          have d1 : I3 (bt i) < 48 ∨ (57 : Int32) < I3 (bt i) := by
            unfold isD at nD
            have := of_decide_eq_false nD
            rcases (show bt i < 48 ∨ 57 < bt i by omega) with z | z
            · exact Or.inl (by rw [I3_lit, I3_lt (by omega) (by decide)]; exact z)
            · exact Or.inr (by rw [I3_lit, I3_lt (by decide) (by omega)]; exact z)
          rw [tu.1, eu, if_neg (by rw [I3_le (by omega) (by omega)]; omega), ld53 tu (by omega)]; simp only [obs]
          rw [s112]
          have in46 : (if I3 (bt i) < 48 then Option.map (fun r => Sum.inr r) (some ((if i - f ≤ 8 then (4 : Int32) else 6), sm_wI u 52 6 2)) else if 57 < I3 (bt i) then Option.map (fun r => Sum.inr r) (some ((if i - f ≤ 8 then (4 : Int32) else 6), sm_wI u 52 6 2)) else F_255_74 (I3 (i - f)) u) = some (.inr (if i - f ≤ 8 then (4 : Int32) else 6, sm_wI u 52 6 2)) := by
            by_cases z : I3 (bt i) < 48
            · rw [if_pos z]; rfl
            · rw [if_neg z, if_pos (d1.resolve_left z)]; rfl
          by_cases z : I3 (bt i) < 97
          · rw [if_pos z]; exact in46
          · rw [if_neg z, if_neg (Int32.not_le.mpr (l1.resolve_left z))]; exact in46
  obtain ⟨h1, a1, a2, a3, a4, a5, a6⟩ := LP n f (sm_wJ h 52 10 0) 1000000 (by omega) (Nat.le_refl _) fn (by omega) ef (by rw [Nat.sub_self]; rfl) rfl (agr_wJ agr_rfl ⟨rfl, by omega⟩)
  rw [Nat.sub_self] at a1
  exact ⟨h1, a1, a2, a3, a4, a5, a6⟩
theorem d48 {i : Nat} (b5 : bt i ≤ 255) (d : isD (bt i) = true) : ¬ I3 (bt i) < 48 ∧ ¬ (57 : Int32) < I3 (bt i) := by
  unfold isD at d
  have := of_decide_eq_true d
  exact ⟨by rw [I3_lit, I3_lt (by omega) (by decide)]; omega, by rw [I3_lit, I3_lt (by decide) (by omega)]; omega⟩
theorem n48 {i : Nat} (b5 : bt i ≤ 255) (d : isD (bt i) = false) : I3 (bt i) < 48 ∨ (57 : Int32) < I3 (bt i) := by
  unfold isD at d
  have := of_decide_eq_false d
  rcases (show bt i < 48 ∨ 57 < bt i by omega) with z | z
  · exact Or.inl (by rw [I3_lit, I3_lt (by omega) (by decide)]; exact z)
  · exact Or.inr (by rw [I3_lit, I3_lt (by decide) (by omega)]; exact z)
theorem oKm {σ ρ : Type} {body : σ → Option (σ ⊕ ρ)} {fu : Nat} {x : Option ρ} : oK body fu (x.map fun r => .inr r) = x := by cases x <;> rfl
theorem C_digits (t : TXC n bt h) {s : Nat} (neg : Int32) : ∀ r i u fu, n ≤ i + r → s ≤ i → i ≤ n → r < fu → u.1 52 3 = I3 i → u.1 52 5 = h.1 52 5 → agr S52 h u → ∃ h1, lp F_256_18B fu (neg, b2 (numV bt s (i - s)).1, (numV bt s (i - s)).2, u) = F_256_120 neg (b2 (numV bt s (far (fun j => isD (bt j)) n r i - s)).1) (numV bt s (far (fun j => isD (bt j)) n r i - s)).2 h1 ∧ h1.1 52 3 = I3 (far (fun j => isD (bt j)) n r i) ∧ h1.1 52 5 = h.1 52 5 ∧ agr S52 h h1 := by
  have n3 := t.2.1
  intro r
  induction r with
  | zero =>
    intro i u fu h1 h2 h3 hf eu e5 au
    refine ⟨u, ?_, eu, e5, au⟩
    rw [lp_oK (by omega)]
    unfold F_256_18B far
    simp only []
    rw [(TXC_52 t au).1, eu, if_pos (by rw [I3_le (by omega) (by omega)]; omega), oKm]
  | succ r ih =>
    intro i u fu h1 h2 h3 hf eu e5 au
    have tu := TXC_52 t au
    unfold far
    by_cases q : i < n ∧ isD (bt i) = true
    · have b5 := (t.2.2 i q.1).2
      have dd := d48 b5 q.2
      have go : F_256_18B (neg, b2 (numV bt s (i - s)).1, (numV bt s (i - s)).2, u) = some (.inl (neg, b2 (numV bt s (i + 1 - s)).1, (numV bt s (i + 1 - s)).2, sm_wI u 52 3 (I3 (i + 1)))) := by
        have s96 : ∀ z, F_256_96 neg (numV bt s (i - s)).2 (I3 (bt i) - 48) z u = some (.inl (neg, z, (numV bt s (i + 1 - s)).2, sm_wI u 52 3 (I3 (i + 1)))) := fun z => by
          unfold F_256_96
          simp only [obs]
          rw [eu, show I3 i + 1 = I3 (i + 1) from I3_add i 1, show i + 1 - s = i - s + 1 by omega, numV_s, show s + (i - s) = i by omega]
        have e1 : (numV bt s (i + 1 - s)).1 = ((numV bt s (i - s)).1 && !decide ((numV bt s (i - s)).2.toInt < (((-9223372036854775808) + Int32.toInt64 (I3 (bt i) - 48)) / 10 : Int64).toInt)) := by rw [show i + 1 - s = i - s + 1 by omega, numV_s, show s + (i - s) = i by omega]
        unfold F_256_18B F_256_95
        simp only []
        rw [tu.1, eu, if_neg (by rw [I3_le (by omega) (by omega)]; omega), ld53 tu q.1]; simp only [obs]
        rw [if_neg dd.1, if_neg dd.2, s96, s96, e1, if_neg (show ¬ (10 : Int64) = 0 by decide)]
        cases c : (numV bt s (i - s)).1 with
        | false => rw [if_pos (by decide)]; rfl
        | true =>
          rw [if_neg (by decide)]
          by_cases w : (numV bt s (i - s)).2.toInt < (((-9223372036854775808) + Int32.toInt64 (I3 (bt i) - 48)) / 10 : Int64).toInt
          · rw [if_pos (cmp_lt.mpr w), decide_eq_true w]; rfl
          · rw [if_neg (fun z => w (cmp_lt.mp z)), decide_eq_false w]; rfl
      rw [if_pos q, lp_s (by omega) go]
      exact ih (i + 1) _ (fu - 1) (by omega) (by omega) (by omega) (by omega) rfl e5 (agr_wI au ⟨rfl, by omega⟩)
    · rw [if_neg q]
      refine ⟨u, ?_, eu, e5, au⟩
      rw [lp_oK (by omega)]
      unfold F_256_18B
      simp only []
      by_cases w : n ≤ i
      · rw [tu.1, eu, if_pos (by rw [I3_le (by omega) (by omega)]; omega), oKm]
      · have b5 := (t.2.2 i (by omega)).2
        have nD : isD (bt i) = false := by
          cases z : isD (bt i) with
          | false => rfl
          | true => exact absurd ⟨by omega, z⟩ q
        rw [tu.1, eu, if_neg (by rw [I3_le (by omega) (by omega)]; omega), ld53 tu (by omega)]; simp only [obs]
        rcases n48 b5 nD with z | z
        · rw [if_pos z, oKm]
        · by_cases z2 : I3 (bt i) < 48
          · rw [if_pos z2, oKm]
          · rw [if_neg z2, if_pos z, oKm]
theorem isl_c {f : Nat} : isl n bt f = true ↔ nen n bt f < n ∧ bt (nen n bt f) = 108 := decide_eq_true_iff
theorem C_number (t : TXC n bt h) {f : Nat} (ef : h.1 52 3 = I3 f) (fn : f < n) (hs : bt f = 45 → f + 1 < n) : ∃ h1, F_256 (if bt f = 45 then 1 else 0) h = some (if nok n bt f = true ∧ (isl n bt f = true ∨ nfi n bt f = true) then 3 else 6, h1) ∧ h1.1 52 3 = I3 (if isl n bt f = true then nen n bt f + 1 else nen n bt f) ∧ h1.2.1 52 8 = nva n bt f ∧ h1.1 52 9 = (if isl n bt f = true then 6 else 5) ∧ h1.1 52 6 = 3 ∧ h1.1 52 5 = h.1 52 5 ∧ agr S52 h h1 := by
  have n3 := t.2.1
  have st : ∃ u, F_256 (if bt f = 45 then 1 else 0) h = F_256_18 (if bt f = 45 then 1 else 0) 1 0 u ∧ u.1 52 3 = I3 (nst bt f) ∧ u.1 52 5 = h.1 52 5 ∧ agr S52 h u := by
    show ∃ u, F_256_0 (if bt f = 45 then 1 else 0) h = _ ∧ _
    unfold F_256_0 nst
    by_cases q : bt f = 45
    · rw [if_pos q, if_pos q, if_neg (by decide), ef, show I3 f + 1 = I3 (f + 1) from I3_add f 1]; simp only [obs]
      exact ⟨_, rfl, rfl, rfl, agr_wI agr_rfl ⟨rfl, by omega⟩⟩
    · rw [if_neg q, if_neg q, if_pos rfl]
      exact ⟨h, rfl, ef, rfl, agr_rfl⟩
  obtain ⟨u, u1, u2, u3, u4⟩ := st
  have sn : nst bt f ≤ n := by
    unfold nst
    by_cases q : bt f = 45
    · rw [if_pos q]; have := hs q; omega
    · rw [if_neg q]; omega
  obtain ⟨v, v1, v2, v3, v4⟩ := C_digits t (s := nst bt f) (if bt f = 45 then 1 else 0) n (nst bt f) u 1000000 (by omega) (Nat.le_refl _) sn (by omega) u2 u3 u4
  rw [Nat.sub_self] at v1
  have F0 : F_256 (if bt f = 45 then 1 else 0) h = F_256_120 (if bt f = 45 then 1 else 0) (b2 (numV bt (nst bt f) (nen n bt f - nst bt f)).1) (numV bt (nst bt f) (nen n bt f - nst bt f)).2 v := u1.trans v1
  have en : nen n bt f ≤ n := far_le _ _ _ _ sn
  have v2' : v.1 52 3 = I3 (nen n bt f) := v2
  have F1 : F_256 (if bt f = 45 then 1 else 0) h = F_256_153 (b2 (nok n bt f)) (nva n bt f) v := by
    rw [F0]
    unfold F_256_120 F_256_140 F_256_136 F_256_141 nok nva
    by_cases q : bt f = 45
    · rw [if_pos q, if_pos q, decide_eq_false (not_not_intro q), Bool.false_and, Bool.not_false, Bool.and_true]
      cases c : (numV bt (nst bt f) (nen n bt f - nst bt f)).1 with
      | false => rw [if_pos (by decide), if_neg (by decide)]; rfl
      | true => rw [if_neg (by decide), if_neg (by decide), if_neg (by decide)]; rfl
    · rw [if_neg q, if_neg q, decide_eq_true q, Bool.true_and]
      cases c : (numV bt (nst bt f) (nen n bt f - nst bt f)).1 with
      | false => rw [if_pos (by decide), if_pos rfl]; rfl
      | true =>
        rw [if_neg (by decide), if_pos rfl, if_pos rfl, if_pos rfl]
        by_cases w : (numV bt (nst bt f) (nen n bt f - nst bt f)).2 = -9223372036854775808
        · rw [if_pos (cmp_eq.mpr w), decide_eq_true w]; rfl
        · rw [if_neg (fun z => w (cmp_eq.mp z)), decide_eq_false w]; rfl
  have tv := TXC_52 t v4
  rw [F1]
  unfold F_256_153
  simp only [obs]
  rw [show (sm_wI (sm_wJ v 52 8 (nva n bt f)) 52 9 5).1 52 1 = v.1 52 1 from rfl, show (sm_wI (sm_wJ v 52 8 (nva n bt f)) 52 9 5).1 52 3 = v.1 52 3 from rfl, tv.1, v2']
  have aw : agr S52 h (sm_wI (sm_wJ v 52 8 (nva n bt f)) 52 9 5) := agr_wI (agr_wJ v4 ⟨rfl, by omega⟩) ⟨rfl, by omega⟩
  have no : isl n bt f = false → ∃ h1, F_256_205 (b2 (nok n bt f)) (sm_wI (sm_wJ v 52 8 (nva n bt f)) 52 9 5) = some (if nok n bt f = true ∧ (isl n bt f = true ∨ nfi n bt f = true) then 3 else 6, h1) ∧ h1.1 52 3 = I3 (nen n bt f) ∧ h1.2.1 52 8 = nva n bt f ∧ h1.1 52 9 = 5 ∧ h1.1 52 6 = 3 ∧ h1.1 52 5 = h.1 52 5 ∧ agr S52 h h1 := fun il => by
    refine ⟨sm_wI (sm_wI (sm_wJ v 52 8 (nva n bt f)) 52 9 5) 52 6 3, ?_, v2', rfl, rfl, rfl, v3, agr_wI aw ⟨rfl, by omega⟩⟩
    unfold F_256_205 F_256_227 F_256_228 F_256_229 F_256_244
    simp only [obs]
    rw [show (sm_wI (sm_wJ v 52 8 (nva n bt f)) 52 9 5).2.1 52 8 = nva n bt f from rfl, il]
    cases c : nok n bt f with
    | false => rw [if_pos (by decide), if_pos trivial, if_neg (by simp)]
    | true =>
      rw [if_neg (by decide)]
      unfold nfi
      by_cases w : nva n bt f = Int32.toInt64 (Int64.toInt32 (nva n bt f))
      · rw [if_pos (cmp_eq.mpr w), if_neg (by decide), if_pos ⟨rfl, Or.inr (decide_eq_true w)⟩]
      · rw [if_neg (fun z => w (cmp_eq.mp z)), if_pos trivial, if_neg (by rw [decide_eq_false w]; simp)]
  by_cases q : nen n bt f < n
  · have b5 := (t.2.2 _ q).2
    rw [if_neg (by rw [I3_le (by omega) (by omega)]; omega), show ldI (sm_wI (sm_wJ v 52 8 (nva n bt f)) 52 9 5) 53 3000 (I3 (nen n bt f)) = some (I3 (bt (nen n bt f))) from ld53 (TXC_52 t aw) q]; simp only [obs]
    by_cases w : bt (nen n bt f) = 108
    · have il : isl n bt f = true := isl_c.mpr ⟨q, w⟩
      rw [if_pos (show I3 (bt (nen n bt f)) = (108 : Int32) by rw [w]; rfl), il]
      refine ⟨sm_wI (sm_wI (sm_wI (sm_wI (sm_wJ v 52 8 (nva n bt f)) 52 9 5) 52 9 6) 52 3 (I3 (nen n bt f + 1))) 52 6 3, ?_, rfl, rfl, rfl, rfl, v3, agr_wI (agr_wI (agr_wI aw ⟨rfl, by omega⟩) ⟨rfl, by omega⟩) ⟨rfl, by omega⟩⟩
      rw [show (sm_wI (sm_wI (sm_wJ v 52 8 (nva n bt f)) 52 9 5) 52 9 6).1 52 3 = v.1 52 3 from rfl, v2', show I3 (nen n bt f) + 1 = I3 (nen n bt f + 1) from I3_add _ 1]
      unfold F_256_229 F_256_244
      simp only [obs]
      cases c : nok n bt f with
      | false => rw [if_pos (by decide), if_neg (by simp)]
      | true => rw [if_neg (by decide), if_pos ⟨rfl, Or.inl trivial⟩]
    · have il : isl n bt f = false := decide_eq_false (fun z => w z.2)
      rw [if_neg (show ¬ I3 (bt (nen n bt f)) = (108 : Int32) by rw [I3_lit, I3_inj (by omega) (by decide)]; exact w)]
      obtain ⟨h1, z1, z2, z3, z4, z5⟩ := no il
      exact ⟨h1, z1, by rw [il]; exact z2, z3, by rw [il]; exact z4, z5⟩
  · have il : isl n bt f = false := decide_eq_false (fun z => q z.1)
    rw [if_pos (by rw [I3_le (by omega) (by omega)]; omega)]
    obtain ⟨h1, z1, z2, z3, z4, z5⟩ := no il
    exact ⟨h1, z1, by rw [il]; exact z2, z3, by rw [il]; exact z4, z5⟩
theorem C_sign {b : Nat} (b5 : b ≤ 255) (h : sm_H) : F_254 (I3 b) h = match sgn b with
    | some o => some (5, sm_wI h 52 7 (I3 o))
    | none => some (6, sm_wI h 52 6 1) := by
  have e : (Int32.toUInt32 (I3 b) % 65536).toInt32 = I3 b := by
    have : ∀ b : Fin 256, (Int32.toUInt32 (I3 b) % 65536).toInt32 = I3 b := by decide +kernel
    exact this ⟨b, by omega⟩
  show F_254_0 (I3 b) h = _
  unfold F_254_0 F_254_20
  simp only [obs]
  rw [e, show sm_al G0 h 1000002 = some 10 from rfl]; simp only [obs]
  have k : ∀ x : Nat, x < 256 → (I3 b = I3 x ↔ b = x) := fun x hx => I3_inj (by omega) (by omega)
  unfold sgn
  by_cases q0 : b = 43
  · subst q0; rfl
  by_cases q1 : b = 45
  · subst q1; rfl
  by_cases q2 : b = 42
  · subst q2; rfl
  by_cases q3 : b = 47
  · subst q3; rfl
  by_cases q4 : b = 37
  · subst q4; rfl
  by_cases q5 : b = 38
  · subst q5; rfl
  by_cases q6 : b = 124
  · subst q6; rfl
  by_cases q7 : b = 94
  · subst q7; rfl
  by_cases q8 : b = 60
  · subst q8; rfl
  by_cases q9 : b = 61
  · subst q9; rfl
  have z : P_ix (I3 b) = -1 := by
    unfold P_ix
    rw [if_neg (show ¬ I3 b = (43 : Int32) from fun z => q0 ((k 43 (by decide)).mp z)), if_neg (show ¬ I3 b = (45 : Int32) from fun z => q1 ((k 45 (by decide)).mp z)), if_neg (show ¬ I3 b = (42 : Int32) from fun z => q2 ((k 42 (by decide)).mp z)), if_neg (show ¬ I3 b = (47 : Int32) from fun z => q3 ((k 47 (by decide)).mp z)), if_neg (show ¬ I3 b = (37 : Int32) from fun z => q4 ((k 37 (by decide)).mp z)), if_neg (show ¬ I3 b = (38 : Int32) from fun z => q5 ((k 38 (by decide)).mp z)), if_neg (show ¬ I3 b = (124 : Int32) from fun z => q6 ((k 124 (by decide)).mp z)), if_neg (show ¬ I3 b = (94 : Int32) from fun z => q7 ((k 94 (by decide)).mp z)), if_neg (show ¬ I3 b = (60 : Int32) from fun z => q8 ((k 60 (by decide)).mp z)), if_neg (show ¬ I3 b = (61 : Int32) from fun z => q9 ((k 61 (by decide)).mp z))]
  rw [z, if_neg q0, if_neg q1, if_neg q2, if_neg q3, if_neg q4, if_neg q5, if_neg q6, if_neg q7, if_neg q8, if_neg q9]; rfl
def LXC (n : Nat) (bt : Nat → Nat) (f : Nat) (h : sm_H) : Prop := h.1 52 5 = I3 f ∧ h.1 52 4 = I3 (wrd n bt f) ∧ (wrd n bt f = 6 → h.1 52 6 = I3 (wtr n bt f)) ∧ (wrd n bt f ≠ 6 → h.1 52 3 = I3 (wen n bt f)) ∧ (wrd n bt f = 3 → h.2.1 52 8 = nva n bt f ∧ h.1 52 9 = (if isl n bt f = true then 6 else 5)) ∧ (wrd n bt f = 4 → h.2.1 52 10 = foldN bt f (men n bt f - f)) ∧ (wrd n bt f = 5 → ∃ o, sgn (bt f) = some o ∧ h.1 52 7 = I3 o)
theorem C_step (t : TXC n bt h) {a : Nat} (ea : h.1 52 3 = I3 a) (an : a ≤ n) : ∃ h1, F_249 h = some (I3 (wrd n bt (sk n bt a)), h1) ∧ LXC n bt (sk n bt a) h1 ∧ agr S52 h h1 := by
  have n3 := t.2.1
  obtain ⟨h0, s1, s2, s3⟩ := C_skip t ea an
  have fn : sk n bt a ≤ n := far_le _ _ _ _ an
  generalize hf : sk n bt a = f at *
  have C0 : F_249 h = F_249_0 h := rfl
  unfold F_249_0 at C0
  rw [s1] at C0; simp only [obs] at C0
  have a5 : agr S52 h (sm_wI h0 52 5 (I3 f)) := agr_wI s3 ⟨rfl, by omega⟩
  rw [s2] at C0
  have e3 : (sm_wI h0 52 5 (I3 f)).1 52 3 = I3 f := s2
  have e5 : (sm_wI h0 52 5 (I3 f)).1 52 5 = I3 f := rfl
  generalize hu : sm_wI h0 52 5 (I3 f) = u at *
  have tu := TXC_52 t a5
  rw [e3, C_250 tu (by omega)] at C0; simp only [obs] at C0
  rw [C0]
  unfold gb wrd
  by_cases q : n ≤ f
  · rw [if_neg (show ¬ f < n by omega), if_pos rfl, if_pos q]
    refine ⟨sm_wI u 52 4 0, rfl, ⟨e5, ?_, ?_, ?_, ?_, ?_, ?_⟩, agr_wI a5 ⟨rfl, by omega⟩⟩
    all_goals unfold wrd
    all_goals rw [if_pos q]
    · rfl
    · intro z; cases z
    · intro _
      unfold wen
      rw [if_pos q]; exact e3
    · intro z; cases z
    · intro z; cases z
    · intro z; cases z
  have fl : f < n := by omega
  have b5 := (t.2.2 f fl).2
  have m1 : ¬ I3 (bt f) = (-1 : Int32) := I3_m1 (by omega)
  rw [if_pos fl, if_neg m1, if_neg q, C_251b b5]; simp only [obs]
  have LX : ∀ (w : Nat) (h1 : sm_H), wrd n bt f = w → h1.1 52 5 = I3 f → h1.1 52 4 = I3 w → (w = 6 → h1.1 52 6 = I3 (wtr n bt f)) → (w ≠ 6 → h1.1 52 3 = I3 (wen n bt f)) → (w = 3 → h1.2.1 52 8 = nva n bt f ∧ h1.1 52 9 = (if isl n bt f = true then 6 else 5)) → (w = 4 → h1.2.1 52 10 = foldN bt f (men n bt f - f)) → (w = 5 → ∃ o, sgn (bt f) = some o ∧ h1.1 52 7 = I3 o) → LXC n bt f h1 := fun w h1 e a b c d e' f' g' => by
    unfold LXC
    rw [e]
    exact ⟨a, b, c, d, e', f', g'⟩
  have NUM : isN n bt f = true → ∃ h1, F_249_65 (I3 (bt f)) u = some (I3 (if bt f = 40 then 1 else if bt f = 41 then 2 else if isN n bt f = true then (if nok n bt f = true ∧ (isl n bt f = true ∨ nfi n bt f = true) then 3 else 6) else if isL (bt f) = true then (if men n bt f - f ≤ 8 then 4 else 6) else if sgn (bt f) = none then 6 else 5), h1) ∧ LXC n bt f h1 ∧ agr S52 h h1 := fun hN => by
    have hc : bt f = 45 ∧ f + 1 < n ∨ isD (bt f) = true := by
      unfold isN at hN
      rw [Bool.or_eq_true, Bool.and_eq_true, Bool.and_eq_true, decide_eq_true_iff, decide_eq_true_iff] at hN
      rcases hN with z | z
      · exact Or.inr z
      · exact Or.inl ⟨z.1, z.2.1⟩
    have n40 : bt f ≠ 40 ∧ bt f ≠ 41 := by
      rcases hc with z | z
      · omega
      · unfold isD at z; have := of_decide_eq_true z; omega
    rw [if_neg n40.1, if_neg n40.2, if_pos hN]
    have hs : bt f = 45 → f + 1 < n := fun z => by
      rcases hc with w | w
      · exact w.2
      · unfold isD at w; have := of_decide_eq_true w; omega
    obtain ⟨v, v1, v2, v3, v4, v5, v6, v7⟩ := C_number tu e3 fl hs
    have ew : wrd n bt f = (if nok n bt f = true ∧ (isl n bt f = true ∨ nfi n bt f = true) then 3 else 6) := by
      unfold wrd; rw [if_neg q, if_neg n40.1, if_neg n40.2, if_pos hN]
    have F0 : F_249_65 (I3 (bt f)) u = (F_256 (if bt f = 45 then 1 else 0) u).bind fun q7 => some (q7.1, sm_wI q7.2 52 4 q7.1) := by
      unfold F_249_65 F_249_78 F_249_145
      by_cases w : bt f = 45
      · rw [if_pos (show I3 (bt f) = (45 : Int32) by rw [w]; rfl), if_pos w]; rfl
      · rw [if_neg (show ¬ I3 (bt f) = (45 : Int32) by rw [I3_lit, I3_inj (by omega) (by decide)]; exact w), if_neg w]; rfl
    rw [F0, v1]; simp only [obs]
    have i3 : (if nok n bt f = true ∧ (isl n bt f = true ∨ nfi n bt f = true) then (3 : Int32) else 6) = I3 (if nok n bt f = true ∧ (isl n bt f = true ∨ nfi n bt f = true) then 3 else 6) := by split <;> rfl
    rw [i3]
    refine ⟨_, rfl, LX _ _ ew (v6.trans e5) rfl (fun _ => ?_) (fun _ => ?_) (fun _ => ⟨v3, v4⟩) (fun z => ?_) (fun z => ?_), agr_wI (agr_trans a5 v7) ⟨rfl, by omega⟩⟩
    · unfold wtr; rw [if_pos hN]; exact v5
    · unfold wen; rw [if_neg q, if_pos hN]; exact v2
    · split at z <;> cases z
    · split at z <;> cases z
  have RST : isN n bt f = false → ∃ h1, F_249_87 (I3 (bt f)) u = some (I3 (if bt f = 40 then 1 else if bt f = 41 then 2 else if isN n bt f = true then (if nok n bt f = true ∧ (isl n bt f = true ∨ nfi n bt f = true) then 3 else 6) else if isL (bt f) = true then (if men n bt f - f ≤ 8 then 4 else 6) else if sgn (bt f) = none then 6 else 5), h1) ∧ LXC n bt f h1 ∧ agr S52 h h1 := fun hN => by
    have nN : ¬ isN n bt f = true := by rw [hN]; decide
    unfold F_249_87
    rw [C_252b b5]; simp only [obs]
    cases l : isL (bt f) with
    | true =>
      have n40 : bt f ≠ 40 ∧ bt f ≠ 41 := by unfold isL at l; have := of_decide_eq_true l; omega
      have ew : wrd n bt f = (if men n bt f - f ≤ 8 then 4 else 6) := by
        unfold wrd; rw [if_neg q, if_neg n40.1, if_neg n40.2, if_neg nN, if_pos l]
      rw [if_neg (by decide), if_neg n40.1, if_neg n40.2, if_neg nN, if_pos rfl]
      obtain ⟨v, v1, v2, v3, v4, v5, v6⟩ := C_name tu e3 fn
      rw [v1]; simp only [obs]
      have i3 : (if men n bt f - f ≤ 8 then (4 : Int32) else 6) = I3 (if men n bt f - f ≤ 8 then 4 else 6) := by split <;> rfl
      rw [i3]
      refine ⟨_, rfl, LX _ _ ew (v5.trans e5) rfl (fun _ => ?_) (fun _ => ?_) (fun z => ?_) (fun _ => v3) (fun z => ?_), agr_wI (agr_trans a5 v6) ⟨rfl, by omega⟩⟩
      · unfold wtr; rw [if_neg nN, if_pos l]; exact v4
      · unfold wen; rw [if_neg q, if_neg nN, if_pos l]; exact v2
      · split at z <;> cases z
      · split at z <;> cases z
    | false =>
      have nl : ¬ isL (bt f) = true := by rw [l]; decide
      have we : wen n bt f = f + 1 := by unfold wen; rw [if_neg q, if_neg nN, if_neg nl]
      have wt : wtr n bt f = 1 := by unfold wtr; rw [if_neg nN, if_neg nl]
      rw [if_pos (by decide), e3, show I3 f + 1 = I3 (f + 1) from I3_add f 1]
      unfold F_249_142 F_249_145
      by_cases w0 : bt f = 40
      · rw [if_pos (show I3 (bt f) = (40 : Int32) by rw [w0]; rfl), if_pos w0]
        refine ⟨_, rfl, LX 1 _ (by unfold wrd; rw [if_neg q, if_pos w0]) e5 rfl (fun z => by cases z) (fun _ => by rw [we]; rfl) (fun z => by cases z) (fun z => by cases z) (fun z => by cases z), agr_wI (agr_wI a5 ⟨rfl, by omega⟩) ⟨rfl, by omega⟩⟩
      rw [if_neg (show ¬ I3 (bt f) = (40 : Int32) by rw [I3_lit, I3_inj (by omega) (by decide)]; exact w0), if_neg w0]
      by_cases w1 : bt f = 41
      · rw [if_pos (show I3 (bt f) = (41 : Int32) by rw [w1]; rfl), if_pos w1]
        refine ⟨_, rfl, LX 2 _ (by unfold wrd; rw [if_neg q, if_neg w0, if_pos w1]) e5 rfl (fun z => by cases z) (fun _ => by rw [we]; rfl) (fun z => by cases z) (fun z => by cases z) (fun z => by cases z), agr_wI (agr_wI a5 ⟨rfl, by omega⟩) ⟨rfl, by omega⟩⟩
      rw [if_neg (show ¬ I3 (bt f) = (41 : Int32) by rw [I3_lit, I3_inj (by omega) (by decide)]; exact w1), if_neg w1, if_neg nN, if_neg (show ¬ false = true by decide), C_sign b5]
      cases s : sgn (bt f) with
      | none =>
        simp only [obs]
        rw [if_pos trivial]
        refine ⟨_, rfl, LX 6 _ (by unfold wrd; rw [if_neg q, if_neg w0, if_neg w1, if_neg nN, if_neg nl, if_pos s]) e5 rfl (fun _ => by rw [wt]; rfl) (fun z => absurd rfl z) (fun z => by cases z) (fun z => by cases z) (fun z => by cases z), agr_wI (agr_wI (agr_wI a5 ⟨rfl, by omega⟩) ⟨rfl, by omega⟩) ⟨rfl, by omega⟩⟩
      | some o =>
        simp only [obs]
        rw [if_neg (by simp)]
        refine ⟨_, rfl, LX 5 _ (by unfold wrd; rw [if_neg q, if_neg w0, if_neg w1, if_neg nN, if_neg nl, if_neg (by rw [s]; simp)]) e5 rfl (fun z => by cases z) (fun _ => by rw [we]; rfl) (fun z => by cases z) (fun z => by cases z) (fun _ => ⟨o, s, rfl⟩), agr_wI (agr_wI (agr_wI a5 ⟨rfl, by omega⟩) ⟨rfl, by omega⟩) ⟨rfl, by omega⟩⟩
  cases d : isD (bt f) with
  | true =>
    rw [if_neg (by decide)]
    exact NUM (by unfold isN; rw [d]; rfl)
  | false =>
    rw [if_pos (by decide)]
    by_cases w : bt f = 45
    · rw [if_pos (show I3 (bt f) = (45 : Int32) by rw [w]; rfl), e3, show I3 f + 1 = I3 (f + 1) from I3_add f 1, C_250 tu (by omega)]; simp only [obs]
      unfold gb
      by_cases f1 : f + 1 < n
      · rw [if_pos f1, C_251b (t.2.2 _ f1).2]; simp only [obs]
        have eN : isN n bt f = isD (bt (f + 1)) := by unfold isN; rw [d, decide_eq_true w, decide_eq_true f1]; rfl
        cases d1 : isD (bt (f + 1)) with
        | true => rw [if_neg (by decide)]; exact NUM (eN.trans d1)
        | false => rw [if_pos (by decide)]; exact RST (eN.trans d1)
      · have eN : isN n bt f = false := by unfold isN; rw [d, decide_eq_false f1, Bool.false_and, Bool.and_false]; rfl
        rw [if_neg f1, show F_251 (-1) u = some (0, u) from rfl]; simp only [obs]
        rw [if_pos trivial]; exact RST eN
    · rw [if_neg (show ¬ I3 (bt f) = (45 : Int32) by rw [I3_lit, I3_inj (by omega) (by decide)]; exact w)]
      exact RST (by unfold isN; rw [d, decide_eq_false w]; rfl)
end
