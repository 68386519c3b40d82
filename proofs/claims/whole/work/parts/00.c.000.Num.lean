def I3 (n : Nat) : Int32 := Int32.ofNat n
def I6 (n : Nat) : Int64 := Int64.ofNat n
theorem I3_toInt {n : Nat} (h : n < 2147483648) : (I3 n).toInt = (n : Int) := Int32.toInt_ofNat_of_lt (by omega)
theorem I3_clamp {n : Nat} (h : n < 2147483648) : (I3 n).toNatClampNeg = n := Int32.toNatClampNeg_ofNat_of_lt (by omega)
theorem I3_add (a b : Nat) : I3 a + I3 b = I3 (a + b) := (Int32.ofNat_add a b).symm
theorem I3_mul (a b : Nat) : I3 a * I3 b = I3 (a * b) := (Int32.ofNat_mul a b).symm
theorem I3_sub {a b : Nat} (h : b ≤ a) : I3 a - I3 b = I3 (a - b) := (Int32.ofNat_sub a b h).symm
theorem I3_lit (k : Nat) : (OfNat.ofNat k : Int32) = I3 (OfNat.ofNat k) := rfl
theorem I3_inj {a b : Nat} (ha : a < 2147483648) (hb : b < 2147483648) : I3 a = I3 b ↔ a = b := by
  rw [← Int32.toInt_inj, I3_toInt ha, I3_toInt hb]; omega
theorem I3_lt {a b : Nat} (ha : a < 2147483648) (hb : b < 2147483648) : I3 a < I3 b ↔ a < b := by
  rw [Int32.lt_iff_toInt_lt, I3_toInt ha, I3_toInt hb]; omega
theorem I3_le {a b : Nat} (ha : a < 2147483648) (hb : b < 2147483648) : I3 a ≤ I3 b ↔ a ≤ b := by
  rw [Int32.le_iff_toInt_le, I3_toInt ha, I3_toInt hb]; omega
theorem I3_nn {a : Nat} (ha : a < 2147483648) : ¬ I3 a < 0 := by
  rw [Int32.lt_iff_toInt_lt, I3_toInt ha]; show ¬ ((a : Int) < 0); omega
theorem b32 (x : Int32) : -2147483648 ≤ x.toInt ∧ x.toInt < 2147483648 := ⟨x.le_toInt, x.toInt_lt⟩
theorem b64 (x : Int64) : -9223372036854775808 ≤ x.toInt ∧ x.toInt < 9223372036854775808 := ⟨x.le_toInt, x.toInt_lt⟩
theorem I3_of {x : Int32} (h : ¬ x < 0) : ∃ n, n < 2147483648 ∧ x = I3 n := by
  rw [Int32.lt_iff_toInt_lt] at h
  have hb := b32 x
  have h0 : (0 : Int32).toInt = 0 := rfl
  rw [h0] at h
  refine ⟨x.toInt.toNat, by omega, ?_⟩
  rw [← Int32.toInt_inj, I3_toInt (by omega)]; omega
theorem I3_cases (x : Int32) : (∃ n, n < 2147483648 ∧ x = I3 n) ∨ x < 0 := by
  rcases Classical.em (x < 0) with h | h
  · exact Or.inr h
  · exact Or.inl (I3_of h)
theorem I3_m1 {a : Nat} (ha : a < 2147483648) : ¬ I3 a = -1 := by
  rw [← Int32.toInt_inj, I3_toInt ha]; show ¬ (a : Int) = -1; omega
theorem neg_lt_I3 {x : Int32} (h : x < 0) {a : Nat} (ha : a < 2147483648) : x < I3 a := by
  rw [Int32.lt_iff_toInt_lt] at h ⊢; rw [I3_toInt ha]; have : (0 : Int32).toInt = 0 := rfl; omega
theorem neg_ne_I3 {x : Int32} (h : x < 0) {a : Nat} (ha : a < 2147483648) : ¬ x = I3 a := by
  rintro rfl; exact I3_nn ha h
theorem sm_in_I3 {k n : Nat} (hk : k < n) (hn : n ≤ 2147483648) : sm_in (I3 k) n := by
  intro z
  rcases z with z | z
  · exact I3_nn (by omega) z
  · rw [I3_clamp (by omega)] at z; omega
theorem ldI_I {h : sm_H} {a n k : Nat} (hk : k < n) (hn : n ≤ 2147483648) : ldI h a n (I3 k) = some (h.1 a k) := by
  unfold ldI; rw [if_pos (sm_in_I3 hk hn), I3_clamp (by omega)]
theorem ldJ_I {h : sm_H} {a n k : Nat} (hk : k < n) (hn : n ≤ 2147483648) : ldJ h a n (I3 k) = some (h.2.1 a k) := by
  unfold ldJ; rw [if_pos (sm_in_I3 hk hn), I3_clamp (by omega)]
theorem ldZ_I {h : sm_H} {a n k : Nat} (hk : k < n) (hn : n ≤ 2147483648) : ldZ h a n (I3 k) = some (h.1 a k) := by
  unfold ldZ; rw [if_pos (sm_in_I3 hk hn), I3_clamp (by omega)]
theorem stI_I {h : sm_H} {a n k : Nat} {x : Int32} (hk : k < n) (hn : n ≤ 2147483648) : stI h a n (I3 k) x = some (sm_wI h a k x) := by
  unfold stI; rw [if_pos (sm_in_I3 hk hn), I3_clamp (by omega)]
theorem stJ_I {h : sm_H} {a n k : Nat} {x : Int64} (hk : k < n) (hn : n ≤ 2147483648) : stJ h a n (I3 k) x = some (sm_wJ h a k x) := by
  unfold stJ; rw [if_pos (sm_in_I3 hk hn), I3_clamp (by omega)]
def b2 (b : Bool) : Int32 := bif b then 1 else 0
theorem b2_ok (b : Bool) : b2 b = 0 ∨ b2 b = 1 := by cases b; exact Or.inl rfl; exact Or.inr rfl
theorem b2_0 (b : Bool) : (b2 b = 0) = (b = false) := by cases b <;> decide
theorem b2_1 (b : Bool) : (b2 b = 1) = (b = true) := by cases b <;> decide
theorem b2_inj (a b : Bool) : (b2 a = b2 b) = (a = b) := by cases a <;> cases b <;> decide
theorem nar_b2 (b : Bool) : vp_nar .boolean (b2 b) = b2 b := by cases b <;> decide
theorem stZ_I {h : sm_H} {a n k : Nat} {b : Bool} (hk : k < n) (hn : n ≤ 2147483648) : stZ h a n (I3 k) (b2 b) = some (sm_wI h a k (b2 b)) := by
  unfold stZ; rw [if_pos (sm_in_I3 hk hn), I3_clamp (by omega), nar_b2]
theorem wI_rd (h : sm_H) (a k : Nat) (x : Int32) (b j : Nat) : (sm_wI h a k x).1 b j = if b = a ∧ j = k then x else h.1 b j := by
  unfold sm_wI va_up upd
  show (if b = a then (fun j => if j = k then x else h.1 a j) else h.1 b) j = _
  by_cases e : b = a
  · subst e; simp
  · simp [e]
theorem wJ_rd (h : sm_H) (a k : Nat) (x : Int64) (b j : Nat) : (sm_wJ h a k x).2.1 b j = if b = a ∧ j = k then x else h.2.1 b j := by
  unfold sm_wJ va_up vp_updL
  show (if b = a then (fun j => if j = k then x else h.2.1 a j) else h.2.1 b) j = _
  by_cases e : b = a
  · subst e; simp
  · simp [e]
theorem wI_2 (h : sm_H) (a k : Nat) (x : Int32) : (sm_wI h a k x).2 = h.2 := rfl
theorem wJ_1 (h : sm_H) (a k : Nat) (x : Int64) : (sm_wJ h a k x).1 = h.1 := rfl
theorem wJ_22 (h : sm_H) (a k : Nat) (x : Int64) : (sm_wJ h a k x).2.2 = h.2.2 := rfl
theorem lp_it {σ ρ : Type} {body : σ → Option (σ ⊕ ρ)} {r : ρ} : ∀ (n : Nat) (s : Nat → σ) (f : Nat), (∀ k, k < n → body (s k) = some (.inl (s (k + 1)))) → body (s n) = some (.inr r) → n < f → lp body f (s 0) = some r := by
  intro n
  induction n with
  | zero =>
    intro s f _ e hf
    obtain ⟨f, rfl⟩ : ∃ q, f = q + 1 := ⟨f - 1, by omega⟩
    show (match body (s 0) with | none => none | some (.inl s') => lp body f s' | some (.inr r) => some r) = some r
    rw [e]
  | succ n ih =>
    intro s f hk e hf
    obtain ⟨f, rfl⟩ : ∃ q, f = q + 1 := ⟨f - 1, by omega⟩
    show (match body (s 0) with | none => none | some (.inl s') => lp body f s' | some (.inr r) => some r) = some r
    rw [hk 0 (by omega)]
    exact ih (fun k => s (k + 1)) f (fun k h => hk (k + 1) (by omega)) e (by omega)
def fst1 (p : Nat → Bool) : Nat → Nat
  | 0 => 0
  | n + 1 => bif Nat.blt (fst1 p n) n then fst1 p n else bif p n then n else n + 1
theorem fst1_spec (p : Nat → Bool) : ∀ n, fst1 p n ≤ n ∧ (∀ k, k < fst1 p n → p k = false) ∧ (fst1 p n < n → p (fst1 p n) = true) := by
  intro n
  induction n with
  | zero => exact ⟨Nat.le_refl _, fun k h => absurd h (Nat.not_lt_zero k), fun h => absurd h (Nat.lt_irrefl 0)⟩
  | succ n ih =>
    obtain ⟨h1, h2, h3⟩ := ih
    rcases Nat.lt_or_ge (fst1 p n) n with e | e
    · have : fst1 p (n + 1) = fst1 p n := by
        show (bif Nat.blt (fst1 p n) n then fst1 p n else _) = _
        rw [Nat.blt_eq.mpr e]; rfl
      rw [this]; exact ⟨by omega, h2, fun _ => h3 e⟩
    · have e2 : fst1 p n = n := by omega
      have eb : Nat.blt (fst1 p n) n = false := by
        cases q : Nat.blt (fst1 p n) n with
        | false => rfl
        | true => have := Nat.blt_eq.mp q; omega
      rw [e2] at h2
      cases hp : p n with
      | true =>
        have : fst1 p (n + 1) = n := by
          show (bif Nat.blt (fst1 p n) n then fst1 p n else bif p n then n else n + 1) = n
          rw [eb, hp]; rfl
        rw [this]; exact ⟨by omega, h2, fun _ => hp⟩
      | false =>
        have : fst1 p (n + 1) = n + 1 := by
          show (bif Nat.blt (fst1 p n) n then fst1 p n else bif p n then n else n + 1) = n + 1
          rw [eb, hp]; rfl
        rw [this]
        refine ⟨by omega, fun k hk => ?_, fun z => by omega⟩
        rcases Nat.lt_or_ge k n with q | q
        · exact h2 k q
        · have : k = n := by omega
          rw [this]; exact hp
theorem fst1_congr {p q : Nat → Bool} {n : Nat} (h : ∀ k, k < n → p k = q k) : fst1 p n = fst1 q n := by
  have ⟨a1, a2, a3⟩ := fst1_spec p n
  have ⟨b1, b2, b3⟩ := fst1_spec q n
  rcases Nat.lt_trichotomy (fst1 p n) (fst1 q n) with c | c | c
  · have := a3 (by omega); rw [h _ (by omega), b2 _ c] at this; cases this
  · exact c
  · have := b3 (by omega); rw [← h _ (by omega), a2 _ c] at this; cases this
theorem fst1_is {p : Nat → Bool} {n m : Nat} (hm : m ≤ n) (h1 : ∀ k, k < m → p k = false) (h2 : m < n → p m = true) : fst1 p n = m := by
  have ⟨a1, a2, a3⟩ := fst1_spec p n
  rcases Nat.lt_trichotomy (fst1 p n) m with c | c | c
  · have := a3 (by omega); rw [h1 _ c] at this; cases this
  · exact c
  · have := h2 (by omega); rw [a2 _ c] at this; cases this
def all1 (p : Nat → Bool) (n : Nat) : Bool := Nat.beq (fst1 (fun k => !p k) n) n
theorem all1_iff {p : Nat → Bool} {n : Nat} : all1 p n = true ↔ ∀ k, k < n → p k = true := by
  unfold all1
  rw [Nat.beq_eq]
  have ⟨a1, a2, a3⟩ := fst1_spec (fun k => !p k) n
  constructor
  · intro e k hk
    have := a2 k (by omega)
    simpa using this
  · intro e
    rcases Nat.lt_or_ge (fst1 (fun k => !p k) n) n with c | c
    · have := a3 c; simp [e _ c] at this
    · omega
theorem all1_congr {p q : Nat → Bool} {n : Nat} (h : ∀ k, k < n → p k = q k) : all1 p n = all1 q n := by
  unfold all1; rw [fst1_congr (p := fun k => !p k) (q := fun k => !q k) (fun k hk => by rw [h k hk])]
theorem zb0 {α : Type} {a b : α} : (if (0 : Int32) = 0 ∨ (0 : Int32) = 1 then a else b) = a := if_pos (Or.inl rfl)
theorem zb1 {α : Type} {a b : α} : (if (1 : Int32) = 0 ∨ (1 : Int32) = 1 then a else b) = a := if_pos (Or.inr rfl)
theorem zbb {α : Type} {a b : α} {c : Bool} : (if b2 c = 0 ∨ b2 c = 1 then a else b) = a := if_pos (b2_ok c)
theorem b2_pos {P : Prop} [Decidable P] (h : P) : b2 (decide P) = 1 := by rw [decide_eq_true h]; rfl
theorem b2_neg {P : Prop} [Decidable P] (h : ¬ P) : b2 (decide P) = 0 := by rw [decide_eq_false h]; rfl
theorem b2_t : b2 true = 1 := rfl
theorem b2_f : b2 false = 0 := rfl
theorem b2_if {α : Type} {a b : α} {c : Bool} : (if b2 c = 0 then a else b) = (bif c then b else a) := by cases c <;> rfl
theorem I3_nn' {a : Nat} (ha : a < 2147483648) : (I3 a < I3 0) = False := eq_false (by rw [I3_lt ha (by decide)]; omega)
theorem b2_I (b : Bool) : b2 b = I3 (bif b then 1 else 0) := by cases b <;> rfl
theorem stZ_1 {h : sm_H} {a n k : Nat} (hk : k < n) (hn : n ≤ 2147483648) : stZ h a n (I3 k) (I3 1) = some (sm_wI h a k (I3 1)) := stZ_I (b := true) hk hn
theorem I3_n1 {a : Nat} (ha : a < 2147483648) : (I3 a = -I3 1) = False := eq_false (I3_m1 ha)
theorem I3_n2 {a : Nat} (ha : a < 2147483648) : (I3 a = -I3 2) = False := eq_false (by rw [← Int32.toInt_inj, I3_toInt ha]; show ¬ (a : Int) = -2; omega)
theorem m2m1 : (-I3 2 = -I3 1) = False := eq_false (by decide)
theorem eqL {a k : Nat} (ha : a < 2147483648) (hk : (OfNat.ofNat k : Nat) < 2147483648) : (I3 a = (OfNat.ofNat k : Int32)) = (a = OfNat.ofNat k) := by rw [I3_lit, I3_inj ha hk]
theorem ltL {a k : Nat} (ha : a < 2147483648) (hk : (OfNat.ofNat k : Nat) < 2147483648) : (I3 a < (OfNat.ofNat k : Int32)) = (a < OfNat.ofNat k) := by rw [I3_lit, I3_lt ha hk]
theorem leL {a k : Nat} (ha : a < 2147483648) (hk : (OfNat.ofNat k : Nat) < 2147483648) : (I3 a ≤ (OfNat.ofNat k : Int32)) = (a ≤ OfNat.ofNat k) := by rw [I3_lit, I3_le ha hk]
theorem gtL {a k : Nat} (ha : a < 2147483648) (hk : (OfNat.ofNat k : Nat) < 2147483648) : ((OfNat.ofNat k : Int32) < I3 a) = (OfNat.ofNat k < a) := by rw [I3_lit, I3_lt hk ha]
theorem geL {a k : Nat} (ha : a < 2147483648) (hk : (OfNat.ofNat k : Nat) < 2147483648) : ((OfNat.ofNat k : Int32) ≤ I3 a) = (OfNat.ofNat k ≤ a) := by rw [I3_lit, I3_le hk ha]
theorem addL {a k : Nat} : I3 a + (OfNat.ofNat k : Int32) = I3 (a + OfNat.ofNat k) := by rw [I3_lit, I3_add]
theorem addLr {a k : Nat} : (OfNat.ofNat k : Int32) + I3 a = I3 (OfNat.ofNat k + a) := by rw [I3_lit, I3_add]
theorem mulL {a k : Nat} : I3 a * (OfNat.ofNat k : Int32) = I3 (a * OfNat.ofNat k) := by rw [I3_lit, I3_mul]
theorem mulLr {a k : Nat} : (OfNat.ofNat k : Int32) * I3 a = I3 (OfNat.ofNat k * a) := by rw [I3_lit, I3_mul]
theorem subL {a k : Nat} (h : (OfNat.ofNat k : Nat) ≤ a) : I3 a - (OfNat.ofNat k : Int32) = I3 (a - OfNat.ofNat k) := by rw [I3_lit, I3_sub h]
theorem eqm1 {a : Nat} (ha : a < 2147483648) : (I3 a = (-1 : Int32)) = False := eq_false (I3_m1 ha)
theorem bb0 (b : Bool) : (b2 b = (0 : Int32)) = (b = false) := by cases b <;> simp [b2]
theorem bb1 (b : Bool) : (b2 b = (1 : Int32)) = (b = true) := by cases b <;> simp [b2]
theorem leaf0 {P : Prop} [Decidable P] {g : sm_H} (h : ¬ P) : (some (I3 0, g) : Option (Int32 × sm_H)) = some (b2 (decide P), g) := by rw [b2_neg h]; rfl
theorem leaf1 {P : Prop} [Decidable P] {g : sm_H} (h : P) : (some (I3 1, g) : Option (Int32 × sm_H)) = some (b2 (decide P), g) := by rw [b2_pos h]; rfl
theorem leafb {P Q : Prop} [Decidable P] [Decidable Q] {g : sm_H} (h : P ↔ Q) : (some (b2 (decide P), g) : Option (Int32 × sm_H)) = some (b2 (decide Q), g) := by rw [decide_eq_decide.mpr h]
theorem bbI0 (b : Bool) : (b2 b = I3 0) = (b = false) := by cases b <;> simp [b2] <;> decide
theorem bbI1 (b : Bool) : (b2 b = I3 1) = (b = true) := by cases b <;> simp [b2] <;> decide
theorem zbbI {α : Type} {a b : α} {c : Bool} : (if b2 c = I3 0 ∨ b2 c = I3 1 then a else b) = a := if_pos (b2_ok c)
