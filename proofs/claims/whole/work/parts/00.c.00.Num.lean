def I3 (n : Nat) : Int32 := Int32.ofNat n
def I6 (n : Nat) : Int64 := Int64.ofNat n
theorem I3_toInt {n : Nat} (h : n < 2147483648) : (I3 n).toInt = (n : Int) := Int32.toInt_ofNat_of_lt (by omega)
theorem I3_clamp {n : Nat} (h : n < 2147483648) : (I3 n).toNatClampNeg = n := Int32.toNatClampNeg_ofNat_of_lt (by omega)
theorem I3_add (a b : Nat) : I3 a + I3 b = I3 (a + b) := (Int32.ofNat_add a b).symm
theorem I3_mul (a b : Nat) : I3 a * I3 b = I3 (a * b) := (Int32.ofNat_mul a b).symm
theorem I3_sub {a b : Nat} (h : b ≤ a) : I3 a - I3 b = I3 (a - b) := (Int32.ofNat_sub a b h).symm
theorem I3_lit (k : Nat) : (OfNat.ofNat k : Int32) = I3 (OfNat.ofNat k) := rfl
theorem I3_inj {a b : Nat} (ha : a < 2147483648) (hb : b < 2147483648) : I3 a = I3 b ↔ a = b := by
  rw [← Int32.toInt_inj, I3_toInt ha, I3_toInt hb]; omega
theorem I3_lt {a b : Nat} (ha : a < 2147483648) (hb : b < 2147483648) : I3 a < I3 b ↔ a < b := by
  rw [Int32.lt_iff_toInt_lt, I3_toInt ha, I3_toInt hb]; omega
theorem I3_le {a b : Nat} (ha : a < 2147483648) (hb : b < 2147483648) : I3 a ≤ I3 b ↔ a ≤ b := by
  rw [Int32.le_iff_toInt_le, I3_toInt ha, I3_toInt hb]; omega
theorem I3_nn {a : Nat} (ha : a < 2147483648) : ¬ I3 a < 0 := by
  rw [Int32.lt_iff_toInt_lt, I3_toInt ha]; show ¬ ((a : Int) < 0); omega
theorem b32 (x : Int32) : -2147483648 ≤ x.toInt ∧ x.toInt < 2147483648 := ⟨x.le_toInt, x.toInt_lt⟩
theorem b64 (x : Int64) : -9223372036854775808 ≤ x.toInt ∧ x.toInt < 9223372036854775808 := ⟨x.le_toInt, x.toInt_lt⟩
theorem I3_of {x : Int32} (h : ¬ x < 0) : ∃ n, n < 2147483648 ∧ x = I3 n := by
  rw [Int32.lt_iff_toInt_lt] at h
  have hb := b32 x
  have h0 : (0 : Int32).toInt = 0 := rfl
  rw [h0] at h
  refine ⟨x.toInt.toNat, by omega, ?_⟩
  rw [← Int32.toInt_inj, I3_toInt (by omega)]; omega
theorem I3_cases (x : Int32) : (∃ n, n < 2147483648 ∧ x = I3 n) ∨ x < 0 := by
  rcases Classical.em (x < 0) with h | h
  · exact Or.inr h
  · exact Or.inl (I3_of h)
theorem I3_m1 {a : Nat} (ha : a < 2147483648) : ¬ I3 a = -1 := by
  rw [← Int32.toInt_inj, I3_toInt ha]; show ¬ (a : Int) = -1; omega
theorem neg_lt_I3 {x : Int32} (h : x < 0) {a : Nat} (ha : a < 2147483648) : x < I3 a := by
  rw [Int32.lt_iff_toInt_lt] at h ⊢; rw [I3_toInt ha]; have : (0 : Int32).toInt = 0 := rfl; omega
theorem neg_ne_I3 {x : Int32} (h : x < 0) {a : Nat} (ha : a < 2147483648) : ¬ x = I3 a := by
  rintro rfl; exact I3_nn ha h
theorem sm_in_I3 {k n : Nat} (hk : k < n) (hn : n ≤ 2147483648) : sm_in (I3 k) n := by
  intro z
  rcases z with z | z
  · exact I3_nn (by omega) z
  · rw [I3_clamp (by omega)] at z; omega
theorem ldI_I {h : sm_H} {a n k : Nat} (hk : k < n) (hn : n ≤ 2147483648) : ldI h a n (I3 k) = some (h.1 a k) := by
  unfold ldI; rw [if_pos (sm_in_I3 hk hn), I3_clamp (by omega)]
theorem ldJ_I {h : sm_H} {a n k : Nat} (hk : k < n) (hn : n ≤ 2147483648) : ldJ h a n (I3 k) = some (h.2.1 a k) := by
  unfold ldJ; rw [if_pos (sm_in_I3 hk hn), I3_clamp (by omega)]
theorem ldZ_I {h : sm_H} {a n k : Nat} (hk : k < n) (hn : n ≤ 2147483648) : ldZ h a n (I3 k) = some (h.1 a k) := by
  unfold ldZ; rw [if_pos (sm_in_I3 hk hn), I3_clamp (by omega)]
theorem stI_I {h : sm_H} {a n k : Nat} {x : Int32} (hk : k < n) (hn : n ≤ 2147483648) : stI h a n (I3 k) x = some (sm_wI h a k x) := by
  unfold stI; rw [if_pos (sm_in_I3 hk hn), I3_clamp (by omega)]
theorem stJ_I {h : sm_H} {a n k : Nat} {x : Int64} (hk : k < n) (hn : n ≤ 2147483648) : stJ h a n (I3 k) x = some (sm_wJ h a k x) := by
  unfold stJ; rw [if_pos (sm_in_I3 hk hn), I3_clamp (by omega)]
def b2 (b : Bool) : Int32 := bif b then 1 else 0
theorem b2_ok (b : Bool) : b2 b = 0 ∨ b2 b = 1 := by cases b; exact Or.inl rfl; exact Or.inr rfl
theorem b2_0 (b : Bool) : (b2 b = 0) = (b = false) := by cases b <;> decide
theorem b2_1 (b : Bool) : (b2 b = 1) = (b = true) := by cases b <;> decide
theorem b2_inj (a b : Bool) : (b2 a = b2 b) = (a = b) := by cases a <;> cases b <;> decide
theorem nar_b2 (b : Bool) : vp_nar .boolean (b2 b) = b2 b := by cases b <;> decide
theorem stZ_I {h : sm_H} {a n k : Nat} {b : Bool} (hk : k < n) (hn : n ≤ 2147483648) : stZ h a n (I3 k) (b2 b) = some (sm_wI h a k (b2 b)) := by
  unfold stZ; rw [if_pos (sm_in_I3 hk hn), I3_clamp (by omega), nar_b2]
theorem wI_rd (h : sm_H) (a k : Nat) (x : Int32) (b j : Nat) : (sm_wI h a k x).1 b j = if b = a ∧ j = k then x else h.1 b j := by
  unfold sm_wI va_up upd
  show (if b = a then (fun j => if j = k then x else h.1 a j) else h.1 b) j = _
  by_cases e : b = a
  · subst e; simp
  · simp [e]
theorem wJ_rd (h : sm_H) (a k : Nat) (x : Int64) (b j : Nat) : (sm_wJ h a k x).2.1 b j = if b = a ∧ j = k then x else h.2.1 b j := by
  unfold sm_wJ va_up vp_updL
  show (if b = a then (fun j => if j = k then x else h.2.1 a j) else h.2.1 b) j = _
  by_cases e : b = a
  · subst e; simp
  · simp [e]
theorem wI_2 (h : sm_H) (a k : Nat) (x : Int32) : (sm_wI h a k x).2 = h.2 := rfl
theorem wJ_1 (h : sm_H) (a k : Nat) (x : Int64) : (sm_wJ h a k x).1 = h.1 := rfl
theorem wJ_22 (h : sm_H) (a k : Nat) (x : Int64) : (sm_wJ h a k x).2.2 = h.2.2 := rfl
theorem lp_it {σ ρ : Type} {body : σ → Option (σ ⊕ ρ)} {r : ρ} : ∀ (n : Nat) (s : Nat → σ) (f : Nat), (∀ k, k < n → body (s k) = some (.inl (s (k + 1)))) → body (s n) = some (.inr r) → n < f → lp body f (s 0) = some r := by
  intro n
  induction n with
  | zero =>
    intro s f _ e hf
    obtain ⟨f, rfl⟩ : ∃ q, f = q + 1 := ⟨f - 1, by omega⟩
    show (match body (s 0) with | none => none | some (.inl s') => lp body f s' | some (.inr r) => some r) = some r
    rw [e]
  | succ n ih =>
    intro s f hk e hf
    obtain ⟨f, rfl⟩ : ∃ q, f = q + 1 := ⟨f - 1, by omega⟩
    show (match body (s 0) with | none => none | some (.inl s') => lp body f s' | some (.inr r) => some r) = some r
    rw [hk 0 (by omega)]
    exact ih (fun k => s (k + 1)) f (fun k h => hk (k + 1) (by omega)) e (by omega)
def fst1 (p : Nat → Bool) : Nat → Nat
  | 0 => 0
  | n + 1 => bif Nat.blt (fst1 p n) n then fst1 p n else bif p n then n else n + 1
theorem fst1_spec (p : Nat → Bool) : ∀ n, fst1 p n ≤ n ∧ (∀ k, k < fst1 p n → p k = false) ∧ (fst1 p n < n → p (fst1 p n) = true) := by
  intro n
  induction n with
  | zero => exact ⟨Nat.le_refl _, fun k h => absurd h (Nat.not_lt_zero k), fun h => absurd h (Nat.lt_irrefl 0)⟩
  | succ n ih =>
    obtain ⟨h1, h2, h3⟩ := ih
    rcases Nat.lt_or_ge (fst1 p n) n with e | e
    · have : fst1 p (n + 1) = fst1 p n := by
        show (bif Nat.blt (fst1 p n) n then fst1 p n else _) = _
        rw [Nat.blt_eq.mpr e]; rfl
      rw [this]; exact ⟨by omega, h2, fun _ => h3 e⟩
    · have e2 : fst1 p n = n := by omega
      have eb : Nat.blt (fst1 p n) n = false := by
        cases q : Nat.blt (fst1 p n) n with
        | false => rfl
        | true => have := Nat.blt_eq.mp q; omega
      rw [e2] at h2
      cases hp : p n with
      | true =>
        have : fst1 p (n + 1) = n := by
          show (bif Nat.blt (fst1 p n) n then fst1 p n else bif p n then n else n + 1) = n
          rw [eb, hp]; rfl
        rw [this]; exact ⟨by omega, h2, fun _ => hp⟩
      | false =>
        have : fst1 p (n + 1) = n + 1 := by
          show (bif Nat.blt (fst1 p n) n then fst1 p n else bif p n then n else n + 1) = n + 1
          rw [eb, hp]; rfl
        rw [this]
        refine ⟨by omega, fun k hk => ?_, fun z => by omega⟩
        rcases Nat.lt_or_ge k n with q | q
        · exact h2 k q
        · have : k = n := by omega
          rw [this]; exact hp
theorem fst1_congr {p q : Nat → Bool} {n : Nat} (h : ∀ k, k < n → p k = q k) : fst1 p n = fst1 q n := by
  have ⟨a1, a2, a3⟩ := fst1_spec p n
  have ⟨b1, b2, b3⟩ := fst1_spec q n
  rcases Nat.lt_trichotomy (fst1 p n) (fst1 q n) with c | c | c
  · have := a3 (by omega); rw [h _ (by omega), b2 _ c] at this; cases this
  · exact c
  · have := b3 (by omega); rw [← h _ (by omega), a2 _ c] at this; cases this
theorem fst1_is {p : Nat → Bool} {n m : Nat} (hm : m ≤ n) (h1 : ∀ k, k < m → p k = false) (h2 : m < n → p m = true) : fst1 p n = m := by
  have ⟨a1, a2, a3⟩ := fst1_spec p n
  rcases Nat.lt_trichotomy (fst1 p n) m with c | c | c
  · have := a3 (by omega); rw [h1 _ c] at this; cases this
  · exact c
  · have := h2 (by omega); rw [a2 _ c] at this; cases this
def all1 (p : Nat → Bool) (n : Nat) : Bool := Nat.beq (fst1 (fun k => !p k) n) n
theorem all1_iff {p : Nat → Bool} {n : Nat} : all1 p n = true ↔ ∀ k, k < n → p k = true := by
  unfold all1
  rw [Nat.beq_eq]
  have ⟨a1, a2, a3⟩ := fst1_spec (fun k => !p k) n
  constructor
  · intro e k hk
    have := a2 k (by omega)
    simpa using this
  · intro e
    rcases Nat.lt_or_ge (fst1 (fun k => !p k) n) n with c | c
    · have := a3 c; simp [e _ c] at this
    · omega
theorem all1_congr {p q : Nat → Bool} {n : Nat} (h : ∀ k, k < n → p k = q k) : all1 p n = all1 q n := by
  unfold all1; rw [fst1_congr (p := fun k => !p k) (q := fun k => !q k) (fun k hk => by rw [h k hk])]
theorem zb0 {α : Type} {a b : α} : (if (0 : Int32) = 0 ∨ (0 : Int32) = 1 then a else b) = a := if_pos (Or.inl rfl)
theorem zb1 {α : Type} {a b : α} : (if (1 : Int32) = 0 ∨ (1 : Int32) = 1 then a else b) = a := if_pos (Or.inr rfl)
theorem zbb {α : Type} {a b : α} {c : Bool} : (if b2 c = 0 ∨ b2 c = 1 then a else b) = a := if_pos (b2_ok c)
theorem b2_pos {P : Prop} [Decidable P] (h : P) : b2 (decide P) = 1 := by rw [decide_eq_true h]; rfl
theorem b2_neg {P : Prop} [Decidable P] (h : ¬ P) : b2 (decide P) = 0 := by rw [decide_eq_false h]; rfl
theorem b2_t : b2 true = 1 := rfl
theorem b2_f : b2 false = 0 := rfl
theorem b2_if {α : Type} {a b : α} {c : Bool} : (if b2 c = 0 then a else b) = (bif c then b else a) := by cases c <;> rfl
theorem I3_nn' {a : Nat} (ha : a < 2147483648) : (I3 a < I3 0) = False := eq_false (by rw [I3_lt ha (by decide)]; omega)
theorem b2_I (b : Bool) : b2 b = I3 (bif b then 1 else 0) := by cases b <;> rfl
theorem stZ_1 {h : sm_H} {a n k : Nat} (hk : k < n) (hn : n ≤ 2147483648) : stZ h a n (I3 k) (I3 1) = some (sm_wI h a k (I3 1)) := stZ_I (b := true) hk hn
theorem I3_n1 {a : Nat} (ha : a < 2147483648) : (I3 a = -I3 1) = False := eq_false (I3_m1 ha)
theorem I3_n2 {a : Nat} (ha : a < 2147483648) : (I3 a = -I3 2) = False := eq_false (by rw [← Int32.toInt_inj, I3_toInt ha]; show ¬ (a : Int) = -2; omega)
theorem m2m1 : (-I3 2 = -I3 1) = False := eq_false (by decide)
theorem eqL {a k : Nat} (ha : a < 2147483648) (hk : (OfNat.ofNat k : Nat) < 2147483648) : (I3 a = (OfNat.ofNat k : Int32)) = (a = OfNat.ofNat k) := by rw [I3_lit, I3_inj ha hk]
theorem ltL {a k : Nat} (ha : a < 2147483648) (hk : (OfNat.ofNat k : Nat) < 2147483648) : (I3 a < (OfNat.ofNat k : Int32)) = (a < OfNat.ofNat k) := by rw [I3_lit, I3_lt ha hk]
theorem leL {a k : Nat} (ha : a < 2147483648) (hk : (OfNat.ofNat k : Nat) < 2147483648) : (I3 a ≤ (OfNat.ofNat k : Int32)) = (a ≤ OfNat.ofNat k) := by rw [I3_lit, I3_le ha hk]
theorem gtL {a k : Nat} (ha : a < 2147483648) (hk : (OfNat.ofNat k : Nat) < 2147483648) : ((OfNat.ofNat k : Int32) < I3 a) = (OfNat.ofNat k < a) := by rw [I3_lit, I3_lt hk ha]
theorem geL {a k : Nat} (ha : a < 2147483648) (hk : (OfNat.ofNat k : Nat) < 2147483648) : ((OfNat.ofNat k : Int32) ≤ I3 a) = (OfNat.ofNat k ≤ a) := by rw [I3_lit, I3_le hk ha]
theorem addL {a k : Nat} : I3 a + (OfNat.ofNat k : Int32) = I3 (a + OfNat.ofNat k) := by rw [I3_lit, I3_add]
theorem addLr {a k : Nat} : (OfNat.ofNat k : Int32) + I3 a = I3 (OfNat.ofNat k + a) := by rw [I3_lit, I3_add]
theorem mulL {a k : Nat} : I3 a * (OfNat.ofNat k : Int32) = I3 (a * OfNat.ofNat k) := by rw [I3_lit, I3_mul]
theorem mulLr {a k : Nat} : (OfNat.ofNat k : Int32) * I3 a = I3 (OfNat.ofNat k * a) := by rw [I3_lit, I3_mul]
theorem subL {a k : Nat} (h : (OfNat.ofNat k : Nat) ≤ a) : I3 a - (OfNat.ofNat k : Int32) = I3 (a - OfNat.ofNat k) := by rw [I3_lit, I3_sub h]
theorem eqm1 {a : Nat} (ha : a < 2147483648) : (I3 a = (-1 : Int32)) = False := eq_false (I3_m1 ha)
theorem bb0 (b : Bool) : (b2 b = (0 : Int32)) = (b = false) := by cases b <;> simp [b2]
theorem bb1 (b : Bool) : (b2 b = (1 : Int32)) = (b = true) := by cases b <;> simp [b2]
theorem leaf0 {P : Prop} [Decidable P] {g : sm_H} (h : ¬ P) : (some (I3 0, g) : Option (Int32 × sm_H)) = some (b2 (decide P), g) := by rw [b2_neg h]; rfl
theorem leaf1 {P : Prop} [Decidable P] {g : sm_H} (h : P) : (some (I3 1, g) : Option (Int32 × sm_H)) = some (b2 (decide P), g) := by rw [b2_pos h]; rfl
theorem leafb {P Q : Prop} [Decidable P] [Decidable Q] {g : sm_H} (h : P ↔ Q) : (some (b2 (decide P), g) : Option (Int32 × sm_H)) = some (b2 (decide Q), g) := by rw [decide_eq_decide.mpr h]
theorem bbI0 (b : Bool) : (b2 b = I3 0) = (b = false) := by cases b <;> simp [b2] <;> decide
theorem bbI1 (b : Bool) : (b2 b = I3 1) = (b = true) := by cases b <;> simp [b2] <;> decide
theorem zbbI {α : Type} {a b : α} {c : Bool} : (if b2 c = I3 0 ∨ b2 c = I3 1 then a else b) = a := if_pos (b2_ok c)
abbrev nC (g : sm_H) : Nat := (g.1 67 6).toNatClampNeg
abbrev par (g : sm_H) (c : Nat) : Nat := (g.1 70 c).toNatClampNeg
def kBase (x o : Nat) : Bool := Nat.beq x o || (Nat.ble 7 x && Nat.beq o 7) || (Nat.beq o 8 && (Nat.beq x 10 || Nat.beq x 11 || Nat.beq x 13 || Nat.beq x 14))
def bel (g : sm_H) : Nat → Nat → Nat → Bool
  | 0, x, o => kBase x o
  | n + 1, x, o => bif Nat.blt x 20 then kBase x o else Nat.beq x o || bel g n (par g (x - 20)) o
abbrev B (g : sm_H) (x o : Nat) : Bool := bel g 12 x o
def wfK (g : sm_H) : Prop := g.1 67 6 = I3 (nC g) ∧ nC g ≤ 12 ∧ ∀ c, c < nC g → g.1 70 c = I3 (par g c) ∧ (par g c = 7 ∨ par g c = 19 ∨ (20 ≤ par g c ∧ par g c < 20 + c))
def cK (h g : sm_H) : Prop := h.1 1 3 = I3 (20 + nC g) ∧ (∀ c, c < nC g → h.1 3 (20 + c) = g.1 70 c ∧ h.1 4 (20 + c) = g.1 71 c) ∧ ∀ a b, a < 20 + nC g → b < 32 → h.1 2 (a * 32 + b) = b2 (B g a b)
abbrev g_cK (h g : sm_H) : Prop := cK h g
theorem bel_lt20 (g : sm_H) (n x o : Nat) (h : x < 20) : bel g n x o = kBase x o := by
  cases n with
  | zero => rfl
  | succ n => show (bif Nat.blt x 20 then kBase x o else _) = _; rw [Nat.blt_eq.mpr h]; rfl
theorem bel_ge20 (g : sm_H) (n x o : Nat) (h : 20 ≤ x) : bel g (n + 1) x o = (Nat.beq x o || bel g n (par g (x - 20)) o) := by
  show (bif Nat.blt x 20 then kBase x o else _) = _
  have : Nat.blt x 20 = false := by
    cases q : Nat.blt x 20 with
    | false => rfl
    | true => have := Nat.blt_eq.mp q; omega
  rw [this]; rfl
theorem bel_fuel {g : sm_H} (hw : wfK g) : ∀ (n m x o : Nat), x < 20 + nC g → x < 20 + n → x < 20 + m → bel g n x o = bel g m x o := by
  intro n
  induction n with
  | zero => intro m x o _ h1 _; rw [bel_lt20 g 0 x o (by omega), bel_lt20 g m x o (by omega)]
  | succ n ih =>
    intro m x o h0 h1 h2
    rcases Nat.lt_or_ge x 20 with c | c
    · rw [bel_lt20 g _ x o c, bel_lt20 g m x o c]
    · obtain ⟨m, rfl⟩ : ∃ k, m = k + 1 := ⟨m - 1, by omega⟩
      rw [bel_ge20 g n x o c, bel_ge20 g m x o c]
      have := (hw.2.2 (x - 20) (by omega)).2
      rw [ih m (par g (x - 20)) o (by omega) (by omega) (by omega)]
theorem B_ge20 {g : sm_H} (hw : wfK g) {x o : Nat} (hx : x < 20 + nC g) (h : 20 ≤ x) : B g x o = (Nat.beq x o || B g (par g (x - 20)) o) := by
  have h12 := hw.2.1
  have := (hw.2.2 (x - 20) (by omega)).2
  show bel g 12 x o = _
  rw [bel_ge20 g 11 x o h, bel_fuel hw 11 12 _ o (by omega) (by omega) (by omega)]
theorem B_lt20 {g : sm_H} {x o : Nat} (h : x < 20) : B g x o = kBase x o := bel_lt20 g 12 x o h
def isK (g : sm_H) (x : Int32) : Bool := decide (¬ x < 0 ∧ x < I3 (20 + nC g))
theorem isK_I {g : sm_H} (hw : wfK g) {a : Nat} (ha : a < 2147483648) : isK g (I3 a) = decide (a < 20 + nC g) := by
  have := hw.2.1
  unfold isK
  simp only [I3_lt ha (show 20 + nC g < 2147483648 by omega), I3_nn ha, not_false_eq_true, true_and]
theorem isK_neg {g : sm_H} {x : Int32} (h : x < 0) : isK g x = false := by
  unfold isK; simp [h]
def BK (g : sm_H) (x y : Int32) : Bool := isK g x && isK g y && B g x.toNatClampNeg y.toNatClampNeg
theorem C_below {h g : sm_H} (hw : wfK g) (hc : cK h g) (x y : Int32) : F_60 x y h = some (b2 (BK g x y), h) := by
  have h12 := hw.2.1
  unfold BK
  show F_60_0 x y h = _
  unfold F_60_0 F_60_24
  rw [hc.1]
  rcases I3_cases x with ⟨a, ha, rfl⟩ | hn
  · rw [if_neg (I3_nn ha)]
    simp only [isK_I hw ha, I3_clamp ha, I3_le (show 20 + nC g < 2147483648 by omega) ha]
    rcases Nat.lt_or_ge a (20 + nC g) with c | c
    · rw [if_neg (by omega)]
      rcases I3_cases y with ⟨b, hb, rfl⟩ | hn
      · rw [if_neg (I3_nn hb)]
        simp only [isK_I hw hb, I3_clamp hb, I3_lt hb (show 20 + nC g < 2147483648 by omega)]
        rcases Nat.lt_or_ge b (20 + nC g) with c2 | c2
        · rw [if_pos c2, I3_lit, I3_mul, I3_add, ldZ_I (by omega) (by omega), hc.2.2 a b c (by omega)]
          show (if b2 (B g a b) = 0 ∨ b2 (B g a b) = 1 then some (b2 (B g a b), h) else none) = _
          rw [if_pos (b2_ok _)]; simp [c, c2]
        · rw [if_neg (by omega)]; simp [show ¬ b < 20 + nC g by omega]; rfl
      · rw [if_pos hn, isK_neg hn]; simp; rfl
    · rw [if_pos c]; simp [show ¬ a < 20 + nC g by omega]; rfl
  · rw [if_pos hn, isK_neg hn]; rfl
def inR (x : Int32) (n : Nat) : Bool := decide (0 ≤ x.toInt ∧ x.toInt < n)
theorem inR_I {a n : Nat} (ha : a < 2147483648) : inR (I3 a) n = decide (a < n) := by
  unfold inR; rw [I3_toInt ha]; congr 1; simp only [eq_iff_iff]; omega
theorem inR_c (x : Int32) (n : Nat) (hn : n ≤ 2147483648) : (∃ a, a < n ∧ x = I3 a ∧ inR x n = true) ∨ inR x n = false := by
  rcases I3_cases x with ⟨a, ha, rfl⟩ | hx
  · rw [inR_I ha]
    by_cases c : a < n
    · exact Or.inl ⟨a, c, rfl, by simp [c]⟩
    · exact Or.inr (by simp [c])
  · right
    unfold inR
    rw [Int32.lt_iff_toInt_lt] at hx
    have : (0 : Int32).toInt = 0 := rfl
    simp only [decide_eq_false_iff_not]; omega
theorem inR_x {x : Int32} {n : Nat} (hn : n ≤ 2147483648) (h : inR x n = true) : ∃ a, a < n ∧ x = I3 a := by
  rcases inR_c x n hn with ⟨a, h1, h2, -⟩ | z
  · exact ⟨a, h1, h2⟩
  · rw [h] at z; cases z
theorem rng1 {α : Type} {x H : Int32} {n : Nat} {a b : α} (e : H = I3 n) (hn : n < 2147483648) : (if x < 0 then a else if H ≤ x then a else b) = (bif inR x n then b else a) := by
  subst e
  rcases I3_cases x with ⟨k, hk, rfl⟩ | hx
  · rw [if_neg (I3_nn hk), inR_I hk]
    by_cases c : k < n
    · rw [if_neg (by rw [I3_le hn hk]; omega)]; simp [c]
    · rw [if_pos (by rw [I3_le hn hk]; omega)]; simp [c]
  · rw [if_pos hx]
    rcases inR_c x n (by omega) with ⟨k, h1, h2, h3⟩ | h3
    · exact absurd h2 (neg_ne_I3 hx (by omega))
    · rw [h3]; rfl
theorem rng2 {α : Type} {x H : Int32} {n : Nat} {a b : α} (e : H = I3 n) (hn : n < 2147483648) : (if x < 0 then a else if x < H then b else a) = (bif inR x n then b else a) := by
  subst e
  rcases I3_cases x with ⟨k, hk, rfl⟩ | hx
  · rw [if_neg (I3_nn hk), inR_I hk]
    by_cases c : k < n
    · rw [if_pos (by rw [I3_lt hk hn]; omega)]; simp [c]
    · rw [if_neg (by rw [I3_lt hk hn]; omega)]; simp [c]
  · rw [if_pos hx]
    rcases inR_c x n (by omega) with ⟨k, h1, h2, h3⟩ | h3
    · exact absurd h2 (neg_ne_I3 hx (by omega))
    · rw [h3]; rfl
theorem cb2 {h : sm_H} {b : Bool} : (bif b then (some (1, h) : Option (Int32 × sm_H)) else some (0, h)) = some (b2 b, h) := by cases b <;> rfl
theorem C_hasH {h : sm_H} {n : Nat} (e : h.1 10 11 = I3 n) (hn : n ≤ 500) (x : Int32) : F_36 x h = some (b2 (inR x n), h) := by
  simp only [F_36_17, F_36_16, F_36_0, F_36, true_or, or_true, if_true]
  rw [rng1 e (by omega), cb2]
theorem R_isH {h : sm_H} {n : Nat} (e : h.1 67 18 = I3 n) (hn : n ≤ 500) (x : Int32) : F_304 x h = some (b2 (inR x n), h) := by
  simp only [F_304_17, F_304_16, F_304_0, F_304, true_or, or_true, if_true]
  rw [rng1 e (by omega), cb2]
theorem C_hasTg {h : sm_H} {n : Nat} (e : h.1 21 8 = I3 n) (hn : n ≤ 500) (x : Int32) : F_156 x h = some (b2 (inR x n), h) := by
  simp only [F_156_17, F_156_16, F_156_0, F_156, true_or, or_true, if_true]
  rw [rng1 e (by omega), cb2]
theorem C_hasPt {h : sm_H} {n : Nat} (e : h.1 21 10 = I3 n) (hn : n ≤ 500) (x : Int32) : F_160 x h = some (b2 (inR x n), h) := by
  simp only [F_160_17, F_160_16, F_160_0, F_160, true_or, or_true, if_true]
  rw [rng1 e (by omega), cb2]
theorem toI64 (x : Int32) : x.toInt64.toInt = x.toInt := Int32.toInt_toInt64 x
theorem I3m1 {n : Nat} (hn : n < 2147483648) : (I3 n - I3 1).toInt = (n : Int) - 1 := by
  cases n with
  | zero => rfl
  | succ n => rw [I3_sub (by omega), I3_toInt (by omega)]; omega
theorem cmp_lt {x y : Int64} : (lg_cmp x y < 0) = (x.toInt < y.toInt) := by
  unfold lg_cmp
  by_cases c : x > y
  · rw [if_pos c]; have := Int64.lt_iff_toInt_lt.mp c; simp only [eq_iff_iff]; constructor
    · intro z; exact absurd z (by decide)
    · intro z; omega
  · rw [if_neg c]
    have c' : ¬ y.toInt < x.toInt := fun z => c (Int64.lt_iff_toInt_lt.mpr z)
    by_cases d : x = y
    · subst d; rw [if_pos rfl]; simp only [eq_iff_iff]; constructor
      · intro z; exact absurd z (by decide)
      · intro z; omega
    · rw [if_neg d]; simp only [eq_iff_iff]
      have : x.toInt ≠ y.toInt := fun z => d (Int64.toInt_inj.mp z)
      constructor
      · intro _; omega
      · intro _; decide
theorem cmp_gt {x y : Int64} : (0 < lg_cmp x y) = (y.toInt < x.toInt) := by
  unfold lg_cmp
  by_cases c : x > y
  · rw [if_pos c]; have := Int64.lt_iff_toInt_lt.mp c; simp only [eq_iff_iff]; constructor
    · intro z; exact this
    · intro z; decide
  · rw [if_neg c]
    have c' : ¬ y.toInt < x.toInt := fun z => c (Int64.lt_iff_toInt_lt.mpr z)
    by_cases d : x = y
    · subst d; rw [if_pos rfl]; simp only [eq_iff_iff]; constructor
      · intro z; exact absurd z (by decide)
      · intro z; omega
    · rw [if_neg d]; simp only [eq_iff_iff]
      constructor
      · intro z; exact absurd z (by decide)
      · intro z; exact absurd z c'
theorem cmp_eq {x y : Int64} : (lg_cmp x y = 0) = (x = y) := by
  unfold lg_cmp
  by_cases c : x > y
  · rw [if_pos c]; simp only [eq_iff_iff]; constructor
    · intro z; exact absurd z (by decide)
    · intro z; subst z; exact absurd (Int64.lt_iff_toInt_lt.mp c) (by omega)
  · rw [if_neg c]
    by_cases d : x = y
    · rw [if_pos d]; simp [d]
    · rw [if_neg d]; simp only [eq_iff_iff]; exact ⟨fun z => absurd z (by decide), fun z => absurd z d⟩
theorem cmp_le {x y : Int64} : (lg_cmp x y ≤ 0) = (x.toInt ≤ y.toInt) := by
  have e : (lg_cmp x y ≤ 0) = ¬ (0 < lg_cmp x y) := by simp only [eq_iff_iff]; exact Int32.not_lt.symm
  rw [e, cmp_gt]; simp only [eq_iff_iff]; omega
theorem cmp_ge {x y : Int64} : (0 ≤ lg_cmp x y) = (y.toInt ≤ x.toInt) := by
  have e : (0 ≤ lg_cmp x y) = ¬ (lg_cmp x y < 0) := by simp only [eq_iff_iff]; exact Int32.not_lt.symm
  rw [e, cmp_lt]; simp only [eq_iff_iff]; omega
theorem R_out {h : sm_H} (v lo hi : Int64) : F_315 v lo hi h = some (b2 (decide (v.toInt < lo.toInt ∨ hi.toInt < v.toInt)), h) := by
  simp only [F_315_18, F_315_13, F_315_0, F_315, true_or, or_true, if_true, cmp_lt, cmp_le]
  (repeat' split) <;> first | (rw [b2_neg]; omega) | (rw [b2_pos]; omega)
theorem R_outI {h : sm_H} {n : Nat} (hn : n < 2147483648) (x : Int32) : F_315 x.toInt64 0 (I3 n - I3 1).toInt64 h = some (b2 (!inR x n), h) := by
  rw [R_out, toI64, toI64, I3m1 hn]
  congr 3
  have e0 : (0 : Int64).toInt = 0 := rfl
  rw [e0]
  unfold inR
  by_cases c : 0 ≤ x.toInt ∧ x.toInt < n
  · simp only [c, and_self, decide_true, Bool.not_true]; simp only [decide_eq_false_iff_not]; omega
  · simp only [c, decide_false, Bool.not_false]; simp only [decide_eq_true_eq]; omega
abbrev tn (x : Int32) : Nat := x.toNatClampNeg
def cnt (x : Int32) (n : Nat) : Prop := x = I3 (tn x) ∧ tn x ≤ n
abbrev nT (g : sm_H) : Nat := tn (g.1 67 10)
abbrev nH (g : sm_H) : Nat := tn (g.1 67 18)
abbrev nM (g : sm_H) : Nat := tn (g.1 67 32)
abbrev nS (g : sm_H) : Nat := tn (g.1 67 33)
abbrev nV (g : sm_H) : Nat := tn (g.1 67 40)
abbrev nX (g : sm_H) : Nat := tn (g.1 67 45)
abbrev nG (g : sm_H) : Nat := tn (g.1 67 35)
abbrev nO (g : sm_H) : Nat := tn (g.1 67 37)
abbrev nD (g : sm_H) : Nat := tn (g.1 67 91)
abbrev tR (g : sm_H) (t : Nat) : Nat := tn (g.1 72 t)
abbrev tM (g : sm_H) (t : Nat) : Nat := tn (g.1 73 t)
abbrev tP (g : sm_H) (t k : Nat) : Nat := tn (g.1 74 (10 * t + k))
abbrev ty (g : sm_H) (x : Nat) : Nat := tn (g.1 76 x)
abbrev fm (g : sm_H) (x : Nat) : Nat := tn (g.1 75 x)
abbrev pm (g : sm_H) (x : Nat) : Nat := tn (g.1 80 x)
def okN (s : Nat) (n : Int64) : Prop := (s = 1 → n = 0 ∨ n = 1) ∧ (s = 2 → -128 ≤ n.toInt ∧ n.toInt ≤ 127) ∧ (s = 3 → -32768 ≤ n.toInt ∧ n.toInt ≤ 32767) ∧ (s = 4 → 0 ≤ n.toInt ∧ n.toInt ≤ 65535) ∧ (s = 5 → -2147483648 ≤ n.toInt ∧ n.toInt ≤ 2147483647)
def okO (g : sm_H) (k : Nat) (n : Int64) : Prop := (9 ≤ k ∧ k ≤ 14 ∧ okN (k - 8) n) ∨ ((15 ≤ k ∧ k ≤ 17 ∨ 20 ≤ k ∧ k < 20 + nC g) ∧ ∃ t, t < nX g ∧ n = I6 t ∧ g.1 96 t = I3 k) ∨ (k = 18 ∧ ∃ a, a < nH g ∧ n = I6 a) ∨ (k = 19 ∧ 0 ≤ n.toInt ∧ n.toInt ≤ 100)
def okV (g : sm_H) (s : Nat) (k : Int32) (n : Int64) : Prop := (1 ≤ s ∧ s ≤ 6 ∧ k = I3 s ∧ okN s n) ∨ ((s = 0 ∨ 7 ≤ s) ∧ k = I3 0 ∧ n = 0) ∨ (7 ≤ s ∧ ∃ q, k = I3 q ∧ q < 20 + nC g ∧ B g q s = true ∧ okO g q n)
def tag (k : Int32) : Int32 := if 1 ≤ k ∧ k ≤ 6 then 0 else k
def wfT (g : sm_H) : Prop := cnt (g.1 67 10) 300 ∧ (∀ t, t < nT g → cnt (g.1 72 t) (19 + nC g) ∧ cnt (g.1 73 t) 10 ∧ ∀ k, k < tM g t → cnt (g.1 74 (10 * t + k)) (19 + nC g) ∧ 0 < tP g t k) ∧
  ∀ t u, t < nT g → u < nT g → g.1 72 t = g.1 72 u → g.1 73 t = g.1 73 u → (∀ k, k < tM g t → g.1 74 (10 * t + k) = g.1 74 (10 * u + k)) → t = u
def cT (h g : sm_H) : Prop := h.1 5 4 = g.1 67 10 ∧ (∀ t, t < 300 → h.1 6 t = g.1 72 t ∧ h.1 7 t = g.1 73 t) ∧ ∀ k, k < 3000 → h.1 8 k = g.1 74 k
abbrev g_cT (h g : sm_H) : Prop := cT h g
def wfH0 (g : sm_H) : Prop := cnt (g.1 67 18) 500 ∧ ∀ x, x < nH g → cnt (g.1 75 x) 38 ∧ g.1 76 x = I3 (ty g x) ∧ ty g x < nT g ∧ cnt (g.1 80 x) 20
def cH (h g : sm_H) : Prop := h.1 10 11 = g.1 67 18 ∧ (∀ x, x < 500 → h.1 11 x = g.1 75 x ∧ h.1 12 x = g.1 77 x ∧ h.1 13 x = g.1 78 x ∧ h.2.1 14 x = g.2.1 79 x ∧ h.1 15 x = g.1 80 x ∧ h.1 17 x = g.1 76 x) ∧ (∀ x i, x < 500 → i < 20 → h.1 16 (x * 20 + i) = g.1 81 (24 * x + i)) ∧ ∀ x, x < nH g → h.1 18 x = g.1 72 (ty g x) ∧ h.1 19 x = g.1 73 (ty g x) ∧ ∀ k, k < tM g (ty g x) → h.1 20 (x * 10 + k) = g.1 74 (10 * ty g x + k)
abbrev g_cH (h g : sm_H) : Prop := cH h g
def cR (h g : sm_H) : Prop := h.1 64 1 = g.1 67 1 ∧ cnt (g.1 67 1) 20 ∧ ∀ k, k < 20 → h.1 65 k = g.1 68 k
def cP (h g : sm_H) : Prop := h.1 0 11 = g.1 67 68 ∧ cnt (g.1 67 68) 10 ∧ ∀ k, k < 10 → h.2.1 66 k = g.2.1 110 k
def cG (h g : sm_H) : Prop := h.1 21 8 = g.1 67 35 ∧ cnt (g.1 67 35) 80 ∧ (∀ k, k < 80 → h.1 32 k = g.1 92 k) ∧ ∀ k, k < nG g → ∃ a, a < nH g ∧ g.1 92 k = I3 a
abbrev g_cG (h g : sm_H) : Prop := cG h g
def cO (h g : sm_H) : Prop := h.1 21 10 = g.1 67 37 ∧ cnt (g.1 67 37) 20 ∧ (∀ k, k < 20 → h.1 33 k = g.1 93 k) ∧ ∀ k, k < 20 → ∃ b, g.1 93 k = b2 b
abbrev g_cO (h g : sm_H) : Prop := cO h g
def wfM (g : sm_H) : Prop := cnt (g.1 67 32) 100 ∧ cnt (g.1 67 33) 24 ∧ ∀ m, m < nM g → (∃ c, c < nC g ∧ g.1 83 m = I3 (20 + c)) ∧ cnt (g.1 84 m) 99 ∧ cnt (g.1 85 m) 3 ∧ (∃ b, g.1 86 m = b2 b) ∧
  ((g.1 87 m = 1 ∧ cnt (g.1 88 m) (19 + nC g) ∧ 0 < tn (g.1 88 m) ∧ (g.1 86 m = 0 → ∃ s, s < nS g ∧ g.1 91 m = I3 s)) ∨ (g.1 87 m = 0 ∧ (∃ a, a < nH g ∧ g.1 90 m = I3 a) ∧ ∃ t, t < nT g ∧ g.1 89 m = I3 t))
def cM (h g : sm_H) : Prop := h.1 38 13 = g.1 67 32 ∧ h.1 38 14 = g.1 67 33 ∧ ∀ m, m < nM g → h.1 39 m = g.1 83 m ∧ h.1 40 m = g.1 84 m ∧ h.1 41 m = g.1 85 m ∧ h.1 42 m = g.1 86 m ∧
  (g.1 87 m = 1 → h.1 43 m = g.1 88 m ∧ h.1 44 m = -1 ∧ h.1 45 m = -1 ∧ h.1 46 m = (if g.1 86 m = 0 then g.1 91 m else I3 m)) ∧ (g.1 87 m = 0 → h.1 43 m = 0 ∧ h.1 44 m = g.1 90 m ∧ h.1 45 m = g.1 89 m ∧ h.1 46 m = -1)
abbrev g_cM (h g : sm_H) : Prop := cM h g
def cV (h g : sm_H) : Prop := h.1 21 6 = g.1 67 40 ∧ cnt (g.1 67 40) 100 ∧ (∀ v, v < 100 → h.1 31 v = g.1 94 v ∧ h.2.1 30 v = g.2.1 95 v) ∧ ∀ v, v < nV g → ∃ q, g.1 94 v = I3 q ∧ q < 20 + nC g ∧ okO g q (g.2.1 95 v)
def szX (g : sm_H) (t : Nat) : Nat := if tn (g.1 96 t) < 20 then tn (g.1 97 t) else 24
def wfX (g : sm_H) : Prop := cnt (g.1 67 45) 1000 ∧ (∀ t, t < nX g → cnt (g.1 97 t) 100 ∧ ((∃ k, 15 ≤ k ∧ k ≤ 17 ∧ g.1 96 t = I3 k ∧ ∀ i, i < tn (g.1 97 t) → okV g (k - 10) (g.1 98 (100 * t + i)) (g.2.1 99 (100 * t + i))) ∨
  (∃ k, 20 ≤ k ∧ k < 20 + nC g ∧ g.1 96 t = I3 k ∧ (∀ m, m < nM g → g.1 87 m = 1 → g.1 86 m = 0 → okV g (tn (g.1 88 m)) (g.1 98 (100 * t + tn (g.1 91 m))) (g.2.1 99 (100 * t + tn (g.1 91 m))))))) ∧ ∀ m, m < nM g → g.1 87 m = 1 → g.1 86 m = 1 → okV g (tn (g.1 88 m)) (g.1 100 m) (g.2.1 101 m)
def slI (g : sm_H) : Prop := ∀ m n, m < n → n < nM g → g.1 87 m = 1 → g.1 86 m = 0 → g.1 87 n = 1 → g.1 86 n = 0 → g.1 91 m ≠ g.1 91 n
def cX (h g : sm_H) : Prop := h.1 21 2 = g.1 67 45 ∧ (∀ m, m < 100 → h.2.1 24 m = g.2.1 101 m ∧ h.1 25 m = tag (g.1 100 m)) ∧
  (∀ t i, nX g ≤ t → t < 1000 → i < 100 → g.1 98 (100 * t + i) = 0 ∧ g.2.1 99 (100 * t + i) = 0) ∧ (∀ t i, t < nX g → 20 ≤ tn (g.1 96 t) → nS g ≤ i → i < 24 → g.1 98 (100 * t + i) = 0 ∧ g.2.1 99 (100 * t + i) = 0) ∧ (∀ m, nM g ≤ m → m < 100 → g.1 100 m = 0 ∧ g.2.1 101 m = 0) ∧ slI g
abbrev g_cX (h g : sm_H) : Prop := cX h g
def cXh (h g : sm_H) : Prop := h.2.2.2.2.2.1 = 3 * nX g ∧ h.2.2.2.2.2.2 ≤ 202 * nX g ∧ ∀ t, t < nX g → h.2.2.1 22 t = some (131 + 3 * t) ∧ h.2.2.2.1 (131 + 3 * t) = 8 ∧ h.2.2.1 (131 + 3 * t) 0 = some (132 + 3 * t) ∧ h.2.2.1 (131 + 3 * t) 1 = some (133 + 3 * t) ∧ h.2.2.2.1 (132 + 3 * t) = 101 ∧ h.2.2.2.1 (133 + 3 * t) = 100 ∧ h.2.2.2.2.1 (132 + 3 * t) = szX g t ∧ h.2.2.2.2.1 (133 + 3 * t) = szX g t ∧
  ∀ i, i < szX g t → h.2.1 (132 + 3 * t) i = g.2.1 99 (100 * t + i) ∧ h.1 (133 + 3 * t) i = tag (g.1 98 (100 * t + i))
abbrev g_cXh (h g : sm_H) : Prop := cXh h g
def hiEq (h h' : sm_H) : Prop := (∀ b, 131 ≤ b → h'.1 b = h.1 b ∧ h'.2.1 b = h.2.1 b) ∧ h'.2.2 = h.2.2
theorem hi_rfl {h : sm_H} : hiEq h h := ⟨fun _ _ => ⟨rfl, rfl⟩, rfl⟩
theorem hi_trans {h h1 h2 : sm_H} (a : hiEq h h1) (b : hiEq h1 h2) : hiEq h h2 := ⟨fun c hc => ⟨(b.1 c hc).1.trans (a.1 c hc).1, (b.1 c hc).2.trans (a.1 c hc).2⟩, b.2.trans a.2⟩
theorem hi_wI {h h1 : sm_H} {a k : Nat} {x : Int32} (e : hiEq h h1) (ha : a < 131) : hiEq h (sm_wI h1 a k x) := by
  refine hi_trans e ⟨fun b hb => ⟨?_, rfl⟩, rfl⟩
  show (if b = a then _ else h1.1 b) = _
  rw [if_neg (by omega)]
theorem hi_wJ {h h1 : sm_H} {a k : Nat} {x : Int64} (e : hiEq h h1) (ha : a < 131) : hiEq h (sm_wJ h1 a k x) := by
  refine hi_trans e ⟨fun b hb => ⟨rfl, ?_⟩, rfl⟩
  show (if b = a then _ else h1.2.1 b) = _
  rw [if_neg (by omega)]
theorem cXh_fr {h h' g : sm_H} (e : hiEq h h') (c : cXh h g) : cXh h' g := by
  obtain ⟨e1, e2⟩ := e
  unfold cXh at c ⊢
  rw [e2]
  refine ⟨c.1, c.2.1, fun t ht => ?_⟩
  obtain ⟨c1, c2, c3, c4, c5, c6, c7, c8, c9⟩ := c.2.2 t ht
  refine ⟨c1, c2, c3, c4, c5, c6, c7, c8, fun i hi => ?_⟩
  rw [(e1 (132 + 3 * t) (by omega)).2, (e1 (133 + 3 * t) (by omega)).1]
  exact c9 i hi
def cU (h g : sm_H) : Prop := h.1 49 11 = g.1 67 69 ∧ h.1 49 8 = g.1 67 73 ∧ h.1 49 12 = g.1 67 70 ∧ h.1 49 10 = g.1 67 71 ∧ h.2.1 49 9 = g.2.1 67 72 ∧ (g.1 67 71 = 0 ∧ g.1 67 70 = 0 ∨ g.1 67 71 = 0 ∧ g.1 67 69 = 0 ∨ (∃ q, g.1 67 71 = I3 q ∧ q < 20 + nC g ∧ okO g q (g.2.1 67 72)) ∧ (g.1 67 69 = 0 ∨ g.1 67 69 = 1) ∧ 7 ≤ tn (g.1 67 70)) ∧ (g.1 67 70 = I3 (tn (g.1 67 70)))
def cY (h g : sm_H) : Prop := h.1 52 1 = g.1 67 76 ∧ cnt (g.1 67 76) 3000 ∧ (∀ k, k < 3000 → h.1 53 k = g.1 112 k ∧ cnt (g.1 112 k) 255) ∧ (∀ k, k < 20 → h.1 54 k = g.1 111 k ∧ cnt (g.1 111 k) 255)
def cF (h g : sm_H) : Prop := h.1 55 17 = g.1 67 77 ∧ h.1 55 18 = g.1 67 78 ∧ h.1 55 15 = g.1 67 91 ∧ cnt (g.1 67 91) 60 ∧ ∀ d, d < nD g → h.2.1 62 d = g.2.1 113 d ∧ h.1 63 d = g.1 114 d ∧ ∃ a, a < nH g ∧ g.1 114 d = I3 a ∧ tM g (ty g a) ≤ 6 ∧ g.1 115 d = g.1 73 (ty g a) ∧ ∀ i, i < tM g (ty g a) → g.1 116 (6 * d + i) = g.1 74 (10 * ty g a + i)
def cZ (h g : sm_H) : Prop := h.1 0 12 = g.1 67 19 ∧ h.1 47 1 = 0
def widB (a b : Nat) : Bool := decide (a = 2 ∧ (b = 3 ∨ b = 5 ∨ b = 6) ∨ (a = 3 ∨ a = 4) ∧ (b = 5 ∨ b = 6) ∨ a = 5 ∧ b = 6)
def mayB (g : sm_H) (a b : Nat) (f r : Bool) : Bool := if a = b then true else if a = 0 then r else if b = 0 then r else if a ≤ 6 then (if b ≤ 6 then f || widB a b else B g (a + 8) b) else if 7 ≤ b then true else if a = 7 then true else if a = 8 then f || decide (b = 2 ∨ b = 3 ∨ b = 5 ∨ b = 6) else if 9 ≤ a ∧ a ≤ 14 then f || (decide (a - 8 = b) || widB (a - 8) b) else false
abbrev at0 (l : List Int32) (i : Nat) : Int32 := l.getD i 0
def lst (f : Nat → Int32) (n : Nat) : List Int32 := (List.range n).map f
abbrev rs (g : sm_H) (t : Nat) : Int32 := g.1 72 t
abbrev pl (g : sm_H) (t : Nat) : List Int32 := lst (fun k => g.1 74 (10 * t + k)) (tM g t)
abbrev hrs (g : sm_H) (x : Nat) : Int32 := rs g (ty g x)
abbrev hpl (g : sm_H) (x : Nat) : List Int32 := pl g (ty g x)
def pre (l m : List Int32) : Prop := l.length ≤ m.length ∧ ∀ k, k < l.length → at0 m k = at0 l k
def okK (g : sm_H) (k : Nat) (c : Int64) : Prop := (1 ≤ k ∧ k ≤ 6 ∧ okN k c) ∨ (7 ≤ k ∧ (c = -1 ∨ ∃ v, v < nV g ∧ c = I6 v ∧ B g (tn (g.1 94 v)) k = true))
def gone (r : Int32) : Nat := if r = 0 then 0 else 1
def vk (g : sm_H) (ps : List Int32) (i : Nat) : Int32 := if at0 ps (4 * i + 1) ≠ -1 then hrs g (tn (at0 ps (4 * i + 1))) else if at0 ps (4 * i) ≠ -1 then hrs g (tn (at0 ps (4 * i))) else 0
def vrs (g : sm_H) (ps : List Int32) (n : Nat) : List Int32 := ((List.range n).map (vk g ps)).filter (fun k => decide (k ≠ 0))
def isH (g : sm_H) (x : Int32) : Prop := ∃ p, p < nH g ∧ x = I3 p
def isC (g : sm_H) (x : Int32) : Prop := ∃ k, 20 ≤ k ∧ k < 20 + nC g ∧ x = I3 k
def mkr (g : sm_H) (m : Nat) : Prop := g.1 87 m = 0 ∧ g.1 86 m = 0 ∧ g.1 84 m = 0 ∧ rs g (tn (g.1 89 m)) = 0
def chgL (e : Int32) (w : Nat) : List Int32 := if w = 4 then [] else if w = 7 then [e, e] else [e]
def chgR (e : Int32) (w : Nat) : Int32 := if w = 5 then 0 else if w = 7 then 1 else e
def mayAs (g : sm_H) (t u : Nat) (f : Bool) : Prop := tM g u = tM g t ∧ (∀ k, k < tM g t → mayB g (tP g u k) (tP g t k) f false = true) ∧ mayB g (tR g t) (tR g u) f true = true
def FS (g : sm_H) (f : Nat) (a b : Int32) (c : Int64) (ps : List Int32) (r : Int32) (l : List Int32) : Prop :=
  (f = 0 ∧ ps = [] ∧ l = [] ∧ r = a ∧ ∃ k, 0 < k ∧ k < 20 + nC g ∧ a = I3 k ∧ okK g k c) ∨
  (f = 1 ∧ (∃ p, p < nH g ∧ ps = [I3 p]) ∧ r = 18 ∧ l = []) ∨
  (f = 2 ∧ ps = [] ∧ l = [a] ∧ r = a ∧ ∃ k, 0 < k ∧ k < 20 + nC g ∧ a = I3 k) ∨
  (f = 3 ∧ ps = [] ∧ l = [b, b] ∧ ∃ o w, o ≤ 12 ∧ a = I3 o ∧ (w = 5 ∨ w = 6) ∧ b = I3 w ∧ r = if 10 < o then 1 else b) ∨
  (f = 4 ∧ ∃ p n t, p < nH g ∧ ps = [I3 p] ∧ n ≤ (hpl g p).length ∧ a = I3 n ∧ t < nT g ∧ b = I3 t ∧ r = hrs g p ∧ l = (hpl g p).take n ++ (pl g t ++ (hpl g p).drop n)) ∨
  (f = 5 ∧ ∃ p t, p < nH g ∧ t < nT g ∧ b = I3 t ∧ r = hrs g p ∧ r = rs g t ∧ l = pl g t ∧ ps.length = 1 + (hpl g p).length ∧ at0 ps 0 = I3 p ∧ ∀ k, k < (hpl g p).length → ∃ j, j < l.length ∧ at0 ps (1 + k) = I3 j ∧ at0 l j = at0 (hpl g p) k) ∨
  (f = 6 ∧ ∃ p n, p < nH g ∧ ps = [I3 p] ∧ n < (hpl g p).length ∧ a = I3 n ∧ okK g (tn (at0 (hpl g p) n)) c ∧ r = hrs g p ∧ l = (hpl g p).take n ++ (hpl g p).drop (n + 1)) ∨
  (f = 7 ∧ ∃ p q n, p < nH g ∧ q < nH g ∧ ps = [I3 p, I3 q] ∧ a = I3 n ∧ n + gone (hrs g q) ≤ (hpl g p).length ∧ (hrs g q ≠ 0 → at0 (hpl g p) n = hrs g q) ∧ r = hrs g p ∧ l = (hpl g p).take n ++ (hpl g q ++ (hpl g p).drop (n + gone (hrs g q)))) ∨
  (f = 8 ∧ ∃ p q n, p < nH g ∧ q < nH g ∧ ps = [I3 p, I3 q] ∧ a = I3 n ∧ n + gone (hrs g q) ≤ (hpl g p).length ∧ (hrs g q ≠ 0 → at0 (hpl g p) n = hrs g q) ∧ r = hrs g p ∧ l = (hpl g p).take n ++ (hpl g p).drop (n + gone (hrs g q)) ∧ pre (hpl g q) (l.drop n)) ∨
  (f = 9 ∧ ∃ p q, p < nH g ∧ q < nH g ∧ ps = [I3 p, I3 q] ∧ hpl g q = (if hrs g p = 0 then [] else [hrs g p]) ∧ r = hrs g q ∧ l = hpl g p) ∨
  (f = 10 ∧ ∃ p k n, p < nH g ∧ ps = [I3 p] ∧ 15 ≤ k ∧ k ≤ 17 ∧ a = I3 k ∧ n ≤ (hpl g p).length ∧ b = I3 n ∧ (∀ j, (hpl g p).length - n ≤ j → j < (hpl g p).length → at0 (hpl g p) j = I3 (k - 10)) ∧ r = hrs g p ∧ l = (hpl g p).take ((hpl g p).length - n) ++ [a]) ∨
  (f = 11 ∧ ∃ p n k m, p < nH g ∧ ps = [I3 p] ∧ n ≤ 10 ∧ b = I3 n ∧ 15 ≤ k ∧ k ≤ 17 ∧ hpl g p = m ++ [I3 k] ∧ r = hrs g p ∧ l = m ++ List.replicate n (I3 (k - 10))) ∨
  ((f = 12 ∨ f = 13) ∧ ∃ p t, p < nH g ∧ ps = [I3 p] ∧ t < nT g ∧ b = I3 t ∧ mayAs g (ty g p) t (decide (f = 13)) ∧ r = rs g t ∧ l = pl g t) ∨
  (f = 14 ∧ ∃ p q s, p < nH g ∧ q < nH g ∧ s < nH g ∧ ps = [I3 p, I3 q, I3 s] ∧ ty g q = ty g s ∧ hrs g p = 1 ∧ pre (hpl g p) (hpl g q) ∧ r = hrs g q ∧ l = hpl g q) ∨
  (f = 15 ∧ ∃ p q k m, p < nH g ∧ q < nH g ∧ ps = [I3 p, I3 q] ∧ k < 20 + nC g ∧ a = I3 k ∧ B g k 19 = true ∧ hpl g q = a :: m ∧ pre m (hpl g p) ∧ hrs g q = hrs g p ∧ r = hrs g p ∧ l = hpl g p) ∨
  (f = 16 ∧ ∃ p q m, p < nH g ∧ q < nH g ∧ ps = [I3 p, I3 q] ∧ hpl g q = (if hrs g p = 0 then 19 :: m else 19 :: hrs g p :: m) ∧ pre m (hpl g p) ∧ hrs g q = hrs g p ∧ r = hrs g p ∧ l = hpl g p) ∨
  (f = 17 ∧ ∃ p m, p < nH g ∧ 0 < ps.length ∧ at0 ps 0 = I3 p ∧ (∀ k, k < ps.length → ∃ q, q < nH g ∧ at0 ps k = I3 q ∧ ty g q = ty g p) ∧ hpl g p = 5 :: m ∧ r = hrs g p ∧ l = hpl g p) ∨
  (f = 18 ∧ ∃ t n, t < nT g ∧ b = I3 t ∧ 0 < n ∧ n ≤ 4 ∧ ps.length = 4 * n ∧ (∀ k, k < 4 * n → at0 ps k = -1 ∨ isH g (at0 ps k)) ∧ (∃ i, i < n ∧ at0 ps (4 * i + 2) ≠ -1) ∧ (∀ i, i < n → (at0 ps (4 * i) ≠ -1 → at0 ps (4 * i + 1) ≠ -1 → hrs g (tn (at0 ps (4 * i))) = hrs g (tn (at0 ps (4 * i + 1)))) ∧ (at0 ps (4 * i + 3) ≠ -1 → at0 ps (4 * i + 2) ≠ -1) ∧ (at0 ps (4 * i + 2) ≠ -1 → hrs g (tn (at0 ps (4 * i + 2))) = 1) ∧ (at0 ps (4 * i + 3) ≠ -1 → hrs g (tn (at0 ps (4 * i + 3))) = rs g t) ∧ (at0 ps (4 * i) ≠ -1 → pre (hpl g (tn (at0 ps (4 * i)))) (pl g t)) ∧ ∀ z, 1 ≤ z → z < 4 → at0 ps (4 * i + z) ≠ -1 → pre (hpl g (tn (at0 ps (4 * i + z)))) (vrs g ps n ++ pl g t)) ∧ r = rs g t ∧ l = pl g t) ∨
  (f = 19 ∧ ps = [] ∧ ∃ k e, k < 20 + nC g ∧ a = I3 k ∧ e < 20 + nC g ∧ b = I3 e ∧ B g e 19 = true ∧ r = a ∧ l = [b]) ∨
  (20 ≤ f ∧ f ≤ 26 ∧ ps = [] ∧ ∃ k, 15 ≤ k ∧ k ≤ 17 ∧ a = I3 k ∧ (f = 26 → k ≠ 17) ∧ (f = 20 → r = a ∧ l = [5]) ∧ (f = 21 → r = 5 ∧ l = [a]) ∧ (22 ≤ f → r = chgR (I3 (k - 10)) (f - 18) ∧ l = a :: 5 :: chgL (I3 (k - 10)) (f - 18))) ∨
  ((f = 27 ∨ f = 28) ∧ ps = [] ∧ ∃ t, t < nT g ∧ b = I3 t ∧ r = rs g t ∧ l = 18 :: pl g t) ∨
  (f = 29 ∧ ps = [] ∧ ∃ n, n < nG g ∧ a = I3 n ∧ r = hrs g (tn (g.1 92 n)) ∧ l = hpl g (tn (g.1 92 n))) ∨
  (f = 30 ∧ ∃ p q n, p < nH g ∧ q < nH g ∧ ps = [I3 p, I3 q] ∧ ty g p = ty g q ∧ n < nO g ∧ a = I3 n ∧ r = hrs g p ∧ l = hpl g p) ∨
  (f = 31 ∧ ps = [] ∧ (∃ k, 7 ≤ k ∧ k < 20 + nC g ∧ a = I3 k) ∧ r = 1 ∧ l = [7]) ∨
  (f = 32 ∧ ps = [] ∧ r = 1 ∧ l = [7, 7]) ∨
  (f = 33 ∧ ps = [] ∧ r = 5 ∧ l = [19]) ∨
  (f = 34 ∧ ps = [] ∧ ∃ t, t < nT g ∧ b = I3 t ∧ r = rs g t ∧ l = pl g t) ∨
  (f = 35 ∧ ps = [] ∧ ∃ m w, m < nM g ∧ a = I3 m ∧ g.1 87 m = 1 ∧ 4 ≤ w ∧ w ≤ 8 ∧ b = I3 w ∧ (w = 8 → 2 ≤ tn (g.1 88 m) ∧ tn (g.1 88 m) ≤ 6) ∧ r = chgR (g.1 88 m) w ∧ ((g.1 86 m = 1 ∧ l = chgL (g.1 88 m) w) ∨ (g.1 86 m = 0 ∧ ∃ k, 20 ≤ k ∧ k < 20 + nC g ∧ B g k (tn (g.1 83 m)) = true ∧ l = I3 k :: chgL (g.1 88 m) w))) ∨
  ((f = 36 ∨ f = 37) ∧ ps = [] ∧ ∃ m k, m < nM g ∧ a = I3 m ∧ g.1 87 m = 0 ∧ g.1 86 m = 0 ∧ 20 ≤ k ∧ k < 20 + nC g ∧ B g k (tn (g.1 83 m)) = true ∧ b = I3 k ∧ ¬ mkr g m ∧ (∀ n, n < m → g.1 83 n = g.1 83 m → g.1 84 n = g.1 84 m → g.1 87 n = 0 → g.1 86 n = 0 → g.1 89 n = g.1 89 m → mkr g n) ∧ r = rs g (tn (g.1 89 m)) ∧ l = b :: pl g (tn (g.1 89 m))) ∨
  (f = 38 ∧ ps = [] ∧ ∃ m, m < nM g ∧ a = I3 m ∧ mkr g m ∧ r = g.1 83 m ∧ l = pl g (tn (g.1 89 m)))
abbrev prt (g : sm_H) (x : Nat) : List Int32 := lst (fun k => g.1 81 (24 * x + k)) (pm g x)
def wfF0 (g : sm_H) : Prop := (∀ x, x < nH g → FS g (fm g x) (g.1 77 x) (g.1 78 x) (g.2.1 79 x) (prt g x) (hrs g x) (hpl g x)) ∧ ∀ m, m < nM g → g.1 87 m = 0 → rs g (tn (g.1 89 m)) = hrs g (tn (g.1 90 m)) ∧ hpl g (tn (g.1 90 m)) = if g.1 86 m = 0 then g.1 83 m :: pl g (tn (g.1 89 m)) else pl g (tn (g.1 89 m))
def mkV (i6 : Int32) (i10 : Int32) (i18 : Int32) (i32 : Int32) (i35 : Int32) (i37 : Int32) (i40 : Int32) (f70 : Nat → Int32) (f72 : Nat → Int32) (f73 : Nat → Int32) (f74 : Nat → Int32) (f75 : Nat → Int32) (f76 : Nat → Int32) (f77 : Nat → Int32) (f78 : Nat → Int32) (f80 : Nat → Int32) (f81 : Nat → Int32) (f83 : Nat → Int32) (f84 : Nat → Int32) (f86 : Nat → Int32) (f87 : Nat → Int32) (f88 : Nat → Int32) (f89 : Nat → Int32) (f90 : Nat → Int32) (f92 : Nat → Int32) (f94 : Nat → Int32) (f79 : Nat → Int64) : sm_H := (fun b => if b = 67 then (fun j => if j = 6 then i6 else if j = 10 then i10 else if j = 18 then i18 else if j = 32 then i32 else if j = 35 then i35 else if j = 37 then i37 else if j = 40 then i40 else 0) else if b = 70 then f70 else if b = 72 then f72 else if b = 73 then f73 else if b = 74 then f74 else if b = 75 then f75 else if b = 76 then f76 else if b = 77 then f77 else if b = 78 then f78 else if b = 80 then f80 else if b = 81 then f81 else if b = 83 then f83 else if b = 84 then f84 else if b = 86 then f86 else if b = 87 then f87 else if b = 88 then f88 else if b = 89 then f89 else if b = 90 then f90 else if b = 92 then f92 else if b = 94 then f94 else fun _ => 0, fun b => if b = 79 then f79 else fun _ => 0, fun _ _ => none, fun _ => 0, fun _ => 0, 0, 0)
def vw (g : sm_H) : sm_H := mkV (g.1 67 6) (g.1 67 10) (g.1 67 18) (g.1 67 32) (g.1 67 35) (g.1 67 37) (g.1 67 40) (g.1 70) (g.1 72) (g.1 73) (g.1 74) (g.1 75) (g.1 76) (g.1 77) (g.1 78) (g.1 80) (g.1 81) (g.1 83) (g.1 84) (g.1 86) (g.1 87) (g.1 88) (g.1 89) (g.1 90) (g.1 92) (g.1 94) (g.2.1 79)
def wfF (g : sm_H) : Prop := wfF0 (vw g)
def I1 (h g : sm_H) : Prop := wfK g ∧ cK h g ∧ wfT g ∧ cT h g ∧ wfH0 g ∧ cH h g ∧ wfM g ∧ cM h g ∧ cR h g ∧ cP h g ∧ cG h g ∧ cO h g ∧ cV h g ∧ wfX g ∧ cX h g ∧ cXh h g ∧ cU h g ∧ cY h g ∧ cF h g ∧ cZ h g ∧ wfF g
abbrev I0 (h : sm_H) : Prop := I1 h h
theorem cnt_up {n N : Nat} (h : n ≤ N) (hN : N < 2147483648) : cnt (I3 n) N := by
  unfold cnt tn; rw [I3_clamp (by omega)]; exact ⟨rfl, h⟩
theorem upd_eq {n x y : Nat} {a : Int32} {p q : Nat → Int32} (e : p x = q x) : (if x = n then a else p x) = (if x = n then a else q x) := by
  rw [e]
theorem isRow64 (h : sm_H) : (sm_is G0 h 64 5 = true) = True := eq_true rfl
theorem rr64 (h : sm_H) : sm_rr G0 h 64 0 = some 65 := rfl
theorem st65 {h : sm_H} {k : Nat} {x : Int32} (hk : k < 20) : sm_stI G0 h 65 (I3 k) x = some (sm_wI h 65 k x) := by
  show (if sm_in (I3 k) 20 then some (sm_wI h 65 (I3 k).toNatClampNeg x) else none) = _
  rw [if_pos (sm_in_I3 hk (by decide)), I3_clamp (by omega)]
theorem op_put {h : sm_H} (x : Int32) (I : I0 h) : ∃ v h1 h2, F_258 x h = some (v, h1) ∧ F_380 x h1 = some (v, h2) ∧ I0 h2 := by
  obtain ⟨wK, cK, wT, cT, wH, cH, wM, cM, cR, cP, cG, cO, cV, wX, cX, cXh, cU, cY, cF, cZ⟩ := id I
  obtain ⟨r1, ⟨r2, r3⟩, r4⟩ := cR
  generalize hn : tn (h.1 67 1) = n at r2 r3
  by_cases c : n = 20
  · refine ⟨0, h, h, ?_, ?_, I⟩
    · simp (disch := omega) only [F_258_0, F_258, F_139_0, F_139, ↓reduceIte, if_true, if_false, ite_self, Option.bind_some, Option.map_some, wI_rd, wJ_rd, wI_2, wJ_1, wJ_22, I3_lit, I3_add, I3_mul, I3_lt, I3_le, I3_inj, I3_nn', I3_n1, I3_n2, m2m1, ldI_I, ldJ_I, ldZ_I, stI_I, stJ_I, true_or, or_true, false_or, or_false, true_and, and_true, false_and, and_false, not_true_eq_false, not_false_eq_true, reduceCtorEq, Nat.reduceEqDiff, Nat.lt_irrefl, Nat.not_lt_zero, Nat.le_refl, Nat.reduceLT, Nat.reduceLeDiff, eq_self, b2_if, b2_I, zbb, Bool.not_true, Bool.not_false, cond_true, cond_false, r1, r2, c, isRow64]
    · simp (disch := omega) only [F_380_0, F_380, ↓reduceIte, if_true, if_false, ite_self, Option.bind_some, Option.map_some, wI_rd, wJ_rd, wI_2, wJ_1, wJ_22, I3_lit, I3_add, I3_mul, I3_lt, I3_le, I3_inj, I3_nn', I3_n1, I3_n2, m2m1, ldI_I, ldJ_I, ldZ_I, stI_I, stJ_I, true_or, or_true, false_or, or_false, true_and, and_true, false_and, and_false, not_true_eq_false, not_false_eq_true, reduceCtorEq, Nat.reduceEqDiff, Nat.lt_irrefl, Nat.not_lt_zero, Nat.le_refl, Nat.reduceLT, Nat.reduceLeDiff, eq_self, b2_if, b2_I, zbb, Bool.not_true, Bool.not_false, cond_true, cond_false, r2, c]
  · refine ⟨1, sm_wI (sm_wI h 65 n x) 64 1 (I3 (n + 1)), sm_wI (sm_wI (sm_wI (sm_wI h 65 n x) 64 1 (I3 (n + 1))) 68 n x) 67 1 (I3 (n + 1)), ?_, ?_, wK, cK, wT, cT, wH, cH, wM, cM, ⟨rfl, cnt_up (by omega) (by decide), fun k hk => ?_⟩, cP, cG, cO, cV, wX, cX, cXh_fr (by repeat first | exact hi_rfl | refine hi_wI ?_ (by decide) | refine hi_wJ ?_ (by decide)) cXh, cU, cY, cF, cZ⟩
    · simp (disch := omega) only [F_258_0, F_258, F_139_0, F_139, ↓reduceIte, if_true, if_false, ite_self, Option.bind_some, Option.map_some, wI_rd, wJ_rd, wI_2, wJ_1, wJ_22, I3_lit, I3_add, I3_mul, I3_lt, I3_le, I3_inj, I3_nn', I3_n1, I3_n2, m2m1, ldI_I, ldJ_I, ldZ_I, stI_I, stJ_I, true_or, or_true, false_or, or_false, true_and, and_true, false_and, and_false, not_true_eq_false, not_false_eq_true, reduceCtorEq, Nat.reduceEqDiff, Nat.lt_irrefl, Nat.not_lt_zero, Nat.le_refl, Nat.reduceLT, Nat.reduceLeDiff, eq_self, b2_if, b2_I, zbb, Bool.not_true, Bool.not_false, cond_true, cond_false, r1, r2, c, isRow64, rr64, st65, show n < 20 by omega]
    · simp (disch := omega) only [F_380_0, F_380, ↓reduceIte, if_true, if_false, ite_self, Option.bind_some, Option.map_some, wI_rd, wJ_rd, wI_2, wJ_1, wJ_22, I3_lit, I3_add, I3_mul, I3_lt, I3_le, I3_inj, I3_nn', I3_n1, I3_n2, m2m1, ldI_I, ldJ_I, ldZ_I, stI_I, stJ_I, true_or, or_true, false_or, or_false, true_and, and_true, false_and, and_false, not_true_eq_false, not_false_eq_true, reduceCtorEq, Nat.reduceEqDiff, Nat.lt_irrefl, Nat.not_lt_zero, Nat.le_refl, Nat.reduceLT, Nat.reduceLeDiff, eq_self, b2_if, b2_I, zbb, Bool.not_true, Bool.not_false, cond_true, cond_false, r2, c]
    · exact upd_eq (p := h.1 65) (q := h.1 68) (y := 0) (r4 k hk)
theorem cmp_eq' {x y : Int64} : (lg_cmp x y = I3 0) = (x = y) := cmp_eq
theorem cmp_lt' {x y : Int64} : (lg_cmp x y < I3 0) = (x.toInt < y.toInt) := cmp_lt
theorem cmp_gt' {x y : Int64} : (I3 0 < lg_cmp x y) = (y.toInt < x.toInt) := cmp_gt
theorem cmp_le' {x y : Int64} : (lg_cmp x y ≤ I3 0) = (x.toInt ≤ y.toInt) := cmp_le
theorem cmp_ge' {x y : Int64} : (I3 0 ≤ lg_cmp x y) = (y.toInt ≤ x.toInt) := cmp_ge
def grow (g g' : sm_H) : Prop := nC g ≤ nC g' ∧ nX g ≤ nX g' ∧ nH g ≤ nH g' ∧ (∀ t, t < nX g → g'.1 96 t = g.1 96 t) ∧ ∀ c, c < nC g → g'.1 70 c = g.1 70 c
theorem bel_grow {g g' : sm_H} (wK : wfK g) (e : ∀ c, c < nC g → g'.1 70 c = g.1 70 c) : ∀ (n x o : Nat), x < 20 + nC g → bel g' n x o = bel g n x o := by
  intro n
  induction n with
  | zero => intro x o _; rfl
  | succ n ih =>
    intro x o hx
    rcases Nat.lt_or_ge x 20 with c | c
    · rw [bel_lt20 g' _ x o c, bel_lt20 g _ x o c]
    · have p2 := (wK.2.2 (x - 20) (by omega)).2
      have ep : par g' (x - 20) = par g (x - 20) := by show tn (g'.1 70 _) = tn (g.1 70 _); rw [e _ (by omega)]
      rw [bel_ge20 g' n x o c, bel_ge20 g n x o c, ep, ih _ o (by omega)]
theorem okO_grow {g g' : sm_H} (G : grow g g') {k : Nat} {n : Int64} (h : okO g k n) : okO g' k n := by
  obtain ⟨g1, g2, g3, g4, g5⟩ := G
  rcases h with h | ⟨h1, t, h2, h3, h4⟩ | ⟨h1, a, h2, h3⟩ | h
  · exact Or.inl h
  · exact Or.inr (Or.inl ⟨by omega, t, by omega, h3, by rw [g4 t h2]; exact h4⟩)
  · exact Or.inr (Or.inr (Or.inl ⟨h1, a, by omega, h3⟩))
  · exact Or.inr (Or.inr (Or.inr h))
theorem okV_grow {g g' : sm_H} (wK : wfK g) (G : grow g g') {s : Nat} {k : Int32} {n : Int64} (h : okV g s k n) : okV g' s k n := by
  rcases h with h | h | ⟨h1, q, h2, h3, h4, h5⟩
  · exact Or.inl h
  · exact Or.inr (Or.inl h)
  · exact Or.inr (Or.inr ⟨h1, q, h2, by have := G.1; omega, by show bel g' 12 q s = true; rw [bel_grow wK G.2.2.2.2 12 q s h3]; exact h4, okO_grow G h5⟩)
theorem cnt_le {x : Int32} {n m : Nat} (h : cnt x n) (e : n ≤ m) : cnt x m := ⟨h.1, Nat.le_trans h.2 e⟩
def tyExt (g g1 : sm_H) : Prop := nT g ≤ nT g1 ∧ ∀ t, t < nT g → g1.1 72 t = g.1 72 t ∧ g1.1 73 t = g.1 73 t ∧ ∀ k, k < tM g t → g1.1 74 (10 * t + k) = g.1 74 (10 * t + k)
def mbExt (g g1 : sm_H) : Prop := nM g ≤ nM g1 ∧ ∀ m, m < nM g → g1.1 83 m = g.1 83 m ∧ g1.1 84 m = g.1 84 m ∧ g1.1 86 m = g.1 86 m ∧ g1.1 87 m = g.1 87 m ∧ g1.1 88 m = g.1 88 m ∧ g1.1 89 m = g.1 89 m
abbrev ext (g g1 : sm_H) : Prop := (nC g ≤ nC g1) ∧ (∀ c, c < nC g → g1.1 70 c = g.1 70 c) ∧ (nV g ≤ nV g1) ∧ (∀ v, v < nV g → g1.1 94 v = g.1 94 v) ∧ (tyExt g g1) ∧ (nH g ≤ nH g1) ∧ (∀ x, x < nH g → g1.1 76 x = g.1 76 x) ∧ (nG g ≤ nG g1) ∧ (∀ k, k < nG g → ty g1 (tn (g1.1 92 k)) = ty g (tn (g.1 92 k))) ∧ (nO g ≤ nO g1) ∧ (mbExt g g1)
theorem ext.c1 {g g1 : sm_H} (F_ : ext g g1) : nC g ≤ nC g1 := F_.1
theorem ext.c2 {g g1 : sm_H} (F_ : ext g g1) : ∀ c, c < nC g → g1.1 70 c = g.1 70 c := F_.2.1
theorem ext.v1 {g g1 : sm_H} (F_ : ext g g1) : nV g ≤ nV g1 := F_.2.2.1
theorem ext.v2 {g g1 : sm_H} (F_ : ext g g1) : ∀ v, v < nV g → g1.1 94 v = g.1 94 v := F_.2.2.2.1
theorem ext.t {g g1 : sm_H} (F_ : ext g g1) : tyExt g g1 := F_.2.2.2.2.1
theorem ext.h1 {g g1 : sm_H} (F_ : ext g g1) : nH g ≤ nH g1 := F_.2.2.2.2.2.1
theorem ext.h2 {g g1 : sm_H} (F_ : ext g g1) : ∀ x, x < nH g → g1.1 76 x = g.1 76 x := F_.2.2.2.2.2.2.1
theorem ext.k1 {g g1 : sm_H} (F_ : ext g g1) : nG g ≤ nG g1 := F_.2.2.2.2.2.2.2.1
theorem ext.k2 {g g1 : sm_H} (F_ : ext g g1) : ∀ k, k < nG g → ty g1 (tn (g1.1 92 k)) = ty g (tn (g.1 92 k)) := F_.2.2.2.2.2.2.2.2.1
theorem ext.o {g g1 : sm_H} (F_ : ext g g1) : nO g ≤ nO g1 := F_.2.2.2.2.2.2.2.2.2.1
theorem ext.m {g g1 : sm_H} (F_ : ext g g1) : mbExt g g1 := F_.2.2.2.2.2.2.2.2.2.2
theorem lst_len (f : Nat → Int32) (n : Nat) : (lst f n).length = n := by unfold lst; rw [List.length_map, List.length_range]
theorem lst_congr {f f1 : Nat → Int32} {n : Nat} (e : ∀ k, k < n → f1 k = f k) : lst f1 n = lst f n := by
  unfold lst
  refine List.map_congr_left (fun k hk => e k ?_)
  exact List.mem_range.mp hk
theorem ext_pl {g g1 : sm_H} (E : ext g g1) {t : Nat} (ht : t < nT g) : pl g1 t = pl g t := by
  obtain ⟨e1, e2, e3⟩ := E.t.2 t ht
  have : tM g1 t = tM g t := by show tn _ = tn _; rw [e2]
  show lst _ (tM g1 t) = lst _ (tM g t)
  rw [this]
  exact lst_congr e3
theorem ext_rs {g g1 : sm_H} (E : ext g g1) {t : Nat} (ht : t < nT g) : rs g1 t = rs g t := (E.t.2 t ht).1
theorem ext_ty {g g1 : sm_H} (E : ext g g1) {x : Nat} (hx : x < nH g) : ty g1 x = ty g x := by show tn _ = tn _; rw [E.h2 x hx]
theorem ext_hpl {g g1 : sm_H} (wH : wfH0 g) (E : ext g g1) {x : Nat} (hx : x < nH g) : hpl g1 x = hpl g x := by
  show pl g1 (ty g1 x) = pl g (ty g x)
  rw [ext_ty E hx, ext_pl E (wH.2 x hx).2.2.1]
theorem ext_hrs {g g1 : sm_H} (wH : wfH0 g) (E : ext g g1) {x : Nat} (hx : x < nH g) : hrs g1 x = hrs g x := by
  show rs g1 (ty g1 x) = rs g (ty g x)
  rw [ext_ty E hx, ext_rs E (wH.2 x hx).2.2.1]
theorem ext_B {g g1 : sm_H} (wK : wfK g) (E : ext g g1) {x o : Nat} (hx : x < 20 + nC g) : B g1 x o = B g x o := bel_grow wK E.c2 12 x o hx
theorem ext_may {g g1 : sm_H} (wK : wfK g) (E : ext g g1) {a b : Nat} {f r : Bool} : mayB g1 a b f r = mayB g a b f r := by
  unfold mayB
  by_cases c : a ≤ 6
  · rw [ext_B wK E (show a + 8 < 20 + nC g by omega)]
  · simp only [c, if_false]
theorem ext_okK {g g1 : sm_H} (wK : wfK g) (cVq : ∀ v, v < nV g → tn (g.1 94 v) < 20 + nC g) (E : ext g g1) {k : Nat} {c : Int64} (h : okK g k c) : okK g1 k c := by
  rcases h with h | ⟨h1, h2 | ⟨v, z1, z2, z3⟩⟩
  · exact Or.inl h
  · exact Or.inr ⟨h1, Or.inl h2⟩
  · refine Or.inr ⟨h1, Or.inr ⟨v, Nat.lt_of_lt_of_le z1 E.v1, z2, ?_⟩⟩
    rw [E.v2 v z1, ext_B wK E (cVq v z1)]; exact z3
theorem ext_mkr {g g1 : sm_H} (wM : wfM g) (E : ext g g1) {m : Nat} (hm : m < nM g) : mkr g1 m ↔ mkr g m := by
  obtain ⟨z1, z2, z3, z4, z5, z6⟩ := E.m.2 m hm
  unfold mkr
  rw [z4, z3, z2, z6]
  constructor
  · rintro ⟨a1, a2, a3, a4⟩
    refine ⟨a1, a2, a3, ?_⟩
    rcases (wM.2.2 m hm).2.2.2.2 with q | ⟨-, -, t, q2, q3⟩
    · rw [a1] at q; exact absurd q.1 (by decide)
    · have h300 : t < 2147483648 := by have : nT g < 2147483648 := by { have := b32 (g.1 67 10); show tn (g.1 67 10) < _; unfold tn Int32.toNatClampNeg; omega }
                                       omega
      rw [q3] at a4 ⊢
      have e : tn (I3 t) = t := I3_clamp h300
      rw [e] at a4 ⊢
      rwa [ext_rs E q2] at a4
  · rintro ⟨a1, a2, a3, a4⟩
    refine ⟨a1, a2, a3, ?_⟩
    rcases (wM.2.2 m hm).2.2.2.2 with q | ⟨-, -, t, q2, q3⟩
    · rw [a1] at q; exact absurd q.1 (by decide)
    · have h300 : t < 2147483648 := by have : nT g < 2147483648 := by { have := b32 (g.1 67 10); show tn (g.1 67 10) < _; unfold tn Int32.toNatClampNeg; omega }
                                       omega
      rw [q3] at a4 ⊢
      have e : tn (I3 t) = t := I3_clamp h300
      rw [e] at a4 ⊢
      rwa [ext_rs E q2]
theorem FS_ext {g g1 : sm_H} (wK : wfK g) (wT : wfT g) (wH : wfH0 g) (wM : wfM g) (cVq : ∀ v, v < nV g → tn (g.1 94 v) < 20 + nC g) (cGq : ∀ k, k < nG g → tn (g.1 92 k) < nH g) (cGq1 : ∀ k, k < nG g → tn (g1.1 92 k) < nH g1) (E : ext g g1) {f : Nat} {a b : Int32} {c : Int64} {ps : List Int32} {r : Int32} {l : List Int32} (h : FS g f a b c ps r l) : FS g1 f a b c ps r l := by
  have hc := E.c1
  have hh := E.h1
  have ht := E.t.1
  have hm := E.m.1
  have ho := E.o
  have hg := E.k1
  unfold FS at h ⊢
  rcases h with ⟨f0, a1, a2, a3, k, a4, a5, a6, a7⟩ | ⟨f0, ⟨p, a1, a2⟩, a3⟩ | ⟨f0, a1, a2, a3, k, a4, a5, a6⟩ | h | ⟨f0, p, n, t, a1, a2, a3, a4, a5, a6, a7, a8⟩ | ⟨f0, p, t, a1, a2, a3, a4, a5, a6, a7, a8, a9⟩ | ⟨f0, p, n, a1, a2, a3, a4, a5, a6, a7⟩ | ⟨f0, p, q, n, a1, a2, a3, a4, a5, a6, a7, a8⟩ | ⟨f0, p, q, n, a1, a2, a3, a4, a5, a6, a7, a8, a9⟩ | ⟨f0, p, q, a1, a2, a3, a4, a5, a6⟩ | ⟨f0, p, k, n, a1, a2, a3, a4, a5, a6, a7, a8, a9, a10⟩ | ⟨f0, p, n, k, m, a1, a2, a3, a4, a5, a6, a7, a8, a9⟩ | ⟨f0, p, t, a1, a2, a3, a4, ⟨a5, a6, a7⟩, a8, a9⟩ | ⟨f0, p, q, s, a1, a2, a3, a4, a5, a6, a7, a8, a9⟩ | ⟨f0, p, q, k, m, a1, a2, a3, a4, a5, a6, a7, a8, a9, a10, a11⟩ | ⟨f0, p, q, m, a1, a2, a3, a4, a5, a6, a7, a8⟩ | ⟨f0, p, m, a1, a2, a3, a4, a5, a6, a7⟩ | h | ⟨f0, a1, k, e, a2, a3, a4, a5, a6, a7⟩ | h | ⟨f0, a1, t, a2, a3, a4, a5⟩ | ⟨f0, a1, n, a2, a3, a4, a5⟩ | ⟨f0, p, q, n, a1, a2, a3, a4, a5, a6, a7, a8⟩ | ⟨f0, a1, ⟨k, a2, a3, a4⟩, a5⟩ | h | h | ⟨f0, a1, t, a2, a3, a4, a5⟩ | ⟨f0, a1, m, w, a2, a3, a4, a5, a6, a7, a8, a9, a10⟩ | ⟨f0, a1, m, k, a2, a3, a4, a5, a6, a7, a8, a9, a10, a11, a12, a13⟩ | ⟨f0, a1, m, a2, a3, a4, a5, a6⟩
  · exact Or.inl ⟨f0, a1, a2, a3, k, a4, by omega, a6, ext_okK wK cVq E a7⟩
  · exact Or.inr (Or.inl ⟨f0, ⟨p, by omega, a2⟩, a3⟩)
  · exact Or.inr (Or.inr (Or.inl ⟨f0, a1, a2, a3, k, a4, by omega, a6⟩))
  · exact Or.inr (Or.inr (Or.inr (Or.inl h)))
  · refine Or.inr (Or.inr (Or.inr (Or.inr (Or.inl ⟨f0, p, n, t, by omega, a2, ?_, a4, by omega, a6, ?_, ?_⟩))))
    · rw [ext_hpl wH E a1]; exact a3
    · rw [ext_hrs wH E a1]; exact a7
    · rw [ext_hpl wH E a1, ext_pl E a5]; exact a8
  · refine Or.inr (Or.inr (Or.inr (Or.inr (Or.inr (Or.inl ⟨f0, p, t, by omega, by omega, a3, ?_, ?_, ?_, ?_, a8, ?_⟩)))))
    · rw [ext_hrs wH E a1]; exact a4
    · rw [ext_rs E a2]; exact a5
    · rw [ext_pl E a2]; exact a6
    · rw [ext_hpl wH E a1]; exact a7
    · rw [ext_hpl wH E a1]; exact a9
  · refine Or.inr (Or.inr (Or.inr (Or.inr (Or.inr (Or.inr (Or.inl ⟨f0, p, n, by omega, a2, ?_, a4, ?_, ?_, ?_⟩))))))
    · rw [ext_hpl wH E a1]; exact a3
    · rw [ext_hpl wH E a1]; exact ext_okK wK cVq E a5
    · rw [ext_hrs wH E a1]; exact a6
    · rw [ext_hpl wH E a1]; exact a7
  · refine Or.inr (Or.inr (Or.inr (Or.inr (Or.inr (Or.inr (Or.inr (Or.inl ⟨f0, p, q, n, by omega, by omega, a3, a4, ?_⟩)))))))
    rw [ext_hpl wH E a1, ext_hpl wH E a2, ext_hrs wH E a1, ext_hrs wH E a2]; exact ⟨a5, a6, a7, a8⟩
  · refine Or.inr (Or.inr (Or.inr (Or.inr (Or.inr (Or.inr (Or.inr (Or.inr (Or.inl ⟨f0, p, q, n, by omega, by omega, a3, a4, ?_⟩))))))))
    rw [ext_hpl wH E a1, ext_hpl wH E a2, ext_hrs wH E a1, ext_hrs wH E a2]; exact ⟨a5, a6, a7, a8, a9⟩
  · refine Or.inr (Or.inr (Or.inr (Or.inr (Or.inr (Or.inr (Or.inr (Or.inr (Or.inr (Or.inl ⟨f0, p, q, by omega, by omega, a3, ?_⟩)))))))))
    rw [ext_hpl wH E a1, ext_hpl wH E a2, ext_hrs wH E a1, ext_hrs wH E a2]; exact ⟨a4, a5, a6⟩
  · refine Or.inr (Or.inr (Or.inr (Or.inr (Or.inr (Or.inr (Or.inr (Or.inr (Or.inr (Or.inr (Or.inl ⟨f0, p, k, n, by omega, a2, a3, a4, a5, ?_⟩))))))))))
    rw [ext_hpl wH E a1, ext_hrs wH E a1]; exact ⟨a6, a7, a8, a9, a10⟩
  · refine Or.inr (Or.inr (Or.inr (Or.inr (Or.inr (Or.inr (Or.inr (Or.inr (Or.inr (Or.inr (Or.inr (Or.inl ⟨f0, p, n, k, m, by omega, a2, a3, a4, a5, a6, ?_⟩)))))))))))
    rw [ext_hpl wH E a1, ext_hrs wH E a1]; exact ⟨a7, a8, a9⟩
  · refine Or.inr (Or.inr (Or.inr (Or.inr (Or.inr (Or.inr (Or.inr (Or.inr (Or.inr (Or.inr (Or.inr (Or.inr (Or.inl ⟨f0, p, t, by omega, a2, by omega, a4, ?_, ?_⟩))))))))))))
    · have tp := (wH.2 p a1).2.2.1
      have e1 : ∀ u, u < nT g → tM g1 u = tM g u := fun u hu => by show tn _ = tn _; rw [(E.t.2 u hu).2.1]
      have e2 : ∀ u, u < nT g → tR g1 u = tR g u := fun u hu => by show tn _ = tn _; rw [(E.t.2 u hu).1]
      have e3 : ∀ u k, u < nT g → k < tM g u → tP g1 u k = tP g u k := fun u k hu hk => by show tn _ = tn _; rw [(E.t.2 u hu).2.2 k hk]
      unfold mayAs
      rw [ext_ty E a1, e1 _ tp, e1 _ a3, e2 _ tp, e2 _ a3]
      refine ⟨a5, fun k hk => ?_, by rw [ext_may wK E]; exact a7⟩
      rw [e3 _ k tp hk, e3 _ k a3 (by rw [a5]; exact hk), ext_may wK E]
      exact a6 k hk
    · rw [ext_rs E a3, ext_pl E a3]; exact ⟨a8, a9⟩
  · refine Or.inr (Or.inr (Or.inr (Or.inr (Or.inr (Or.inr (Or.inr (Or.inr (Or.inr (Or.inr (Or.inr (Or.inr (Or.inr (Or.inl ⟨f0, p, q, s, by omega, by omega, by omega, a4, ?_⟩)))))))))))))
    rw [ext_hpl wH E a1, ext_hpl wH E a2, ext_hrs wH E a1, ext_hrs wH E a2, ext_ty E a2, ext_ty E a3]; exact ⟨a5, a6, a7, a8, a9⟩
  · refine Or.inr (Or.inr (Or.inr (Or.inr (Or.inr (Or.inr (Or.inr (Or.inr (Or.inr (Or.inr (Or.inr (Or.inr (Or.inr (Or.inr (Or.inl ⟨f0, p, q, k, m, by omega, by omega, a3, by omega, a5, ?_⟩))))))))))))))
    rw [ext_hpl wH E a1, ext_hpl wH E a2, ext_hrs wH E a1, ext_hrs wH E a2, ext_B wK E a4]; exact ⟨a6, a7, a8, a9, a10, a11⟩
  · refine Or.inr (Or.inr (Or.inr (Or.inr (Or.inr (Or.inr (Or.inr (Or.inr (Or.inr (Or.inr (Or.inr (Or.inr (Or.inr (Or.inr (Or.inr (Or.inl ⟨f0, p, q, m, by omega, by omega, a3, ?_⟩)))))))))))))))
    rw [ext_hpl wH E a1, ext_hpl wH E a2, ext_hrs wH E a1, ext_hrs wH E a2]; exact ⟨a4, a5, a6, a7, a8⟩
  · refine Or.inr (Or.inr (Or.inr (Or.inr (Or.inr (Or.inr (Or.inr (Or.inr (Or.inr (Or.inr (Or.inr (Or.inr (Or.inr (Or.inr (Or.inr (Or.inr (Or.inl ⟨f0, p, m, by omega, a2, a3, fun k hk => ?_, ?_⟩))))))))))))))))
    · obtain ⟨q, z1, z2, z3⟩ := a4 k hk
      exact ⟨q, by omega, z2, by rw [ext_ty E z1, ext_ty E a1]; exact z3⟩
    · rw [ext_hpl wH E a1, ext_hrs wH E a1]; exact ⟨a5, a6, a7⟩
  · refine Or.inr (Or.inr (Or.inr (Or.inr (Or.inr (Or.inr (Or.inr (Or.inr (Or.inr (Or.inr (Or.inr (Or.inr (Or.inr (Or.inr (Or.inr (Or.inr (Or.inr (Or.inl ?_)))))))))))))))))
    obtain ⟨f0, t, n, a1, a2, a3, a4, a5, a6, a7, a8, a9⟩ := h
    have H500 : nH g < 2147483648 := by { have w500 : nH g ≤ 500 := wH.1.2; omega }
    have hx : ∀ k, k < 4 * n → at0 ps k ≠ -1 → tn (at0 ps k) < nH g := fun k hk ne => by
      rcases a6 k hk with z | ⟨p, z1, z2⟩
      · exact absurd z ne
      · rw [z2]; show (I3 p).toNatClampNeg < _; rw [I3_clamp (by omega)]; exact z1
    have ev : vrs g1 ps n = vrs g ps n := by
      unfold vrs
      congr 1
      refine List.map_congr_left (fun i hi => ?_)
      have hi := List.mem_range.mp hi
      unfold vk
      by_cases c1 : at0 ps (4 * i + 1) ≠ -1
      · rw [if_pos c1, if_pos c1, ext_hrs wH E (hx _ (by omega) c1)]
      · rw [if_neg c1, if_neg c1]
        by_cases c2 : at0 ps (4 * i) ≠ -1
        · rw [if_pos c2, if_pos c2, ext_hrs wH E (hx _ (by omega) c2)]
        · rw [if_neg c2, if_neg c2]
    refine ⟨f0, t, n, by omega, a2, a3, a4, a5, fun k hk => ?_, a7, fun i hi => ?_, ?_⟩
    · rcases a6 k hk with z | ⟨p, z1, z2⟩
      · exact Or.inl z
      · exact Or.inr ⟨p, by omega, z2⟩
    · obtain ⟨b1, b2, b3, b4, b5, b6⟩ := a8 i hi
      rw [ext_rs E a1, ext_pl E a1, ev]
      refine ⟨fun n1 n2 => ?_, b2, fun n1 => ?_, fun n1 => ?_, fun n1 => ?_, fun z z1 z2 n1 => ?_⟩
      · rw [ext_hrs wH E (hx _ (by omega) n1), ext_hrs wH E (hx _ (by omega) n2)]; exact b1 n1 n2
      · rw [ext_hrs wH E (hx _ (by omega) n1)]; exact b3 n1
      · rw [ext_hrs wH E (hx _ (by omega) n1)]; exact b4 n1
      · rw [ext_hpl wH E (hx _ (by omega) n1)]; exact b5 n1
      · rw [ext_hpl wH E (hx _ (by omega) n1)]; exact b6 z z1 z2 n1
    · rw [ext_rs E a1, ext_pl E a1]; exact a9
  · refine Or.inr (Or.inr (Or.inr (Or.inr (Or.inr (Or.inr (Or.inr (Or.inr (Or.inr (Or.inr (Or.inr (Or.inr (Or.inr (Or.inr (Or.inr (Or.inr (Or.inr (Or.inr (Or.inl ⟨f0, a1, k, e, by omega, a3, by omega, a5, ?_, a7⟩))))))))))))))))))
    rw [ext_B wK E a4]; exact a6
  · exact Or.inr (Or.inr (Or.inr (Or.inr (Or.inr (Or.inr (Or.inr (Or.inr (Or.inr (Or.inr (Or.inr (Or.inr (Or.inr (Or.inr (Or.inr (Or.inr (Or.inr (Or.inr (Or.inr (Or.inl h)))))))))))))))))))
  · refine Or.inr (Or.inr (Or.inr (Or.inr (Or.inr (Or.inr (Or.inr (Or.inr (Or.inr (Or.inr (Or.inr (Or.inr (Or.inr (Or.inr (Or.inr (Or.inr (Or.inr (Or.inr (Or.inr (Or.inr (Or.inl ⟨f0, a1, t, by omega, a3, ?_⟩))))))))))))))))))))
    rw [ext_rs E a2, ext_pl E a2]; exact ⟨a4, a5⟩
  · refine Or.inr (Or.inr (Or.inr (Or.inr (Or.inr (Or.inr (Or.inr (Or.inr (Or.inr (Or.inr (Or.inr (Or.inr (Or.inr (Or.inr (Or.inr (Or.inr (Or.inr (Or.inr (Or.inr (Or.inr (Or.inr (Or.inl ⟨f0, a1, n, by omega, a3, ?_⟩)))))))))))))))))))))
    have et : ty g1 (tn (g1.1 92 n)) = ty g (tn (g.1 92 n)) := E.k2 n a2
    have lt := (wH.2 _ (cGq n a2)).2.2.1
    refine ⟨?_, ?_⟩
    · show r = rs g1 (ty g1 _); rw [et, ext_rs E lt]; exact a4
    · show l = pl g1 (ty g1 _); rw [et, ext_pl E lt]; exact a5
  · refine Or.inr (Or.inr (Or.inr (Or.inr (Or.inr (Or.inr (Or.inr (Or.inr (Or.inr (Or.inr (Or.inr (Or.inr (Or.inr (Or.inr (Or.inr (Or.inr (Or.inr (Or.inr (Or.inr (Or.inr (Or.inr (Or.inr (Or.inl ⟨f0, p, q, n, by omega, by omega, a3, ?_⟩))))))))))))))))))))))
    rw [ext_hpl wH E a1, ext_hrs wH E a1, ext_ty E a1, ext_ty E a2]; exact ⟨a4, by omega, a6, a7, a8⟩
  · exact Or.inr (Or.inr (Or.inr (Or.inr (Or.inr (Or.inr (Or.inr (Or.inr (Or.inr (Or.inr (Or.inr (Or.inr (Or.inr (Or.inr (Or.inr (Or.inr (Or.inr (Or.inr (Or.inr (Or.inr (Or.inr (Or.inr (Or.inr (Or.inl ⟨f0, a1, ⟨k, a2, by omega, a4⟩, a5⟩)))))))))))))))))))))))
  · exact Or.inr (Or.inr (Or.inr (Or.inr (Or.inr (Or.inr (Or.inr (Or.inr (Or.inr (Or.inr (Or.inr (Or.inr (Or.inr (Or.inr (Or.inr (Or.inr (Or.inr (Or.inr (Or.inr (Or.inr (Or.inr (Or.inr (Or.inr (Or.inr (Or.inl h))))))))))))))))))))))))
  · exact Or.inr (Or.inr (Or.inr (Or.inr (Or.inr (Or.inr (Or.inr (Or.inr (Or.inr (Or.inr (Or.inr (Or.inr (Or.inr (Or.inr (Or.inr (Or.inr (Or.inr (Or.inr (Or.inr (Or.inr (Or.inr (Or.inr (Or.inr (Or.inr (Or.inr (Or.inl h)))))))))))))))))))))))))
  · refine Or.inr (Or.inr (Or.inr (Or.inr (Or.inr (Or.inr (Or.inr (Or.inr (Or.inr (Or.inr (Or.inr (Or.inr (Or.inr (Or.inr (Or.inr (Or.inr (Or.inr (Or.inr (Or.inr (Or.inr (Or.inr (Or.inr (Or.inr (Or.inr (Or.inr (Or.inr (Or.inl ⟨f0, a1, t, by omega, a3, ?_⟩))))))))))))))))))))))))))
    rw [ext_rs E a2, ext_pl E a2]; exact ⟨a4, a5⟩
  · refine Or.inr (Or.inr (Or.inr (Or.inr (Or.inr (Or.inr (Or.inr (Or.inr (Or.inr (Or.inr (Or.inr (Or.inr (Or.inr (Or.inr (Or.inr (Or.inr (Or.inr (Or.inr (Or.inr (Or.inr (Or.inr (Or.inr (Or.inr (Or.inr (Or.inr (Or.inr (Or.inr (Or.inl ⟨f0, a1, m, w, by omega, a3, ?_⟩)))))))))))))))))))))))))))
    obtain ⟨z1, z2, z3, z4, z5, z6⟩ := E.m.2 m a2
    rw [z1, z3, z4, z5]
    refine ⟨a4, a5, a6, a7, a8, a9, ?_⟩
    rcases a10 with q | ⟨q1, k, q2, q3, q4, q5⟩
    · exact Or.inl q
    · exact Or.inr ⟨q1, k, q2, by omega, by rw [ext_B wK E q3]; exact q4, q5⟩
  · refine Or.inr (Or.inr (Or.inr (Or.inr (Or.inr (Or.inr (Or.inr (Or.inr (Or.inr (Or.inr (Or.inr (Or.inr (Or.inr (Or.inr (Or.inr (Or.inr (Or.inr (Or.inr (Or.inr (Or.inr (Or.inr (Or.inr (Or.inr (Or.inr (Or.inr (Or.inr (Or.inr (Or.inr (Or.inl ⟨f0, a1, m, k, by omega, a3, ?_⟩))))))))))))))))))))))))))))
    obtain ⟨z1, z2, z3, z4, z5, z6⟩ := E.m.2 m a2
    rw [z1, z2, z3, z4, z6, ext_mkr wM E a2, ext_B wK E a7]
    refine ⟨a4, a5, a6, by omega, a8, a9, a10, fun n hn => ?_, ?_⟩
    · obtain ⟨y1, y2, y3, y4, y5, y6⟩ := E.m.2 n (by omega)
      rw [y1, y2, y3, y4, y6, ext_mkr wM E (by omega)]
      exact a11 n hn
    · rcases (wM.2.2 m a2).2.2.2.2 with q | ⟨-, -, t, q2, q3⟩
      · rw [a4] at q; exact absurd q.1 (by decide)
      · have e : tn (g.1 89 m) = t := by rw [q3]; exact I3_clamp (by have w300 : nT g ≤ 300 := wT.1.2; omega)
        rw [e] at a12 a13 ⊢
        rw [ext_rs E q2, ext_pl E q2]; exact ⟨a12, a13⟩
  · refine Or.inr (Or.inr (Or.inr (Or.inr (Or.inr (Or.inr (Or.inr (Or.inr (Or.inr (Or.inr (Or.inr (Or.inr (Or.inr (Or.inr (Or.inr (Or.inr (Or.inr (Or.inr (Or.inr (Or.inr (Or.inr (Or.inr (Or.inr (Or.inr (Or.inr (Or.inr (Or.inr (Or.inr (Or.inr ⟨f0, a1, m, by omega, a3, ?_⟩))))))))))))))))))))))))))))
    obtain ⟨z1, z2, z3, z4, z5, z6⟩ := E.m.2 m a2
    rw [z1, z6, ext_mkr wM E a2]
    refine ⟨a4, a5, ?_⟩
    rcases (wM.2.2 m a2).2.2.2.2 with q | ⟨-, -, t, q2, q3⟩
    · rw [a4.1] at q; exact absurd q.1 (by decide)
    · have e : tn (g.1 89 m) = t := by rw [q3]; exact I3_clamp (by have w300 : nT g ≤ 300 := wT.1.2; omega)
      rw [e] at a6 ⊢
      rw [ext_pl E q2]; exact a6
theorem FS_vw (g : sm_H) (f : Nat) (a b : Int32) (c : Int64) (ps : List Int32) (r : Int32) (l : List Int32) : FS (vw g) f a b c ps r l = FS g f a b c ps r l := rfl
theorem wfF_0 (g : sm_H) : wfF g = wfF0 g := by
  unfold wfF wfF0
  have e : FS (vw g) = FS g := by funext f a b c ps r l; exact FS_vw g f a b c ps r l
  rw [e]; rfl
abbrev same (g g1 : sm_H) : Prop := (nH g1 = nH g) ∧ (∀ x, x < nH g → g1.1 75 x = g.1 75 x ∧ g1.1 77 x = g.1 77 x ∧ g1.1 78 x = g.1 78 x ∧ g1.2.1 79 x = g.2.1 79 x ∧ g1.1 80 x = g.1 80 x) ∧ (∀ x i, x < nH g → i < pm g x → g1.1 81 (24 * x + i) = g.1 81 (24 * x + i))
theorem same.n {g g1 : sm_H} (F_ : same g g1) : nH g1 = nH g := F_.1
theorem same.x {g g1 : sm_H} (F_ : same g g1) : ∀ x, x < nH g → g1.1 75 x = g.1 75 x ∧ g1.1 77 x = g.1 77 x ∧ g1.1 78 x = g.1 78 x ∧ g1.2.1 79 x = g.2.1 79 x ∧ g1.1 80 x = g.1 80 x := F_.2.1
theorem same.p {g g1 : sm_H} (F_ : same g g1) : ∀ x i, x < nH g → i < pm g x → g1.1 81 (24 * x + i) = g.1 81 (24 * x + i) := F_.2.2
theorem prt_ext {g g1 : sm_H} {x : Nat} (e : g1.1 80 x = g.1 80 x) (p : ∀ i, i < pm g x → g1.1 81 (24 * x + i) = g.1 81 (24 * x + i)) : prt g1 x = prt g x := by
  have : pm g1 x = pm g x := by show tn _ = tn _; rw [e]
  show lst _ (pm g1 x) = lst _ (pm g x)
  rw [this]
  exact lst_congr p
abbrev base (g : sm_H) : Prop := (wfK g) ∧ (wfT g) ∧ (wfH0 g) ∧ (wfM g) ∧ (∀ v, v < nV g → tn (g.1 94 v) < 20 + nC g) ∧ (∀ k, k < nG g → tn (g.1 92 k) < nH g)
theorem base.k {g : sm_H} (F_ : base g) : wfK g := F_.1
theorem base.t {g : sm_H} (F_ : base g) : wfT g := F_.2.1
theorem base.h {g : sm_H} (F_ : base g) : wfH0 g := F_.2.2.1
theorem base.m {g : sm_H} (F_ : base g) : wfM g := F_.2.2.2.1
theorem base.v {g : sm_H} (F_ : base g) : ∀ v, v < nV g → tn (g.1 94 v) < 20 + nC g := F_.2.2.2.2.1
theorem base.g {g : sm_H} (F_ : base g) : ∀ k, k < nG g → tn (g.1 92 k) < nH g := F_.2.2.2.2.2
theorem I1_base {h g : sm_H} (I : I1 h g) : base g := by
  obtain ⟨wK, cK, wT, cT, wH, cH, wM, cM, cR, cP, cG, cO, cV, wX, cX, cXh, cU, cY, cF, cZ, wF⟩ := I
  have h12 := wK.2.1
  refine ⟨wK, wT, wH, wM, fun v hv => ?_, fun k hk => ?_⟩
  · obtain ⟨q, z1, z2, -⟩ := cV.2.2.2 v hv
    rw [z1]; show (I3 q).toNatClampNeg < _; rw [I3_clamp (by omega)]; exact z2
  · obtain ⟨a, z1, z2⟩ := cG.2.2.2 k hk
    have w500 : nH g ≤ 500 := wH.1.2
    rw [z2]; show (I3 a).toNatClampNeg < _; rw [I3_clamp (by omega)]; exact z1
theorem FS_up {g g1 : sm_H} (b : base g) (cGq1 : ∀ k, k < nG g → tn (g1.1 92 k) < nH g1) (E : ext g g1) {f : Nat} {a c : Int32} {d : Int64} {ps : List Int32} {r : Int32} {l : List Int32} (h : FS g f a c d ps r l) : FS g1 f a c d ps r l := FS_ext b.k b.t b.h b.m b.v b.g cGq1 E h
theorem mrel_ext {g g1 : sm_H} (b : base g) (E : ext g g1) {m : Nat} (hm : m < nM g) (e90 : g1.1 90 m = g.1 90 m) (w : g.1 87 m = 0 → rs g (tn (g.1 89 m)) = hrs g (tn (g.1 90 m)) ∧ hpl g (tn (g.1 90 m)) = if g.1 86 m = 0 then g.1 83 m :: pl g (tn (g.1 89 m)) else pl g (tn (g.1 89 m))) : g1.1 87 m = 0 → rs g1 (tn (g1.1 89 m)) = hrs g1 (tn (g1.1 90 m)) ∧ hpl g1 (tn (g1.1 90 m)) = if g1.1 86 m = 0 then g1.1 83 m :: pl g1 (tn (g1.1 89 m)) else pl g1 (tn (g1.1 89 m)) := by
  obtain ⟨z1, z2, z3, z4, z5, z6⟩ := E.m.2 m hm
  rw [z1, z3, z4, z6, e90]
  intro q
  rcases (b.m.2.2 m hm).2.2.2.2 with p | ⟨-, ⟨a, q1, q2⟩, t, q3, q4⟩
  · rw [q] at p; exact absurd p.1 (by decide)
  · have w300 : nT g ≤ 300 := b.t.1.2
    have w500 : nH g ≤ 500 := b.h.1.2
    have e : tn (g.1 89 m) = t := by rw [q4]; exact I3_clamp (by omega)
    have e' : tn (g.1 90 m) = a := by rw [q2]; exact I3_clamp (by omega)
    have w := w q
    rw [e, e'] at w ⊢
    rw [ext_rs E q3, ext_hrs b.h E q1, ext_hpl b.h E q1, ext_pl E q3]; exact w
theorem wfF_ext {g g1 : sm_H} (b : base g) (cGq1 : ∀ k, k < nG g → tn (g1.1 92 k) < nH g1) (E : ext g g1) (s : same g g1) (ms : nM g1 = nM g ∧ ∀ m, m < nM g → g1.1 90 m = g.1 90 m) (w : wfF g) : wfF g1 := by
  rw [wfF_0] at w ⊢
  refine ⟨fun x hx => ?_, fun m hm => ?_⟩
  · have hx : x < nH g := by rw [← s.n]; exact hx
    obtain ⟨z1, z2, z3, z4, z5⟩ := s.x x hx
    have ef : fm g1 x = fm g x := by show tn _ = tn _; rw [z1]
    rw [ef, z2, z3, z4, prt_ext z5 (s.p x · hx), ext_hrs b.h E hx, ext_hpl b.h E hx]
    exact FS_up b cGq1 E (w.1 x hx)
  · have hm : m < nM g := by rw [← ms.1]; exact hm
    exact mrel_ext b E hm (ms.2 m hm) (w.2 m hm)
