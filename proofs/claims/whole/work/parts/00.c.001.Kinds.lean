abbrev nC (g : sm_H) : Nat := (g.1 67 6).toNatClampNeg
abbrev par (g : sm_H) (c : Nat) : Nat := (g.1 70 c).toNatClampNeg
def kBase (x o : Nat) : Bool := Nat.beq x o || (Nat.ble 7 x && Nat.beq o 7) || (Nat.beq o 8 && (Nat.beq x 10 || Nat.beq x 11 || Nat.beq x 13 || Nat.beq x 14))
def bel (g : sm_H) : Nat → Nat → Nat → Bool
  | 0, x, o => kBase x o
  | n + 1, x, o => bif Nat.blt x 20 then kBase x o else Nat.beq x o || bel g n (par g (x - 20)) o
abbrev B (g : sm_H) (x o : Nat) : Bool := bel g 12 x o
def wfK (g : sm_H) : Prop := g.1 67 6 = I3 (nC g) ∧ nC g ≤ 12 ∧ ∀ c, c < nC g → g.1 70 c = I3 (par g c) ∧ (par g c = 7 ∨ par g c = 19 ∨ (20 ≤ par g c ∧ par g c < 20 + c))
def cK (h g : sm_H) : Prop := h.1 1 3 = I3 (20 + nC g) ∧ (∀ c, c < nC g → h.1 3 (20 + c) = g.1 70 c ∧ h.1 4 (20 + c) = g.1 71 c) ∧ ∀ a b, a < 20 + nC g → b < 32 → h.1 2 (a * 32 + b) = b2 (B g a b)
theorem bel_lt20 (g : sm_H) (n x o : Nat) (h : x < 20) : bel g n x o = kBase x o := by
  cases n with
  | zero => rfl
  | succ n => show (bif Nat.blt x 20 then kBase x o else _) = _; rw [Nat.blt_eq.mpr h]; rfl
theorem bel_ge20 (g : sm_H) (n x o : Nat) (h : 20 ≤ x) : bel g (n + 1) x o = (Nat.beq x o || bel g n (par g (x - 20)) o) := by
  show (bif Nat.blt x 20 then kBase x o else _) = _
  have : Nat.blt x 20 = false := by
    cases q : Nat.blt x 20 with
    | false => rfl
    | true => have := Nat.blt_eq.mp q; omega
  rw [this]; rfl
theorem bel_fuel {g : sm_H} (hw : wfK g) : ∀ (n m x o : Nat), x < 20 + nC g → x < 20 + n → x < 20 + m → bel g n x o = bel g m x o := by
  intro n
  induction n with
  | zero => intro m x o _ h1 _; rw [bel_lt20 g 0 x o (by omega), bel_lt20 g m x o (by omega)]
  | succ n ih =>
    intro m x o h0 h1 h2
    rcases Nat.lt_or_ge x 20 with c | c
    · rw [bel_lt20 g _ x o c, bel_lt20 g m x o c]
    · obtain ⟨m, rfl⟩ : ∃ k, m = k + 1 := ⟨m - 1, by omega⟩
      rw [bel_ge20 g n x o c, bel_ge20 g m x o c]
      have := (hw.2.2 (x - 20) (by omega)).2
      rw [ih m (par g (x - 20)) o (by omega) (by omega) (by omega)]
theorem B_ge20 {g : sm_H} (hw : wfK g) {x o : Nat} (hx : x < 20 + nC g) (h : 20 ≤ x) : B g x o = (Nat.beq x o || B g (par g (x - 20)) o) := by
  have h12 := hw.2.1
  have := (hw.2.2 (x - 20) (by omega)).2
  show bel g 12 x o = _
  rw [bel_ge20 g 11 x o h, bel_fuel hw 11 12 _ o (by omega) (by omega) (by omega)]
theorem B_lt20 {g : sm_H} {x o : Nat} (h : x < 20) : B g x o = kBase x o := bel_lt20 g 12 x o h
def isK (g : sm_H) (x : Int32) : Bool := decide (¬ x < 0 ∧ x < I3 (20 + nC g))
theorem isK_I {g : sm_H} (hw : wfK g) {a : Nat} (ha : a < 2147483648) : isK g (I3 a) = decide (a < 20 + nC g) := by
  have := hw.2.1
  unfold isK
  simp only [I3_lt ha (show 20 + nC g < 2147483648 by omega), I3_nn ha, not_false_eq_true, true_and]
theorem isK_neg {g : sm_H} {x : Int32} (h : x < 0) : isK g x = false := by
  unfold isK; simp [h]
def BK (g : sm_H) (x y : Int32) : Bool := isK g x && isK g y && B g x.toNatClampNeg y.toNatClampNeg
theorem C_below {h g : sm_H} (hw : wfK g) (hc : cK h g) (x y : Int32) : F_60 x y h = some (b2 (BK g x y), h) := by
  have h12 := hw.2.1
  unfold BK
  show F_60_0 x y h = _
  unfold F_60_0 F_60_24
  rw [hc.1]
  rcases I3_cases x with ⟨a, ha, rfl⟩ | hn
  · rw [if_neg (I3_nn ha)]
    simp only [isK_I hw ha, I3_clamp ha, I3_le (show 20 + nC g < 2147483648 by omega) ha]
    rcases Nat.lt_or_ge a (20 + nC g) with c | c
    · rw [if_neg (by omega)]
      rcases I3_cases y with ⟨b, hb, rfl⟩ | hn
      · rw [if_neg (I3_nn hb)]
        simp only [isK_I hw hb, I3_clamp hb, I3_lt hb (show 20 + nC g < 2147483648 by omega)]
        rcases Nat.lt_or_ge b (20 + nC g) with c2 | c2
        · rw [if_pos c2, I3_lit, I3_mul, I3_add, ldZ_I (by omega) (by omega), hc.2.2 a b c (by omega)]
          show (if b2 (B g a b) = 0 ∨ b2 (B g a b) = 1 then some (b2 (B g a b), h) else none) = _
          rw [if_pos (b2_ok _)]; simp [c, c2]
        · rw [if_neg (by omega)]; simp [show ¬ b < 20 + nC g by omega]; rfl
      · rw [if_pos hn, isK_neg hn]; simp; rfl
    · rw [if_pos c]; simp [show ¬ a < 20 + nC g by omega]; rfl
  · rw [if_pos hn, isK_neg hn]; rfl
