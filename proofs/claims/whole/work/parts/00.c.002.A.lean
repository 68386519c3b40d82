def inR (x : Int32) (n : Nat) : Bool := decide (0 ≤ x.toInt ∧ x.toInt < n)
theorem inR_I {a n : Nat} (ha : a < 2147483648) : inR (I3 a) n = decide (a < n) := by
  unfold inR; rw [I3_toInt ha]; congr 1; simp only [eq_iff_iff]; omega
theorem inR_c (x : Int32) (n : Nat) (hn : n ≤ 2147483648) : (∃ a, a < n ∧ x = I3 a ∧ inR x n = true) ∨ inR x n = false := by
  rcases I3_cases x with ⟨a, ha, rfl⟩ | hx
  · rw [inR_I ha]
    by_cases c : a < n
    · exact Or.inl ⟨a, c, rfl, by simp [c]⟩
    · exact Or.inr (by simp [c])
  · right
    unfold inR
    rw [Int32.lt_iff_toInt_lt] at hx
    have : (0 : Int32).toInt = 0 := rfl
    simp only [decide_eq_false_iff_not]; omega
theorem inR_x {x : Int32} {n : Nat} (hn : n ≤ 2147483648) (h : inR x n = true) : ∃ a, a < n ∧ x = I3 a := by
  rcases inR_c x n hn with ⟨a, h1, h2, -⟩ | z
  · exact ⟨a, h1, h2⟩
  · rw [h] at z; cases z
theorem rng1 {α : Type} {x H : Int32} {n : Nat} {a b : α} (e : H = I3 n) (hn : n < 2147483648) : (if x < 0 then a else if H ≤ x then a else b) = (bif inR x n then b else a) := by
  subst e
  rcases I3_cases x with ⟨k, hk, rfl⟩ | hx
  · rw [if_neg (I3_nn hk), inR_I hk]
    by_cases c : k < n
    · rw [if_neg (by rw [I3_le hn hk]; omega)]; simp [c]
    · rw [if_pos (by rw [I3_le hn hk]; omega)]; simp [c]
  · rw [if_pos hx]
    rcases inR_c x n (by omega) with ⟨k, h1, h2, h3⟩ | h3
    · exact absurd h2 (neg_ne_I3 hx (by omega))
    · rw [h3]; rfl
theorem rng2 {α : Type} {x H : Int32} {n : Nat} {a b : α} (e : H = I3 n) (hn : n < 2147483648) : (if x < 0 then a else if x < H then b else a) = (bif inR x n then b else a) := by
  subst e
  rcases I3_cases x with ⟨k, hk, rfl⟩ | hx
  · rw [if_neg (I3_nn hk), inR_I hk]
    by_cases c : k < n
    · rw [if_pos (by rw [I3_lt hk hn]; omega)]; simp [c]
    · rw [if_neg (by rw [I3_lt hk hn]; omega)]; simp [c]
  · rw [if_pos hx]
    rcases inR_c x n (by omega) with ⟨k, h1, h2, h3⟩ | h3
    · exact absurd h2 (neg_ne_I3 hx (by omega))
    · rw [h3]; rfl
theorem cb2 {h : sm_H} {b : Bool} : (bif b then (some (1, h) : Option (Int32 × sm_H)) else some (0, h)) = some (b2 b, h) := by cases b <;> rfl
theorem C_hasH {h : sm_H} {n : Nat} (e : h.1 10 11 = I3 n) (hn : n ≤ 500) (x : Int32) : F_36 x h = some (b2 (inR x n), h) := by
  simp only [F_36_17, F_36_16, F_36_0, F_36, true_or, or_true, if_true]
  rw [rng1 e (by omega), cb2]
theorem R_isH {h : sm_H} {n : Nat} (e : h.1 67 18 = I3 n) (hn : n ≤ 500) (x : Int32) : F_304 x h = some (b2 (inR x n), h) := by
  simp only [F_304_17, F_304_16, F_304_0, F_304, true_or, or_true, if_true]
  rw [rng1 e (by omega), cb2]
theorem C_hasTg {h : sm_H} {n : Nat} (e : h.1 21 8 = I3 n) (hn : n ≤ 500) (x : Int32) : F_156 x h = some (b2 (inR x n), h) := by
  simp only [F_156_17, F_156_16, F_156_0, F_156, true_or, or_true, if_true]
  rw [rng1 e (by omega), cb2]
theorem C_hasPt {h : sm_H} {n : Nat} (e : h.1 21 10 = I3 n) (hn : n ≤ 500) (x : Int32) : F_160 x h = some (b2 (inR x n), h) := by
  simp only [F_160_17, F_160_16, F_160_0, F_160, true_or, or_true, if_true]
  rw [rng1 e (by omega), cb2]
theorem toI64 (x : Int32) : x.toInt64.toInt = x.toInt := Int32.toInt_toInt64 x
theorem I3m1 {n : Nat} (hn : n < 2147483648) : (I3 n - I3 1).toInt = (n : Int) - 1 := by
  cases n with
  | zero => rfl
  | succ n => rw [I3_sub (by omega), I3_toInt (by omega)]; omega
theorem cmp_lt {x y : Int64} : (lg_cmp x y < 0) = (x.toInt < y.toInt) := by
  unfold lg_cmp
  by_cases c : x > y
  · rw [if_pos c]; have := Int64.lt_iff_toInt_lt.mp c; simp only [eq_iff_iff]; constructor
    · intro z; exact absurd z (by decide)
    · intro z; omega
  · rw [if_neg c]
    have c' : ¬ y.toInt < x.toInt := fun z => c (Int64.lt_iff_toInt_lt.mpr z)
    by_cases d : x = y
    · subst d; rw [if_pos rfl]; simp only [eq_iff_iff]; constructor
      · intro z; exact absurd z (by decide)
      · intro z; omega
    · rw [if_neg d]; simp only [eq_iff_iff]
      have : x.toInt ≠ y.toInt := fun z => d (Int64.toInt_inj.mp z)
      constructor
      · intro _; omega
      · intro _; decide
theorem cmp_gt {x y : Int64} : (0 < lg_cmp x y) = (y.toInt < x.toInt) := by
  unfold lg_cmp
  by_cases c : x > y
  · rw [if_pos c]; have := Int64.lt_iff_toInt_lt.mp c; simp only [eq_iff_iff]; constructor
    · intro z; exact this
    · intro z; decide
  · rw [if_neg c]
    have c' : ¬ y.toInt < x.toInt := fun z => c (Int64.lt_iff_toInt_lt.mpr z)
    by_cases d : x = y
    · subst d; rw [if_pos rfl]; simp only [eq_iff_iff]; constructor
      · intro z; exact absurd z (by decide)
      · intro z; omega
    · rw [if_neg d]; simp only [eq_iff_iff]
      constructor
      · intro z; exact absurd z (by decide)
      · intro z; exact absurd z c'
theorem cmp_eq {x y : Int64} : (lg_cmp x y = 0) = (x = y) := by
  unfold lg_cmp
  by_cases c : x > y
  · rw [if_pos c]; simp only [eq_iff_iff]; constructor
    · intro z; exact absurd z (by decide)
    · intro z; subst z; exact absurd (Int64.lt_iff_toInt_lt.mp c) (by omega)
  · rw [if_neg c]
    by_cases d : x = y
    · rw [if_pos d]; simp [d]
    · rw [if_neg d]; simp only [eq_iff_iff]; exact ⟨fun z => absurd z (by decide), fun z => absurd z d⟩
theorem cmp_le {x y : Int64} : (lg_cmp x y ≤ 0) = (x.toInt ≤ y.toInt) := by
  have e : (lg_cmp x y ≤ 0) = ¬ (0 < lg_cmp x y) := by simp only [eq_iff_iff]; exact Int32.not_lt.symm
  rw [e, cmp_gt]; simp only [eq_iff_iff]; omega
theorem cmp_ge {x y : Int64} : (0 ≤ lg_cmp x y) = (y.toInt ≤ x.toInt) := by
  have e : (0 ≤ lg_cmp x y) = ¬ (lg_cmp x y < 0) := by simp only [eq_iff_iff]; exact Int32.not_lt.symm
  rw [e, cmp_lt]; simp only [eq_iff_iff]; omega
theorem R_out {h : sm_H} (v lo hi : Int64) : F_315 v lo hi h = some (b2 (decide (v.toInt < lo.toInt ∨ hi.toInt < v.toInt)), h) := by
  simp only [F_315_18, F_315_13, F_315_0, F_315, true_or, or_true, if_true, cmp_lt, cmp_le]
  (repeat' split) <;> first | (rw [b2_neg]; omega) | (rw [b2_pos]; omega)
theorem R_outI {h : sm_H} {n : Nat} (hn : n < 2147483648) (x : Int32) : F_315 x.toInt64 0 (I3 n - I3 1).toInt64 h = some (b2 (!inR x n), h) := by
  rw [R_out, toI64, toI64, I3m1 hn]
  congr 3
  have e0 : (0 : Int64).toInt = 0 := rfl
  rw [e0]
  unfold inR
  by_cases c : 0 ≤ x.toInt ∧ x.toInt < n
  · simp only [c, and_self, decide_true, Bool.not_true]; simp only [decide_eq_false_iff_not]; omega
  · simp only [c, decide_false, Bool.not_false]; simp only [decide_eq_true_eq]; omega
abbrev tn (x : Int32) : Nat := x.toNatClampNeg
def cnt (x : Int32) (n : Nat) : Prop := x = I3 (tn x) ∧ tn x ≤ n
abbrev nT (g : sm_H) : Nat := tn (g.1 67 10)
abbrev nH (g : sm_H) : Nat := tn (g.1 67 18)
abbrev nM (g : sm_H) : Nat := tn (g.1 67 32)
abbrev nS (g : sm_H) : Nat := tn (g.1 67 33)
abbrev nV (g : sm_H) : Nat := tn (g.1 67 40)
abbrev nX (g : sm_H) : Nat := tn (g.1 67 45)
abbrev nG (g : sm_H) : Nat := tn (g.1 67 35)
abbrev nO (g : sm_H) : Nat := tn (g.1 67 37)
abbrev nD (g : sm_H) : Nat := tn (g.1 67 91)
abbrev tR (g : sm_H) (t : Nat) : Nat := tn (g.1 72 t)
abbrev tM (g : sm_H) (t : Nat) : Nat := tn (g.1 73 t)
abbrev tP (g : sm_H) (t k : Nat) : Nat := tn (g.1 74 (10 * t + k))
abbrev ty (g : sm_H) (x : Nat) : Nat := tn (g.1 76 x)
abbrev fm (g : sm_H) (x : Nat) : Nat := tn (g.1 75 x)
abbrev pm (g : sm_H) (x : Nat) : Nat := tn (g.1 80 x)
def okN (s : Nat) (n : Int64) : Prop := (s = 1 → n = 0 ∨ n = 1) ∧ (s = 2 → -128 ≤ n.toInt ∧ n.toInt ≤ 127) ∧ (s = 3 → -32768 ≤ n.toInt ∧ n.toInt ≤ 32767) ∧ (s = 4 → 0 ≤ n.toInt ∧ n.toInt ≤ 65535) ∧ (s = 5 → -2147483648 ≤ n.toInt ∧ n.toInt ≤ 2147483647)
def okO (g : sm_H) (k : Nat) (n : Int64) : Prop := (9 ≤ k ∧ k ≤ 14 ∧ okN (k - 8) n) ∨ ((15 ≤ k ∧ k ≤ 17 ∨ 20 ≤ k ∧ k < 20 + nC g) ∧ ∃ t, t < nX g ∧ n = I6 t ∧ g.1 96 t = I3 k) ∨ (k = 18 ∧ ∃ a, a < nH g ∧ n = I6 a) ∨ (k = 19 ∧ 0 ≤ n.toInt ∧ n.toInt ≤ 100)
def okV (g : sm_H) (s : Nat) (k : Int32) (n : Int64) : Prop := (1 ≤ s ∧ s ≤ 6 ∧ k = I3 s ∧ okN s n) ∨ ((s = 0 ∨ 7 ≤ s) ∧ k = I3 0 ∧ n = 0) ∨ (7 ≤ s ∧ ∃ q, k = I3 q ∧ q < 20 + nC g ∧ B g q s = true ∧ okO g q n)
def tag (k : Int32) : Int32 := if 1 ≤ k ∧ k ≤ 6 then 0 else k
def wfT (g : sm_H) : Prop := cnt (g.1 67 10) 300 ∧ (∀ t, t < nT g → cnt (g.1 72 t) (19 + nC g) ∧ cnt (g.1 73 t) 10 ∧ ∀ k, k < tM g t → cnt (g.1 74 (10 * t + k)) (19 + nC g) ∧ 0 < tP g t k) ∧
  ∀ t u, t < nT g → u < nT g → g.1 72 t = g.1 72 u → g.1 73 t = g.1 73 u → (∀ k, k < tM g t → g.1 74 (10 * t + k) = g.1 74 (10 * u + k)) → t = u
def cT (h g : sm_H) : Prop := h.1 5 4 = g.1 67 10 ∧ (∀ t, t < 300 → h.1 6 t = g.1 72 t ∧ h.1 7 t = g.1 73 t) ∧ ∀ k, k < 3000 → h.1 8 k = g.1 74 k
def wfH0 (g : sm_H) : Prop := cnt (g.1 67 18) 500 ∧ ∀ x, x < nH g → cnt (g.1 75 x) 38 ∧ g.1 76 x = I3 (ty g x) ∧ ty g x < nT g ∧ cnt (g.1 80 x) 20
def cH (h g : sm_H) : Prop := h.1 10 11 = g.1 67 18 ∧ (∀ x, x < 500 → h.1 11 x = g.1 75 x ∧ h.1 12 x = g.1 77 x ∧ h.1 13 x = g.1 78 x ∧ h.2.1 14 x = g.2.1 79 x ∧ h.1 15 x = g.1 80 x ∧ h.1 17 x = g.1 76 x) ∧ (∀ x i, x < 500 → i < 20 → h.1 16 (x * 20 + i) = g.1 81 (24 * x + i)) ∧ ∀ x, x < nH g → h.1 18 x = g.1 72 (ty g x) ∧ h.1 19 x = g.1 73 (ty g x) ∧ ∀ k, k < tM g (ty g x) → h.1 20 (x * 10 + k) = g.1 74 (10 * ty g x + k)
def cR (h g : sm_H) : Prop := h.1 64 1 = g.1 67 1 ∧ cnt (g.1 67 1) 20 ∧ ∀ k, k < 20 → h.1 65 k = g.1 68 k
def cP (h g : sm_H) : Prop := h.1 0 11 = g.1 67 68 ∧ cnt (g.1 67 68) 10 ∧ ∀ k, k < 10 → h.2.1 66 k = g.2.1 110 k
def cG (h g : sm_H) : Prop := h.1 21 8 = g.1 67 35 ∧ cnt (g.1 67 35) 80 ∧ (∀ k, k < 80 → h.1 32 k = g.1 92 k) ∧ ∀ k, k < nG g → ∃ a, a < nH g ∧ g.1 92 k = I3 a
def cO (h g : sm_H) : Prop := h.1 21 10 = g.1 67 37 ∧ cnt (g.1 67 37) 20 ∧ (∀ k, k < 20 → h.1 33 k = g.1 93 k) ∧ ∀ k, k < 20 → ∃ b, g.1 93 k = b2 b
def wfM (g : sm_H) : Prop := cnt (g.1 67 32) 100 ∧ cnt (g.1 67 33) 24 ∧ ∀ m, m < nM g → (∃ c, c < nC g ∧ g.1 83 m = I3 (20 + c)) ∧ cnt (g.1 84 m) 99 ∧ cnt (g.1 85 m) 3 ∧ (∃ b, g.1 86 m = b2 b) ∧
  ((g.1 87 m = 1 ∧ cnt (g.1 88 m) (19 + nC g) ∧ 0 < tn (g.1 88 m) ∧ (g.1 86 m = 0 → ∃ s, s < nS g ∧ g.1 91 m = I3 s)) ∨ (g.1 87 m = 0 ∧ (∃ a, a < nH g ∧ g.1 90 m = I3 a) ∧ ∃ t, t < nT g ∧ g.1 89 m = I3 t))
def cM (h g : sm_H) : Prop := h.1 38 13 = g.1 67 32 ∧ h.1 38 14 = g.1 67 33 ∧ ∀ m, m < nM g → h.1 39 m = g.1 83 m ∧ h.1 40 m = g.1 84 m ∧ h.1 41 m = g.1 85 m ∧ h.1 42 m = g.1 86 m ∧
  (g.1 87 m = 1 → h.1 43 m = g.1 88 m ∧ h.1 44 m = -1 ∧ h.1 45 m = -1 ∧ h.1 46 m = (if g.1 86 m = 0 then g.1 91 m else I3 m)) ∧ (g.1 87 m = 0 → h.1 43 m = 0 ∧ h.1 44 m = g.1 90 m ∧ h.1 45 m = g.1 89 m ∧ h.1 46 m = -1)
def cV (h g : sm_H) : Prop := h.1 21 6 = g.1 67 40 ∧ cnt (g.1 67 40) 100 ∧ (∀ v, v < 100 → h.1 31 v = g.1 94 v ∧ h.2.1 30 v = g.2.1 95 v) ∧ ∀ v, v < nV g → ∃ q, g.1 94 v = I3 q ∧ q < 20 + nC g ∧ okO g q (g.2.1 95 v)
def szX (g : sm_H) (t : Nat) : Nat := if tn (g.1 96 t) < 20 then tn (g.1 97 t) else 24
def wfX (g : sm_H) : Prop := cnt (g.1 67 45) 1000 ∧ (∀ t, t < nX g → cnt (g.1 97 t) 100 ∧ ((∃ k, 15 ≤ k ∧ k ≤ 17 ∧ g.1 96 t = I3 k ∧ ∀ i, i < tn (g.1 97 t) → okV g (k - 10) (g.1 98 (100 * t + i)) (g.2.1 99 (100 * t + i))) ∨
  (∃ k, 20 ≤ k ∧ k < 20 + nC g ∧ g.1 96 t = I3 k ∧ (∀ m, m < nM g → g.1 87 m = 1 → g.1 86 m = 0 → okV g (tn (g.1 88 m)) (g.1 98 (100 * t + tn (g.1 91 m))) (g.2.1 99 (100 * t + tn (g.1 91 m))))))) ∧ ∀ m, m < nM g → g.1 87 m = 1 → g.1 86 m = 1 → okV g (tn (g.1 88 m)) (g.1 100 m) (g.2.1 101 m)
def slI (g : sm_H) : Prop := ∀ m n, m < n → n < nM g → g.1 87 m = 1 → g.1 86 m = 0 → g.1 87 n = 1 → g.1 86 n = 0 → g.1 91 m ≠ g.1 91 n
def cX (h g : sm_H) : Prop := h.1 21 2 = g.1 67 45 ∧ (∀ m, m < 100 → h.2.1 24 m = g.2.1 101 m ∧ h.1 25 m = tag (g.1 100 m)) ∧
  (∀ t i, nX g ≤ t → t < 1000 → i < 100 → g.1 98 (100 * t + i) = 0 ∧ g.2.1 99 (100 * t + i) = 0) ∧ (∀ t i, t < nX g → 20 ≤ tn (g.1 96 t) → nS g ≤ i → i < 24 → g.1 98 (100 * t + i) = 0 ∧ g.2.1 99 (100 * t + i) = 0) ∧ (∀ m, nM g ≤ m → m < 100 → g.1 100 m = 0 ∧ g.2.1 101 m = 0) ∧ slI g
def cXh (h g : sm_H) : Prop := h.2.2.2.2.2.1 = 3 * nX g ∧ h.2.2.2.2.2.2 ≤ 202 * nX g ∧ ∀ t, t < nX g → h.2.2.1 22 t = some (131 + 3 * t) ∧ h.2.2.2.1 (131 + 3 * t) = 8 ∧ h.2.2.1 (131 + 3 * t) 0 = some (132 + 3 * t) ∧ h.2.2.1 (131 + 3 * t) 1 = some (133 + 3 * t) ∧ h.2.2.2.1 (132 + 3 * t) = 101 ∧ h.2.2.2.1 (133 + 3 * t) = 100 ∧ h.2.2.2.2.1 (132 + 3 * t) = szX g t ∧ h.2.2.2.2.1 (133 + 3 * t) = szX g t ∧
  ∀ i, i < szX g t → h.2.1 (132 + 3 * t) i = g.2.1 99 (100 * t + i) ∧ h.1 (133 + 3 * t) i = tag (g.1 98 (100 * t + i))
def hiEq (h h' : sm_H) : Prop := (∀ b, 131 ≤ b → h'.1 b = h.1 b ∧ h'.2.1 b = h.2.1 b) ∧ h'.2.2 = h.2.2
theorem hi_rfl {h : sm_H} : hiEq h h := ⟨fun _ _ => ⟨rfl, rfl⟩, rfl⟩
theorem hi_trans {h h1 h2 : sm_H} (a : hiEq h h1) (b : hiEq h1 h2) : hiEq h h2 := ⟨fun c hc => ⟨(b.1 c hc).1.trans (a.1 c hc).1, (b.1 c hc).2.trans (a.1 c hc).2⟩, b.2.trans a.2⟩
theorem hi_wI {h h1 : sm_H} {a k : Nat} {x : Int32} (e : hiEq h h1) (ha : a < 131) : hiEq h (sm_wI h1 a k x) := by
  refine hi_trans e ⟨fun b hb => ⟨?_, rfl⟩, rfl⟩
  show (if b = a then _ else h1.1 b) = _
  rw [if_neg (by omega)]
theorem hi_wJ {h h1 : sm_H} {a k : Nat} {x : Int64} (e : hiEq h h1) (ha : a < 131) : hiEq h (sm_wJ h1 a k x) := by
  refine hi_trans e ⟨fun b hb => ⟨rfl, ?_⟩, rfl⟩
  show (if b = a then _ else h1.2.1 b) = _
  rw [if_neg (by omega)]
theorem cXh_fr {h h' g : sm_H} (e : hiEq h h') (c : cXh h g) : cXh h' g := by
  obtain ⟨e1, e2⟩ := e
  unfold cXh at c ⊢
  rw [e2]
  refine ⟨c.1, c.2.1, fun t ht => ?_⟩
  obtain ⟨c1, c2, c3, c4, c5, c6, c7, c8, c9⟩ := c.2.2 t ht
  refine ⟨c1, c2, c3, c4, c5, c6, c7, c8, fun i hi => ?_⟩
  rw [(e1 (132 + 3 * t) (by omega)).2, (e1 (133 + 3 * t) (by omega)).1]
  exact c9 i hi
def cU (h g : sm_H) : Prop := h.1 49 11 = g.1 67 69 ∧ h.1 49 8 = g.1 67 73 ∧ h.1 49 12 = g.1 67 70 ∧ h.1 49 10 = g.1 67 71 ∧ h.2.1 49 9 = g.2.1 67 72 ∧ (g.1 67 71 = 0 ∧ g.1 67 70 = 0 ∨ g.1 67 71 = 0 ∧ g.1 67 69 = 0 ∨ (∃ q, g.1 67 71 = I3 q ∧ q < 20 + nC g ∧ okO g q (g.2.1 67 72)) ∧ (g.1 67 69 = 0 ∨ g.1 67 69 = 1) ∧ 7 ≤ tn (g.1 67 70)) ∧ (g.1 67 70 = I3 (tn (g.1 67 70)))
def cY (h g : sm_H) : Prop := h.1 52 1 = g.1 67 76 ∧ cnt (g.1 67 76) 3000 ∧ (∀ k, k < 3000 → h.1 53 k = g.1 112 k ∧ cnt (g.1 112 k) 255) ∧ (∀ k, k < 20 → h.1 54 k = g.1 111 k ∧ cnt (g.1 111 k) 255)
def cF (h g : sm_H) : Prop := h.1 55 17 = g.1 67 77 ∧ h.1 55 18 = g.1 67 78 ∧ h.1 55 15 = g.1 67 91 ∧ cnt (g.1 67 91) 60 ∧ ∀ d, d < nD g → h.2.1 62 d = g.2.1 113 d ∧ h.1 63 d = g.1 114 d ∧ ∃ a, a < nH g ∧ g.1 114 d = I3 a ∧ tM g (ty g a) ≤ 6 ∧ g.1 115 d = g.1 73 (ty g a) ∧ ∀ i, i < tM g (ty g a) → g.1 116 (6 * d + i) = g.1 74 (10 * ty g a + i)
def cZ (h g : sm_H) : Prop := h.1 0 12 = g.1 67 19 ∧ h.1 47 1 = 0
def widB (a b : Nat) : Bool := decide (a = 2 ∧ (b = 3 ∨ b = 5 ∨ b = 6) ∨ (a = 3 ∨ a = 4) ∧ (b = 5 ∨ b = 6) ∨ a = 5 ∧ b = 6)
def mayB (g : sm_H) (a b : Nat) (f r : Bool) : Bool := if a = b then true else if a = 0 then r else if b = 0 then r else if a ≤ 6 then (if b ≤ 6 then f || widB a b else B g (a + 8) b) else if 7 ≤ b then true else if a = 7 then true else if a = 8 then f || decide (b = 2 ∨ b = 3 ∨ b = 5 ∨ b = 6) else if 9 ≤ a ∧ a ≤ 14 then f || (decide (a - 8 = b) || widB (a - 8) b) else false
abbrev at0 (l : List Int32) (i : Nat) : Int32 := l.getD i 0
def lst (f : Nat → Int32) (n : Nat) : List Int32 := (List.range n).map f
abbrev rs (g : sm_H) (t : Nat) : Int32 := g.1 72 t
abbrev pl (g : sm_H) (t : Nat) : List Int32 := lst (fun k => g.1 74 (10 * t + k)) (tM g t)
abbrev hrs (g : sm_H) (x : Nat) : Int32 := rs g (ty g x)
abbrev hpl (g : sm_H) (x : Nat) : List Int32 := pl g (ty g x)
def pre (l m : List Int32) : Prop := l.length ≤ m.length ∧ ∀ k, k < l.length → at0 m k = at0 l k
def okK (g : sm_H) (k : Nat) (c : Int64) : Prop := (1 ≤ k ∧ k ≤ 6 ∧ okN k c) ∨ (7 ≤ k ∧ (c = -1 ∨ ∃ v, v < nV g ∧ c = I6 v ∧ B g (tn (g.1 94 v)) k = true))
def gone (r : Int32) : Nat := if r = 0 then 0 else 1
def vk (g : sm_H) (ps : List Int32) (i : Nat) : Int32 := if at0 ps (4 * i + 1) ≠ -1 then hrs g (tn (at0 ps (4 * i + 1))) else if at0 ps (4 * i) ≠ -1 then hrs g (tn (at0 ps (4 * i))) else 0
def vrs (g : sm_H) (ps : List Int32) (n : Nat) : List Int32 := ((List.range n).map (vk g ps)).filter (fun k => decide (k ≠ 0))
def isH (g : sm_H) (x : Int32) : Prop := ∃ p, p < nH g ∧ x = I3 p
def isC (g : sm_H) (x : Int32) : Prop := ∃ k, 20 ≤ k ∧ k < 20 + nC g ∧ x = I3 k
def mkr (g : sm_H) (m : Nat) : Prop := g.1 87 m = 0 ∧ g.1 86 m = 0 ∧ g.1 84 m = 0 ∧ rs g (tn (g.1 89 m)) = 0
def chgL (e : Int32) (w : Nat) : List Int32 := if w = 4 then [] else if w = 7 then [e, e] else [e]
def chgR (e : Int32) (w : Nat) : Int32 := if w = 5 then 0 else if w = 7 then 1 else e
def mayAs (g : sm_H) (t u : Nat) (f : Bool) : Prop := tM g u = tM g t ∧ (∀ k, k < tM g t → mayB g (tP g u k) (tP g t k) f false = true) ∧ mayB g (tR g t) (tR g u) f true = true
def FS (g : sm_H) (f : Nat) (a b : Int32) (c : Int64) (ps : List Int32) (r : Int32) (l : List Int32) : Prop :=
  (f = 0 ∧ ps = [] ∧ l = [] ∧ r = a ∧ ∃ k, 0 < k ∧ k < 20 + nC g ∧ a = I3 k ∧ okK g k c) ∨
  (f = 1 ∧ (∃ p, p < nH g ∧ ps = [I3 p]) ∧ r = 18 ∧ l = []) ∨
  (f = 2 ∧ ps = [] ∧ l = [a] ∧ r = a ∧ ∃ k, 0 < k ∧ k < 20 + nC g ∧ a = I3 k) ∨
  (f = 3 ∧ ps = [] ∧ l = [b, b] ∧ ∃ o w, o ≤ 12 ∧ a = I3 o ∧ (w = 5 ∨ w = 6) ∧ b = I3 w ∧ r = if 10 < o then 1 else b) ∨
  (f = 4 ∧ ∃ p n t, p < nH g ∧ ps = [I3 p] ∧ n ≤ (hpl g p).length ∧ a = I3 n ∧ t < nT g ∧ b = I3 t ∧ r = hrs g p ∧ l = (hpl g p).take n ++ (pl g t ++ (hpl g p).drop n)) ∨
  (f = 5 ∧ ∃ p t, p < nH g ∧ t < nT g ∧ b = I3 t ∧ r = hrs g p ∧ r = rs g t ∧ l = pl g t ∧ ps.length = 1 + (hpl g p).length ∧ at0 ps 0 = I3 p ∧ ∀ k, k < (hpl g p).length → ∃ j, j < l.length ∧ at0 ps (1 + k) = I3 j ∧ at0 l j = at0 (hpl g p) k) ∨
  (f = 6 ∧ ∃ p n, p < nH g ∧ ps = [I3 p] ∧ n < (hpl g p).length ∧ a = I3 n ∧ okK g (tn (at0 (hpl g p) n)) c ∧ r = hrs g p ∧ l = (hpl g p).take n ++ (hpl g p).drop (n + 1)) ∨
  (f = 7 ∧ ∃ p q n, p < nH g ∧ q < nH g ∧ ps = [I3 p, I3 q] ∧ a = I3 n ∧ n + gone (hrs g q) ≤ (hpl g p).length ∧ (hrs g q ≠ 0 → at0 (hpl g p) n = hrs g q) ∧ r = hrs g p ∧ l = (hpl g p).take n ++ (hpl g q ++ (hpl g p).drop (n + gone (hrs g q)))) ∨
  (f = 8 ∧ ∃ p q n, p < nH g ∧ q < nH g ∧ ps = [I3 p, I3 q] ∧ a = I3 n ∧ n + gone (hrs g q) ≤ (hpl g p).length ∧ (hrs g q ≠ 0 → at0 (hpl g p) n = hrs g q) ∧ r = hrs g p ∧ l = (hpl g p).take n ++ (hpl g p).drop (n + gone (hrs g q)) ∧ pre (hpl g q) (l.drop n)) ∨
  (f = 9 ∧ ∃ p q, p < nH g ∧ q < nH g ∧ ps = [I3 p, I3 q] ∧ hpl g q = (if hrs g p = 0 then [] else [hrs g p]) ∧ r = hrs g q ∧ l = hpl g p) ∨
  (f = 10 ∧ ∃ p k n, p < nH g ∧ ps = [I3 p] ∧ 15 ≤ k ∧ k ≤ 17 ∧ a = I3 k ∧ n ≤ (hpl g p).length ∧ b = I3 n ∧ (∀ j, (hpl g p).length - n ≤ j → j < (hpl g p).length → at0 (hpl g p) j = I3 (k - 10)) ∧ r = hrs g p ∧ l = (hpl g p).take ((hpl g p).length - n) ++ [a]) ∨
  (f = 11 ∧ ∃ p n k m, p < nH g ∧ ps = [I3 p] ∧ n ≤ 10 ∧ b = I3 n ∧ 15 ≤ k ∧ k ≤ 17 ∧ hpl g p = m ++ [I3 k] ∧ r = hrs g p ∧ l = m ++ List.replicate n (I3 (k - 10))) ∨
  ((f = 12 ∨ f = 13) ∧ ∃ p t, p < nH g ∧ ps = [I3 p] ∧ t < nT g ∧ b = I3 t ∧ mayAs g (ty g p) t (decide (f = 13)) ∧ r = rs g t ∧ l = pl g t) ∨
  (f = 14 ∧ ∃ p q s, p < nH g ∧ q < nH g ∧ s < nH g ∧ ps = [I3 p, I3 q, I3 s] ∧ ty g q = ty g s ∧ hrs g p = 1 ∧ pre (hpl g p) (hpl g q) ∧ r = hrs g q ∧ l = hpl g q) ∨
  (f = 15 ∧ ∃ p q k m, p < nH g ∧ q < nH g ∧ ps = [I3 p, I3 q] ∧ k < 20 + nC g ∧ a = I3 k ∧ B g k 19 = true ∧ hpl g q = a :: m ∧ pre m (hpl g p) ∧ hrs g q = hrs g p ∧ r = hrs g p ∧ l = hpl g p) ∨
  (f = 16 ∧ ∃ p q m, p < nH g ∧ q < nH g ∧ ps = [I3 p, I3 q] ∧ hpl g q = (if hrs g p = 0 then 19 :: m else 19 :: hrs g p :: m) ∧ pre m (hpl g p) ∧ hrs g q = hrs g p ∧ r = hrs g p ∧ l = hpl g p) ∨
  (f = 17 ∧ ∃ p m, p < nH g ∧ 0 < ps.length ∧ at0 ps 0 = I3 p ∧ (∀ k, k < ps.length → ∃ q, q < nH g ∧ at0 ps k = I3 q ∧ ty g q = ty g p) ∧ hpl g p = 5 :: m ∧ r = hrs g p ∧ l = hpl g p) ∨
  (f = 18 ∧ ∃ t n, t < nT g ∧ b = I3 t ∧ 0 < n ∧ n ≤ 4 ∧ ps.length = 4 * n ∧ (∀ k, k < 4 * n → at0 ps k = -1 ∨ isH g (at0 ps k)) ∧ (∃ i, i < n ∧ at0 ps (4 * i + 2) ≠ -1) ∧ (∀ i, i < n → (at0 ps (4 * i) ≠ -1 → at0 ps (4 * i + 1) ≠ -1 → hrs g (tn (at0 ps (4 * i))) = hrs g (tn (at0 ps (4 * i + 1)))) ∧ (at0 ps (4 * i + 3) ≠ -1 → at0 ps (4 * i + 2) ≠ -1) ∧ (at0 ps (4 * i + 2) ≠ -1 → hrs g (tn (at0 ps (4 * i + 2))) = 1) ∧ (at0 ps (4 * i + 3) ≠ -1 → hrs g (tn (at0 ps (4 * i + 3))) = rs g t) ∧ (at0 ps (4 * i) ≠ -1 → pre (hpl g (tn (at0 ps (4 * i)))) (pl g t)) ∧ ∀ z, 1 ≤ z → z < 4 → at0 ps (4 * i + z) ≠ -1 → pre (hpl g (tn (at0 ps (4 * i + z)))) (vrs g ps n ++ pl g t)) ∧ r = rs g t ∧ l = pl g t) ∨
  (f = 19 ∧ ps = [] ∧ ∃ k e, k < 20 + nC g ∧ a = I3 k ∧ e < 20 + nC g ∧ b = I3 e ∧ B g e 19 = true ∧ r = a ∧ l = [b]) ∨
  (20 ≤ f ∧ f ≤ 26 ∧ ps = [] ∧ ∃ k, 15 ≤ k ∧ k ≤ 17 ∧ a = I3 k ∧ (f = 26 → k ≠ 17) ∧ (f = 20 → r = a ∧ l = [5]) ∧ (f = 21 → r = 5 ∧ l = [a]) ∧ (22 ≤ f → r = chgR (I3 (k - 10)) (f - 18) ∧ l = a :: 5 :: chgL (I3 (k - 10)) (f - 18))) ∨
  ((f = 27 ∨ f = 28) ∧ ps = [] ∧ ∃ t, t < nT g ∧ b = I3 t ∧ r = rs g t ∧ l = 18 :: pl g t) ∨
  (f = 29 ∧ ps = [] ∧ ∃ n, n < nG g ∧ a = I3 n ∧ r = hrs g (tn (g.1 92 n)) ∧ l = hpl g (tn (g.1 92 n))) ∨
  (f = 30 ∧ ∃ p q n, p < nH g ∧ q < nH g ∧ ps = [I3 p, I3 q] ∧ ty g p = ty g q ∧ n < nO g ∧ a = I3 n ∧ r = hrs g p ∧ l = hpl g p) ∨
  (f = 31 ∧ ps = [] ∧ (∃ k, 7 ≤ k ∧ k < 20 + nC g ∧ a = I3 k) ∧ r = 1 ∧ l = [7]) ∨
  (f = 32 ∧ ps = [] ∧ r = 1 ∧ l = [7, 7]) ∨
  (f = 33 ∧ ps = [] ∧ r = 5 ∧ l = [19]) ∨
  (f = 34 ∧ ps = [] ∧ ∃ t, t < nT g ∧ b = I3 t ∧ r = rs g t ∧ l = pl g t) ∨
  (f = 35 ∧ ps = [] ∧ ∃ m w, m < nM g ∧ a = I3 m ∧ g.1 87 m = 1 ∧ 4 ≤ w ∧ w ≤ 8 ∧ b = I3 w ∧ (w = 8 → 2 ≤ tn (g.1 88 m) ∧ tn (g.1 88 m) ≤ 6) ∧ r = chgR (g.1 88 m) w ∧ ((g.1 86 m = 1 ∧ l = chgL (g.1 88 m) w) ∨ (g.1 86 m = 0 ∧ ∃ k, 20 ≤ k ∧ k < 20 + nC g ∧ B g k (tn (g.1 83 m)) = true ∧ l = I3 k :: chgL (g.1 88 m) w))) ∨
  ((f = 36 ∨ f = 37) ∧ ps = [] ∧ ∃ m k, m < nM g ∧ a = I3 m ∧ g.1 87 m = 0 ∧ g.1 86 m = 0 ∧ 20 ≤ k ∧ k < 20 + nC g ∧ B g k (tn (g.1 83 m)) = true ∧ b = I3 k ∧ ¬ mkr g m ∧ (∀ n, n < m → g.1 83 n = g.1 83 m → g.1 84 n = g.1 84 m → g.1 87 n = 0 → g.1 86 n = 0 → g.1 89 n = g.1 89 m → mkr g n) ∧ r = rs g (tn (g.1 89 m)) ∧ l = b :: pl g (tn (g.1 89 m))) ∨
  (f = 38 ∧ ps = [] ∧ ∃ m, m < nM g ∧ a = I3 m ∧ mkr g m ∧ r = g.1 83 m ∧ l = pl g (tn (g.1 89 m)))
abbrev prt (g : sm_H) (x : Nat) : List Int32 := lst (fun k => g.1 81 (24 * x + k)) (pm g x)
def wfF0 (g : sm_H) : Prop := (∀ x, x < nH g → FS g (fm g x) (g.1 77 x) (g.1 78 x) (g.2.1 79 x) (prt g x) (hrs g x) (hpl g x)) ∧ ∀ m, m < nM g → g.1 87 m = 0 → rs g (tn (g.1 89 m)) = hrs g (tn (g.1 90 m)) ∧ hpl g (tn (g.1 90 m)) = if g.1 86 m = 0 then g.1 83 m :: pl g (tn (g.1 89 m)) else pl g (tn (g.1 89 m))
def mkV (i6 : Int32) (i10 : Int32) (i18 : Int32) (i32 : Int32) (i35 : Int32) (i37 : Int32) (i40 : Int32) (f70 : Nat → Int32) (f72 : Nat → Int32) (f73 : Nat → Int32) (f74 : Nat → Int32) (f75 : Nat → Int32) (f76 : Nat → Int32) (f77 : Nat → Int32) (f78 : Nat → Int32) (f80 : Nat → Int32) (f81 : Nat → Int32) (f83 : Nat → Int32) (f84 : Nat → Int32) (f86 : Nat → Int32) (f87 : Nat → Int32) (f88 : Nat → Int32) (f89 : Nat → Int32) (f90 : Nat → Int32) (f92 : Nat → Int32) (f94 : Nat → Int32) (f79 : Nat → Int64) : sm_H := (fun b => if b = 67 then (fun j => if j = 6 then i6 else if j = 10 then i10 else if j = 18 then i18 else if j = 32 then i32 else if j = 35 then i35 else if j = 37 then i37 else if j = 40 then i40 else 0) else if b = 70 then f70 else if b = 72 then f72 else if b = 73 then f73 else if b = 74 then f74 else if b = 75 then f75 else if b = 76 then f76 else if b = 77 then f77 else if b = 78 then f78 else if b = 80 then f80 else if b = 81 then f81 else if b = 83 then f83 else if b = 84 then f84 else if b = 86 then f86 else if b = 87 then f87 else if b = 88 then f88 else if b = 89 then f89 else if b = 90 then f90 else if b = 92 then f92 else if b = 94 then f94 else fun _ => 0, fun b => if b = 79 then f79 else fun _ => 0, fun _ _ => none, fun _ => 0, fun _ => 0, 0, 0)
def vw (g : sm_H) : sm_H := mkV (g.1 67 6) (g.1 67 10) (g.1 67 18) (g.1 67 32) (g.1 67 35) (g.1 67 37) (g.1 67 40) (g.1 70) (g.1 72) (g.1 73) (g.1 74) (g.1 75) (g.1 76) (g.1 77) (g.1 78) (g.1 80) (g.1 81) (g.1 83) (g.1 84) (g.1 86) (g.1 87) (g.1 88) (g.1 89) (g.1 90) (g.1 92) (g.1 94) (g.2.1 79)
def wfF (g : sm_H) : Prop := wfF0 (vw g)
def I1 (h g : sm_H) : Prop := wfK g ∧ cK h g ∧ wfT g ∧ cT h g ∧ wfH0 g ∧ cH h g ∧ wfM g ∧ cM h g ∧ cR h g ∧ cP h g ∧ cG h g ∧ cO h g ∧ cV h g ∧ wfX g ∧ cX h g ∧ cXh h g ∧ cU h g ∧ cY h g ∧ cF h g ∧ cZ h g ∧ wfF g
abbrev I0 (h : sm_H) : Prop := I1 h h
theorem cnt_up {n N : Nat} (h : n ≤ N) (hN : N < 2147483648) : cnt (I3 n) N := by
  unfold cnt tn; rw [I3_clamp (by omega)]; exact ⟨rfl, h⟩
theorem upd_eq {n x y : Nat} {a : Int32} {p q : Nat → Int32} (e : p x = q x) : (if x = n then a else p x) = (if x = n then a else q x) := by
  rw [e]
theorem isRow64 (h : sm_H) : (sm_is G0 h 64 5 = true) = True := eq_true rfl
theorem rr64 (h : sm_H) : sm_rr G0 h 64 0 = some 65 := rfl
theorem st65 {h : sm_H} {k : Nat} {x : Int32} (hk : k < 20) : sm_stI G0 h 65 (I3 k) x = some (sm_wI h 65 k x) := by
  show (if sm_in (I3 k) 20 then some (sm_wI h 65 (I3 k).toNatClampNeg x) else none) = _
  rw [if_pos (sm_in_I3 hk (by decide)), I3_clamp (by omega)]
theorem op_put {h : sm_H} (x : Int32) (I : I0 h) : ∃ v h1 h2, F_258 x h = some (v, h1) ∧ F_380 x h1 = some (v, h2) ∧ I0 h2 := by
  obtain ⟨wK, cK, wT, cT, wH, cH, wM, cM, cR, cP, cG, cO, cV, wX, cX, cXh, cU, cY, cF, cZ⟩ := id I
  obtain ⟨r1, ⟨r2, r3⟩, r4⟩ := cR
  generalize hn : tn (h.1 67 1) = n at r2 r3
  by_cases c : n = 20
  · refine ⟨0, h, h, ?_, ?_, I⟩
    · simp (disch := omega) only [F_258_0, F_258, F_139_0, F_139, ↓reduceIte, if_true, if_false, ite_self, Option.bind_some, Option.map_some, wI_rd, wJ_rd, wI_2, wJ_1, wJ_22, I3_lit, I3_add, I3_mul, I3_lt, I3_le, I3_inj, I3_nn', I3_n1, I3_n2, m2m1, ldI_I, ldJ_I, ldZ_I, stI_I, stJ_I, true_or, or_true, false_or, or_false, true_and, and_true, false_and, and_false, not_true_eq_false, not_false_eq_true, reduceCtorEq, Nat.reduceEqDiff, Nat.lt_irrefl, Nat.not_lt_zero, Nat.le_refl, Nat.reduceLT, Nat.reduceLeDiff, eq_self, b2_if, b2_I, zbb, Bool.not_true, Bool.not_false, cond_true, cond_false, r1, r2, c, isRow64]
    · simp (disch := omega) only [F_380_0, F_380, ↓reduceIte, if_true, if_false, ite_self, Option.bind_some, Option.map_some, wI_rd, wJ_rd, wI_2, wJ_1, wJ_22, I3_lit, I3_add, I3_mul, I3_lt, I3_le, I3_inj, I3_nn', I3_n1, I3_n2, m2m1, ldI_I, ldJ_I, ldZ_I, stI_I, stJ_I, true_or, or_true, false_or, or_false, true_and, and_true, false_and, and_false, not_true_eq_false, not_false_eq_true, reduceCtorEq, Nat.reduceEqDiff, Nat.lt_irrefl, Nat.not_lt_zero, Nat.le_refl, Nat.reduceLT, Nat.reduceLeDiff, eq_self, b2_if, b2_I, zbb, Bool.not_true, Bool.not_false, cond_true, cond_false, r2, c]
  · refine ⟨1, sm_wI (sm_wI h 65 n x) 64 1 (I3 (n + 1)), sm_wI (sm_wI (sm_wI (sm_wI h 65 n x) 64 1 (I3 (n + 1))) 68 n x) 67 1 (I3 (n + 1)), ?_, ?_, wK, cK, wT, cT, wH, cH, wM, cM, ⟨rfl, cnt_up (by omega) (by decide), fun k hk => ?_⟩, cP, cG, cO, cV, wX, cX, cXh_fr (by repeat first | exact hi_rfl | refine hi_wI ?_ (by decide) | refine hi_wJ ?_ (by decide)) cXh, cU, cY, cF, cZ⟩
    · simp (disch := omega) only [F_258_0, F_258, F_139_0, F_139, ↓reduceIte, if_true, if_false, ite_self, Option.bind_some, Option.map_some, wI_rd, wJ_rd, wI_2, wJ_1, wJ_22, I3_lit, I3_add, I3_mul, I3_lt, I3_le, I3_inj, I3_nn', I3_n1, I3_n2, m2m1, ldI_I, ldJ_I, ldZ_I, stI_I, stJ_I, true_or, or_true, false_or, or_false, true_and, and_true, false_and, and_false, not_true_eq_false, not_false_eq_true, reduceCtorEq, Nat.reduceEqDiff, Nat.lt_irrefl, Nat.not_lt_zero, Nat.le_refl, Nat.reduceLT, Nat.reduceLeDiff, eq_self, b2_if, b2_I, zbb, Bool.not_true, Bool.not_false, cond_true, cond_false, r1, r2, c, isRow64, rr64, st65, show n < 20 by omega]
    · simp (disch := omega) only [F_380_0, F_380, ↓reduceIte, if_true, if_false, ite_self, Option.bind_some, Option.map_some, wI_rd, wJ_rd, wI_2, wJ_1, wJ_22, I3_lit, I3_add, I3_mul, I3_lt, I3_le, I3_inj, I3_nn', I3_n1, I3_n2, m2m1, ldI_I, ldJ_I, ldZ_I, stI_I, stJ_I, true_or, or_true, false_or, or_false, true_and, and_true, false_and, and_false, not_true_eq_false, not_false_eq_true, reduceCtorEq, Nat.reduceEqDiff, Nat.lt_irrefl, Nat.not_lt_zero, Nat.le_refl, Nat.reduceLT, Nat.reduceLeDiff, eq_self, b2_if, b2_I, zbb, Bool.not_true, Bool.not_false, cond_true, cond_false, r2, c]
    · exact upd_eq (p := h.1 65) (q := h.1 68) (y := 0) (r4 k hk)
theorem cmp_eq' {x y : Int64} : (lg_cmp x y = I3 0) = (x = y) := cmp_eq
theorem cmp_lt' {x y : Int64} : (lg_cmp x y < I3 0) = (x.toInt < y.toInt) := cmp_lt
theorem cmp_gt' {x y : Int64} : (I3 0 < lg_cmp x y) = (y.toInt < x.toInt) := cmp_gt
theorem cmp_le' {x y : Int64} : (lg_cmp x y ≤ I3 0) = (x.toInt ≤ y.toInt) := cmp_le
theorem cmp_ge' {x y : Int64} : (I3 0 ≤ lg_cmp x y) = (y.toInt ≤ x.toInt) := cmp_ge
