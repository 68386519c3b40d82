def P_zr (b : Nat) : Nat → Nat → Bool
  | 0, a => decide (P_h5.1 b a = 0)
  | n + 1, a => P_zr b n a && P_zr b n (a + 2 ^ n)
def P_zj (b : Nat) : Nat → Nat → Bool
  | 0, a => decide (P_h5.2.1 b a = 0)
  | n + 1, a => P_zj b n a && P_zj b n (a + 2 ^ n)
theorem P_zr_ok (b : Nat) : ∀ n a, P_zr b n a = true → ∀ k, a ≤ k → k < a + 2 ^ n → P_h5.1 b k = 0 := by
  intro n
  induction n with
  | zero =>
    intro a h k h1 h2
    have e : k = a := by
      have : 2 ^ 0 = 1 := rfl
      omega
    rw [e]
    exact of_decide_eq_true h
  | succ n ih =>
    intro a h k h1 h2
    have h : (P_zr b n a && P_zr b n (a + 2 ^ n)) = true := h
    rw [Bool.and_eq_true] at h
    have p : 2 ^ (n + 1) = 2 ^ n + 2 ^ n := by rw [Nat.pow_succ]; omega
    by_cases q : k < a + 2 ^ n
    · exact ih a h.1 k h1 q
    · exact ih (a + 2 ^ n) h.2 k (by omega) (by omega)
theorem P_zj_ok (b : Nat) : ∀ n a, P_zj b n a = true → ∀ k, a ≤ k → k < a + 2 ^ n → P_h5.2.1 b k = 0 := by
  intro n
  induction n with
  | zero =>
    intro a h k h1 h2
    have e : k = a := by
      have : 2 ^ 0 = 1 := rfl
      omega
    rw [e]
    exact of_decide_eq_true h
  | succ n ih =>
    intro a h k h1 h2
    have h : (P_zj b n a && P_zj b n (a + 2 ^ n)) = true := h
    rw [Bool.and_eq_true] at h
    have p : 2 ^ (n + 1) = 2 ^ n + 2 ^ n := by rw [Nat.pow_succ]; omega
    by_cases q : k < a + 2 ^ n
    · exact ih a h.1 k h1 q
    · exact ih (a + 2 ^ n) h.2 k (by omega) (by omega)
def P_zs (n : Nat) (l : List Nat) : Bool := l.all fun b => P_zr b n 0
def P_zt (n : Nat) (l : List Nat) : Bool := l.all fun b => P_zj b n 0
theorem P_zs_ok {n : Nat} {l : List Nat} (h : P_zs n l = true) {b k : Nat} (hb : b ∈ l) (hk : k < 2 ^ n) : P_h5.1 b k = 0 := P_zr_ok b n 0 (List.all_eq_true.mp h b hb) k (Nat.zero_le _) (by omega)
theorem P_zt_ok {n : Nat} {l : List Nat} (h : P_zt n l = true) {b k : Nat} (hb : b ∈ l) (hk : k < 2 ^ n) : P_h5.2.1 b k = 0 := P_zj_ok b n 0 (List.all_eq_true.mp h b hb) k (Nat.zero_le _) (by omega)
theorem P_k1 : (i_zl.all fun q => decide (P_h5.1 q.1 q.2 = 0)) = true := by decide +kernel
theorem P_k2 : (i_el.all fun q => decide (P_h5.1 q.1 q.2.1 = P_h5.1 67 q.2.2)) = true := by decide +kernel
theorem P_k3 : P_h5.1 1 3 = 20 ∧ P_h5.2.1 49 9 = P_h5.2.1 67 72 ∧ (P_h5.1 67 70 = 0 ∨ P_h5.1 67 69 = 0) ∧ P_h5.1 67 70 = I3 (tn (P_h5.1 67 70)) := by decide +kernel
theorem P_k4 : ((List.range 20).all fun a => (List.range 32).all fun b => decide (P_h5.1 2 (a * 32 + b) = b2 (kBase a b))) = true := by decide +kernel
theorem P_k5 : P_zs 9 [6, 7, 72, 73, 11, 12, 13, 15, 17, 75, 76, 77, 78, 80] = true := by decide +kernel
theorem P_k6 : P_zs 7 [65, 68, 33, 93, 54, 111, 32, 92, 31, 94, 25, 100] = true := by decide +kernel
theorem P_k7 : P_zt 9 [14, 79, 66, 110, 30, 95, 24, 101] = true := by decide +kernel
theorem P_k8 : P_zs 12 [8, 74, 53, 112] = true := by decide +kernel
