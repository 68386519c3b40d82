def foldM (bt : Nat → Nat) (f : Nat) : Nat → Nat
  | 0 => 0
  | k + 1 => foldM bt f k * 256 + bt (f + k)
theorem i6_bv (m : Nat) : (I6 m).toBitVec = BitVec.ofNat 64 m := rfl
theorem i3_6 {b : Nat} (hb : b ≤ 255) : Int32.toInt64 (I3 b) = I6 b := by
  have : ∀ b : Fin 256, Int32.toInt64 (I3 b) = I6 b := by decide +kernel
  exact this ⟨b, by omega⟩
theorem sh8 : (Int32.toInt64 8 &&& 63 : Int64) = 8 := by decide
theorem fold_s {m b : Nat} (hb : b ≤ 255) (hm : m * 256 + b < 2 ^ 63) : (I6 m <<< (Int32.toInt64 8 &&& 63)) ||| Int32.toInt64 (I3 b) = I6 (m * 256 + b) := by
  rw [i3_6 hb, sh8]
  apply Int64.toBitVec.inj
  show BitVec.ofNat 64 m <<< 8 ||| BitVec.ofNat 64 b = BitVec.ofNat 64 (m * 256 + b)
  apply BitVec.eq_of_toNat_eq
  have l0 : m * 256 + b < 9223372036854775808 := hm
  have l1 : m < 18446744073709551616 := by omega
  have l3 : b < 18446744073709551616 := by omega
  have l4 : m * 256 + b < 18446744073709551616 := Nat.lt_trans l0 (by decide)
  have l2 : m * 256 < 18446744073709551616 := Nat.lt_of_le_of_lt (Nat.le_add_right _ _) l4
  have e1 : m % 2 ^ 64 = m := Nat.mod_eq_of_lt l1
  have e2 : m * 2 ^ 8 % 2 ^ 64 = m * 2 ^ 8 := Nat.mod_eq_of_lt l2
  have e3 : b % 2 ^ 64 = b := Nat.mod_eq_of_lt l3
  have e4 : (m * 256 + b) % 2 ^ 64 = m * 256 + b := Nat.mod_eq_of_lt l4
  have e5 : 2 ^ 8 * m + b = 2 ^ 8 * m ||| b := Nat.two_pow_add_eq_or_of_lt (show b < 2 ^ 8 by omega) m
  have e6 : m * 256 + b = m * 2 ^ 8 ||| b := by
    rw [Nat.mul_comm m (2 ^ 8), ← e5]; omega
  rw [BitVec.toNat_or, BitVec.toNat_shiftLeft, BitVec.toNat_ofNat, BitVec.toNat_ofNat, BitVec.toNat_ofNat, Nat.shiftLeft_eq, e1, e2, e3, e4, e6]
theorem foldM_lt (bt : Nat → Nat) (f : Nat) : ∀ k, (∀ j, j < k + 1 → bt (f + j) ≤ 127) → foldM bt f (k + 1) < 128 * 256 ^ k := by
  intro k
  induction k with
  | zero => intro h; have := h 0 (by omega); show 0 * 256 + bt (f + 0) < _; omega
  | succ k ih =>
    intro h
    have a := ih (fun j hj => h j (by omega))
    have b := h (k + 1) (by omega)
    show foldM bt f (k + 1) * 256 + bt (f + (k + 1)) < 128 * 256 ^ (k + 1)
    rw [Nat.pow_succ]; omega
theorem foldN_M (bt : Nat → Nat) (f : Nat) : ∀ k, k ≤ 8 → (∀ j, j < k → bt (f + j) ≤ 127) → foldN bt f k = I6 (foldM bt f k) ∧ foldM bt f k < 2 ^ 63 := by
  intro k
  induction k with
  | zero => intro _ _; exact ⟨rfl, show 0 < 2 ^ 63 by decide⟩
  | succ k ih =>
    intro hk h
    have a := ih (by omega) (fun j hj => h j (by omega))
    have l := foldM_lt bt f k h
    have l2 : foldM bt f (k + 1) < 2 ^ 63 := Nat.lt_of_lt_of_le l (by
      have : 256 ^ k ≤ 256 ^ 7 := Nat.pow_le_pow_right (by decide) (by omega)
      omega)
    refine ⟨?_, l2⟩
    rw [foldN_s, a.1]
    exact fold_s (by have := h k (by omega); omega) l2
theorem shr8 {m : Nat} (hm : m < 2 ^ 31) : Int64.toInt32 (I6 m >>> (Int32.toInt64 8 &&& 63)) = I3 (m / 256) := by
  have : I6 m >>> (Int32.toInt64 8 &&& 63) = I6 (m / 256) := by
    rw [sh8]
    apply Int64.toBitVec.inj
    show (BitVec.ofNat 64 m).sshiftRight 8 = BitVec.ofNat 64 (m / 256)
    apply BitVec.eq_of_toNat_eq
    rw [BitVec.toNat_sshiftRight_of_msb_false (by rw [BitVec.msb_eq_false_iff_two_mul_lt, BitVec.toNat_ofNat, Nat.mod_eq_of_lt (by omega)]; omega), BitVec.toNat_ofNat, BitVec.toNat_ofNat, Nat.shiftRight_eq_div_pow, Nat.mod_eq_of_lt (show m < 2 ^ 64 by omega), Nat.mod_eq_of_lt (show m / 256 < 2 ^ 64 by omega)]
  rw [this]
  apply Int32.toBitVec.inj
  show (BitVec.ofNat 64 (m / 256)).signExtend 32 = BitVec.ofNat 32 (m / 256)
  apply BitVec.eq_of_toNat_eq
  rw [BitVec.signExtend_eq_setWidth_of_le _ (by decide), BitVec.toNat_setWidth, BitVec.toNat_ofNat, BitVec.toNat_ofNat, Nat.mod_eq_of_lt (show m / 256 < 2 ^ 64 by omega)]
theorem and8 {m : Nat} (hm : m < 2 ^ 63) : Int64.toInt32 (I6 m &&& 255) = I3 (m % 256) := by
  have : I6 m &&& 255 = I6 (m % 256) := by
    apply Int64.toBitVec.inj
    show BitVec.ofNat 64 m &&& BitVec.ofNat 64 255 = BitVec.ofNat 64 (m % 256)
    apply BitVec.eq_of_toNat_eq
    rw [BitVec.toNat_and, BitVec.toNat_ofNat, BitVec.toNat_ofNat, BitVec.toNat_ofNat, Nat.mod_eq_of_lt (show m < 2 ^ 64 by omega), Nat.mod_eq_of_lt (show m % 256 < 2 ^ 64 by omega), Nat.mod_eq_of_lt (show 255 < 2 ^ 64 by decide)]
    exact Nat.and_two_pow_sub_one_eq_mod m 8
  rw [this]
  apply Int32.toBitVec.inj
  show (BitVec.ofNat 64 (m % 256)).signExtend 32 = BitVec.ofNat 32 (m % 256)
  apply BitVec.eq_of_toNat_eq
  rw [BitVec.signExtend_eq_setWidth_of_le _ (by decide), BitVec.toNat_setWidth, BitVec.toNat_ofNat, BitVec.toNat_ofNat, Nat.mod_eq_of_lt (show m % 256 < 2 ^ 64 by omega)]
def kf (x : Int64) : Nat := fst1 (fun i => decide (P_KN.getD i 0 = x)) 32
section
variable {h g : sm_H}
theorem k422a {i : Nat} (hi : i < 20) : F_422 (P_KN.getD i 0) g = some (I3 i, g) := by
  rcases (show i = 0 ∨ i = 1 ∨ i = 2 ∨ i = 3 ∨ i = 4 ∨ i = 5 ∨ i = 6 ∨ i = 7 ∨ i = 8 ∨ i = 9 ∨ i = 10 ∨ i = 11 ∨ i = 12 ∨ i = 13 ∨ i = 14 ∨ i = 15 ∨ i = 16 ∨ i = 17 ∨ i = 18 ∨ i = 19 by omega) with rfl | rfl | rfl | rfl | rfl | rfl | rfl | rfl | rfl | rfl | rfl | rfl | rfl | rfl | rfl | rfl | rfl | rfl | rfl | rfl <;> rfl
theorem k422b {i : Nat} (h1 : 20 ≤ i) (h2 : i < 32) : F_422 (P_KN.getD i 0) g = if g.1 67 6 ≤ I3 (i - 20) then some (-1, g) else some (I3 i, g) := by
  rcases (show i = 20 ∨ i = 21 ∨ i = 22 ∨ i = 23 ∨ i = 24 ∨ i = 25 ∨ i = 26 ∨ i = 27 ∨ i = 28 ∨ i = 29 ∨ i = 30 ∨ i = 31 by omega) with rfl | rfl | rfl | rfl | rfl | rfl | rfl | rfl | rfl | rfl | rfl | rfl <;> rfl
theorem i6n {m x : Nat} (hm : m < 2 ^ 63) (hx : x < 2 ^ 63) : I6 m = I6 x ↔ m = x := by
  constructor
  · intro e
    have := congrArg Int64.toInt e
    rw [show (I6 m).toInt = (m : Int) from Int64.toInt_ofNat_of_lt (by omega), show (I6 x).toInt = (x : Int) from Int64.toInt_ofNat_of_lt (by omega)] at this
    omega
  · intro e; rw [e]
theorem i6t {m : Nat} (hm : m < 2 ^ 63) : (I6 m).toInt = (m : Int) := Int64.toInt_ofNat_of_lt (by omega)
theorem ceq {m x : Nat} (hm : m < 2 ^ 63) (hx : x < 2 ^ 63) (n : m ≠ x) : ¬ lg_cmp (I6 m) (I6 x) = 0 := fun z => n ((i6n hm hx).mp (cmp_eq.mp z))
theorem cge {m x : Nat} (hm : m < 2 ^ 63) (hx : x < 2 ^ 63) : (0 ≤ lg_cmp (I6 m) (I6 x)) ↔ x ≤ m := by
  rw [cmp_ge, i6t hm, i6t hx]; omega
theorem k422n {m : Nat} (hm : m < 2 ^ 63) (no : ∀ i, i < 32 → P_KN.getD i 0 ≠ I6 m) : F_422 (I6 m) g = some (-1, g) := by
  have ne : ∀ i x, i < 32 → x < 2 ^ 63 → P_KN.getD i 0 = I6 x → m ≠ x := fun i x hi hx e z => no i hi (by rw [e, z])
  have c : ∀ i x, i < 32 → x < 2 ^ 63 → P_KN.getD i 0 = I6 x → ¬ lg_cmp (I6 m) (I6 x) = 0 := fun i x hi hx e => ceq hm hx (ne i x hi hx e)
  show F_422_0 (I6 m) g = _
  unfold F_422_0
  rw [if_neg (show ¬ lg_cmp (I6 m) 118 = 0 from c 0 118 (by decide) (by decide) rfl), if_neg (show ¬ lg_cmp (I6 m) 122 = 0 from c 1 122 (by decide) (by decide) rfl), if_neg (show ¬ lg_cmp (I6 m) 98 = 0 from c 2 98 (by decide) (by decide) rfl), if_neg (show ¬ lg_cmp (I6 m) 115 = 0 from c 3 115 (by decide) (by decide) rfl), if_neg (show ¬ lg_cmp (I6 m) 99 = 0 from c 4 99 (by decide) (by decide) rfl), if_neg (show ¬ lg_cmp (I6 m) 105 = 0 from c 5 105 (by decide) (by decide) rfl), if_neg (show ¬ lg_cmp (I6 m) 106 = 0 from c 6 106 (by decide) (by decide) rfl), if_neg (show ¬ lg_cmp (I6 m) 111 = 0 from c 7 111 (by decide) (by decide) rfl), if_neg (show ¬ lg_cmp (I6 m) 110 = 0 from c 8 110 (by decide) (by decide) rfl), if_neg (show ¬ lg_cmp (I6 m) 104 = 0 from c 18 104 (by decide) (by decide) rfl), if_neg (show ¬ lg_cmp (I6 m) 101 = 0 from c 19 101 (by decide) (by decide) rfl)]
  simp only [obs]
  rw [and8 hm]
  have a5 : (0 ≤ lg_cmp (I6 m) 65536) ↔ 65536 ≤ m := cge hm (x := 65536) (by decide)
  have a6 : (0 ≤ lg_cmp (I6 m) 16777216) ↔ 16777216 ≤ m := cge hm (x := 16777216) (by decide)
  have m2 : m % 256 < 256 := Nat.mod_lt _ (by decide)
  have b3 : ∀ x, x < 256 → m % 256 ≠ x → ¬ I3 (m % 256) = I3 x := fun x hx n => by rw [I3_inj (by omega) (by omega)]; exact n
  unfold F_422_217 F_422_269 F_422_316 F_422_373 F_422_268 F_422_216 F_422_315
  by_cases q : 16777216 ≤ m
  · rw [if_pos (a5.mpr (by omega)), if_pos (a5.mpr (by omega)), if_pos (a5.mpr (by omega)), if_pos (a6.mpr q)]
  · have sh := shr8 (m := m) (by omega)
    rw [sh]
    have m1 : m / 256 < 65536 := by omega
    have b2' : ∀ x, x < 65536 → m / 256 ≠ x → ¬ I3 (m / 256) = I3 x := fun x hx n => by rw [I3_inj (by omega) (by omega)]; exact n
    by_cases w : 65536 ≤ m
    · rw [if_pos (a5.mpr w), if_pos (a5.mpr w), if_pos (a5.mpr w), if_neg (fun z => q (a6.mp z))]
      by_cases y : m / 256 = 27441
      · have n0 := ne 30 7024944 (by decide) (by decide) rfl
        have n1 := ne 31 7024945 (by decide) (by decide) rfl
        rw [if_pos (show I3 (m / 256) = (27441 : Int32) by rw [y]; rfl), if_neg (show ¬ I3 (m % 256) = (48 : Int32) from b3 48 (by decide) (by omega)), if_neg (show ¬ I3 (m % 256) = (49 : Int32) from b3 49 (by decide) (by omega))]
      · rw [if_neg (show ¬ I3 (m / 256) = (27441 : Int32) from b2' 27441 (by decide) y)]
    · have e5 := fun z => w (a5.mp z)
      rw [if_neg e5]
      by_cases y0 : m / 256 = 111
      · have n9 := ne 9 28538 (by decide) (by decide) rfl
        have n10 := ne 10 28514 (by decide) (by decide) rfl
        have n11 := ne 11 28531 (by decide) (by decide) rfl
        have n12 := ne 12 28515 (by decide) (by decide) rfl
        have n13 := ne 13 28521 (by decide) (by decide) rfl
        have n14 := ne 14 28522 (by decide) (by decide) rfl
        rw [if_pos (show I3 (m / 256) = (111 : Int32) by rw [y0]; rfl), if_neg (show ¬ I3 (m % 256) = (122 : Int32) from b3 122 (by decide) (by omega)), if_neg (show ¬ I3 (m % 256) = (98 : Int32) from b3 98 (by decide) (by omega)), if_neg (show ¬ I3 (m % 256) = (115 : Int32) from b3 115 (by decide) (by omega)), if_neg (show ¬ I3 (m % 256) = (99 : Int32) from b3 99 (by decide) (by omega)), if_neg (show ¬ I3 (m % 256) = (105 : Int32) from b3 105 (by decide) (by omega)), if_neg (show ¬ I3 (m % 256) = (106 : Int32) from b3 106 (by decide) (by omega))]
      rw [if_neg (show ¬ I3 (m / 256) = (111 : Int32) from b2' 111 (by decide) y0), if_neg e5]
      by_cases y1 : m / 256 = 120
      · have n15 := ne 15 30825 (by decide) (by decide) rfl
        have n16 := ne 16 30826 (by decide) (by decide) rfl
        have n17 := ne 17 30831 (by decide) (by decide) rfl
        rw [if_pos (show I3 (m / 256) = (120 : Int32) by rw [y1]; rfl), if_neg (show ¬ I3 (m % 256) = (105 : Int32) from b3 105 (by decide) (by omega)), if_neg (show ¬ I3 (m % 256) = (106 : Int32) from b3 106 (by decide) (by omega)), if_neg (show ¬ I3 (m % 256) = (111 : Int32) from b3 111 (by decide) (by omega))]
      rw [if_neg (show ¬ I3 (m / 256) = (120 : Int32) from b2' 120 (by decide) y1), if_neg e5]
      have end316 : (if 0 ≤ lg_cmp (I6 m) 16777216 then some ((-1 : Int32), g) else if I3 (m / 256) = 27441 then if I3 (m % 256) = 48 then F_422_345 (I3 (m % 256)) g else if I3 (m % 256) = 49 then F_422_345 (I3 (m % 256)) g else some (-1, g) else some (-1, g)) = some (-1, g) := by
        rw [if_neg (fun z => q (a6.mp z)), if_neg (show ¬ I3 (m / 256) = (27441 : Int32) from b2' 27441 (by decide) (by omega))]
      by_cases y2 : m / 256 = 107
      · have nd : isD (m % 256) = false := by
          cases d : isD (m % 256) with
          | false => rfl
          | true =>
            unfold isD at d
            have d := of_decide_eq_true d
            exfalso
            have k : ∀ j, j < 10 → P_KN.getD (20 + j) 0 = I6 (27440 + j) := fun j hj => by
              rcases (show j = 0 ∨ j = 1 ∨ j = 2 ∨ j = 3 ∨ j = 4 ∨ j = 5 ∨ j = 6 ∨ j = 7 ∨ j = 8 ∨ j = 9 by omega) with rfl | rfl | rfl | rfl | rfl | rfl | rfl | rfl | rfl | rfl <;> rfl
            exact ne (20 + (m % 256 - 48)) (27440 + (m % 256 - 48)) (by omega) (by omega) (k _ (by omega)) (by omega)
        rw [if_pos (show I3 (m / 256) = (107 : Int32) by rw [y2]; rfl), R_416b (by omega), nd]; simp only [obs]
        rw [if_pos (by decide)]; exact end316
      · rw [if_neg (show ¬ I3 (m / 256) = (107 : Int32) from b2' 107 (by decide) y2)]; exact end316
end
