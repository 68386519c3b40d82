theorem B_par {u g : sm_H} (e : ∀ c, par u c = par g c) (x o : Nat) : B u x o = B g x o := by
  have : ∀ n x, bel u n x o = bel g n x o := by
    intro n
    induction n with
    | zero => intro x; rfl
    | succ n ih =>
      intro x
      show (bif Nat.blt x 20 then kBase x o else Nat.beq x o || bel u n (par u (x - 20)) o) = (bif Nat.blt x 20 then kBase x o else Nat.beq x o || bel g n (par g (x - 20)) o)
      rw [e, ih]
  exact this 12 x
theorem and65535 (c : Int64) : (c &&& 65535) = I6 (c.toBitVec.toNat % 65536) := by
  have h1 : (c &&& 65535).toBitVec = c.toBitVec &&& 65535#64 := rfl
  rw [← Int64.toBitVec_inj, h1]
  apply BitVec.eq_of_toNat_eq
  rw [BitVec.toNat_and]
  show c.toBitVec.toNat &&& 65535 = (BitVec.ofNat 64 (c.toBitVec.toNat % 65536)).toNat
  rw [BitVec.toNat_ofNat]
  exact (Nat.and_two_pow_sub_one_eq_mod _ 16).trans (Nat.mod_eq_of_lt (show c.toBitVec.toNat % 65536 < 2 ^ 64 by omega)).symm
theorem and1 (c : Int64) : (c &&& 1) = I6 (c.toBitVec.toNat % 2) := by
  have h1 : (c &&& 1).toBitVec = c.toBitVec &&& 1#64 := rfl
  rw [← Int64.toBitVec_inj, h1]
  apply BitVec.eq_of_toNat_eq
  rw [BitVec.toNat_and]
  show c.toBitVec.toNat &&& 1 = (BitVec.ofNat 64 (c.toBitVec.toNat % 2)).toNat
  rw [BitVec.toNat_ofNat]
  exact (Nat.and_two_pow_sub_one_eq_mod _ 1).trans (Nat.mod_eq_of_lt (show c.toBitVec.toNat % 2 < 2 ^ 64 by omega)).symm
theorem char_eq (c : Int64) : Int32.toInt64 ((Int32.toUInt32 (Int64.toInt32 c)) % 65536).toInt32 = c &&& 65535 := by
  rw [and65535]
  have e : ((Int32.toUInt32 (Int64.toInt32 c)) % 65536).toInt32 = I3 (c.toBitVec.toNat % 65536) := by
    rw [← Int32.toBitVec_inj]
    apply BitVec.eq_of_toNat_eq
    show ((Int32.toUInt32 (Int64.toInt32 c)) % 65536).toNat = (BitVec.ofNat 32 (c.toBitVec.toNat % 65536)).toNat
    rw [UInt32.toNat_mod, BitVec.toNat_ofNat]
    have : (Int32.toUInt32 (Int64.toInt32 c)).toNat = c.toBitVec.toNat % 4294967296 := by
      show (c.toBitVec.signExtend 32).toNat = _
      rw [BitVec.signExtend_eq_setWidth_of_le _ (by decide), BitVec.toNat_setWidth]
    rw [this]
    show c.toBitVec.toNat % 4294967296 % 65536 = c.toBitVec.toNat % 65536 % 4294967296
    omega
  rw [e, I3_64 (by omega)]
def nar (k : Nat) (c : Int64) : Int64 := if k = 1 then c &&& 1 else if k = 2 then Int32.toInt64 (Int32.toInt8 (Int64.toInt32 c)).toInt32 else if k = 3 then Int32.toInt64 (Int32.toInt16 (Int64.toInt32 c)).toInt32 else if k = 4 then c &&& 65535 else if k = 5 then Int32.toInt64 (Int64.toInt32 c) else c
theorem C_nar (h : sm_H) {k : Nat} (hk : k < 2147483648) (c : Int64) : F_68 c (I3 k) h = some (nar k c, h) := by
  show F_68_0 c (I3 k) h = _
  unfold F_68_0 nar
  rw [char_eq]
  have e : ∀ n, n < 10 → (I3 k = I3 n) = (k = n) := fun n hn => propext (I3_inj hk (by omega))
  simp only [I3_lit, e 1 (by decide), e 2 (by decide), e 3 (by decide), e 4 (by decide), e 5 (by decide)]
  (repeat' split) <;> rfl
theorem R_nar (h : sm_H) {k : Nat} (hk : k < 2147483648) (c : Int64) : F_298 (I3 k) c h = some (nar k c, h) := by
  show F_298_0 (I3 k) c h = _
  unfold F_298_0 nar
  have e : ∀ n, n < 10 → (I3 k = I3 n) = (k = n) := fun n hn => propext (I3_inj hk (by omega))
  simp only [I3_lit, e 1 (by decide), e 2 (by decide), e 3 (by decide), e 4 (by decide), e 5 (by decide)]
  (repeat' split) <;> rfl
theorem nar_ok (k : Nat) (c : Int64) : okN k (nar k c) := by
  unfold okN
  refine ⟨fun e => ?_, fun e => ?_, fun e => ?_, fun e => ?_, fun e => ?_⟩ <;> subst e
  · show (c &&& 1) = 0 ∨ (c &&& 1) = 1
    rw [and1]
    rcases (show c.toBitVec.toNat % 2 = 0 ∨ c.toBitVec.toNat % 2 = 1 by omega) with z | z
    · rw [z]; exact Or.inl rfl
    · rw [z]; exact Or.inr rfl
  · show -128 ≤ (Int32.toInt64 (Int32.toInt8 (Int64.toInt32 c)).toInt32).toInt ∧ _
    rw [show nar 2 c = Int32.toInt64 (Int32.toInt8 (Int64.toInt32 c)).toInt32 from rfl, toI64, Int8.toInt_toInt32]
    have := Int8.le_toInt (Int32.toInt8 (Int64.toInt32 c))
    have := Int8.toInt_lt (Int32.toInt8 (Int64.toInt32 c))
    omega
  · rw [show nar 3 c = Int32.toInt64 (Int32.toInt16 (Int64.toInt32 c)).toInt32 from rfl, toI64, Int16.toInt_toInt32]
    have := Int16.le_toInt (Int32.toInt16 (Int64.toInt32 c))
    have := Int16.toInt_lt (Int32.toInt16 (Int64.toInt32 c))
    omega
  · rw [show nar 4 c = c &&& 65535 from rfl, and65535, I6_toInt (by omega)]
    omega
  · rw [show nar 5 c = Int32.toInt64 (Int64.toInt32 c) from rfl, toI64]
    have := b32 (Int64.toInt32 c)
    omega
theorem and1_iff (c : Int64) : (c &&& 1) = c ↔ (c = 0 ∨ c = 1) := by
  constructor
  · intro h
    rw [and1] at h
    rcases (show c.toBitVec.toNat % 2 = 0 ∨ c.toBitVec.toNat % 2 = 1 by omega) with z | z
    · rw [z] at h; exact Or.inl h.symm
    · rw [z] at h; exact Or.inr h.symm
  · rintro (z | z) <;> subst z <;> rfl
def trK (g : sm_H) (k : Nat) (c : Int64) : Nat := if k ≤ 6 then (if nar k c = c then 0 else 2) else if c = -1 then 0 else if c.toInt < 0 ∨ (nV g : Int) ≤ c.toInt then 1 else if B g (tn (g.1 94 c.toInt.toNat)) k = true then 0 else 3
theorem trK_3 (g : sm_H) (k : Nat) (c : Int64) : trK g k c ≤ 3 := by unfold trK; (repeat' split) <;> omega
theorem trK_0 {h g : sm_H} (K : K1 h g) {k : Nat} (k1 : 0 < k) {c : Int64} (e : trK g k c = 0) : okK g k c := by
  unfold trK at e
  have w100 : nV g ≤ 100 := K.2.2.2.2.2.2.2.2.2.2.1.2.1.2
  by_cases q : k ≤ 6
  · rw [if_pos q] at e
    by_cases q1 : nar k c = c
    · have := nar_ok k c
      rw [q1] at this
      exact Or.inl ⟨k1, q, this⟩
    · rw [if_neg q1] at e; cases e
  · rw [if_neg q] at e
    refine Or.inr ⟨by omega, ?_⟩
    by_cases q1 : c = -1
    · exact Or.inl q1
    · rw [if_neg q1] at e
      by_cases q2 : c.toInt < 0 ∨ (nV g : Int) ≤ c.toInt
      · rw [if_pos q2] at e; cases e
      · rw [if_neg q2] at e
        by_cases q3 : B g (tn (g.1 94 c.toInt.toNat)) k = true
        · refine Or.inr ⟨c.toInt.toNat, by omega, ?_, q3⟩
          rw [← Int64.toInt_inj, I6_toInt (by omega)]; omega
        · rw [if_neg q3] at e; cases e
theorem C_trouble {h g : sm_H} (K : K1 h g) {k : Nat} (k1 : 0 < k) (k2 : k < 20 + nC g) (c : Int64) : F_152 (I3 k) c h = some (I3 (trK g k c), h) := by
  have wK := K.1
  have h12 := wK.2.1
  have cVq := K.2.2.2.2.2.2.2.2.2.2.1
  have w100 : nV g ≤ 100 := cVq.2.1.2
  show F_152_0 (I3 k) c h = _
  unfold F_152_0
  rw [C_plain (by omega)]; simp only [obs]
  unfold trK
  by_cases q : k ≤ 6
  · rw [if_pos q, decide_eq_true (show 1 ≤ k ∧ k ≤ 6 by omega), if_neg (by decide), C_nar h (by omega)]; simp only [obs]
    simp only [cmp_eq]
    by_cases q1 : nar k c = c
    · rw [if_pos q1, if_pos q1]; rfl
    · rw [if_neg q1, if_neg q1]; rfl
  · rw [if_neg q, decide_eq_false (show ¬ (1 ≤ k ∧ k ≤ 6) by omega), if_pos (by decide)]
    simp only [cmp_eq, cmp_lt]
    by_cases q1 : c = -1
    · rw [if_pos q1, if_pos q1]; rfl
    · rw [if_neg q1, if_neg q1, toI64, show h.1 21 6 = I3 (nV g) from cVq.1.trans cVq.2.1.1, I3_toInt (by omega), show (0 : Int64).toInt = 0 from rfl]
      by_cases q2 : c.toInt < 0
      · rw [if_pos q2, if_pos (Or.inl q2)]; rfl
      · rw [if_neg q2]
        by_cases q4 : c.toInt < ((nV g : Nat) : Int)
        · have v1 : c.toInt.toNat < nV g := by omega
          rw [if_pos q4, if_neg (by omega)]
          have ec : c = I6 c.toInt.toNat := by rw [← Int64.toInt_inj, I6_toInt (by omega)]; omega
          obtain ⟨qk, z1, z2, -⟩ := cVq.2.2.2 _ v1
          have e32 : Int64.toInt32 c = I3 c.toInt.toNat := by rw [ec, I6_32, ← ec]
          rw [e32, C_thtag (th29 h) (by omega), (cVq.2.2.1 _ (by omega)).1, z1]; simp only [obs]
          rw [C_belowN wK K.2.1 z2 k2, show tn (I3 qk) = qk from I3_clamp (by omega)]; simp only [obs]
          cases B g qk k <;> rfl
        · rw [if_neg q4, if_pos (by omega)]; rfl
theorem R_trouble {h g : sm_H} (K : K1 h g) {k : Nat} (k1 : 0 < k) (k2 : k < 20 + nC g) (c : Int64) : F_317 (I3 k) c g = some (I3 (trK g k c), g) := by
  have wK := K.1
  have h12 := wK.2.1
  have cVq := K.2.2.2.2.2.2.2.2.2.2.1
  have w100 : nV g ≤ 100 := cVq.2.1.2
  have e40 : g.1 67 40 = I3 (nV g) := cVq.2.1.1
  show F_317_0 (I3 k) c g = _
  unfold F_317_0
  rw [R_plain (by omega)]; simp only [obs]
  unfold trK
  by_cases q : k ≤ 6
  · rw [if_pos q, decide_eq_true (show 1 ≤ k ∧ k ≤ 6 by omega), if_neg (by decide)]
    have RN : F_316 (I3 k) c g = some (b2 (decide (nar k c = c)), g) := by
      show F_316_0 (I3 k) c g = _
      unfold F_316_0 F_316_17 F_316_40
      simp only [true_or, or_true, if_true]
      by_cases q1 : k = 1
      · subst q1
        rw [if_pos (by decide)]
        simp only [cmp_eq]
        have e1 : (nar 1 c = c) = (c = 0 ∨ c = 1) := propext (and1_iff c)
        by_cases z0 : c = 0
        · rw [if_pos z0, decide_eq_true (by rw [e1]; exact Or.inl z0)]; rfl
        · rw [if_neg z0]
          by_cases z1 : c = 1
          · rw [if_pos z1, decide_eq_true (by rw [e1]; exact Or.inr z1)]; rfl
          · rw [if_neg z1, decide_eq_false (by rw [e1]; rintro (z | z); exact z0 z; exact z1 z)]; rfl
      · rw [if_neg (by rw [I3_lit, I3_inj (by omega) (by decide)]; exact q1), R_nar g (by omega)]; simp only [obs]
        simp only [cmp_eq]
        by_cases z : nar k c = c
        · rw [if_pos z, decide_eq_true z]; rfl
        · rw [if_neg z, decide_eq_false z]; rfl
    rw [RN]; simp only [obs]
    by_cases q1 : nar k c = c
    · rw [decide_eq_true q1, if_pos q1]; rfl
    · rw [decide_eq_false q1, if_neg q1]; rfl
  · rw [if_neg q, decide_eq_false (show ¬ (1 ≤ k ∧ k ≤ 6) by omega), if_pos (by decide)]
    simp only [cmp_eq, cmp_lt]
    by_cases q1 : c = -1
    · rw [if_pos q1, if_pos q1]; rfl
    · rw [if_neg q1, if_neg q1, e40, R_out, toI64, I3_lit, I3m1 (by omega), show (0 : Int64).toInt = 0 from rfl]; simp only [obs]
      by_cases q2 : c.toInt < 0 ∨ (nV g : Int) ≤ c.toInt
      · rw [decide_eq_true (show c.toInt < 0 ∨ (nV g : Int) - 1 < c.toInt by omega), if_neg (by decide), if_pos q2]
      · have v1 : c.toInt.toNat < nV g := by omega
        rw [decide_eq_false (show ¬ (c.toInt < 0 ∨ (nV g : Int) - 1 < c.toInt) by omega), if_pos (by decide), if_neg q2]
        have ec : c = I6 c.toInt.toNat := by rw [← Int64.toInt_inj, I6_toInt (by omega)]; omega
        obtain ⟨qk, z1, z2, -⟩ := cVq.2.2.2 _ v1
        have e32 : Int64.toInt32 c = I3 c.toInt.toNat := by rw [ec, I6_32, ← ec]
        rw [e32, ldI_I (by omega) (by omega), z1]; simp only [obs]
        rw [R_below wK z2 (by omega), show tn (I3 qk) = qk from I3_clamp (by omega)]; simp only [obs]
        cases B g qk k <;> rfl
theorem trK_agr {g u : sm_H} (a : agr SRd g u) (k : Nat) (c : Int64) : trK u k c = trK g k c := by
  have e1 : nV u = nV g := by show tn _ = tn _; rw [a.1 67 40 (by unfold SRd; omega)]
  have e2 : ∀ x, u.1 94 x = g.1 94 x := fun x => a.1 94 x (by unfold SRd; omega)
  have e3 : ∀ x o, B u x o = B g x o := B_par (fun x => by show tn (u.1 70 x) = tn (g.1 70 x); rw [a.1 70 x (by unfold SRd; omega)])
  unfold trK
  rw [e1, e2, e3]
theorem E_trouble {h g u : sm_H} {r : Int32} {l : List Int32} (e : E h g u r l) {k : Nat} (k1 : 0 < k) (k2 : k < 20 + nC g) (c : Int64) : F_317 (I3 k) c u = some (I3 (trK g k c), u) := by
  have eC : nC u = nC g := by show tn _ = tn _; rw [e.a.1 67 6 (by unfold SRd; omega)]
  have := R_trouble e.k k1 (by rw [eC]; exact k2) c
  rw [trK_agr e.a] at this; exact this
