def FRM (g : sm_H) (k : Nat) (srt ex : Int32) (m : Nat) (pt : Nat → Nat) : Prop := k < 24 ∧ g.1 119 k = srt ∧ g.1 122 k = ex ∧ g.1 124 k = I3 m ∧ m ≤ 20 ∧ ∀ i, i < m → g.1 125 (20 * k + i) = I3 (pt i)
def pO (m : Nat) (pt : Nat → Nat) (i : Nat) : Int32 := if i < m then I3 (pt i) else -1
theorem F460 {g : sm_H} {k m : Nat} {srt ex : Int32} {pt : Nat → Nat} (f : FRM g k srt ex m pt) : F_460 (I3 k) g = F_460_74 (I3 k) (pO m pt 0) (pO m pt 1) (pO m pt 2) g := by
  obtain ⟨k1, -, -, f4, f5, f6⟩ := f
  show F_460_0 (I3 k) g = _
  unfold F_460_0 F_460_22 F_460_48 pO
  have l4 : ldI g 124 24 (I3 k) = some (I3 m) := by rw [ldI_I k1 (by decide), f4]
  have e : ∀ j, (20 : Int32) * I3 k + I3 j = I3 (20 * k + j) := fun j => by rw [I3_lit, I3_mul, I3_add]
  rw [l4]; simp only [obs]
  by_cases q0 : m = 0
  · rw [if_pos (by rw [I3_lit, I3_le (by omega) (by decide)]; omega), if_pos (by rw [I3_lit, I3_le (by omega) (by decide)]; omega), if_pos (by rw [I3_lit, I3_le (by omega) (by decide)]; omega), if_neg (by omega), if_neg (by omega), if_neg (by omega)]
  · rw [if_neg (by rw [I3_lit, I3_le (by omega) (by decide)]; omega), show (20 : Int32) * I3 k = I3 (20 * k + 0) by rw [I3_lit, I3_mul]; rfl, ldI_I (by omega) (by decide), f6 0 (by omega), if_pos (show 0 < m by omega)]; simp only [obs]
    by_cases q1 : m = 1
    · rw [if_pos (by rw [I3_lit, I3_le (by omega) (by decide)]; omega), if_pos (by rw [I3_lit, I3_le (by omega) (by decide)]; omega), if_neg (by omega), if_neg (by omega)]
    · rw [if_neg (by rw [I3_lit, I3_le (by omega) (by decide)]; omega), show I3 (20 * k + 0) + 1 = I3 (20 * k + 1) from I3_add _ 1, ldI_I (by omega) (by decide), f6 1 (by omega), if_pos (show 1 < m by omega)]; simp only [obs]
      by_cases q2 : m = 2
      · rw [if_pos (by rw [I3_lit, I3_le (by omega) (by decide)]; omega), if_neg (by omega)]
      · rw [if_neg (by rw [I3_lit, I3_le (by omega) (by decide)]; omega), show I3 (20 * k + 0) + 2 = I3 (20 * k + 2) from I3_add _ 2, ldI_I (by omega) (by decide), f6 2 (by omega), if_pos (show 2 < m by omega)]; simp only [obs]
theorem ld122 {g : sm_H} {k m : Nat} {srt ex : Int32} {pt : Nat → Nat} (f : FRM g k srt ex m pt) : ldI g 122 24 (I3 k) = some ex := by rw [ldI_I f.1 (by decide), f.2.2.1]
theorem ld119 {g : sm_H} {k m : Nat} {srt ex : Int32} {pt : Nat → Nat} (f : FRM g k srt ex m pt) : ldI g 119 24 (I3 k) = some srt := by rw [ldI_I f.1 (by decide), f.2.1]
theorem ck458t (g : sm_H) : F_458 1 g = some (1, g) := by
  show F_458_0 1 g = _
  unfold F_458_0 F_458_17 F_458_22
  rw [if_neg (by decide), if_pos (by decide)]
theorem ck458f {h g : sm_H} (K : K1 h g) (nf : NF h g) {pc : Nat} (wh : g.1 67 106 = I3 pc) : ∃ h2 g2, F_169 7 (I3 pc) h = some (-1, h2) ∧ F_458 0 g = some (0, g2) ∧ TK h g h2 g2 ∧ FT 7 pc h2 g2 := by
  obtain ⟨h2, g2, f1, f2, f3, f4⟩ := failB K nf (e := 7) (pc := pc) (by decide) (by decide)
  refine ⟨h2, g2, f1, ?_, f3, f4⟩
  show F_458_0 0 g = _
  unfold F_458_0 F_458_22
  rw [if_pos rfl, wh, show F_413 7 (I3 pc) g = some (0, g2) from f2]; simp only [obs]
  rw [if_pos trivial, if_pos (by decide)]
def CP (x1 x2 x3 x4 : Int32) (h : sm_H) : Option (Int32 × sm_H) := (F_203 x1 x2 x3 h).bind fun q5 =>
  if q5.1 = 0 then ((F_169 7 x4 q5.2).bind fun q8 => some (q8.1, q8.2))
  else (if x1 = 0 then ((F_205 x3 x4 q5.2).bind fun q7 => some (q7.1, q7.2)) else ((F_202 x1 x2 x3 x4 q5.2).bind fun q6 => some (q6.1, q6.2)))
theorem CP_f {x1 x2 x3 : Int32} {pc : Nat} {h h2 : sm_H} (a : F_203 x1 x2 x3 h = some (0, h)) (b : F_169 7 (I3 pc) h = some (-1, h2)) : CP x1 x2 x3 (I3 pc) h = some (-1, h2) := by
  unfold CP
  rw [a]; simp only [obs]
  rw [if_pos trivial, b]; rfl
theorem CP_t {x1 x2 x3 x4 : Int32} {h : sm_H} (a : F_203 x1 x2 x3 h = some (1, h)) (b : ¬ x1 = 0) : CP x1 x2 x3 x4 h = F_202 x1 x2 x3 x4 h := by
  unfold CP
  rw [a]; simp only [obs]
  rw [if_neg (by decide), if_neg b, bind_id]
theorem C_rsX {h g : sm_H} (K : K1 h g) (x : Int32) : ∃ w, F_44 x h = some (w, h) := by
  cases q : inR x (nH g) with
  | false => exact ⟨_, C_resultOf_o K.2.2.2.2.1 K.2.2.2.2.2.1 q⟩
  | true =>
    obtain ⟨a, a1, rfl⟩ := inR_x (by have := w500 K; omega) q
    exact ⟨_, C_rs K a1⟩
theorem C_189X {h g : sm_H} (K : K1 h g) {base m : Nat} {pt : Nat → Nat} (st : STK h base m pt) : ∃ w, F_189 (I3 base) h = some (w, h) := by
  have A : ∃ v, F_187 (I3 base) h = some (v, h) := by
    obtain ⟨top, t1, t2, t3, t4⟩ := st
    show ∃ v, F_187_0 (I3 base) h = some (v, h)
    unfold F_187_0 F_187_28 F_187_29
    rw [if_neg (I3_nn (by omega))]
    by_cases q : h.1 55 12 ≤ I3 base
    · rw [if_pos q]; exact ⟨_, rfl⟩
    · rw [if_neg q]
      by_cases q2 : 200 ≤ base
      · rw [if_pos (by rw [I3_lit, I3_le (by omega) (by omega)]; omega)]; exact ⟨_, rfl⟩
      · rw [if_neg (by rw [I3_lit, I3_le (by omega) (by omega)]; omega), ldI_I (by omega) (by decide)]; exact ⟨_, rfl⟩
  obtain ⟨v, v1⟩ := A
  obtain ⟨w, w1⟩ := C_rsX K v
  refine ⟨w, ?_⟩
  show F_189_0 (I3 base) h = _
  unfold F_189_0
  rw [v1]; simp only [obs]
  rw [w1]; rfl
theorem C_189 {h g : sm_H} (K : K1 h g) {base m i : Nat} {pt : Nat → Nat} (st : STK h base m pt) (hi : i < m) (p : pt i < nH g) : F_189 (I3 (base + i)) h = some (hrs g (pt i), h) := by
  show F_189_0 (I3 (base + i)) h = _
  unfold F_189_0
  rw [STK_at st hi]; simp only [obs]
  rw [C_rs K p]; rfl
section
variable {h g : sm_H} {nm : Nat → Int64} {kd : List Int32} {pc base k : Nat} {pt : Nat → Nat} {ex : Int32}
theorem do_5 (K : K1 h g) (S : SCO nm kd h g) (nf : NF h g) (wh : g.1 67 106 = I3 pc) (st : STK h base 1 pt) (ok : ∀ i, i < 1 → pt i < nH g ∧ hpl g (pt i) = kd) {x : Nat} (hx : x < 20 + nC g) (fr : FRM g k 7 (I3 x) 1 pt) : PO base h g pc (CP 5 (I3 x) (I3 base) (I3 pc) h) (F_460 (I3 k) g) kd := by
  obtain ⟨o1, o2⟩ := ok 0 (by omega)
  have M := passedAs K S nf wh o1 o2 hx
  rw [F460 fr]
  unfold F_460_74
  rw [ld122 fr, ld119 fr]; simp only [obs]
  rw [if_neg (by decide), if_neg (by decide), if_neg (by decide), if_neg (by decide), if_neg (by decide), if_neg (by decide), if_pos trivial, bind_id, show pO 1 pt 0 = I3 (pt 0) from rfl, CP_t (by rfl) (by decide)]
  have C0 : F_202 5 (I3 x) (I3 base) (I3 pc) h = F_202_0 5 (I3 x) (I3 base) (I3 pc) h := rfl
  unfold F_202_0 at C0
  rw [show F_189 (I3 base) h = some (hrs g (pt 0), h) from C_189 K st (i := 0) (by omega) o1] at C0; simp only [obs] at C0
  rw [if_neg (by decide), if_pos trivial, show F_187 (I3 base) h = some (I3 (pt 0), h) from STK_at st (i := 0) (by omega)] at C0; simp only [obs] at C0
  rw [bind_id] at C0
  rw [C0]
  exact PO_of M
theorem do_6 (K : K1 h g) (S : SCO nm kd h g) (nf : NF h g) (wh : g.1 67 106 = I3 pc) (st : STK h base 1 pt) (ok : ∀ i, i < 1 → pt i < nH g ∧ hpl g (pt i) = kd) {x : Nat} (hx : x < 20 + nC g) (fr : FRM g k 8 (I3 x) 1 pt) : PO base h g pc (CP 6 (I3 x) (I3 base) (I3 pc) h) (F_460 (I3 k) g) kd := by
  obtain ⟨o1, o2⟩ := ok 0 (by omega)
  have M := forcedAs K S nf wh o1 o2 hx
  rw [F460 fr]
  unfold F_460_74
  rw [ld122 fr, ld119 fr]; simp only [obs]
  rw [if_neg (by decide), if_neg (by decide), if_neg (by decide), if_neg (by decide), if_neg (by decide), if_neg (by decide), if_neg (by decide), if_pos trivial, show pO 1 pt 0 = I3 (pt 0) from rfl, CP_t (by rfl) (by decide)]
  have C0 : F_202 6 (I3 x) (I3 base) (I3 pc) h = F_202_0 6 (I3 x) (I3 base) (I3 pc) h := rfl
  unfold F_202_0 at C0
  rw [show F_189 (I3 base) h = some (hrs g (pt 0), h) from C_189 K st (i := 0) (by omega) o1] at C0; simp only [obs] at C0
  rw [if_neg (by decide), if_neg (by decide), if_pos trivial, show F_187 (I3 base) h = some (I3 (pt 0), h) from STK_at st (i := 0) (by omega)] at C0; simp only [obs] at C0
  rw [bind_id] at C0
  rw [C0]
  exact PO_of M
theorem ex_F5 {f : Nat} {v : Int32} (t : ∀ h, sm_ldI G0 h 1000000 (I3 f) = some v) (e : v &&& 4 = 0) (a b : Int32) (c : Int64) : ∀ h, F_5 (I3 f) a b (-1) 56 h = F_5 (I3 f) a b c 56 h := fun h => F5c t e a b (-1) c 56 h
theorem do_7 (K : K1 h g) (S : SCO nm kd h g) (nf : NF h g) (wh : g.1 67 106 = I3 pc) (st : STK h base 0 pt) {x : Nat} (hx : x < 20 + nC g) (fr : FRM g k 9 (I3 x) 0 pt) : PO base h g pc (CP 7 (I3 x) (I3 base) (I3 pc) h) (F_460 (I3 k) g) kd := by
  have h12 := K.1.2.1
  rw [F460 fr]
  unfold F_460_74
  rw [ld122 fr, ld119 fr]; simp only [obs]
  rw [if_neg (by decide), if_neg (by decide), if_neg (by decide), if_neg (by decide), if_neg (by decide), if_neg (by decide), if_neg (by decide), if_neg (by decide), if_pos trivial, R_ref (by omega)]; simp only [obs]
  have B203 : F_203 7 (I3 x) (I3 base) h = some (b2 (decide (7 ≤ x)), h) := by
    show F_203_0 7 (I3 x) (I3 base) h = _
    unfold F_203_0 F_203_48
    rw [if_pos rfl, refB K.1 K.2.1, inR_I (by omega), decide_eq_true hx, Bool.true_and]; simp only [obs]
    rw [show decide (¬ I3 x < 7) = decide (7 ≤ x) by
      have : (I3 x < 7) ↔ x < 7 := by rw [I3_lit, I3_lt (by omega) (by decide)]
      exact decide_eq_decide.mpr (by rw [this]; omega)]
    cases decide (7 ≤ x) <;> rfl
  by_cases q : 7 ≤ x
  · rw [decide_eq_true q] at B203 ⊢
    rw [show F_458 (b2 true) g = some (1, g) from ck458t g]; simp only [obs]
    rw [if_neg (by decide), CP_t B203 (by decide)]
    have C0 : F_202 7 (I3 x) (I3 base) (I3 pc) h = F_191 0 (I3 x) 0 (I3 base) 0 (I3 pc) h := by
      show F_202_0 7 (I3 x) (I3 base) (I3 pc) h = _
      unfold F_202_0
      obtain ⟨w, w1⟩ := C_189X K st
      rw [w1]; simp only [obs]
      rw [if_neg (by decide), if_neg (by decide), if_neg (by decide), if_pos trivial, bind_id]
    rw [C0]
    have ck := ck_0 (h := h) (g := sm_wI (sm_wI g 67 3 0) 67 19 0) (K1_c19 (TK_par (TK_rfl K) (agr_wI agr_rfl (by unfold SRp; omega) : agr SRp g (sm_wI g 67 3 0))).k) rfl (k := x) (by omega) hx 0 (c := -1) (by unfold trK; rw [if_neg (by omega), if_pos rfl])
    exact plain (f := 0) (a := I3 x) (b := 0) (c := -1) (l := []) K S nf wh st (by decide) (by decide) (fun _ => rfl) ck rfl (fun i hi => by omega) (fun x g => ⟨g, agr_rfl, fun i hi => by omega, (bind_id (F_435 x g)).trans (fin0 x g)⟩)
  · rw [decide_eq_false q] at B203 ⊢
    obtain ⟨h2, g2, f1, f2, f3, f4⟩ := ck458f K nf wh
    rw [show F_458 (b2 false) g = some (0, g2) from f2]; simp only [obs]
    rw [if_pos trivial]
    exact PO_fail (TB_of f3) f4 (CP_f B203 f1) rfl agr_rfl
theorem TK0 (K : K1 h g) : K1 h (sm_wI (sm_wI g 67 3 0) 67 19 0) := K1_c19 (TK_par (TK_rfl K) (agr_wI agr_rfl (by unfold SRp; omega) : agr SRp g (sm_wI g 67 3 0))).k
theorem lt500 (K : K1 h g) {y : Nat} (hy : y < nH g) : y < 500 := Nat.lt_of_lt_of_le hy (w500 K)
theorem up_s (i z : Nat) (pt : Nat → Nat) : updN pt i z i = z := if_pos rfl
theorem up_o {i j : Nat} (z : Nat) (pt : Nat → Nat) (h : j ≠ i) : updN pt i z j = pt j := if_neg h
theorem one_plain (K : K1 h g) (S : SCO nm kd h g) (nf : NF h g) (wh : g.1 67 106 = I3 pc) (st : STK h base 1 pt) (ok : ∀ i, i < 1 → pt i < nH g ∧ hpl g (pt i) = kd) {kk f : Nat} {a r : Int32} (hkk : kk < 20) (uf : f = 20 ∨ f = 31 ∨ f = 33) (ec : ∀ h, F_5 (I3 f) a 0 (-1) 56 h = F_5 (I3 f) a 0 0 56 h) (ckf : ∀ h' g', K1 h' g' → nC g' = nC g → g'.1 67 3 = 0 → Ck g' f a 0 0 r [I3 kk]) :
    PO base h g pc ((F_190 (I3 base) (I3 kk) (I3 pc) h).bind fun q => if q.1 = 0 then some (-1, q.2) else ((F_191 (I3 f) a 0 (I3 base) 1 (I3 pc) q.2).bind fun q => some (q.1, q.2)))
      ((F_433 (I3 (pt 0)) (I3 kk) g).bind fun q => (F_430 (I3 f) a 0 0 q.2).bind fun q1 => (F_436 q1.1 q.1 q1.2).bind fun q2 => some (q2.1, q2.2)) kd := by
  obtain ⟨o1, o2⟩ := ok 0 (by omega)
  rcases pass1 K S nf (i := 0) wh st (by omega) o1 o2 (k := kk) (by omega) with ⟨z, h1, g1, a1, a2, a3, a4, a5, a6, a7, a8⟩ | ⟨e, h1, g1, a1, a2, a3, a4⟩
  · rw [show F_190 (I3 base) (I3 kk) (I3 pc) h = some (1, h1) from a1, a2]; simp only [obs]
    rw [if_neg (by decide), bind_id]
    refine PO_tr a7 ?_
    have z5 := lt500 a7.k a3
    exact plain (m := 1) a7.k (SCO_TB S a7) a8 (wh_TB wh a7) a6 (by decide) (by rcases uf with rfl | rfl | rfl <;> decide) ec (ckf _ _ (TK0 a7.k) a7.nC rfl) rfl (fun i hi => by
      have e : i = 0 := by omega
      subst e
      rw [up_s]
      exact ⟨a3, a5, a4⟩) (fun x g => ⟨sm_wI g 127 0 (I3 z), (st127 g (k := 0) (by decide) _).2, fun i hi => by
        have e : i = 0 := by omega
        subst e
        rw [up_s]; rfl, (bind_id _).trans (fin1 z5 x g)⟩)
  · rw [show F_190 (I3 base) (I3 kk) (I3 pc) h = some (0, h1) from a1, a2]; simp only [obs]
    rw [if_pos trivial, dd430 (FT_ne a4)]; simp only [obs]
    obtain ⟨g2, b1, b2'⟩ := dd436 (sm_wI g1 67 3 0) (-1)
    rw [b1]
    exact PO_fail (TB_of a3) a4 rfl rfl (agr_trans (ag3 g1) (ag127 b2'))
theorem two_plain (K : K1 h g) (S : SCO nm kd h g) (nf : NF h g) (wh : g.1 67 106 = I3 pc) (st : STK h base 2 pt) (ok : ∀ i, i < 2 → pt i < nH g ∧ hpl g (pt i) = kd) {kk f : Nat} {a b r : Int32} (hkk : kk < 20) (uf : f = 3 ∨ f = 32) (ec : ∀ h, F_5 (I3 f) a b (-1) 56 h = F_5 (I3 f) a b 0 56 h) (ckf : ∀ h' g', K1 h' g' → nC g' = nC g → g'.1 67 3 = 0 → Ck g' f a b 0 r [I3 kk, I3 kk]) :
    PO base h g pc ((F_190 (I3 base) (I3 kk) (I3 pc) h).bind fun q => if q.1 = 0 then some (-1, q.2) else ((F_190 (I3 base + 1) (I3 kk) (I3 pc) q.2).bind fun q => if q.1 = 0 then some (-1, q.2) else ((F_191 (I3 f) a b (I3 base) 2 (I3 pc) q.2).bind fun q => some (q.1, q.2))))
      ((F_433 (I3 (pt 0)) (I3 kk) g).bind fun p => (F_433 (I3 (pt 1)) (I3 kk) p.2).bind fun q => (F_430 (I3 f) a b 0 q.2).bind fun q1 => (F_437 q1.1 p.1 q.1 q1.2).bind fun q2 => some (q2.1, q2.2)) kd := by
  obtain ⟨o1, o2⟩ := ok 0 (by omega)
  obtain ⟨p1, p2⟩ := ok 1 (by omega)
  rcases pass1 K S nf (i := 0) wh st (by omega) o1 o2 (k := kk) (by omega) with ⟨z, h1, g1, a1, a2, a3, a4, a5, a6, a7, a8⟩ | ⟨e, h1, g1, a1, a2, a3, a4⟩
  · rw [show F_190 (I3 base) (I3 kk) (I3 pc) h = some (1, h1) from a1, a2]; simp only [obs]
    rw [if_neg (by decide), show I3 base + 1 = I3 (base + 1) from I3_add base 1]
    have u1 : updN pt 0 z 1 = pt 1 := rfl
    rcases pass1 a7.k (SCO_TB S a7) a8 (i := 1) (pc := pc) (wh_TB wh a7) a6 (by omega) (by rw [u1]; exact a7.nH p1) (by rw [u1, a7.hpl K p1]; exact p2) (k := kk) (by omega) with ⟨w, h2, g2, c1, c2, c3, c4, c5, c6, c7, c8⟩ | ⟨e, h2, g2, c1, c2, c3, c4⟩
    · rw [u1] at c2
      rw [c1, c2]; simp only [obs]
      rw [if_neg (by decide), bind_id]
      have T := TB_trans a7 (TB_mono (Nat.le_add_right base 1) c7)
      refine PO_tr T ?_
      have z5 := lt500 a7.k a3
      have w5 := lt500 T.k c3
      exact plain (m := 2) T.k (SCO_TB S T) c8 (wh_TB wh T) c6 (by decide) (by rcases uf with rfl | rfl <;> decide) ec (ckf _ _ (TK0 T.k) T.nC rfl) rfl (fun i hi => by
        rcases (show i = 0 ∨ i = 1 by omega) with rfl | rfl
        · exact ⟨c7.nH a3, (c7.hpl a7.k a3).trans a5, (c7.hrs a7.k a3).trans a4⟩
        · exact ⟨c3, c5, c4⟩) (fun x g => ⟨sm_wI (sm_wI g 127 0 (I3 z)) 127 1 (I3 w), agr_trans (st127 g (k := 0) (by decide) _).2 (st127 _ (k := 1) (by decide) _).2, fun i hi => by
          rcases (show i = 0 ∨ i = 1 by omega) with rfl | rfl <;> rfl, (bind_id _).trans (fin2 z5 w5 x g)⟩)
    · rw [u1] at c2
      rw [c1, c2]; simp only [obs]
      rw [if_pos trivial, dd430 (FT_ne c4)]; simp only [obs]
      obtain ⟨g3, b1, b2'⟩ := dd437 (sm_wI g2 67 3 0) (I3 z) (-1)
      rw [b1]
      exact PO_fail (TB_trans a7 (TB_of c3)) c4 rfl rfl (agr_trans (ag3 g2) (ag127 b2'))
  · rw [show F_190 (I3 base) (I3 kk) (I3 pc) h = some (0, h1) from a1, a2]; simp only [obs]
    rw [if_pos trivial, dd433 (FT_ne a4)]; simp only [obs]
    rw [dd430 (FT_ne a4)]; simp only [obs]
    obtain ⟨g2, b1, b2'⟩ := dd437 (sm_wI g1 67 3 0) (-1) (-1)
    rw [b1]
    exact PO_fail (TB_of a3) a4 rfl rfl (agr_trans (ag3 g1) (ag127 b2'))
theorem do_8 (K : K1 h g) (S : SCO nm kd h g) (nf : NF h g) (wh : g.1 67 106 = I3 pc) (st : STK h base 1 pt) (ok : ∀ i, i < 1 → pt i < nH g ∧ hpl g (pt i) = kd) {x : Nat} (hx : x < 20 + nC g) (fr : FRM g k 10 (I3 x) 1 pt) : PO base h g pc (CP 8 (I3 x) (I3 base) (I3 pc) h) (F_460 (I3 k) g) kd := by
  have h12 := K.1.2.1
  rw [F460 fr]
  unfold F_460_74
  rw [ld122 fr, ld119 fr]; simp only [obs]
  rw [if_neg (by decide), if_neg (by decide), if_neg (by decide), if_neg (by decide), if_neg (by decide), if_neg (by decide), if_neg (by decide), if_neg (by decide), if_neg (by decide), if_pos trivial, show pO 1 pt 0 = I3 (pt 0) from rfl, R_isRow (by omega)]; simp only [obs]
  have B203 : F_203 8 (I3 x) (I3 base) h = some (b2 (decide (15 ≤ x ∧ x ≤ 17)), h) := by
    show F_203_0 8 (I3 x) (I3 base) h = _
    unfold F_203_0
    rw [if_neg (by decide), if_pos rfl, C_isRow (by omega)]; simp only [obs]
    cases decide (15 ≤ x ∧ x ≤ 17) <;> rfl
  by_cases q : 15 ≤ x ∧ x ≤ 17
  · rw [decide_eq_true q] at B203 ⊢
    rw [show F_458 (b2 true) g = some (1, g) from ck458t g]; simp only [obs]
    rw [if_neg (by decide), CP_t B203 (by decide)]
    have C0 : F_202 8 (I3 x) (I3 base) (I3 pc) h = F_202_0 8 (I3 x) (I3 base) (I3 pc) h := rfl
    unfold F_202_0 at C0
    obtain ⟨w, w1⟩ := C_189X K st
    rw [w1] at C0; simp only [obs] at C0
    rw [if_neg (by decide), if_neg (by decide), if_neg (by decide), if_neg (by decide), if_pos trivial] at C0
    rw [C0]
    exact one_plain K S nf wh st ok (kk := 5) (f := 20) (a := I3 x) (by decide) (by decide) (ex_F5 (fun _ => rfl) (by decide) _ _ _) (fun h' g' K' e P0 => ck_row K' P0 q.1 q.2 (Or.inl rfl) 0 0)
  · rw [decide_eq_false q] at B203 ⊢
    obtain ⟨h2, g2, f1, f2, f3, f4⟩ := ck458f K nf wh
    rw [show F_458 (b2 false) g = some (0, g2) from f2]; simp only [obs]
    rw [if_pos trivial]
    unfold F_460_445
    rw [dd430 (FT_ne f4)]; simp only [obs]
    obtain ⟨g3, b1, b2'⟩ := dd436 (sm_wI g2 67 3 0) (-1)
    rw [b1]
    exact PO_fail (TB_of f3) f4 (CP_f B203 f1) rfl (agr_trans (ag3 g2) (ag127 b2'))
theorem do_12 (K : K1 h g) (S : SCO nm kd h g) (nf : NF h g) (wh : g.1 67 106 = I3 pc) (st : STK h base 1 pt) (ok : ∀ i, i < 1 → pt i < nH g ∧ hpl g (pt i) = kd) {x : Nat} (hx : x < 20 + nC g) (fr : FRM g k 14 (I3 x) 1 pt) : PO base h g pc (CP 12 (I3 x) (I3 base) (I3 pc) h) (F_460 (I3 k) g) kd := by
  have h12 := K.1.2.1
  rw [F460 fr]
  unfold F_460_74
  rw [ld122 fr, ld119 fr]; simp only [obs]
  rw [if_neg (by decide), if_neg (by decide), if_neg (by decide), if_neg (by decide), if_neg (by decide), if_neg (by decide), if_neg (by decide), if_neg (by decide), if_neg (by decide), if_neg (by decide), if_neg (by decide), if_neg (by decide), if_neg (by decide), if_pos trivial, show pO 1 pt 0 = I3 (pt 0) from rfl, R_ref (by omega)]; simp only [obs]
  have B203 : F_203 12 (I3 x) (I3 base) h = some (b2 (decide (7 ≤ x)), h) := by
    show F_203_0 12 (I3 x) (I3 base) h = _
    unfold F_203_0 F_203_48
    rw [if_neg (by decide), if_neg (by decide), if_neg (by decide), if_neg (by decide), if_neg (by decide), if_pos rfl, refB K.1 K.2.1, inR_I (by omega), decide_eq_true hx, Bool.true_and]; simp only [obs]
    rw [show decide (¬ I3 x < 7) = decide (7 ≤ x) by
      have : (I3 x < 7) ↔ x < 7 := by rw [I3_lit, I3_lt (by omega) (by decide)]
      exact decide_eq_decide.mpr (by rw [this]; omega)]
    cases decide (7 ≤ x) <;> rfl
  by_cases q : 7 ≤ x
  · rw [decide_eq_true q] at B203 ⊢
    rw [show F_458 (b2 true) g = some (1, g) from ck458t g]; simp only [obs]
    rw [if_neg (by decide), CP_t B203 (by decide)]
    have C0 : F_202 12 (I3 x) (I3 base) (I3 pc) h = F_202_0 12 (I3 x) (I3 base) (I3 pc) h := rfl
    unfold F_202_0 at C0
    obtain ⟨w, w1⟩ := C_189X K st
    rw [w1] at C0; simp only [obs] at C0
    rw [if_neg (by decide), if_neg (by decide), if_neg (by decide), if_neg (by decide), if_neg (by decide), if_neg (by decide), if_neg (by decide), if_neg (by decide), if_pos trivial] at C0
    rw [C0]
    exact one_plain K S nf wh st ok (kk := 7) (f := 31) (a := I3 x) (by decide) (by decide) (ex_F5 (fun _ => rfl) (by decide) _ _ _) (fun h' g' K' e P0 => ck_31 K' P0 q (by rw [e]; exact hx) 0 0)
  · rw [decide_eq_false q] at B203 ⊢
    obtain ⟨h2, g2, f1, f2, f3, f4⟩ := ck458f K nf wh
    rw [show F_458 (b2 false) g = some (0, g2) from f2]; simp only [obs]
    rw [if_pos trivial]
    unfold F_460_649
    rw [dd430 (FT_ne f4)]; simp only [obs]
    obtain ⟨g3, b1, b2'⟩ := dd436 (sm_wI g2 67 3 0) (-1)
    rw [b1]
    exact PO_fail (TB_of f3) f4 (CP_f B203 f1) rfl (agr_trans (ag3 g2) (ag127 b2'))
theorem do_15 (K : K1 h g) (S : SCO nm kd h g) (nf : NF h g) (wh : g.1 67 106 = I3 pc) (st : STK h base 1 pt) (ok : ∀ i, i < 1 → pt i < nH g ∧ hpl g (pt i) = kd) (fr : FRM g k 17 ex 1 pt) : PO base h g pc (CP 15 ex (I3 base) (I3 pc) h) (F_460 (I3 k) g) kd := by
  rw [F460 fr]
  unfold F_460_74
  rw [ld122 fr, ld119 fr]; simp only [obs]
  rw [if_neg (by decide), if_neg (by decide), if_neg (by decide), if_neg (by decide), if_neg (by decide), if_neg (by decide), if_neg (by decide), if_neg (by decide), if_neg (by decide), if_neg (by decide), if_neg (by decide), if_neg (by decide), if_neg (by decide), if_neg (by decide), if_neg (by decide), if_neg (by decide), if_pos trivial, show pO 1 pt 0 = I3 (pt 0) from rfl, CP_t (by rfl) (by decide)]
  have C0 : F_202 15 ex (I3 base) (I3 pc) h = F_202_0 15 ex (I3 base) (I3 pc) h := rfl
  unfold F_202_0 at C0
  obtain ⟨w, w1⟩ := C_189X K st
  rw [w1] at C0; simp only [obs] at C0
  rw [if_neg (by decide), if_neg (by decide), if_neg (by decide), if_neg (by decide), if_neg (by decide), if_neg (by decide), if_neg (by decide), if_neg (by decide), if_neg (by decide), if_neg (by decide), if_neg (by decide), if_pos trivial] at C0
  rw [C0]
  exact one_plain K S nf wh st ok (kk := 19) (f := 33) (a := 0) (by decide) (by decide) (ex_F5 (fun _ => rfl) (by decide) _ _ _) (fun h' g' K' e P0 => ck_33 K' P0 0 0 0)
theorem do_13 (K : K1 h g) (S : SCO nm kd h g) (nf : NF h g) (wh : g.1 67 106 = I3 pc) (st : STK h base 2 pt) (ok : ∀ i, i < 2 → pt i < nH g ∧ hpl g (pt i) = kd) (fr : FRM g k 15 ex 2 pt) : PO base h g pc (CP 13 ex (I3 base) (I3 pc) h) (F_460 (I3 k) g) kd := by
  rw [F460 fr]
  unfold F_460_74
  rw [ld122 fr, ld119 fr]; simp only [obs]
  rw [if_neg (by decide), if_neg (by decide), if_neg (by decide), if_neg (by decide), if_neg (by decide), if_neg (by decide), if_neg (by decide), if_neg (by decide), if_neg (by decide), if_neg (by decide), if_neg (by decide), if_neg (by decide), if_neg (by decide), if_neg (by decide), if_pos trivial, show pO 2 pt 0 = I3 (pt 0) from rfl, show pO 2 pt 1 = I3 (pt 1) from rfl, CP_t (by rfl) (by decide)]
  have C0 : F_202 13 ex (I3 base) (I3 pc) h = F_202_0 13 ex (I3 base) (I3 pc) h := rfl
  unfold F_202_0 F_202_352 F_202_353 F_202_376 at C0
  obtain ⟨w, w1⟩ := C_189X K st
  rw [w1] at C0; simp only [obs] at C0
  rw [if_neg (by decide), if_neg (by decide), if_neg (by decide), if_neg (by decide), if_neg (by decide), if_neg (by decide), if_neg (by decide), if_neg (by decide), if_neg (by decide), if_pos trivial] at C0
  simp only [if_true, show ¬ ((1 : Int32) = 0) by decide, if_false] at C0
  rw [C0]
  exact two_plain K S nf wh st ok (kk := 7) (f := 32) (a := 0) (b := 0) (by decide) (by decide) (ex_F5 (fun _ => rfl) (by decide) _ _ _) (fun h' g' K' e P0 => ck_32 K' P0 0 0 0)
def wB (q : Int32) : Bool := decide (q = 6) || decide (q = 14)
theorem C_204 (q : Int32) (h : sm_H) : F_204 q h = some (b2 (wB q), h) := by
  show F_204_0 q h = _
  unfold F_204_0 F_204_12 F_204_17 wB
  by_cases a : q = 6
  · rw [if_pos a, if_pos (by decide), decide_eq_true a]; rfl
  · rw [if_neg a, decide_eq_false a, Bool.false_or]
    by_cases b : q = 14
    · rw [if_pos b, if_pos (by decide), decide_eq_true b]; rfl
    · rw [if_neg b, if_pos (by decide), decide_eq_false b]; rfl
theorem R_459 (K : K1 h g) {y : Nat} (hy : y < nH g) : F_459 (I3 y) g = some (if wB (hrs g y) = true then 6 else 5, g) := by
  show F_459_0 (I3 y) g = _
  unfold F_459_0 F_459_20 F_459_26 wB
  rw [R_rs K hy]; simp only [obs]
  by_cases a : hrs g y = 6
  · rw [if_pos a, decide_eq_true a]; rfl
  · rw [if_neg a, decide_eq_false a, Bool.false_or, R_rs K hy]; simp only [obs]
    by_cases b : hrs g y = 14
    · rw [if_pos b, decide_eq_true b]; rfl
    · rw [if_neg b, decide_eq_false b]; rfl
theorem do_16 (K : K1 h g) (S : SCO nm kd h g) (nf : NF h g) (wh : g.1 67 106 = I3 pc) (st : STK h base 2 pt) (ok : ∀ i, i < 2 → pt i < nH g ∧ hpl g (pt i) = kd) {o : Nat} (o1 : o ≤ 12) (fr : FRM g k 1 (I3 o) 2 pt) : PO base h g pc (CP 16 (I3 o) (I3 base) (I3 pc) h) (F_460 (I3 k) g) kd := by
  obtain ⟨p1, p2⟩ := ok 0 (by omega)
  obtain ⟨r1, r2⟩ := ok 1 (by omega)
  rw [F460 fr]
  unfold F_460_74
  rw [ld122 fr, ld119 fr]; simp only [obs]
  rw [if_pos trivial, show pO 2 pt 0 = I3 (pt 0) from rfl, show pO 2 pt 1 = I3 (pt 1) from rfl, CP_t (by rfl) (by decide), R_459 K p1]; simp only [obs]
  have C0 : F_202 16 (I3 o) (I3 base) (I3 pc) h = F_202_0 16 (I3 o) (I3 base) (I3 pc) h := rfl
  unfold F_202_0 F_202_420 F_202_443 at C0
  rw [show F_189 (I3 base) h = some (hrs g (pt 0), h) from C_189 K st (i := 0) (by omega) p1] at C0; simp only [obs] at C0
  rw [if_neg (by decide), if_neg (by decide), if_neg (by decide), if_neg (by decide), if_neg (by decide), if_neg (by decide), if_neg (by decide), if_neg (by decide), if_neg (by decide), if_neg (by decide), if_neg (by decide), if_neg (by decide), C_204] at C0; simp only [obs] at C0
  have fin : ∀ w : Nat, w = 5 ∨ w = 6 → PO base h g pc (F_202_449 (I3 o) (I3 base) (I3 pc) (I3 w) h) (F_460_198 (I3 (pt 0)) (I3 (pt 1)) (I3 o) (I3 w) g) kd := fun w hw => by
    unfold F_202_449 F_202_481 F_202_482 F_202_505 F_460_198
    simp only [if_true, show ¬ ((1 : Int32) = 0) by decide, if_false]
    exact two_plain K S nf wh st ok (kk := w) (f := 3) (a := I3 o) (b := I3 w) (by omega) (by decide) (ex_F5 (fun _ => rfl) (by decide) _ _ _) (fun h' g' K' e P0 => ck_3 K' P0 o1 hw 0)
  cases a : wB (hrs g (pt 0)) with
  | true =>
    rw [a, if_neg (by decide)] at C0
    rw [if_pos (by decide), C0]
    exact fin 6 (Or.inr rfl)
  | false =>
    rw [a, if_pos (by decide), show I3 base + 1 = I3 (base + 1) from I3_add base 1, C_189 K st (i := 1) (by omega) r1] at C0; simp only [obs] at C0
    rw [C_204] at C0; simp only [obs] at C0
    rw [if_neg (by decide), R_459 K r1]; simp only [obs]
    cases b : wB (hrs g (pt 1)) with
    | true =>
      rw [b, if_neg (by decide)] at C0
      rw [if_pos (by decide), C0]
      exact fin 6 (Or.inr rfl)
    | false =>
      rw [b, if_pos (by decide)] at C0
      rw [if_neg (by decide), C0]
      exact fin 5 (Or.inl rfl)
theorem C_row3 (K : K1 h g) {m : Nat} (m0 : 0 < m) (st : STK h base m pt) (ok : ∀ i, i < m → pt i < nH g ∧ hpl g (pt i) = kd) {q : Nat} (eq : hrs g (pt 0) = I3 q) (hq : q < 20 + nC g) {x1 : Int32} (hx : x1 = 9 ∨ x1 = 10 ∨ x1 = 11) (ex : Int32) : F_203 x1 ex (I3 base) h = some (b2 (decide (15 ≤ q ∧ q ≤ 17)), h) := by
  have h12 := K.1.2.1
  have e1 : F_203_66 (I3 base) h = some (b2 (decide (15 ≤ q ∧ q ≤ 17)), h) := by
    unfold F_203_66
    rw [show F_189 (I3 base) h = some (hrs g (pt 0), h) from C_189 K st (i := 0) m0 (ok 0 m0).1, eq]; simp only [obs]
    rw [C_isRow (by omega)]; simp only [obs]
    cases decide (15 ≤ q ∧ q ≤ 17) <;> rfl
  show F_203_0 x1 ex (I3 base) h = _
  unfold F_203_0
  rcases hx with rfl | rfl | rfl
  · rw [if_neg (by decide), if_neg (by decide), if_pos rfl, e1]
  · rw [if_neg (by decide), if_neg (by decide), if_neg (by decide), if_pos rfl, e1]
  · rw [if_neg (by decide), if_neg (by decide), if_neg (by decide), if_neg (by decide), if_pos rfl, e1]
theorem do_9 (K : K1 h g) (S : SCO nm kd h g) (nf : NF h g) (wh : g.1 67 106 = I3 pc) (st : STK h base 1 pt) (ok : ∀ i, i < 1 → pt i < nH g ∧ hpl g (pt i) = kd) (fr : FRM g k 11 ex 1 pt) : PO base h g pc (CP 9 ex (I3 base) (I3 pc) h) (F_460 (I3 k) g) kd := by
  have h12 := K.1.2.1
  obtain ⟨o1, o2⟩ := ok 0 (by omega)
  obtain ⟨q, q1, q2⟩ := rs_k K o1
  rw [F460 fr]
  unfold F_460_74
  rw [ld122 fr, ld119 fr]; simp only [obs]
  rw [if_neg (by decide), if_neg (by decide), if_neg (by decide), if_neg (by decide), if_neg (by decide), if_neg (by decide), if_neg (by decide), if_neg (by decide), if_neg (by decide), if_neg (by decide), if_pos trivial, show pO 1 pt 0 = I3 (pt 0) from rfl, R_rs K o1, q1]; simp only [obs]
  rw [R_isRow (by omega)]; simp only [obs]
  have B203 := C_row3 K (by decide) st ok q1 q2 (x1 := 9) (by decide) ex
  by_cases c : 15 ≤ q ∧ q ≤ 17
  · rw [decide_eq_true c] at B203 ⊢
    rw [show F_458 (b2 true) g = some (1, g) from ck458t g]; simp only [obs]
    rw [if_neg (by decide), CP_t B203 (by decide), R_rs K o1, q1]; simp only [obs]
    have C0 : F_202 9 ex (I3 base) (I3 pc) h = F_202_0 9 ex (I3 base) (I3 pc) h := rfl
    unfold F_202_0 at C0
    rw [show F_189 (I3 base) h = some (hrs g (pt 0), h) from C_189 K st (i := 0) (by omega) o1, q1] at C0; simp only [obs] at C0
    rw [if_neg (by decide), if_neg (by decide), if_neg (by decide), if_neg (by decide), if_neg (by decide), if_pos trivial, bind_id] at C0
    rw [C0]
    have p5 := lt500 K o1
    exact plain (m := 1) (f := 21) K S nf wh st (by decide) (by decide) (ex_F5 (fun _ => rfl) (by decide) (I3 q) 0 0) (ck_row (TK0 K) rfl c.1 c.2 (Or.inr (Or.inl rfl)) 0 0) rfl (fun i hi => by
      have e : i = 0 := by omega
      subst e
      exact ⟨o1, o2, q1⟩) (fun x g => ⟨sm_wI g 127 0 (I3 (pt 0)), (st127 g (k := 0) (by decide) _).2, fun i hi => by
        have e : i = 0 := by omega
        subst e; rfl, (bind_id _).trans (fin1 p5 x g)⟩)
  · rw [decide_eq_false c] at B203 ⊢
    obtain ⟨h2, g2, f1, f2, f3, f4⟩ := ck458f K nf wh
    rw [show F_458 (b2 false) g = some (0, g2) from f2]; simp only [obs]
    rw [if_pos trivial]
    exact PO_fail (TB_of f3) f4 (CP_f B203 f1) rfl agr_rfl
theorem do_10 (K : K1 h g) (S : SCO nm kd h g) (nf : NF h g) (wh : g.1 67 106 = I3 pc) (st : STK h base 2 pt) (ok : ∀ i, i < 2 → pt i < nH g ∧ hpl g (pt i) = kd) (fr : FRM g k 12 ex 2 pt) : PO base h g pc (CP 10 ex (I3 base) (I3 pc) h) (F_460 (I3 k) g) kd := by
  have h12 := K.1.2.1
  obtain ⟨o1, o2⟩ := ok 0 (by omega)
  obtain ⟨p1, p2⟩ := ok 1 (by omega)
  obtain ⟨q, q1, q2⟩ := rs_k K o1
  rw [F460 fr]
  unfold F_460_74
  rw [ld122 fr, ld119 fr]; simp only [obs]
  rw [if_neg (by decide), if_neg (by decide), if_neg (by decide), if_neg (by decide), if_neg (by decide), if_neg (by decide), if_neg (by decide), if_neg (by decide), if_neg (by decide), if_neg (by decide), if_neg (by decide), if_pos trivial, show pO 2 pt 0 = I3 (pt 0) from rfl, show pO 2 pt 1 = I3 (pt 1) from rfl, R_rs K o1, q1]; simp only [obs]
  rw [R_isRow (by omega)]; simp only [obs]
  have B203 := C_row3 K (by decide) st ok q1 q2 (x1 := 10) (by decide) ex
  have dead : ∀ (h2 g2 : sm_H) (e : Nat), TB base h g h2 g2 → FT e pc h2 g2 → ∃ g3, F_460_527 (I3 (pt 0)) (-1) g2 = some (-1, g3) ∧ agr Sdd g2 g3 := fun h2 g2 e t f4 => by
    unfold F_460_527
    rw [R_rs t.k (t.nH o1)]; simp only [obs]
    rw [dd430 (FT_ne f4)]; simp only [obs]
    obtain ⟨g3, b1, b2'⟩ := dd437 (sm_wI g2 67 3 0) (I3 (pt 0)) (-1)
    rw [b1]
    exact ⟨g3, rfl, agr_trans (ag3 g2) (ag127 b2')⟩
  by_cases c : 15 ≤ q ∧ q ≤ 17
  · rw [decide_eq_true c] at B203 ⊢
    rw [show F_458 (b2 true) g = some (1, g) from ck458t g]; simp only [obs]
    rw [if_neg (by decide), CP_t B203 (by decide)]
    have C0 : F_202 10 ex (I3 base) (I3 pc) h = F_202_0 10 ex (I3 base) (I3 pc) h := rfl
    unfold F_202_0 F_202_228 at C0
    rw [show F_189 (I3 base) h = some (hrs g (pt 0), h) from C_189 K st (i := 0) (by omega) o1, q1] at C0; simp only [obs] at C0
    rw [if_neg (by decide), if_neg (by decide), if_neg (by decide), if_neg (by decide), if_neg (by decide), if_neg (by decide), if_pos trivial, show I3 base + 1 = I3 (base + 1) from I3_add base 1] at C0
    rw [C0]
    rcases pass1 K S nf (i := 1) wh st (by omega) p1 p2 (k := 5) (by omega) with ⟨w, h2, g2, c1, c2, c3, c4, c5, c6, c7, c8⟩ | ⟨e, h2, g2, c1, c2, c3, c4⟩
    · rw [show F_190 (I3 (base + 1)) 5 (I3 pc) h = _ from c1, show F_433 (I3 (pt 1)) 5 g = _ from c2]; simp only [obs]
      rw [if_neg (by decide), bind_id]
      have T := TB_mono (Nat.le_add_right base 1) c7
      refine PO_tr T ?_
      unfold F_460_527
      have r2 : hrs g2 (pt 0) = I3 q := (T.hrs K o1).trans q1
      rw [R_rs T.k (T.nH o1), r2]; simp only [obs]
      have z5 := lt500 K o1
      have w5 := lt500 T.k c3
      exact plain (m := 2) (f := 22) T.k (SCO_TB S T) c8 (wh_TB wh T) c6 (by decide) (by decide) (ex_F5 (fun _ => rfl) (by decide) (I3 q) 0 0) (ck_row (TK0 T.k) rfl c.1 c.2 (Or.inr (Or.inr (Or.inl rfl))) 0 0) rfl (fun i hi => by
        rcases (show i = 0 ∨ i = 1 by omega) with rfl | rfl
        · exact ⟨T.nH o1, (T.hpl K o1).trans o2, r2⟩
        · exact ⟨c3, c5, c4⟩) (fun x g => ⟨sm_wI (sm_wI g 127 0 (I3 (pt 0))) 127 1 (I3 w), agr_trans (st127 g (k := 0) (by decide) _).2 (st127 _ (k := 1) (by decide) _).2, fun i hi => by
          rcases (show i = 0 ∨ i = 1 by omega) with rfl | rfl <;> rfl, (bind_id _).trans (fin2 z5 w5 x g)⟩)
    · rw [show F_190 (I3 (base + 1)) 5 (I3 pc) h = _ from c1, show F_433 (I3 (pt 1)) 5 g = _ from c2]; simp only [obs]
      rw [if_pos trivial]
      obtain ⟨g3, d1, d2⟩ := dead h2 g2 e (TB_of c3) c4
      rw [d1]
      exact PO_fail (TB_of c3) c4 rfl rfl d2
  · rw [decide_eq_false c] at B203 ⊢
    obtain ⟨h2, g2, f1, f2, f3, f4⟩ := ck458f K nf wh
    rw [show F_458 (b2 false) g = some (0, g2) from f2]; simp only [obs]
    rw [if_pos trivial]
    obtain ⟨g3, d1, d2⟩ := dead h2 g2 7 (TB_of f3) f4
    rw [d1]
    exact PO_fail (TB_of f3) f4 (CP_f B203 f1) rfl d2
theorem do_11 (K : K1 h g) (S : SCO nm kd h g) (nf : NF h g) (wh : g.1 67 106 = I3 pc) (st : STK h base 3 pt) (ok : ∀ i, i < 3 → pt i < nH g ∧ hpl g (pt i) = kd) (fr : FRM g k 13 ex 3 pt) : PO base h g pc (CP 11 ex (I3 base) (I3 pc) h) (F_460 (I3 k) g) kd := by
  have h12 := K.1.2.1
  obtain ⟨o1, o2⟩ := ok 0 (by omega)
  obtain ⟨p1, p2⟩ := ok 1 (by omega)
  obtain ⟨s1, s2⟩ := ok 2 (by omega)
  obtain ⟨q, q1, q2⟩ := rs_k K o1
  rw [F460 fr]
  unfold F_460_74
  rw [ld122 fr, ld119 fr]; simp only [obs]
  rw [if_neg (by decide), if_neg (by decide), if_neg (by decide), if_neg (by decide), if_neg (by decide), if_neg (by decide), if_neg (by decide), if_neg (by decide), if_neg (by decide), if_neg (by decide), if_neg (by decide), if_neg (by decide), if_pos trivial, show pO 3 pt 0 = I3 (pt 0) from rfl, show pO 3 pt 1 = I3 (pt 1) from rfl, show pO 3 pt 2 = I3 (pt 2) from rfl, R_rs K o1, q1]; simp only [obs]
  rw [R_isRow (by omega)]; simp only [obs]
  have B203 := C_row3 K (by decide) st ok q1 q2 (x1 := 11) (by decide) ex
  have dead : ∀ (h2 g2 : sm_H) (e : Nat) (u v : Int32), TB base h g h2 g2 → FT e pc h2 g2 → ∃ g3, F_460_601 (I3 (pt 0)) u v g2 = some (-1, g3) ∧ agr Sdd g2 g3 := fun h2 g2 e u v t f4 => by
    unfold F_460_601
    rw [R_rs t.k (t.nH o1)]; simp only [obs]
    rw [dd430 (FT_ne f4)]; simp only [obs]
    obtain ⟨g3, b1, b2'⟩ := dd438 (sm_wI g2 67 3 0) (I3 (pt 0)) u v
    rw [b1]
    exact ⟨g3, rfl, agr_trans (ag3 g2) (ag127 b2')⟩
  by_cases c : 15 ≤ q ∧ q ≤ 17
  · rw [decide_eq_true c] at B203 ⊢
    rw [show F_458 (b2 true) g = some (1, g) from ck458t g]; simp only [obs]
    rw [if_neg (by decide), CP_t B203 (by decide)]
    have C0 : F_202 11 ex (I3 base) (I3 pc) h = F_202_0 11 ex (I3 base) (I3 pc) h := rfl
    unfold F_202_0 F_202_267 F_202_268 F_202_292 at C0
    rw [show F_189 (I3 base) h = some (hrs g (pt 0), h) from C_189 K st (i := 0) (by omega) o1, q1] at C0; simp only [obs] at C0
    rw [if_neg (by decide), if_neg (by decide), if_neg (by decide), if_neg (by decide), if_neg (by decide), if_neg (by decide), if_neg (by decide), if_pos trivial, show I3 base + 1 = I3 (base + 1) from I3_add base 1, show I3 base + 2 = I3 (base + 2) from I3_add base 2] at C0
    simp only [if_true, show ¬ ((1 : Int32) = 0) by decide, if_false] at C0
    rw [C0]
    rcases pass1 K S nf (i := 1) wh st (by omega) p1 p2 (k := 5) (by omega) with ⟨w, h2, g2, c1, c2, c3, c4, c5, c6, c7, c8⟩ | ⟨e, h2, g2, c1, c2, c3, c4⟩
    · rw [show F_190 (I3 (base + 1)) 5 (I3 pc) h = _ from c1, show F_433 (I3 (pt 1)) 5 g = _ from c2]; simp only [obs]
      have T := TB_mono (Nat.le_add_right base 1) c7
      have r2 : hrs g2 (pt 0) = I3 q := (T.hrs K o1).trans q1
      unfold F_460_575
      rw [if_neg (by decide), C_elem c.1 c.2, if_neg (h_m1 T.k c3), R_rs T.k (T.nH o1), r2]; simp only [obs]
      rw [R_elem g2 c.1 c.2]; simp only [obs]
      have u2 : updN pt 1 w 2 = pt 2 := rfl
      rcases pass1 T.k (SCO_TB S T) c8 (i := 2) (pc := pc) (wh_TB wh T) c6 (by omega) (by rw [u2]; exact T.nH s1) (by rw [u2, T.hpl K s1]; exact s2) (k := q - 10) (by omega) with ⟨v, h3, g3, d1, d2, d3, d4, d5, d6, d7, d8⟩ | ⟨e, h3, g3, d1, d2, d3, d4⟩
      · rw [u2] at d2
        rw [d1, d2]; simp only [obs]
        rw [if_neg (by decide), bind_id]
        have T2 := TB_trans T (TB_mono (Nat.le_add_right base 2) d7)
        have r3 : hrs g3 (pt 0) = I3 q := (T2.hrs K o1).trans q1
        refine PO_tr T2 ?_
        unfold F_460_601
        rw [R_rs T2.k (T2.nH o1), r3]; simp only [obs]
        have z5 := lt500 K o1
        have w5 := lt500 T.k c3
        have v5 := lt500 T2.k d3
        exact plain (m := 3) (f := 23) T2.k (SCO_TB S T2) d8 (wh_TB wh T2) d6 (by decide) (by decide) (ex_F5 (fun _ => rfl) (by decide) (I3 q) 0 0) (ck_row (TK0 T2.k) rfl c.1 c.2 (Or.inr (Or.inr (Or.inr rfl))) 0 0) rfl (fun i hi => by
          rcases (show i = 0 ∨ i = 1 ∨ i = 2 by omega) with rfl | rfl | rfl
          · exact ⟨T2.nH o1, (T2.hpl K o1).trans o2, r3⟩
          · exact ⟨d7.nH c3, (d7.hpl T.k c3).trans c5, (d7.hrs T.k c3).trans c4⟩
          · exact ⟨d3, d5, d4⟩) (fun x g => ⟨sm_wI (sm_wI (sm_wI g 127 0 (I3 (pt 0))) 127 1 (I3 w)) 127 2 (I3 v), agr_trans (agr_trans (st127 g (k := 0) (by decide) _).2 (st127 _ (k := 1) (by decide) _).2) (st127 _ (k := 2) (by decide) _).2, fun i hi => by
            rcases (show i = 0 ∨ i = 1 ∨ i = 2 by omega) with rfl | rfl | rfl <;> rfl, (bind_id _).trans (fin3 z5 w5 v5 x g)⟩)
      · rw [u2] at d2
        rw [d1, d2]; simp only [obs]
        rw [if_pos trivial]
        obtain ⟨g4, b1, b2'⟩ := dead h3 g3 e (I3 w) (-1) (TB_trans T (TB_of d3)) d4
        rw [b1]
        exact PO_fail (TB_trans T (TB_of d3)) d4 rfl rfl b2'
    · rw [show F_190 (I3 (base + 1)) 5 (I3 pc) h = _ from c1, show F_433 (I3 (pt 1)) 5 g = _ from c2]; simp only [obs]
      unfold F_460_575
      rw [if_pos trivial, if_pos rfl]
      obtain ⟨g3, d1, d2⟩ := dead h2 g2 e (-1) (-1) (TB_of c3) c4
      rw [d1]
      exact PO_fail (TB_of c3) c4 rfl rfl d2
  · rw [decide_eq_false c] at B203 ⊢
    obtain ⟨h2, g2, f1, f2, f3, f4⟩ := ck458f K nf wh
    rw [show F_458 (b2 false) g = some (0, g2) from f2]; simp only [obs]
    unfold F_460_575
    rw [if_pos trivial, if_pos rfl]
    obtain ⟨g3, d1, d2⟩ := dead h2 g2 7 (-1) (-1) (TB_of f3) f4
    rw [d1]
    exact PO_fail (TB_of f3) f4 (CP_f B203 f1) rfl d2
theorem do_14 (K : K1 h g) (S : SCO nm kd h g) (nf : NF h g) (wh : g.1 67 106 = I3 pc) (st : STK h base 1 pt) (ok : ∀ i, i < 1 → pt i < nH g ∧ hpl g (pt i) = kd) {x : Nat} (hx : x < 20 + nC g) (fr : FRM g k 16 (I3 x) 1 pt) : PO base h g pc (CP 14 (I3 x) (I3 base) (I3 pc) h) (F_460 (I3 k) g) kd := by
  have h12 := K.1.2.1
  obtain ⟨o1, o2⟩ := ok 0 (by omega)
  obtain ⟨q, q1, q2⟩ := rs_k K o1
  rw [F460 fr]
  unfold F_460_74
  rw [ld122 fr, ld119 fr]; simp only [obs]
  rw [if_neg (by decide), if_neg (by decide), if_neg (by decide), if_neg (by decide), if_neg (by decide), if_neg (by decide), if_neg (by decide), if_neg (by decide), if_neg (by decide), if_neg (by decide), if_neg (by decide), if_neg (by decide), if_neg (by decide), if_neg (by decide), if_neg (by decide), if_pos trivial, show pO 1 pt 0 = I3 (pt 0) from rfl, R_rs K o1, q1]; simp only [obs]
  rw [R_below19 K.1 q2]; simp only [obs]
  have B203 : F_203 14 (I3 x) (I3 base) h = some (b2 (B g q 19), h) := by
    show F_203_0 14 (I3 x) (I3 base) h = _
    unfold F_203_0
    rw [if_neg (by decide), if_neg (by decide), if_neg (by decide), if_neg (by decide), if_neg (by decide), if_neg (by decide), if_pos rfl, show F_189 (I3 base) h = some (hrs g (pt 0), h) from C_189 K st (i := 0) (by omega) o1, q1]; simp only [obs]
    rw [show F_60 (I3 q) 19 h = some (b2 (B g q 19), h) from C_belowN K.1 K.2.1 q2 (y := 19) (by omega)]; simp only [obs]
    cases B g q 19 <;> rfl
  cases c : B g q 19 with
  | true =>
    rw [c] at B203
    rw [show F_458 (b2 true) g = some (1, g) from ck458t g]; simp only [obs]
    rw [if_neg (by decide), CP_t B203 (by decide), R_rs K o1, q1]; simp only [obs]
    have C0 : F_202 14 (I3 x) (I3 base) (I3 pc) h = F_202_0 14 (I3 x) (I3 base) (I3 pc) h := rfl
    unfold F_202_0 at C0
    rw [show F_189 (I3 base) h = some (hrs g (pt 0), h) from C_189 K st (i := 0) (by omega) o1, q1] at C0; simp only [obs] at C0
    rw [if_neg (by decide), if_neg (by decide), if_neg (by decide), if_neg (by decide), if_neg (by decide), if_neg (by decide), if_neg (by decide), if_neg (by decide), if_neg (by decide), if_neg (by decide), if_pos trivial, bind_id] at C0
    rw [C0]
    have p5 := lt500 K o1
    exact plain (m := 1) (f := 19) K S nf wh st (by decide) (by decide) (ex_F5 (fun _ => rfl) (by decide) (I3 x) (I3 q) 0) (ck_19 (TK0 K) rfl hx q2 c 0) rfl (fun i hi => by
      have e : i = 0 := by omega
      subst e
      exact ⟨o1, o2, q1⟩) (fun x g => ⟨sm_wI g 127 0 (I3 (pt 0)), (st127 g (k := 0) (by decide) _).2, fun i hi => by
        have e : i = 0 := by omega
        subst e; rfl, (bind_id _).trans (fin1 p5 x g)⟩)
  | false =>
    rw [c] at B203
    obtain ⟨h2, g2, f1, f2, f3, f4⟩ := ck458f K nf wh
    rw [show F_458 (b2 false) g = some (0, g2) from f2]; simp only [obs]
    rw [if_pos trivial]
    exact PO_fail (TB_of f3) f4 (CP_f B203 f1) rfl agr_rfl
theorem folded0 (K : K1 h g) (nf : NF h g) (wh : g.1 67 106 = I3 pc) {x y : Nat} (x1 : x < nH g) (y1 : y < nH g) (ex : hpl g x = kd) (ey : hpl g y = kd) (ry : hrs g y = 0) : MkO h g pc (F_206 (I3 x) (I3 y) (I3 pc) h) (F_432 8 0 (I3 x) (I3 y) g) (hrs g x) kd := by
  have gn : gone (hrs g y) = 0 := gone_0 ry
  have el : (hpl g x).take 0 ++ (hpl g x).drop (0 + gone (hrs g y)) = kd := by rw [gn, ex]; rfl
  obtain ⟨h1, c1, c2⟩ := foldMk K nf (n := 0) wh x1 y1 (by rw [gn]; omega) (fun z => absurd ry z) (by rw [el, ey]; exact pre_rfl _) el
  have C0 : F_206 (I3 x) (I3 y) (I3 pc) h = F_206_0 (I3 x) (I3 y) (I3 pc) h := rfl
  unfold F_206_0 F_206_40 at C0
  rw [c1] at C0; simp only [obs] at C0
  rcases c2 with ⟨z, h2, g2, q1, q2, q3, q4, q5, q6, q7⟩ | ⟨w', h2, h3, g3, w0, q1, q2, q3, q4, q5⟩
  · rw [show F_5 8 0 0 0 56 h1 = _ from q1] at C0; simp only [obs] at C0
    rw [if_pos (h_ge q6.k q3)] at C0
    exact Or.inl ⟨z, h2, g2, C0, q2, q3, q4, q5, q6, q7⟩
  · rw [show F_5 8 0 0 0 56 h1 = _ from q1] at C0; simp only [obs] at C0
    rw [if_neg (Int32.not_le.mpr w0), q2] at C0
    exact Or.inr ⟨8, h3, g3, C0, q3, q4, q5⟩
theorem r432 (a b x : Int32) (g : sm_H) : F_432 a b x (-1) g = some (-1, g) := by
  show F_432_0 a b x (-1) g = _
  unfold F_432_0 F_432_11
  rw [if_pos (show (-1 : Int32) = -1 from rfl), ite_self]
theorem do_2 (K : K1 h g) (S : SCO nm kd h g) (nf : NF h g) (wh : g.1 67 106 = I3 pc) (st : STK h base 2 pt) (ok : ∀ i, i < 2 → pt i < nH g ∧ hpl g (pt i) = kd) (fr : FRM g k 4 ex 2 pt) : PO base h g pc (CP 2 ex (I3 base) (I3 pc) h) (F_460 (I3 k) g) kd := by
  obtain ⟨o1, o2⟩ := ok 0 (by omega)
  obtain ⟨p1, p2⟩ := ok 1 (by omega)
  rw [F460 fr]
  unfold F_460_74
  rw [ld122 fr, ld119 fr]; simp only [obs]
  rw [if_neg (by decide), if_neg (by decide), if_neg (by decide), if_pos trivial, show pO 2 pt 0 = I3 (pt 0) from rfl, show pO 2 pt 1 = I3 (pt 1) from rfl, CP_t (by rfl) (by decide)]
  have C0 : F_202 2 ex (I3 base) (I3 pc) h = F_202_0 2 ex (I3 base) (I3 pc) h := rfl
  unfold F_202_0 F_202_113 at C0
  rw [show F_189 (I3 base) h = some (hrs g (pt 0), h) from C_189 K st (i := 0) (by omega) o1] at C0; simp only [obs] at C0
  rw [if_pos trivial] at C0
  rw [C0]
  rcases pass1 K S nf (i := 0) wh st (by omega) o1 o2 (k := 0) (by omega) with ⟨z, h1, g1, a1, a2, a3, a4, a5, a6, a7, a8⟩ | ⟨e, h1, g1, a1, a2, a3, a4⟩
  · rw [show F_190 (I3 base) 0 (I3 pc) h = some (1, h1) from a1, show F_433 (I3 (pt 0)) 0 g = some (I3 z, g1) from a2]; simp only [obs]
    rw [if_neg (by decide), show I3 base + 1 = I3 (base + 1) from I3_add base 1, STK_at a6 (i := 1) (by omega)]; simp only [obs]
    rw [show F_187 (I3 base) h1 = some (I3 z, h1) from STK_at a6 (i := 0) (by omega)]; simp only [obs]
    rw [bind_id, bind_id, show updN pt 0 z 1 = pt 1 from rfl]
    exact PO_tr a7 (PO_of (folded0 a7.k a8 (wh_TB wh a7) (a7.nH p1) a3 ((a7.hpl K p1).trans p2) a5 a4))
  · rw [show F_190 (I3 base) 0 (I3 pc) h = some (0, h1) from a1, show F_433 (I3 (pt 0)) 0 g = some (-1, g1) from a2]; simp only [obs]
    rw [if_pos trivial, r432]
    exact PO_fail (TB_of a3) a4 rfl rfl agr_rfl
end
