def okC (b j : Nat) : Bool := !(Nat.beq b 9 || (Nat.ble 34 b && Nat.ble b 37) || Nat.beq b 48 || (Nat.ble 50 b && Nat.ble b 51) || (Nat.ble 56 b && Nat.ble b 61) || (Nat.ble 67 b && Nat.ble b 130) || (Nat.beq b 5 && Nat.beq j 6) || (Nat.beq b 49 && Nat.beq j 7) || (Nat.beq b 52 && Nat.ble 3 j) || (Nat.beq b 55 && (Nat.beq j 9 || Nat.beq j 12 || Nat.beq j 16)))
def okR (b j : Nat) : Bool := (Nat.ble 68 b && Nat.ble b 101 && !Nat.beq b 69 && !Nat.beq b 82) || (Nat.ble 110 b && Nat.ble b 116) || (Nat.beq b 67 && (Nat.beq j 1 || Nat.beq j 6 || Nat.beq j 10 || Nat.beq j 18 || Nat.beq j 19 || Nat.beq j 32 || Nat.beq j 33 || Nat.beq j 35 || Nat.beq j 37 || Nat.beq j 40 || Nat.beq j 45 || (Nat.ble 68 j && Nat.ble j 73) || (Nat.ble 76 j && Nat.ble j 78) || Nat.beq j 91))
def mC (h : sm_H) : sm_H := (fun b j => cond (okC b j) (h.1 b j) 0, fun b j => cond (okC b j) (h.2.1 b j) 0, fun b j => cond (okC b j) (h.2.2.1 b j) none, h.2.2.2)
def mR (h : sm_H) : sm_H := (fun b j => cond (okR b j) (h.1 b j) 0, fun b j => cond (okR b j) (h.2.1 b j) 0, h.2.2)
def agr (S : Nat → Nat → Prop) (h h1 : sm_H) : Prop := (∀ b j, ¬ S b j → h1.1 b j = h.1 b j) ∧ (∀ b j, ¬ S b j → h1.2.1 b j = h.2.1 b j) ∧ (∀ b j, ¬ S b j → h1.2.2.1 b j = h.2.2.1 b j) ∧ h1.2.2.2 = h.2.2.2
theorem agr_rfl {S : Nat → Nat → Prop} {h : sm_H} : agr S h h := ⟨fun _ _ _ => rfl, fun _ _ _ => rfl, fun _ _ _ => rfl, rfl⟩
theorem agr_trans {S : Nat → Nat → Prop} {h h1 h2 : sm_H} (a : agr S h h1) (b : agr S h1 h2) : agr S h h2 := ⟨fun x j n => (b.1 x j n).trans (a.1 x j n), fun x j n => (b.2.1 x j n).trans (a.2.1 x j n), fun x j n => (b.2.2.1 x j n).trans (a.2.2.1 x j n), b.2.2.2.trans a.2.2.2⟩
theorem agr_mono {S S' : Nat → Nat → Prop} {h h1 : sm_H} (m : ∀ b j, S b j → S' b j) (a : agr S h h1) : agr S' h h1 := ⟨fun x j n => a.1 x j (fun z => n (m x j z)), fun x j n => a.2.1 x j (fun z => n (m x j z)), fun x j n => a.2.2.1 x j (fun z => n (m x j z)), a.2.2.2⟩
theorem agr_symm {S : Nat → Nat → Prop} {h h1 : sm_H} (a : agr S h h1) : agr S h1 h := ⟨fun x j n => (a.1 x j n).symm, fun x j n => (a.2.1 x j n).symm, fun x j n => (a.2.2.1 x j n).symm, a.2.2.2.symm⟩
theorem agr_wI {S : Nat → Nat → Prop} {h h1 : sm_H} {a k : Nat} {x : Int32} (e : agr S h h1) (s : S a k) : agr S h (sm_wI h1 a k x) := by
  refine agr_trans e ⟨fun b j n => ?_, fun _ _ _ => rfl, fun _ _ _ => rfl, rfl⟩
  rw [wI_rd, if_neg]
  rintro ⟨rfl, rfl⟩; exact n s
theorem agr_wJ {S : Nat → Nat → Prop} {h h1 : sm_H} {a k : Nat} {x : Int64} (e : agr S h h1) (s : S a k) : agr S h (sm_wJ h1 a k x) := by
  refine agr_trans e ⟨fun _ _ _ => rfl, fun b j n => ?_, fun _ _ _ => rfl, rfl⟩
  rw [wJ_rd, if_neg]
  rintro ⟨rfl, rfl⟩; exact n s
theorem agr_wA {S : Nat → Nat → Prop} {h h1 : sm_H} {a : Nat} {f : Nat → Int32} (e : agr S h h1) (s : ∀ k, S a k) : agr S h (wA h1 a f) := by
  refine agr_trans e ⟨fun b j n => ?_, fun _ _ _ => rfl, fun _ _ _ => rfl, rfl⟩
  rw [wA_rd, if_neg]
  rintro rfl; exact n (s j)
def notC (b j : Nat) : Prop := okC b j = false
def notR (b j : Nat) : Prop := okR b j = false
theorem mC_eq {h h1 : sm_H} (a : agr notC h h1) : mC h1 = mC h := by
  obtain ⟨a1, a2, a3, a4⟩ := a
  have e : ∀ b j, okC b j = true → ¬ notC b j := fun b j t z => by rw [show okC b j = false from z] at t; cases t
  refine Prod.ext (funext fun b => funext fun j => ?_) (Prod.ext (funext fun b => funext fun j => ?_) (Prod.ext (funext fun b => funext fun j => ?_) a4))
  · show cond (okC b j) (h1.1 b j) 0 = cond (okC b j) (h.1 b j) 0
    cases q : okC b j with
    | false => rfl
    | true => exact a1 b j (e b j q)
  · show cond (okC b j) (h1.2.1 b j) 0 = cond (okC b j) (h.2.1 b j) 0
    cases q : okC b j with
    | false => rfl
    | true => exact a2 b j (e b j q)
  · show cond (okC b j) (h1.2.2.1 b j) none = cond (okC b j) (h.2.2.1 b j) none
    cases q : okC b j with
    | false => rfl
    | true => exact a3 b j (e b j q)
def mR2 (h : sm_H) : (Nat → Nat → Int32) × (Nat → Nat → Int64) := (fun b j => cond (okR b j) (h.1 b j) 0, fun b j => cond (okR b j) (h.2.1 b j) 0)
def mR3 (m : (Nat → Nat → Int32) × (Nat → Nat → Int64)) : sm_H := (m.1, m.2, fun _ _ => none, fun _ => 0, fun _ => 0, 0, 0)
theorem mR_eq {g g1 : sm_H} (a : ∀ b j, ¬ notR b j → g1.1 b j = g.1 b j ∧ g1.2.1 b j = g.2.1 b j) : mR2 g1 = mR2 g := by
  have e : ∀ b j, okR b j = true → ¬ notR b j := fun b j t z => by rw [show okR b j = false from z] at t; cases t
  refine Prod.ext (funext fun b => funext fun j => ?_) (funext fun b => funext fun j => ?_)
  · show cond (okR b j) (g1.1 b j) 0 = cond (okR b j) (g.1 b j) 0
    cases q : okR b j with
    | false => rfl
    | true => exact (a b j (e b j q)).1
  · show cond (okR b j) (g1.2.1 b j) 0 = cond (okR b j) (g.2.1 b j) 0
    cases q : okR b j with
    | false => rfl
    | true => exact (a b j (e b j q)).2
theorem bel_mR (g : sm_H) : ∀ (n x o : Nat), bel (mR3 (mR2 g)) n x o = bel g n x o := by
  intro n
  induction n with
  | zero => intro x o; rfl
  | succ n ih =>
    intro x o
    show (bif Nat.blt x 20 then kBase x o else Nat.beq x o || bel (mR3 (mR2 g)) n (par (mR3 (mR2 g)) (x - 20)) o) = (bif Nat.blt x 20 then kBase x o else Nat.beq x o || bel g n (par g (x - 20)) o)
    rw [ih]; rfl
theorem okC_hi {b : Nat} (hb : 131 ≤ b) (j : Nat) : okC b j = true := by
  have ne : ∀ k, k < 131 → Nat.beq b k = false := fun k hk => by
    cases w : Nat.beq b k with
    | false => rfl
    | true => have := Nat.eq_of_beq_eq_true w; omega
  have le : ∀ k, k < 131 → Nat.ble b k = false := fun k hk => by
    cases w : Nat.ble b k with
    | false => rfl
    | true => have := Nat.le_of_ble_eq_true w; omega
  unfold okC
  simp only [ne 9 (by decide), ne 5 (by decide), ne 49 (by decide), ne 52 (by decide), ne 55 (by decide), le 37 (by decide), ne 48 (by decide), le 51 (by decide), le 61 (by decide), le 130 (by decide), Bool.and_false, Bool.false_and, Bool.or_false, Bool.not_false]
theorem cXh_m {h g : sm_H} : cXh (mC h) g ↔ cXh h g := by
  have a1 : ∀ b j, 131 ≤ b → (mC h).1 b j = h.1 b j := fun b j hb => by show cond (okC b j) _ _ = _; rw [okC_hi hb]; rfl
  have a2 : ∀ b j, 131 ≤ b → (mC h).2.1 b j = h.2.1 b j := fun b j hb => by show cond (okC b j) _ _ = _; rw [okC_hi hb]; rfl
  have a3 : ∀ b j, 131 ≤ b → (mC h).2.2.1 b j = h.2.2.1 b j := fun b j hb => by show cond (okC b j) _ _ = _; rw [okC_hi hb]; rfl
  unfold cXh
  have : ∀ t, ((mC h).2.2.1 22 t = some (131 + 3 * t) ∧ (mC h).2.2.2.1 (131 + 3 * t) = 8 ∧ (mC h).2.2.1 (131 + 3 * t) 0 = some (132 + 3 * t) ∧ (mC h).2.2.1 (131 + 3 * t) 1 = some (133 + 3 * t) ∧ (mC h).2.2.2.1 (132 + 3 * t) = 101 ∧ (mC h).2.2.2.1 (133 + 3 * t) = 100 ∧ (mC h).2.2.2.2.1 (132 + 3 * t) = szX g t ∧ (mC h).2.2.2.2.1 (133 + 3 * t) = szX g t ∧ ∀ i, i < szX g t → (mC h).2.1 (132 + 3 * t) i = g.2.1 99 (100 * t + i) ∧ (mC h).1 (133 + 3 * t) i = tag (g.1 98 (100 * t + i))) ↔ (h.2.2.1 22 t = some (131 + 3 * t) ∧ h.2.2.2.1 (131 + 3 * t) = 8 ∧ h.2.2.1 (131 + 3 * t) 0 = some (132 + 3 * t) ∧ h.2.2.1 (131 + 3 * t) 1 = some (133 + 3 * t) ∧ h.2.2.2.1 (132 + 3 * t) = 101 ∧ h.2.2.2.1 (133 + 3 * t) = 100 ∧ h.2.2.2.2.1 (132 + 3 * t) = szX g t ∧ h.2.2.2.2.1 (133 + 3 * t) = szX g t ∧ ∀ i, i < szX g t → h.2.1 (132 + 3 * t) i = g.2.1 99 (100 * t + i) ∧ h.1 (133 + 3 * t) i = tag (g.1 98 (100 * t + i))) := by
    intro t
    have e1 := a3 (131 + 3 * t) 0 (by omega)
    have e2 := a3 (131 + 3 * t) 1 (by omega)
    have e3 : (mC h).2.2.1 22 t = h.2.2.1 22 t := rfl
    have e4 : (mC h).2.2.2 = h.2.2.2 := rfl
    rw [e1, e2, e3, e4]
    constructor
    · rintro ⟨c1, c2, c3, c4, c5, c6, c7, c8, c9⟩
      refine ⟨c1, c2, c3, c4, c5, c6, c7, c8, fun i hi => ?_⟩
      have := c9 i hi
      rwa [a2 _ _ (by omega), a1 _ _ (by omega)] at this
    · rintro ⟨c1, c2, c3, c4, c5, c6, c7, c8, c9⟩
      refine ⟨c1, c2, c3, c4, c5, c6, c7, c8, fun i hi => ?_⟩
      rw [a2 _ _ (by omega), a1 _ _ (by omega)]
      exact c9 i hi
  constructor
  · rintro ⟨x, y, z⟩; exact ⟨x, y, fun t ht => (this t).mp (z t ht)⟩
  · rintro ⟨x, y, z⟩; exact ⟨x, y, fun t ht => (this t).mpr (z t ht)⟩
theorem bel_mRf (g : sm_H) : bel (mR3 (mR2 g)) = bel g := funext fun n => funext fun x => funext fun o => bel_mR g n x o
theorem okO_m (g : sm_H) : okO (mR3 (mR2 g)) = okO g := rfl
theorem okV_m (g : sm_H) : okV (mR3 (mR2 g)) = okV g := by
  funext s k n
  unfold okV
  rw [okO_m]
  show (_ ∨ _ ∨ (_ ∧ ∃ q, _ ∧ _ ∧ bel (mR3 (mR2 g)) 12 q s = true ∧ _)) = _
  rw [bel_mRf]; rfl
theorem cK_m {h g : sm_H} : cK (mC h) (mR3 (mR2 g)) ↔ cK h g := by
  unfold cK
  show (_ ∧ _ ∧ ∀ a b, a < 20 + nC g → b < 32 → h.1 2 (a * 32 + b) = b2 (bel (mR3 (mR2 g)) 12 a b)) ↔ _
  rw [bel_mRf]; rfl
theorem wfX_m {g : sm_H} : wfX (mR3 (mR2 g)) ↔ wfX g := by
  unfold wfX
  rw [okV_m]; rfl
theorem cXh_mR {h g : sm_H} : cXh h (mR3 (mR2 g)) ↔ cXh h g := Iff.rfl
theorem I1_m {h g : sm_H} : I1 (mC h) (mR3 (mR2 g)) ↔ I1 h g := by
  constructor
  · rintro ⟨wK, cK, wT, cT, wH, cH, wM, cM, cR, cP, cG, cO, cV, wX, cX, cXh, cU, cY, cF, cZ⟩
    exact ⟨wK, cK_m.mp cK, wT, cT, wH, cH, wM, cM, cR, cP, cG, cO, cV, wfX_m.mp wX, cX, cXh_m.mp (cXh_mR.mp cXh), cU, cY, cF, cZ⟩
  · rintro ⟨wK, cK, wT, cT, wH, cH, wM, cM, cR, cP, cG, cO, cV, wX, cX, cXh, cU, cY, cF, cZ⟩
    exact ⟨wK, cK_m.mpr cK, wT, cT, wH, cH, wM, cM, cR, cP, cG, cO, cV, wfX_m.mpr wX, cX, cXh_mR.mpr (cXh_m.mpr cXh), cU, cY, cF, cZ⟩
def kR (h h1 : sm_H) : Prop := ∀ b j, 67 ≤ b → b < 131 → h1.1 b j = h.1 b j ∧ h1.2.1 b j = h.2.1 b j
def kC (g g1 : sm_H) : Prop := agr (fun b _ => 67 ≤ b ∧ b < 131) g g1
theorem okR_lo {b j : Nat} (h : okR b j = true) : 67 ≤ b ∧ b < 131 := by
  unfold okR at h
  have le : ∀ {a b : Nat}, Nat.ble a b = true → a ≤ b := fun h => Nat.le_of_ble_eq_true h
  simp only [Bool.or_eq_true, Bool.and_eq_true] at h
  rcases h with (⟨⟨⟨a, b⟩, -⟩, -⟩ | ⟨a, b⟩) | ⟨a, -⟩
  · have := le a; have := le b; omega
  · have := le a; have := le b; omega
  · have := Nat.eq_of_beq_eq_true a; omega
theorem okC_no {b j : Nat} (h1 : 67 ≤ b) (h2 : b < 131) : okC b j = false := by
  unfold okC
  have : (Nat.ble 67 b && Nat.ble b 130) = true := by rw [Nat.ble_eq_true_of_le h1, Nat.ble_eq_true_of_le (by omega)]; rfl
  simp [this]
theorem I1_g {h g g1 : sm_H} (I : I1 h g) (a : ∀ b j, okR b j = true → g1.1 b j = g.1 b j ∧ g1.2.1 b j = g.2.1 b j) : I1 h g1 := by
  have e : mR2 g1 = mR2 g := mR_eq (fun b j n => a b j (by cases q : okR b j with | false => exact absurd q n | true => rfl))
  have := I1_m.mpr I
  rw [← e] at this
  exact I1_m.mp this
theorem I1_h {h h1 g : sm_H} (I : I1 h g) (a : agr notC h h1) : I1 h1 g := by
  have := I1_m.mpr I
  rw [← mC_eq a] at this
  exact I1_m.mp this
theorem op_of2 {α : Type} {Fc Fr : sm_H → Option (α × sm_H)} (W : ∀ h g, I1 h g → ∃ v h1 g1, Fc h = some (v, h1) ∧ Fr g = some (v, g1) ∧ I1 h1 g1 ∧ kR h h1 ∧ kC g g1) {h : sm_H} (I : I0 h) : ∃ v h1 h2, Fc h = some (v, h1) ∧ Fr h1 = some (v, h2) ∧ I0 h2 := by
  obtain ⟨v, h1, -, e1, -, -, k1, -⟩ := W h h I
  have I2 : I1 h h1 := I1_g I (fun b j q => k1 b j (okR_lo q).1 (okR_lo q).2)
  obtain ⟨v', h1', g1, e3, e4, e5, -, k4⟩ := W h h1 I2
  rw [e1] at e3
  cases e3
  exact ⟨v, h1, g1, e1, e4, I1_h e5 (agr_mono (fun b j q => okC_no q.1 q.2) k4)⟩
