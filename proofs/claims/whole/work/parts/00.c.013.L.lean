theorem lp_s {σ ρ : Type} {body : σ → Option (σ ⊕ ρ)} {n : Nat} {s s' : σ} (hn : 0 < n) (e : body s = some (.inl s')) : lp body n s = lp body (n - 1) s' := by
  obtain ⟨n, rfl⟩ : ∃ m, n = m + 1 := ⟨n - 1, by omega⟩
  exact lp_1 e
theorem lp_e {σ ρ : Type} {body : σ → Option (σ ⊕ ρ)} {n : Nat} {s : σ} {r : ρ} (hn : 0 < n) (e : body s = some (.inr r)) : lp body n s = some r := by
  obtain ⟨n, rfl⟩ : ∃ m, n = m + 1 := ⟨n - 1, by omega⟩
  exact lp_0 e
def fB (x : Int32) (k : Nat) : Int32 := (x >>> ((24 - (8 * I3 k)) &&& 31)) &&& 255
theorem C_hold {h : sm_H} (x : Int32) {b : Nat} (hb : b ≤ 16) : F_238 (I3 b) x h = some (sm_wI (sm_wI (sm_wI (sm_wI h 54 b (fB x 0)) 54 (b + 1) (fB x 1)) 54 (b + 2) (fB x 2)) 54 (b + 3) (fB x 3)) := by
  have st : ∀ (k : Nat) (g : sm_H), k < 4 → F_238_2B (I3 b, x, I3 k, g) = some (.inl (I3 b, x, I3 (k + 1), sm_wI g 54 (b + k) (fB x k))) := by
    intro k g hk
    have e := feed_eq x k hk
    unfold F_238_2B
    dsimp only
    rw [if_neg (by rw [I3_lit, I3_le (by decide) (by omega)]; omega), if_neg (I3_nn (by omega)), if_neg (by rw [I3_add, I3_lit, I3_le (by decide) (by omega)]; omega), e, I3_add, stI_I (by omega) (by omega), show (I3 k + 1 : Int32) = I3 (k + 1) from I3_add k 1]
    rfl
  have en : ∀ (g : sm_H), F_238_2B (I3 b, x, I3 4, g) = some (.inr g) := by
    intro g
    unfold F_238_2B
    dsimp only
    rw [if_pos (by decide)]
    rfl
  show lp F_238_2B 1000000 (I3 b, x, I3 0, h) = _
  rw [lp_s (by omega) (st 0 _ (by decide)), lp_s (by omega) (st 1 _ (by decide)), lp_s (by omega) (st 2 _ (by decide)), lp_s (by omega) (st 3 _ (by decide)), lp_e (by omega) (en _)]
  rfl
theorem wI_wA (h : sm_H) (a k : Nat) (x : Int32) : sm_wI h a k x = wA h a (fun i => if i = k then x else h.1 a i) := rfl
def hold (f : Nat → Int32) (b : Nat) (x : Int32) : Nat → Int32 := fun i => if b ≤ i ∧ i < b + 4 then fB x (i - b) else f i
theorem C_holdA {h : sm_H} (f : Nat → Int32) (x : Int32) {b : Nat} (hb : b ≤ 16) : F_238 (I3 b) x (wA h 54 f) = some (wA h 54 (hold f b x)) := by
  rw [C_hold x hb, wA_wI, wA_wI, wA_wI, wA_wI]
  congr 2
  funext i
  unfold hold
  by_cases c3 : i = b + 3
  · subst c3; simp
  by_cases c2 : i = b + 2
  · subst c2; simp
  by_cases c1 : i = b + 1
  · subst c1; simp
  by_cases c0 : i = b
  · subst c0; simp
  simp only [c3, c2, c1, c0, if_false]
  rw [if_neg (by omega)]
def w5F (f : Nat → Int32) (x1 x2 x3 x4 x5 : Int32) (k : Nat) : Nat → Int32 := fun i => if i = 16 + k then fB x5 k else if i = 12 + k then fB x4 k else if i = 8 + k then fB x3 k else if i = 4 + k then fB x2 k else if i = k then fB x1 k else f i
theorem R_feed {g : sm_H} (f : Nat → Int32) (x1 x2 x3 x4 x5 : Int32) : F_411 x1 x2 x3 x4 x5 (wA g 111 f) = some (wA g 111 (w5F (w5F (w5F (w5F f x1 x2 x3 x4 x5 0) x1 x2 x3 x4 x5 1) x1 x2 x3 x4 x5 2) x1 x2 x3 x4 x5 3)) := by
  have st : ∀ (k : Nat) (f : Nat → Int32), k < 4 → F_411_3B (x1, x2, x3, x4, x5, I3 k, wA g 111 f) = some (.inl (x1, x2, x3, x4, x5, I3 (k + 1), wA g 111 (w5F f x1 x2 x3 x4 x5 k))) := by
    intro k f hk
    unfold F_411_3B
    dsimp only
    rw [if_neg (by rw [I3_lit, I3_le (by decide) (by omega)]; omega)]
    rw [stI_I (by omega) (by omega)]
    simp only [Option.bind_some]
    rw [show (4 : Int32) + I3 k = I3 (4 + k) from I3_add 4 k, show (8 : Int32) + I3 k = I3 (8 + k) from I3_add 8 k, show (12 : Int32) + I3 k = I3 (12 + k) from I3_add 12 k, show (16 : Int32) + I3 k = I3 (16 + k) from I3_add 16 k]
    rw [stI_I (by omega) (by omega)]
    simp only [Option.bind_some]
    rw [stI_I (by omega) (by omega)]
    simp only [Option.bind_some]
    rw [stI_I (by omega) (by omega)]
    simp only [Option.bind_some]
    rw [stI_I (by omega) (by omega), show (I3 k + 1 : Int32) = I3 (k + 1) from I3_add k 1, wA_wI, wA_wI, wA_wI, wA_wI, wA_wI]
    rfl
  have en : ∀ (f : Nat → Int32), F_411_3B (x1, x2, x3, x4, x5, I3 4, wA g 111 f) = some (.inr (wA g 111 f)) := by
    intro f
    unfold F_411_3B
    dsimp only
    rw [if_pos (by decide)]
  show lp F_411_3B 1000000 (x1, x2, x3, x4, x5, I3 0, wA g 111 f) = _
  rw [lp_s (by omega) (st 0 _ (by decide)), lp_s (by omega) (st 1 _ (by decide)), lp_s (by omega) (st 2 _ (by decide)), lp_s (by omega) (st 3 _ (by decide)), lp_e (by omega) (en _)]
def fedF (x1 x2 x3 x4 x5 : Int32) (i : Nat) : Int32 := if i < 4 then fB x1 i else if i < 8 then fB x2 (i - 4) else if i < 12 then fB x3 (i - 8) else if i < 16 then fB x4 (i - 12) else fB x5 (i - 16)
def hold5 (f : Nat → Int32) (x1 x2 x3 x4 x5 : Int32) : Nat → Int32 := hold (hold (hold (hold (hold f 0 x1) 4 x2) 8 x3) 12 x4) 16 x5
theorem C_feed1 {h h1 h2 h3 h4 h5 : sm_H} {x1 x2 x3 x4 x5 : Int32} (e1 : F_238 0 x1 h = some h1) (e2 : F_238 4 x2 h1 = some h2) (e3 : F_238 8 x3 h2 = some h3) (e4 : F_238 12 x4 h3 = some h4) (e5 : F_238 16 x5 h4 = some h5) : F_282 x1 x2 x3 x4 x5 h = some h5 := by
  show F_282_0 x1 x2 x3 x4 x5 h = _
  unfold F_282_0
  rw [e1, Option.bind_some, e2, Option.bind_some, e3, Option.bind_some, e4, Option.bind_some, e5, Option.bind_some]
theorem C_feed0 {h : sm_H} (x1 x2 x3 x4 x5 : Int32) : F_282 x1 x2 x3 x4 x5 h = some (wA h 54 (hold5 (h.1 54) x1 x2 x3 x4 x5)) := by
  have e0 := C_holdA (h := h) (h.1 54) x1 (b := 0) (by decide)
  rw [wA_self] at e0
  exact C_feed1 e0 (C_holdA _ x2 (b := 4) (by decide)) (C_holdA _ x3 (b := 8) (by decide)) (C_holdA _ x4 (b := 12) (by decide)) (C_holdA _ x5 (b := 16) (by decide))
theorem hold5_ok (f : Nat → Int32) (x1 x2 x3 x4 x5 : Int32) (i : Nat) (hi : i < 20) : hold5 f x1 x2 x3 x4 x5 i = fedF x1 x2 x3 x4 x5 i := by
  unfold fedF hold5 hold
  by_cases c1 : i < 4
  · rw [if_neg (by omega), if_neg (by omega), if_neg (by omega), if_neg (by omega), if_pos (by omega), if_pos c1]; rfl
  by_cases c2 : i < 8
  · rw [if_neg (by omega), if_neg (by omega), if_neg (by omega), if_pos (by omega), if_neg c1, if_pos c2]
  by_cases c3 : i < 12
  · rw [if_neg (by omega), if_neg (by omega), if_pos (by omega), if_neg c1, if_neg c2, if_pos c3]
  by_cases c4 : i < 16
  · rw [if_neg (by omega), if_pos (by omega), if_neg c1, if_neg c2, if_neg c3, if_pos c4]
  · rw [if_pos (by omega), if_neg c1, if_neg c2, if_neg c3, if_neg c4]
theorem w5_ok (f : Nat → Int32) (x1 x2 x3 x4 x5 : Int32) (i : Nat) (hi : i < 20) : w5F (w5F (w5F (w5F f x1 x2 x3 x4 x5 0) x1 x2 x3 x4 x5 1) x1 x2 x3 x4 x5 2) x1 x2 x3 x4 x5 3 i = fedF x1 x2 x3 x4 x5 i := by
  rcases (show i = 0 ∨ i = 1 ∨ i = 2 ∨ i = 3 ∨ i = 4 ∨ i = 5 ∨ i = 6 ∨ i = 7 ∨ i = 8 ∨ i = 9 ∨ i = 10 ∨ i = 11 ∨ i = 12 ∨ i = 13 ∨ i = 14 ∨ i = 15 ∨ i = 16 ∨ i = 17 ∨ i = 18 ∨ i = 19 by omega) with rfl | rfl | rfl | rfl | rfl | rfl | rfl | rfl | rfl | rfl | rfl | rfl | rfl | rfl | rfl | rfl | rfl | rfl | rfl | rfl <;> simp [w5F, fedF]
theorem op_feed {h : sm_H} (x1 x2 x3 x4 x5 : Int32) (I : I0 h) : ∃ h1 h2, F_282 x1 x2 x3 x4 x5 h = some h1 ∧ F_411 x1 x2 x3 x4 x5 h1 = some h2 ∧ I0 h2 := by
  obtain ⟨wK, cK, wT, cT, wH, cH, wM, cM, cR, cP, cG, cO, cV, wX, cX, cXh, cU, cY, cF, cZ⟩ := id I
  obtain ⟨y1, y2, y3, y4⟩ := cY
  have e1 := C_feed0 (h := h) x1 x2 x3 x4 x5
  have e3 := hold5_ok (h.1 54) x1 x2 x3 x4 x5
  generalize hold5 (h.1 54) x1 x2 x3 x4 x5 = P at e1 e3
  have e2 := R_feed (g := wA h 54 P) ((wA h 54 P).1 111) x1 x2 x3 x4 x5
  rw [wA_self] at e2
  have e4 := w5_ok ((wA h 54 P).1 111) x1 x2 x3 x4 x5
  generalize w5F (w5F (w5F (w5F ((wA h 54 P).1 111) x1 x2 x3 x4 x5 0) x1 x2 x3 x4 x5 1) x1 x2 x3 x4 x5 2) x1 x2 x3 x4 x5 3 = Q at e2 e4
  refine ⟨_, _, e1, e2, wK, cK, wT, cT, wH, cH, wM, cM, cR, cP, cG, cO, cV, wX, cX, cXh_fr (by repeat first | exact hi_rfl | refine hi_wI ?_ (by decide) | refine hi_wJ ?_ (by decide) | refine hi_wA ?_ (by decide)) cXh, cU, ⟨y1, y2, y3, fun k hk => ?_⟩, cF, cZ⟩
  show P k = Q k ∧ cnt (Q k) 255
  rw [e3 k hk, e4 k hk]
  refine ⟨rfl, ?_⟩
  unfold fedF fB
  (repeat' split) <;> exact and255 _
