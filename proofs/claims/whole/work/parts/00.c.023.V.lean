def wAJ (h : sm_H) (a : Nat) (f : Nat → Int64) : sm_H := (h.1, va_up h.2.1 a f, h.2.2)
theorem wAJ_rd (h : sm_H) (a : Nat) (f : Nat → Int64) (b j : Nat) : (wAJ h a f).2.1 b j = if b = a then f j else h.2.1 b j := by
  unfold wAJ va_up
  show (if b = a then f else h.2.1 b) j = _
  split <;> rfl
theorem wAJ_1 (h : sm_H) (a : Nat) (f : Nat → Int64) : (wAJ h a f).1 = h.1 := rfl
theorem wAJ_22 (h : sm_H) (a : Nat) (f : Nat → Int64) : (wAJ h a f).2.2 = h.2.2 := rfl
theorem agr_wAJ {S : Nat → Nat → Prop} {h h1 : sm_H} {a : Nat} {f : Nat → Int64} (e : agr S h h1) (s : ∀ k, S a k) : agr S h (wAJ h1 a f) := by
  refine agr_trans e ⟨fun _ _ _ => rfl, fun b j n => ?_, fun _ _ _ => rfl, rfl⟩
  rw [wAJ_rd, if_neg]
  rintro rfl; exact n (s j)
theorem heap_eq {h h' : sm_H} (e1 : ∀ b j, h.1 b j = h'.1 b j) (e2 : ∀ b j, h.2.1 b j = h'.2.1 b j) (e3 : h.2.2 = h'.2.2) : h = h' := Prod.ext (funext fun b => funext fun j => e1 b j) (Prod.ext (funext fun b => funext fun j => e2 b j) e3)
theorem wfF_ext2 {g g1 : sm_H} (b : base g) (cGq1 : ∀ k, k < nG g → tn (g1.1 92 k) < nH g1) (E : ext g g1) (s : same g g1) (m1 : ∀ m, m < nM g → g1.1 90 m = g.1 90 m) (m2 : ∀ m, nM g ≤ m → m < nM g1 → g1.1 87 m = 0 → rs g1 (tn (g1.1 89 m)) = hrs g1 (tn (g1.1 90 m)) ∧ hpl g1 (tn (g1.1 90 m)) = if g1.1 86 m = 0 then g1.1 83 m :: pl g1 (tn (g1.1 89 m)) else pl g1 (tn (g1.1 89 m))) (w : wfF g) : wfF g1 := by
  rw [wfF_0] at w ⊢
  refine ⟨fun x hx => ?_, fun m hm => ?_⟩
  · have hx : x < nH g := by rw [← s.n]; exact hx
    obtain ⟨z1, z2, z3, z4, z5⟩ := s.x x hx
    have ef : fm g1 x = fm g x := by show tn _ = tn _; rw [z1]
    rw [ef, z2, z3, z4, prt_ext z5 (s.p x · hx), ext_hrs b.h E hx, ext_hpl b.h E hx]
    exact FS_up b cGq1 E (w.1 x hx)
  · rcases Nat.lt_or_ge m (nM g) with c | c
    · exact mrel_ext b E c (m1 m c) (w.2 m c)
    · exact m2 m c hm
theorem C_misnamed {h : sm_H} (x y : Int32) : F_116 x y h = some (b2 (!(inR x 100 && inR y 4)), h) := by
  show F_116_0 x y h = _
  unfold F_116_0 F_116_19 F_116_24
  have z0 : (if (0 : Int32) = 0 ∨ (0 : Int32) = 1 then some ((0 : Int32), h) else none) = some (0, h) := if_pos (Or.inl rfl)
  have z1 : (if (1 : Int32) = 0 ∨ (1 : Int32) = 1 then some ((1 : Int32), h) else none) = some (1, h) := if_pos (Or.inr rfl)
  rw [z0, z1]
  rcases I3_cases x with ⟨a, ha, rfl⟩ | hx
  · rw [if_neg (I3_nn ha), inR_I ha]
    by_cases c : a < 100
    · rw [if_neg (by rw [I3_lit, I3_lt (by decide) ha]; omega), decide_eq_true c]
      rcases I3_cases y with ⟨b, hb, rfl⟩ | hy
      · rw [if_neg (I3_nn hb), inR_I hb]
        by_cases d : b < 4
        · rw [if_pos (by rw [I3_lit, I3_le hb (by decide)]; omega), decide_eq_true d]; rfl
        · rw [if_neg (by rw [I3_lit, I3_le hb (by decide)]; omega), decide_eq_false d]; rfl
      · rw [if_pos hy]
        rcases inR_c y 4 (by decide) with ⟨k, h1, h2, h3⟩ | h3
        · exact absurd h2 (neg_ne_I3 hy (by omega))
        · rw [h3]; rfl
    · rw [if_pos (by rw [I3_lit, I3_lt (by decide) ha]; omega), decide_eq_false c]; rfl
  · rw [if_pos hx]
    rcases inR_c x 100 (by decide) with ⟨k, h1, h2, h3⟩ | h3
    · exact absurd h2 (neg_ne_I3 hx (by omega))
    · rw [h3]; rfl
theorem R_out99 {h : sm_H} (x : Int32) : F_315 x.toInt64 0 99 h = some (b2 (!inR x 100), h) := R_outI (n := 100) (by decide) x
theorem R_out3 {h : sm_H} (x : Int32) : F_315 x.toInt64 0 3 h = some (b2 (!inR x 4), h) := R_outI (n := 4) (by decide) x
theorem C_judge {h : sm_H} {n : Nat} (hn : n < 2147483648) : F_264 (I3 n) h = some (I3 n, sm_wI h 0 12 0) := by
  have z : (0 : Int32) ≤ I3 n := by rw [I3_lit, I3_le (by decide) hn]; omega
  show F_264_0 (I3 n) h = _
  unfold F_264_0 F_264_11 F_264_23
  rw [if_pos z]
  simp only [Option.bind_some]
  rw [if_pos z]
theorem C_judgeN {h : sm_H} {n : Nat} (h1 : 0 < n) (hn : n < 2147483648) : F_264 (-I3 n) h = some (-1, sm_wI h 0 12 (I3 n)) := by
  have z : ¬ (0 : Int32) ≤ -I3 n := by
    rw [Int32.le_iff_toInt_le]
    have e0 : (0 : Int32).toInt = 0 := rfl
    have : (-I3 n).toInt = -(n : Int) := by
      rw [Int32.toInt_neg, I3_toInt hn]
      show Int.bmod (-(n : Int)) (2 ^ 32) = _
      rw [Int.bmod_eq_of_le] <;> omega
    rw [e0, this]; omega
  show F_264_0 (-I3 n) h = _
  unfold F_264_0 F_264_11 F_264_23
  rw [if_neg z]
  simp only [Option.bind_some]
  rw [if_neg z, Int32.neg_neg]
theorem isC_c (g : sm_H) (wK : wfK g) (x : Int32) : (∃ c, x = I3 (20 + c) ∧ c < nC g ∧ (∀ h, cK h g → F_55 x h = some (1, h)) ∧ ∀ g', wfK g' → nC g' = nC g → F_387 x g' = some (1, g')) ∨ ((∀ h, cK h g → F_55 x h = some (0, h)) ∧ ∀ g', wfK g' → nC g' = nC g → F_387 x g' = some (0, g')) := by
  have h12 := wK.2.1
  rcases I3_cases x with ⟨a, ha, rfl⟩ | hx
  · by_cases c : 20 ≤ a ∧ a < 20 + nC g
    · refine Or.inl ⟨a - 20, by rw [show 20 + (a - 20) = a by omega], by omega, fun h cK => ?_, fun g' w e => ?_⟩
      · rw [C_isC wK cK ha, decide_eq_true c]; rfl
      · rw [R_isC w ha, e, decide_eq_true c]; rfl
    · refine Or.inr ⟨fun h cK => ?_, fun g' w e => ?_⟩
      · rw [C_isC wK cK ha, decide_eq_false c]; rfl
      · rw [R_isC w ha, e, decide_eq_false c]; rfl
  · exact Or.inr ⟨fun h _ => C_isC_n hx, fun g' _ _ => R_isC_n hx⟩
theorem refuse2 {h g : sm_H} (I : I1 h g) (n : Nat) : I1 (sm_wI h 0 12 (I3 n)) (sm_wI (sm_wI g 67 19 0) 67 19 (I3 n)) ∧ kR h (sm_wI h 0 12 (I3 n)) ∧ kC g (sm_wI (sm_wI g 67 19 0) 67 19 (I3 n)) := by
  obtain ⟨wK, cK, wT, cT, wH, cH, wM, cM, cR, cP, cG, cO, cV, wX, cX, cXh, cU, cY, cF, cZ⟩ := I
  refine ⟨⟨wK, cK, wT, cT, wH, cH, wM, cM, cR, cP, cG, cO, cV, wX, cX, cXh_fr (by repeat first | exact hi_rfl | refine hi_wI ?_ (by decide) | refine hi_wJ ?_ (by decide)) cXh, cU, cY, cF, ⟨rfl, cZ.1.2⟩, cZ.2⟩, ?_, ?_⟩
  · exact kR_agr (S := fun b _ => b = 0) (agr_wI agr_rfl rfl) (fun b j z => by omega)
  · exact kC_agr (S := fun b _ => b = 67) (agr_wI (agr_wI agr_rfl rfl) rfl) (fun b j z => by omega)
def zk (k : Int32) : Int32 := if 1 ≤ k ∧ k ≤ 6 then k else 0
theorem tag_zk (k : Int32) : tag (zk k) = 0 := by
  unfold tag zk
  by_cases c : 1 ≤ k ∧ k ≤ 6
  · rw [if_pos c, if_pos c]
  · rw [if_neg c]; split <;> rfl
theorem zk_I {q : Nat} (hq : q < 2147483648) : zk (I3 q) = if 1 ≤ q ∧ q ≤ 6 then I3 q else 0 := by
  unfold zk
  have : (1 ≤ I3 q ∧ I3 q ≤ 6) = (1 ≤ q ∧ q ≤ 6) := by
    simp only [eq_iff_iff]
    constructor
    · rintro ⟨a, b⟩
      rw [I3_lit, I3_le (by decide) hq] at a
      rw [I3_lit, I3_le hq (by decide)] at b
      exact ⟨a, b⟩
    · rintro ⟨a, b⟩
      exact ⟨by rw [I3_lit, I3_le (by decide) hq]; exact a, by rw [I3_lit, I3_le hq (by decide)]; exact b⟩
  simp only [this]
theorem R_zero {g : sm_H} {q : Nat} (hq : q < 2147483648) : F_299 (I3 q) g = some (sm_wJ (sm_wI g 67 48 (zk (I3 q))) 67 49 0) := by
  have P := R_plain (g := g) hq
  rw [zk_I hq]
  show F_299_0 (I3 q) g = _
  unfold F_299_0 F_299_13
  rw [P]
  simp only [Option.bind_some]
  by_cases c : 1 ≤ q ∧ q ≤ 6
  · rw [decide_eq_true c, if_pos c, if_neg (by decide)]
  · rw [decide_eq_false c, if_neg c, if_pos (by decide)]
theorem okV_zk {g : sm_H} {q : Nat} (hq : q < 2147483648) : okV g q (zk (I3 q)) 0 := by
  rw [zk_I hq]
  by_cases c : 1 ≤ q ∧ q ≤ 6
  · rw [if_pos c]
    refine Or.inl ⟨c.1, c.2, rfl, ?_⟩
    unfold okN
    have e0 : (0 : Int64).toInt = 0 := rfl
    rw [e0]
    exact ⟨fun _ => Or.inl rfl, fun _ => by omega, fun _ => by omega, fun _ => by omega, fun _ => by omega⟩
  · rw [if_neg c]; exact Or.inr (Or.inl ⟨by omega, rfl, rfl⟩)
