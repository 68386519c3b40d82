def wAJ (h : sm_H) (a : Nat) (f : Nat → Int64) : sm_H := (h.1, va_up h.2.1 a f, h.2.2)
theorem wAJ_rd (h : sm_H) (a : Nat) (f : Nat → Int64) (b j : Nat) : (wAJ h a f).2.1 b j = if b = a then f j else h.2.1 b j := by
  unfold wAJ va_up
  show (if b = a then f else h.2.1 b) j = _
  split <;> rfl
theorem wAJ_1 (h : sm_H) (a : Nat) (f : Nat → Int64) : (wAJ h a f).1 = h.1 := rfl
theorem wAJ_22 (h : sm_H) (a : Nat) (f : Nat → Int64) : (wAJ h a f).2.2 = h.2.2 := rfl
theorem agr_wAJ {S : Nat → Nat → Prop} {h h1 : sm_H} {a : Nat} {f : Nat → Int64} (e : agr S h h1) (s : ∀ k, S a k) : agr S h (wAJ h1 a f) := by
  refine agr_trans e ⟨fun _ _ _ => rfl, fun b j n => ?_, fun _ _ _ => rfl, rfl⟩
  rw [wAJ_rd, if_neg]
  rintro rfl; exact n (s j)
theorem heap_eq {h h' : sm_H} (e1 : ∀ b j, h.1 b j = h'.1 b j) (e2 : ∀ b j, h.2.1 b j = h'.2.1 b j) (e3 : h.2.2 = h'.2.2) : h = h' := Prod.ext (funext fun b => funext fun j => e1 b j) (Prod.ext (funext fun b => funext fun j => e2 b j) e3)
theorem wfF_ext2 {g g1 : sm_H} (b : base g) (cGq1 : ∀ k, k < nG g → tn (g1.1 92 k) < nH g1) (E : ext g g1) (s : same g g1) (m1 : ∀ m, m < nM g → g1.1 90 m = g.1 90 m) (m2 : ∀ m, nM g ≤ m → m < nM g1 → g1.1 87 m = 0 → rs g1 (tn (g1.1 89 m)) = hrs g1 (tn (g1.1 90 m)) ∧ hpl g1 (tn (g1.1 90 m)) = if g1.1 86 m = 0 then g1.1 83 m :: pl g1 (tn (g1.1 89 m)) else pl g1 (tn (g1.1 89 m))) (w : wfF g) : wfF g1 := by
  rw [wfF_0] at w ⊢
  refine ⟨fun x hx => ?_, fun m hm => ?_⟩
  · have hx : x < nH g := by rw [← s.n]; exact hx
    obtain ⟨z1, z2, z3, z4, z5⟩ := s.x x hx
    have ef : fm g1 x = fm g x := by show tn _ = tn _; rw [z1]
    rw [ef, z2, z3, z4, prt_ext z5 (s.p x · hx), ext_hrs b.h E hx, ext_hpl b.h E hx]
    exact FS_up b cGq1 E (w.1 x hx)
  · rcases Nat.lt_or_ge m (nM g) with c | c
    · exact mrel_ext b E c (m1 m c) (w.2 m c)
    · exact m2 m c hm
theorem C_misnamed {h : sm_H} (x y : Int32) : F_116 x y h = some (b2 (!(inR x 100 && inR y 4)), h) := by
  show F_116_0 x y h = _
  unfold F_116_0 F_116_19 F_116_24
  have z0 : (if (0 : Int32) = 0 ∨ (0 : Int32) = 1 then some ((0 : Int32), h) else none) = some (0, h) := if_pos (Or.inl rfl)
  have z1 : (if (1 : Int32) = 0 ∨ (1 : Int32) = 1 then some ((1 : Int32), h) else none) = some (1, h) := if_pos (Or.inr rfl)
  rw [z0, z1]
  rcases I3_cases x with ⟨a, ha, rfl⟩ | hx
  · rw [if_neg (I3_nn ha), inR_I ha]
    by_cases c : a < 100
    · rw [if_neg (by rw [I3_lit, I3_lt (by decide) ha]; omega), decide_eq_true c]
      rcases I3_cases y with ⟨b, hb, rfl⟩ | hy
      · rw [if_neg (I3_nn hb), inR_I hb]
        by_cases d : b < 4
        · rw [if_pos (by rw [I3_lit, I3_le hb (by decide)]; omega), decide_eq_true d]; rfl
        · rw [if_neg (by rw [I3_lit, I3_le hb (by decide)]; omega), decide_eq_false d]; rfl
      · rw [if_pos hy]
        rcases inR_c y 4 (by decide) with ⟨k, h1, h2, h3⟩ | h3
        · exact absurd h2 (neg_ne_I3 hy (by omega))
        · rw [h3]; rfl
    · rw [if_pos (by rw [I3_lit, I3_lt (by decide) ha]; omega), decide_eq_false c]; rfl
  · rw [if_pos hx]
    rcases inR_c x 100 (by decide) with ⟨k, h1, h2, h3⟩ | h3
    · exact absurd h2 (neg_ne_I3 hx (by omega))
    · rw [h3]; rfl
theorem R_out99 {h : sm_H} (x : Int32) : F_315 x.toInt64 0 99 h = some (b2 (!inR x 100), h) := R_outI (n := 100) (by decide) x
theorem R_out3 {h : sm_H} (x : Int32) : F_315 x.toInt64 0 3 h = some (b2 (!inR x 4), h) := R_outI (n := 4) (by decide) x
theorem C_judge {h : sm_H} {n : Nat} (hn : n < 2147483648) : F_264 (I3 n) h = some (I3 n, sm_wI h 0 12 0) := by
  have z : (0 : Int32) ≤ I3 n := by rw [I3_lit, I3_le (by decide) hn]; omega
  show F_264_0 (I3 n) h = _
  unfold F_264_0 F_264_11 F_264_23
  rw [if_pos z]
  simp only [Option.bind_some]
  rw [if_pos z]
theorem C_judgeN {h : sm_H} {n : Nat} (h1 : 0 < n) (hn : n < 2147483648) : F_264 (-I3 n) h = some (-1, sm_wI h 0 12 (I3 n)) := by
  have z : ¬ (0 : Int32) ≤ -I3 n := by
    rw [Int32.le_iff_toInt_le]
    have e0 : (0 : Int32).toInt = 0 := rfl
    have : (-I3 n).toInt = -(n : Int) := by
      rw [Int32.toInt_neg, I3_toInt hn]
      show Int.bmod (-(n : Int)) (2 ^ 32) = _
      rw [Int.bmod_eq_of_le] <;> omega
    rw [e0, this]; omega
  show F_264_0 (-I3 n) h = _
  unfold F_264_0 F_264_11 F_264_23
  rw [if_neg z]
  simp only [Option.bind_some]
  rw [if_neg z, Int32.neg_neg]
theorem isC_c (g : sm_H) (wK : wfK g) (x : Int32) : (∃ c, x = I3 (20 + c) ∧ c < nC g ∧ (∀ h, cK h g → F_55 x h = some (1, h)) ∧ ∀ g', wfK g' → nC g' = nC g → F_387 x g' = some (1, g')) ∨ ((∀ h, cK h g → F_55 x h = some (0, h)) ∧ ∀ g', wfK g' → nC g' = nC g → F_387 x g' = some (0, g')) := by
  have h12 := wK.2.1
  rcases I3_cases x with ⟨a, ha, rfl⟩ | hx
  · by_cases c : 20 ≤ a ∧ a < 20 + nC g
    · refine Or.inl ⟨a - 20, by rw [show 20 + (a - 20) = a by omega], by omega, fun h cK => ?_, fun g' w e => ?_⟩
      · rw [C_isC wK cK ha, decide_eq_true c]; rfl
      · rw [R_isC w ha, e, decide_eq_true c]; rfl
    · refine Or.inr ⟨fun h cK => ?_, fun g' w e => ?_⟩
      · rw [C_isC wK cK ha, decide_eq_false c]; rfl
      · rw [R_isC w ha, e, decide_eq_false c]; rfl
  · exact Or.inr ⟨fun h _ => C_isC_n hx, fun g' _ _ => R_isC_n hx⟩
theorem refuse2 {h g : sm_H} (I : I1 h g) (n : Nat) : I1 (sm_wI h 0 12 (I3 n)) (sm_wI (sm_wI g 67 19 0) 67 19 (I3 n)) ∧ kR h (sm_wI h 0 12 (I3 n)) ∧ kC g (sm_wI (sm_wI g 67 19 0) 67 19 (I3 n)) := by
  obtain ⟨wK, cK, wT, cT, wH, cH, wM, cM, cR, cP, cG, cO, cV, wX, cX, cXh, cU, cY, cF, cZ⟩ := I
  refine ⟨⟨wK, cK, wT, cT, wH, cH, wM, cM, cR, cP, cG, cO, cV, wX, cX, cXh_fr (by repeat first | exact hi_rfl | refine hi_wI ?_ (by decide) | refine hi_wJ ?_ (by decide)) cXh, cU, cY, cF, ⟨rfl, cZ.1.2⟩, cZ.2⟩, ?_, ?_⟩
  · exact kR_agr (S := fun b _ => b = 0) (agr_wI agr_rfl rfl) (fun b j z => by omega)
  · exact kC_agr (S := fun b _ => b = 67) (agr_wI (agr_wI agr_rfl rfl) rfl) (fun b j z => by omega)
def zk (k : Int32) : Int32 := if 1 ≤ k ∧ k ≤ 6 then k else 0
theorem tag_zk (k : Int32) : tag (zk k) = 0 := by
  unfold tag zk
  by_cases c : 1 ≤ k ∧ k ≤ 6
  · rw [if_pos c, if_pos c]
  · rw [if_neg c]; split <;> rfl
theorem zk_I {q : Nat} (hq : q < 2147483648) : zk (I3 q) = if 1 ≤ q ∧ q ≤ 6 then I3 q else 0 := by
  unfold zk
  have : (1 ≤ I3 q ∧ I3 q ≤ 6) = (1 ≤ q ∧ q ≤ 6) := by
    simp only [eq_iff_iff]
    constructor
    · rintro ⟨a, b⟩
      rw [I3_lit, I3_le (by decide) hq] at a
      rw [I3_lit, I3_le hq (by decide)] at b
      exact ⟨a, b⟩
    · rintro ⟨a, b⟩
      exact ⟨by rw [I3_lit, I3_le (by decide) hq]; exact a, by rw [I3_lit, I3_le hq (by decide)]; exact b⟩
  simp only [this]
theorem R_zero {g : sm_H} {q : Nat} (hq : q < 2147483648) : F_299 (I3 q) g = some (sm_wJ (sm_wI g 67 48 (zk (I3 q))) 67 49 0) := by
  have P := R_plain (g := g) hq
  rw [zk_I hq]
  show F_299_0 (I3 q) g = _
  unfold F_299_0 F_299_13
  rw [P]
  simp only [Option.bind_some]
  by_cases c : 1 ≤ q ∧ q ≤ 6
  · rw [decide_eq_true c, if_pos c, if_neg (by decide)]
  · rw [decide_eq_false c, if_neg c, if_pos (by decide)]
theorem okV_zk {g : sm_H} {q : Nat} (hq : q < 2147483648) : okV g q (zk (I3 q)) 0 := by
  rw [zk_I hq]
  by_cases c : 1 ≤ q ∧ q ≤ 6
  · rw [if_pos c]
    refine Or.inl ⟨c.1, c.2, rfl, ?_⟩
    unfold okN
    have e0 : (0 : Int64).toInt = 0 := rfl
    rw [e0]
    exact ⟨fun _ => Or.inl rfl, fun _ => by omega, fun _ => by omega, fun _ => by omega, fun _ => by omega⟩
  · rw [if_neg c]; exact Or.inr (Or.inl ⟨by omega, rfl, rfl⟩)
def fldC (h : sm_H) (n s : Nat) (st : Bool) (of nm kd rt : Int32) : sm_H := sm_wI (sm_wI (sm_wI (sm_wI (sm_wI (sm_wI (sm_wI (sm_wI (sm_wI (sm_wI h 43 n kd) 44 n (-1)) 45 n (-1)) 46 n (bif st then I3 n else I3 s)) 38 14 (I3 (s + bif st then 0 else 1))) 39 n of) 40 n nm) 42 n (b2 st)) 41 n rt) 38 13 (I3 (n + 1))
theorem C_fld {h : sm_H} {n s : Nat} (hn : n < 100) (hs : s ≤ 24) (e1 : h.1 38 13 = I3 n) (e2 : h.1 38 14 = I3 s) (st : Bool) (of nm kd rt : Int32) : F_114_63 of nm kd (b2 st) rt h = some (I3 n, fldC h n s st of nm kd rt) := by
  unfold fldC
  have m1 : (-1 : Int32) = -I3 1 := rfl
  cases st with
  | true => simp (disch := omega) only [↓reduceIte, if_true, if_false, ite_self, Option.bind_some, Option.map_some, wI_rd, wJ_rd, wI_2, wJ_1, wJ_22, I3_lit, I3_add, I3_mul, I3_lt, I3_le, I3_inj, I3_nn', I3_n1, I3_n2, m2m1, ldI_I, ldJ_I, ldZ_I, stI_I, stJ_I, true_or, or_true, false_or, or_false, true_and, and_true, false_and, and_false, not_true_eq_false, not_false_eq_true, reduceCtorEq, Nat.reduceEqDiff, Nat.lt_irrefl, Nat.not_lt_zero, Nat.le_refl, Nat.reduceLT, Nat.reduceLeDiff, eq_self, zbbI, bbI0, bbI1, decide_eq_false_iff_not, decide_eq_true_eq, Bool.not_eq_false, Bool.not_eq_true, Bool.not_true, Bool.not_false, cond_true, cond_false, F_114_63, F_114_117, F_114_133, F_117_0, F_117, e1, e2, hn, stZ_I, I3_sub, Nat.add_sub_cancel, Nat.add_zero]
  | false => simp (disch := omega) only [↓reduceIte, if_true, if_false, ite_self, Option.bind_some, Option.map_some, wI_rd, wJ_rd, wI_2, wJ_1, wJ_22, I3_lit, I3_add, I3_mul, I3_lt, I3_le, I3_inj, I3_nn', I3_n1, I3_n2, m2m1, ldI_I, ldJ_I, ldZ_I, stI_I, stJ_I, true_or, or_true, false_or, or_false, true_and, and_true, false_and, and_false, not_true_eq_false, not_false_eq_true, reduceCtorEq, Nat.reduceEqDiff, Nat.lt_irrefl, Nat.not_lt_zero, Nat.le_refl, Nat.reduceLT, Nat.reduceLeDiff, eq_self, zbbI, bbI0, bbI1, decide_eq_false_iff_not, decide_eq_true_eq, Bool.not_eq_false, Bool.not_eq_true, Bool.not_true, Bool.not_false, cond_true, cond_false, F_114_63, F_114_117, F_114_133, F_117_0, F_117, e1, e2, hn, stZ_I, I3_sub, Nat.add_sub_cancel]
def fldR0 (g : sm_H) (n : Nat) (st : Bool) (of nm kd rt : Int32) : sm_H := sm_wJ (sm_wI (sm_wJ (sm_wI (sm_wI (sm_wI (sm_wI (sm_wI (sm_wI (sm_wI (sm_wI g 67 19 0) 83 n of) 84 n nm) 85 n rt) 86 n (b2 st)) 87 n 1) 88 n kd) 67 48 (zk kd)) 67 49 0) 100 n (zk kd)) 101 n 0
def elI (f k : Nat → Int32) (s m : Nat) (v : Int32) : Nat → Int32 := fun i => if i / 100 < m ∧ i % 100 = s ∧ 20 ≤ tn (k (i / 100)) then v else f i
def elJ (f : Nat → Int64) (k : Nat → Int32) (s m : Nat) (v : Int64) : Nat → Int64 := fun i => if i / 100 < m ∧ i % 100 = s ∧ 20 ≤ tn (k (i / 100)) then v else f i
def elH (g : sm_H) (s m : Nat) (v : Int32) : sm_H := wAJ (wA g 98 (elI (g.1 98) (g.1 96) s m v)) 99 (elJ (g.2.1 99) (g.1 96) s m 0)
theorem elH_rd (g : sm_H) (s m : Nat) (v : Int32) (b j : Nat) : (elH g s m v).1 b j = if b = 98 then elI (g.1 98) (g.1 96) s m v j else g.1 b j := wA_rd _ _ _ _ _
theorem elH_rdJ (g : sm_H) (s m : Nat) (v : Int32) (b j : Nat) : (elH g s m v).2.1 b j = if b = 99 then elJ (g.2.1 99) (g.1 96) s m 0 j else g.2.1 b j := wAJ_rd _ _ _ _ _
theorem R_fldLoop {g : sm_H} {n s x : Nat} {v : Int32} (e1 : g.1 67 45 = I3 x) (hx : x ≤ 1000) (e2 : g.1 67 33 = I3 s) (hs : s < 24) (e3 : g.1 67 32 = I3 n) (hn : n < 100) (e4 : g.1 67 48 = v) (e5 : g.2.1 67 49 = 0) (kd : ∀ t, t < x → ∃ k, g.1 96 t = I3 k ∧ k < 32) : F_390_173 0 g = some (I3 n, sm_wI (sm_wI (elH g s x v) 67 33 (I3 (s + 1))) 67 32 (I3 (n + 1))) := by
  have w0 : elH g s 0 v = g := by
    refine heap_eq (fun b j => ?_) (fun b j => ?_) rfl
    · rw [elH_rd]
      by_cases c : b = 98
      · rw [if_pos c]; unfold elI; rw [if_neg (by omega), c]
      · rw [if_neg c]
    · rw [elH_rdJ]
      by_cases c : b = 99
      · rw [if_pos c]; unfold elJ; rw [if_neg (by omega), c]
      · rw [if_neg c]
  have L := lp_it (body := F_390_173B) (r := (I3 n, sm_wI (sm_wI (elH g s x v) 67 33 (I3 (s + 1))) 67 32 (I3 (n + 1)))) x (fun k => (I3 k, elH g s k v)) 1000000 (fun t ht => ?_) ?_ (by omega)
  · simp only [w0] at L
    exact L
  · obtain ⟨k, k1, k2⟩ := kd t ht
    by_cases c : 20 ≤ k
    · have st : sm_wJ (sm_wI (elH g s t v) 98 (100 * t + s) v) 99 (100 * t + s) 0 = elH g s (t + 1) v := by
        refine heap_eq (fun b j => ?_) (fun b j => ?_) rfl
        · show (sm_wI (elH g s t v) 98 (100 * t + s) v).1 b j = _
          rw [wI_rd, elH_rd, elH_rd]
          by_cases q : b = 98
          · rw [if_pos q]
            unfold elI
            by_cases q2 : j = 100 * t + s
            · rw [if_pos ⟨q, q2⟩, if_pos q, if_pos]
              have e : j / 100 = t := by omega
              rw [e, k1]
              refine ⟨by omega, by omega, ?_⟩
              show 20 ≤ (I3 k).toNatClampNeg
              rw [I3_clamp (by omega)]; exact c
            · rw [if_neg (by omega), if_pos q]
              by_cases q3 : j / 100 < t ∧ j % 100 = s ∧ 20 ≤ tn (g.1 96 (j / 100))
              · rw [if_pos q3, if_pos ⟨by omega, q3.2⟩]
              · rw [if_neg q3, if_neg]
                rintro ⟨z1, z2, z3⟩
                exact q3 ⟨by omega, z2, z3⟩
          · rw [if_neg (by omega), if_neg q, if_neg q]
        · show (sm_wJ (sm_wI (elH g s t v) 98 (100 * t + s) v) 99 (100 * t + s) 0).2.1 b j = _
          rw [wJ_rd, wI_2, elH_rdJ, elH_rdJ]
          by_cases q : b = 99
          · rw [if_pos q]
            unfold elJ
            by_cases q2 : j = 100 * t + s
            · rw [if_pos ⟨q, q2⟩, if_pos q, if_pos]
              have e : j / 100 = t := by omega
              rw [e, k1]
              refine ⟨by omega, by omega, ?_⟩
              show 20 ≤ (I3 k).toNatClampNeg
              rw [I3_clamp (by omega)]; exact c
            · rw [if_neg (by omega), if_pos q]
              by_cases q3 : j / 100 < t ∧ j % 100 = s ∧ 20 ≤ tn (g.1 96 (j / 100))
              · rw [if_pos q3, if_pos ⟨by omega, q3.2⟩]
              · rw [if_neg q3, if_neg]
                rintro ⟨z1, z2, z3⟩
                exact q3 ⟨by omega, z2, z3⟩
          · rw [if_neg (by omega), if_neg q, if_neg q]
      simp (disch := omega) only [↓reduceIte, if_true, if_false, ite_self, Option.bind_some, Option.map_some, wI_rd, wJ_rd, wI_2, wJ_1, wJ_22, I3_lit, I3_add, I3_mul, I3_lt, I3_le, I3_inj, I3_nn', I3_n1, I3_n2, m2m1, ldI_I, ldJ_I, ldZ_I, stI_I, stJ_I, true_or, or_true, false_or, or_false, true_and, and_true, false_and, and_false, not_true_eq_false, not_false_eq_true, reduceCtorEq, Nat.reduceEqDiff, Nat.lt_irrefl, Nat.not_lt_zero, Nat.le_refl, Nat.reduceLT, Nat.reduceLeDiff, eq_self, zbbI, bbI0, bbI1, decide_eq_false_iff_not, decide_eq_true_eq, Bool.not_eq_false, Bool.not_eq_true, Bool.not_true, Bool.not_false, cond_true, cond_false, F_390_173B, F_390_235, elH_rd, elH_rdJ, e1, e2, e4, e5, k1, c, show ¬ x ≤ t by omega, st]
    · have st : elH g s t v = elH g s (t + 1) v := by
        refine heap_eq (fun b j => ?_) (fun b j => ?_) rfl
        · rw [elH_rd, elH_rd]
          by_cases q : b = 98
          · rw [if_pos q, if_pos q]
            unfold elI
            by_cases q3 : j / 100 < t ∧ j % 100 = s ∧ 20 ≤ tn (g.1 96 (j / 100))
            · rw [if_pos q3, if_pos ⟨by omega, q3.2⟩]
            · rw [if_neg q3, if_neg]
              rintro ⟨z1, z2, z3⟩
              by_cases q4 : j / 100 = t
              · rw [q4, k1] at z3
                have z3 : 20 ≤ (I3 k).toNatClampNeg := z3
                rw [I3_clamp (by omega)] at z3
                omega
              · exact q3 ⟨by omega, z2, z3⟩
          · rw [if_neg q, if_neg q]
        · rw [elH_rdJ, elH_rdJ]
          by_cases q : b = 99
          · rw [if_pos q, if_pos q]
            unfold elJ
            by_cases q3 : j / 100 < t ∧ j % 100 = s ∧ 20 ≤ tn (g.1 96 (j / 100))
            · rw [if_pos q3, if_pos ⟨by omega, q3.2⟩]
            · rw [if_neg q3, if_neg]
              rintro ⟨z1, z2, z3⟩
              by_cases q4 : j / 100 = t
              · rw [q4, k1] at z3
                have z3 : 20 ≤ (I3 k).toNatClampNeg := z3
                rw [I3_clamp (by omega)] at z3
                omega
              · exact q3 ⟨by omega, z2, z3⟩
          · rw [if_neg q, if_neg q]
      simp (disch := omega) only [↓reduceIte, if_true, if_false, ite_self, Option.bind_some, Option.map_some, wI_rd, wJ_rd, wI_2, wJ_1, wJ_22, I3_lit, I3_add, I3_mul, I3_lt, I3_le, I3_inj, I3_nn', I3_n1, I3_n2, m2m1, ldI_I, ldJ_I, ldZ_I, stI_I, stJ_I, true_or, or_true, false_or, or_false, true_and, and_true, false_and, and_false, not_true_eq_false, not_false_eq_true, reduceCtorEq, Nat.reduceEqDiff, Nat.lt_irrefl, Nat.not_lt_zero, Nat.le_refl, Nat.reduceLT, Nat.reduceLeDiff, eq_self, zbbI, bbI0, bbI1, decide_eq_false_iff_not, decide_eq_true_eq, Bool.not_eq_false, Bool.not_eq_true, Bool.not_true, Bool.not_false, cond_true, cond_false, F_390_173B, F_390_235, elH_rd, elH_rdJ, e1, e2, e4, e5, k1, c, show ¬ x ≤ t by omega, ← st]
  · simp (disch := omega) only [↓reduceIte, if_true, if_false, ite_self, Option.bind_some, Option.map_some, wI_rd, wJ_rd, wI_2, wJ_1, wJ_22, I3_lit, I3_add, I3_mul, I3_lt, I3_le, I3_inj, I3_nn', I3_n1, I3_n2, m2m1, ldI_I, ldJ_I, ldZ_I, stI_I, stJ_I, true_or, or_true, false_or, or_false, true_and, and_true, false_and, and_false, not_true_eq_false, not_false_eq_true, reduceCtorEq, Nat.reduceEqDiff, Nat.lt_irrefl, Nat.not_lt_zero, Nat.le_refl, Nat.reduceLT, Nat.reduceLeDiff, eq_self, zbbI, bbI0, bbI1, decide_eq_false_iff_not, decide_eq_true_eq, Bool.not_eq_false, Bool.not_eq_true, Bool.not_true, Bool.not_false, cond_true, cond_false, F_390_173B, F_390_251, elH_rd, elH_rdJ, e1, e2, e3, I3_sub, Nat.add_sub_cancel]
abbrev told1 (g g1 : sm_H) (n : Nat) (st : Bool) (of nm rt : Int32) : Prop := (nM g = n) ∧ (g1.1 67 32 = I3 (n + 1)) ∧ (∀ m, g1.1 83 m = if m = n then of else g.1 83 m) ∧ (∀ m, g1.1 84 m = if m = n then nm else g.1 84 m) ∧ (∀ m, g1.1 85 m = if m = n then rt else g.1 85 m) ∧ (∀ m, g1.1 86 m = if m = n then b2 st else g.1 86 m) ∧ (∀ m, m ≠ n → g1.1 87 m = g.1 87 m) ∧ (∀ m, m ≠ n → g1.1 88 m = g.1 88 m) ∧ (∀ m, m ≠ n → g1.1 89 m = g.1 89 m) ∧ (∀ m, m ≠ n → g1.1 90 m = g.1 90 m) ∧ (∀ m, m ≠ n → g1.1 91 m = g.1 91 m)
theorem told1.n0 {g g1 : sm_H} {n : Nat} {st : Bool} {of nm rt : Int32} (F_ : told1 g g1 n st of nm rt) : nM g = n := F_.1
theorem told1.n1 {g g1 : sm_H} {n : Nat} {st : Bool} {of nm rt : Int32} (F_ : told1 g g1 n st of nm rt) : g1.1 67 32 = I3 (n + 1) := F_.2.1
theorem told1.a83 {g g1 : sm_H} {n : Nat} {st : Bool} {of nm rt : Int32} (F_ : told1 g g1 n st of nm rt) : ∀ m, g1.1 83 m = if m = n then of else g.1 83 m := F_.2.2.1
theorem told1.a84 {g g1 : sm_H} {n : Nat} {st : Bool} {of nm rt : Int32} (F_ : told1 g g1 n st of nm rt) : ∀ m, g1.1 84 m = if m = n then nm else g.1 84 m := F_.2.2.2.1
theorem told1.a85 {g g1 : sm_H} {n : Nat} {st : Bool} {of nm rt : Int32} (F_ : told1 g g1 n st of nm rt) : ∀ m, g1.1 85 m = if m = n then rt else g.1 85 m := F_.2.2.2.2.1
theorem told1.a86 {g g1 : sm_H} {n : Nat} {st : Bool} {of nm rt : Int32} (F_ : told1 g g1 n st of nm rt) : ∀ m, g1.1 86 m = if m = n then b2 st else g.1 86 m := F_.2.2.2.2.2.1
theorem told1.a87 {g g1 : sm_H} {n : Nat} {st : Bool} {of nm rt : Int32} (F_ : told1 g g1 n st of nm rt) : ∀ m, m ≠ n → g1.1 87 m = g.1 87 m := F_.2.2.2.2.2.2.1
theorem told1.a88 {g g1 : sm_H} {n : Nat} {st : Bool} {of nm rt : Int32} (F_ : told1 g g1 n st of nm rt) : ∀ m, m ≠ n → g1.1 88 m = g.1 88 m := F_.2.2.2.2.2.2.2.1
theorem told1.a89 {g g1 : sm_H} {n : Nat} {st : Bool} {of nm rt : Int32} (F_ : told1 g g1 n st of nm rt) : ∀ m, m ≠ n → g1.1 89 m = g.1 89 m := F_.2.2.2.2.2.2.2.2.1
theorem told1.a90 {g g1 : sm_H} {n : Nat} {st : Bool} {of nm rt : Int32} (F_ : told1 g g1 n st of nm rt) : ∀ m, m ≠ n → g1.1 90 m = g.1 90 m := F_.2.2.2.2.2.2.2.2.2.1
theorem told1.a91 {g g1 : sm_H} {n : Nat} {st : Bool} {of nm rt : Int32} (F_ : told1 g g1 n st of nm rt) : ∀ m, m ≠ n → g1.1 91 m = g.1 91 m := F_.2.2.2.2.2.2.2.2.2.2
theorem told_sl {g g1 : sm_H} {n : Nat} {st : Bool} {of nm rt : Int32} (T : told1 g g1 n st of nm rt) (wM : wfM g) (hn : n < 100) (new : g1.1 87 n = 1 → g1.1 86 n = 0 → g1.1 91 n = I3 (nS g)) (sl : slI g) : slI g1 := by
  have nn : nM g1 = n + 1 := by show tn _ = _; rw [T.n1]; exact I3_clamp (by omega)
  have n0 := T.n0
  intro a b ab hb a1 a2 b1 b2 e
  rw [nn] at hb
  have ca : a ≠ n := by omega
  rw [T.a87 a ca] at a1
  rw [T.a86, if_neg ca] at a2
  by_cases c : b = n
  · subst c
    rw [T.a91 a ca, new b1 b2] at e
    rcases (wM.2.2 a (by omega)).2.2.2.2 with ⟨-, -, -, q4⟩ | ⟨q4, -⟩
    · obtain ⟨s, q5, q6⟩ := q4 a2
      have s24 : nS g ≤ 24 := wM.2.1.2
      rw [q6, I3_inj (by omega) (by omega)] at e; omega
    · rw [q4] at a1; cases a1
  · rw [T.a87 b c] at b1
    rw [T.a86, if_neg c] at b2
    rw [T.a91 a ca, T.a91 b c] at e
    exact sl a b ab (by omega) a1 a2 b1 b2 e
theorem told_wfM {g g1 : sm_H} {n : Nat} {st : Bool} {of nm rt : Int32} (T : told1 g g1 n st of nm rt) (wM : wfM g) (hn : n < 100) (hc : nC g1 = nC g) (hh : nH g1 = nH g) (ht : nT g ≤ nT g1) (s1 : cnt (g1.1 67 33) 24) (s2 : nS g ≤ nS g1) (o : ∃ c, c < nC g ∧ of = I3 (20 + c)) (nm1 : cnt nm 99) (rt1 : cnt rt 3) (new : (g1.1 87 n = 1 ∧ cnt (g1.1 88 n) (19 + nC g) ∧ 0 < tn (g1.1 88 n) ∧ (b2 st = 0 → ∃ s, s < nS g1 ∧ g1.1 91 n = I3 s)) ∨ (g1.1 87 n = 0 ∧ (∃ a, a < nH g ∧ g1.1 90 n = I3 a) ∧ ∃ t, t < nT g1 ∧ g1.1 89 n = I3 t)) : wfM g1 := by
  have nn : nM g1 = n + 1 := by show tn _ = _; rw [T.n1]; exact I3_clamp (by omega)
  refine ⟨by rw [T.n1]; exact cnt_up (by omega) (by decide), s1, fun m hm => ?_⟩
  rw [nn] at hm
  by_cases c : m = n
  · subst c
    rw [T.a83, T.a84, T.a85, T.a86, if_pos rfl, if_pos rfl, if_pos rfl, if_pos rfl, hc, hh]
    exact ⟨o, nm1, rt1, ⟨st, rfl⟩, new⟩
  · obtain ⟨m1, m2, m3, m4, m5⟩ := wM.2.2 m (by rw [T.n0]; omega)
    rw [T.a83, T.a84, T.a85, T.a86, T.a87 m c, T.a88 m c, T.a89 m c, T.a90 m c, T.a91 m c, if_neg c, if_neg c, if_neg c, if_neg c, hc, hh]
    refine ⟨m1, m2, m3, m4, ?_⟩
    rcases m5 with ⟨z1, z2, z3, z4⟩ | ⟨z1, z2, t, z3, z4⟩
    · exact Or.inl ⟨z1, z2, z3, fun z => by obtain ⟨s, q1, q2⟩ := z4 z; exact ⟨s, by omega, q2⟩⟩
    · exact Or.inr ⟨z1, z2, t, by omega, z4⟩
theorem told_mb {g g1 : sm_H} {n : Nat} {st : Bool} {of nm rt : Int32} (T : told1 g g1 n st of nm rt) (hn : n < 100) : mbExt g g1 := by
  have nn : nM g1 = n + 1 := by show tn _ = _; rw [T.n1]; exact I3_clamp (by omega)
  refine ⟨by rw [nn, T.n0]; omega, fun m hm => ?_⟩
  rw [T.n0] at hm
  have c : m ≠ n := by omega
  refine ⟨by rw [T.a83, if_neg c], by rw [T.a84, if_neg c], by rw [T.a86, if_neg c], T.a87 m c, T.a88 m c, T.a89 m c⟩
theorem field_I {h g : sm_H} (I : I1 h g) {st : Bool} {of nm rt : Int32} {q : Nat} (hn : nM g < 100) (hs : st = false → nS g < 24) (o : ∃ c, c < nC g ∧ of = I3 (20 + c)) (nm1 : cnt nm 99) (rt1 : cnt rt 3) (q1 : 0 < q) (q2 : q < 20 + nC g) : I1 (sm_wI (fldC h (nM g) (nS g) st of nm (I3 q) rt) 0 12 0) (bif st then sm_wI (fldR0 g (nM g) st of nm (I3 q) rt) 67 32 (I3 (nM g + 1)) else sm_wI (sm_wI (elH (sm_wI (fldR0 g (nM g) st of nm (I3 q) rt) 91 (nM g) (I3 (nS g))) (nS g) (nX g) (zk (I3 q))) 67 33 (I3 (nS g + 1))) 67 32 (I3 (nM g + 1))) := by
  have B0 := I1_base I
  obtain ⟨wK, cK, wT, cT, wH, cH, wM, cM, cR, cP, cG, cO, cV, wX, cX, cXh, cU, cY, cF, cZ, wF⟩ := id I
  have h12 := wK.2.1
  have s24 : nS g ≤ 24 := wM.2.1.2
  have x1000 : nX g ≤ 1000 := wX.1.2
  have e67 : g.1 67 33 = I3 (nS g) := wM.2.1.1
  have tq : tn (I3 q) = q := I3_clamp (by omega)
  generalize hnn : nM g = n at *
  have hnn' : tn (g.1 67 32) = n := hnn
  cases st with
  | true =>
    have T : told1 g (sm_wI (fldR0 g n true of nm (I3 q) rt) 67 32 (I3 (n + 1))) n true of nm rt := ⟨hnn, rfl, fun _ => rfl, fun _ => rfl, fun _ => rfl, fun _ => rfl, fun m c => if_neg c, fun m c => if_neg c, fun _ _ => rfl, fun _ _ => rfl, fun _ _ => rfl⟩
    have a87 : (sm_wI (fldR0 g n true of nm (I3 q) rt) 67 32 (I3 (n + 1))).1 87 n = 1 := if_pos rfl
    have a88 : (sm_wI (fldR0 g n true of nm (I3 q) rt) 67 32 (I3 (n + 1))).1 88 n = I3 q := if_pos rfl
    have a100 : ∀ m, (sm_wI (fldR0 g n true of nm (I3 q) rt) 67 32 (I3 (n + 1))).1 100 m = if m = n then zk (I3 q) else g.1 100 m := fun _ => rfl
    have a101 : ∀ m, (sm_wI (fldR0 g n true of nm (I3 q) rt) 67 32 (I3 (n + 1))).2.1 101 m = if m = n then 0 else g.2.1 101 m := fun _ => rfl
    have W := told_wfM T wM hn rfl rfl (Nat.le_refl _) wM.2.1 (Nat.le_refl _) o nm1 rt1 (Or.inl ⟨a87, by rw [a88]; exact cnt_up (by omega) (by omega), by rw [a88, tq]; exact q1, fun z => by cases z⟩)
    have EE : ext g (sm_wI (fldR0 g n true of nm (I3 q) rt) 67 32 (I3 (n + 1))) := ⟨Nat.le_refl _, fun _ _ => rfl, Nat.le_refl _, fun _ _ => rfl, ⟨Nat.le_refl _, fun _ _ => ⟨rfl, rfl, fun _ _ => rfl⟩⟩, Nat.le_refl _, fun _ _ => rfl, Nat.le_refl _, fun _ _ => rfl, Nat.le_refl _, told_mb T hn⟩
    have nn : nM (sm_wI (fldR0 g n true of nm (I3 q) rt) 67 32 (I3 (n + 1))) = n + 1 := I3_clamp (by omega)
    have F := wfF_ext2 (g1 := sm_wI (fldR0 g n true of nm (I3 q) rt) 67 32 (I3 (n + 1))) B0 B0.g EE ⟨rfl, fun _ _ => ⟨rfl, rfl, rfl, rfl, rfl⟩, fun _ _ _ _ => rfl⟩ (fun _ _ => rfl) (fun m m1 m2 z => by
      have : m = n := by rw [nn] at m2; omega
      subst this
      rw [a87] at z; cases z) wF
    show I1 _ (sm_wI (fldR0 g n true of nm (I3 q) rt) 67 32 (I3 (n + 1)))
    refine ⟨wK, cK, wT, cT, wH, cH, W, ⟨rfl, ?_, fun m hm => ?_⟩, cR, cP, cG, cO, cV, ⟨wX.1, fun t ht => ?_, fun m hm z1 z2 => ?_⟩, ⟨cX.1, fun m hm => ?_, cX.2.2.1, cX.2.2.2.1, fun m m1 m2 => ?_, told_sl T wM hn (fun _ z => by rw [T.a86, if_pos rfl] at z; cases z) cX.2.2.2.2.2⟩, cXh_fr (by repeat first | exact hi_rfl | refine hi_wI ?_ (by decide) | refine hi_wJ ?_ (by decide)) cXh, cU, cY, cF, ⟨rfl, cZ.2⟩, F⟩
    · show I3 (nS g + 0) = g.1 67 33
      rw [e67]; rfl
    · rw [nn] at hm
      by_cases c : m = n
      · subst c
        refine ⟨by rw [T.a83, if_pos rfl]; exact if_pos rfl, by rw [T.a84, if_pos rfl]; exact if_pos rfl, by rw [T.a85, if_pos rfl]; exact if_pos rfl, by rw [T.a86, if_pos rfl]; exact if_pos rfl, fun _ => ⟨by rw [a88]; exact if_pos rfl, if_pos rfl, if_pos rfl, ?_⟩, fun z => by rw [a87] at z; cases z⟩
        rw [T.a86, if_pos rfl, if_neg (by decide)]
        exact if_pos rfl
      · obtain ⟨y1, y2, y3, y4, y5, y6⟩ := cM.2.2 m (by omega)
        rw [T.a83, T.a84, T.a85, T.a86, T.a87 m c, T.a88 m c, T.a89 m c, T.a90 m c, T.a91 m c, if_neg c, if_neg c, if_neg c, if_neg c]
        refine ⟨(if_neg c).trans y1, (if_neg c).trans y2, (if_neg c).trans y3, (if_neg c).trans y4, fun z => ?_, fun z => ?_⟩
        · obtain ⟨w1, w2, w3, w4⟩ := y5 z
          exact ⟨(if_neg c).trans w1, (if_neg c).trans w2, (if_neg c).trans w3, (if_neg c).trans w4⟩
        · obtain ⟨w1, w2, w3, w4⟩ := y6 z
          exact ⟨(if_neg c).trans w1, (if_neg c).trans w2, (if_neg c).trans w3, (if_neg c).trans w4⟩
    · obtain ⟨z1, z2⟩ := wX.2.1 t ht
      refine ⟨z1, ?_⟩
      rcases z2 with z | ⟨k, k1, k2, k3, k4⟩
      · exact Or.inl z
      · refine Or.inr ⟨k, k1, k2, k3, fun m hm y1 y2 => ?_⟩
        rw [nn] at hm
        by_cases c : m = n
        · subst c; rw [T.a86, if_pos rfl] at y2; cases y2
        · rw [T.a87 m c] at y1
          rw [T.a86, if_neg c] at y2
          have := k4 m (by omega) y1 y2
          rw [T.a88 m c]
          exact this
    · rw [nn] at hm
      rw [a100, a101]
      by_cases c : m = n
      · rw [if_pos c, if_pos c, c, a88, tq]; exact okV_zk (by omega)
      · rw [if_neg c, if_neg c, T.a88 m c]
        rw [T.a87 m c] at z1
        rw [T.a86, if_neg c] at z2
        exact wX.2.2 m (by omega) z1 z2
    · rw [a100, a101]
      by_cases c : m = n
      · rw [if_pos c, if_pos c, tag_zk, c]
        obtain ⟨y1, y2⟩ := cX.2.2.2.2.1 n (by omega) hn
        obtain ⟨w1, w2⟩ := cX.2.1 n hn
        rw [y2] at w1
        rw [y1] at w2
        exact ⟨w1, w2⟩
      · rw [if_neg c, if_neg c]; exact cX.2.1 m hm
    · rw [nn] at m1
      rw [a100, a101, if_neg (by omega), if_neg (by omega)]
      exact cX.2.2.2.2.1 m (by omega) m2
  | false =>
    have hs := hs rfl
    generalize hg1 : sm_wI (sm_wI (elH (sm_wI (fldR0 g n false of nm (I3 q) rt) 91 n (I3 (nS g))) (nS g) (nX g) (zk (I3 q))) 67 33 (I3 (nS g + 1))) 67 32 (I3 (n + 1)) = g1
    have T : told1 g g1 n false of nm rt := by subst hg1; exact ⟨hnn, rfl, fun _ => rfl, fun _ => rfl, fun _ => rfl, fun _ => rfl, fun m c => if_neg c, fun m c => if_neg c, fun _ _ => rfl, fun _ _ => rfl, fun m c => if_neg c⟩
    have a87 : g1.1 87 n = 1 := by subst hg1; exact if_pos rfl
    have a88 : g1.1 88 n = I3 q := by subst hg1; exact if_pos rfl
    have a91 : g1.1 91 n = I3 (nS g) := by subst hg1; exact if_pos rfl
    have a100 : ∀ m, g1.1 100 m = if m = n then zk (I3 q) else g.1 100 m := by subst hg1; exact fun _ => rfl
    have a101 : ∀ m, g1.2.1 101 m = if m = n then 0 else g.2.1 101 m := by subst hg1; exact fun _ => rfl
    have a98 : ∀ i, g1.1 98 i = elI (g.1 98) (g.1 96) (nS g) (nX g) (zk (I3 q)) i := by subst hg1; exact fun _ => rfl
    have a99 : ∀ i, g1.2.1 99 i = elJ (g.2.1 99) (g.1 96) (nS g) (nX g) 0 i := by subst hg1; exact fun _ => rfl
    have a33 : g1.1 67 33 = I3 (nS g + 1) := by subst hg1; rfl
    have s1 : nS g1 = nS g + 1 := by show tn _ = _; rw [a33]; exact I3_clamp (by omega)
    have nc1 : nC g1 = nC g := by subst hg1; rfl
    have nh1 : nH g1 = nH g := by subst hg1; rfl
    have nt1 : nT g1 = nT g := by subst hg1; rfl
    have nx1 : nX g1 = nX g := by subst hg1; rfl
    have a96 : ∀ t, g1.1 96 t = g.1 96 t := by subst hg1; exact fun _ => rfl
    have W := told_wfM T wM hn nc1 nh1 (by omega) (by rw [a33]; exact cnt_up (by omega) (by decide)) (by omega) o nm1 rt1 (Or.inl ⟨a87, by rw [a88]; exact cnt_up (by omega) (by omega), by rw [a88, tq]; exact q1, fun z => ⟨nS g, by omega, a91⟩⟩)
    have EE : ext g g1 := by
      have M := told_mb T hn
      subst hg1
      exact ⟨Nat.le_refl _, fun _ _ => rfl, Nat.le_refl _, fun _ _ => rfl, ⟨Nat.le_refl _, fun _ _ => ⟨rfl, rfl, fun _ _ => rfl⟩⟩, Nat.le_refl _, fun _ _ => rfl, Nat.le_refl _, fun _ _ => rfl, Nat.le_refl _, M⟩
    have nn : nM g1 = n + 1 := by show tn _ = _; rw [T.n1]; exact I3_clamp (by omega)
    have F : wfF g1 := by
      have := wfF_ext2 B0 (g1 := g1) (by subst hg1; exact B0.g) EE (by subst hg1; exact ⟨rfl, fun _ _ => ⟨rfl, rfl, rfl, rfl, rfl⟩, fun _ _ _ _ => rfl⟩) (by subst hg1; exact (fun _ _ => rfl)) (fun m m1 m2 z => by
        have : m = n := by rw [nn] at m2; omega
        subst this
        rw [a87] at z; cases z) wF
      exact this
    have GG : grow g g1 := by subst hg1; exact ⟨Nat.le_refl _, Nat.le_refl _, Nat.le_refl _, fun _ _ => rfl, fun _ _ => rfl⟩
    have sz : ∀ t, szX g1 t = szX g t := by subst hg1; exact fun _ => rfl
    have c98 : ∀ t i, i < 100 → (t < nX g → tn (g.1 96 t) < 20 ∨ i ≠ nS g) → g1.1 98 (100 * t + i) = g.1 98 (100 * t + i) ∧ g1.2.1 99 (100 * t + i) = g.2.1 99 (100 * t + i) := fun t i hi z => by
      rw [a98, a99]
      unfold elI elJ
      have e : (100 * t + i) / 100 = t := by omega
      have e2 : (100 * t + i) % 100 = i := by omega
      rw [e, e2]
      have nq : ¬ (t < nX g ∧ i = nS g ∧ 20 ≤ tn (g.1 96 t)) := by
        rintro ⟨z1, z2, z3⟩
        rcases z z1 with z4 | z4
        · omega
        · exact z4 z2
      rw [if_neg nq, if_neg nq]; exact ⟨rfl, rfl⟩
    have n98 : ∀ t, t < nX g → 20 ≤ tn (g.1 96 t) → g1.1 98 (100 * t + nS g) = zk (I3 q) ∧ g1.2.1 99 (100 * t + nS g) = 0 := fun t ht z => by
      rw [a98, a99]
      unfold elI elJ
      have e : (100 * t + nS g) / 100 = t := by omega
      have e2 : (100 * t + nS g) % 100 = nS g := by omega
      rw [e, e2, if_pos ⟨ht, rfl, z⟩, if_pos ⟨ht, rfl, z⟩]; exact ⟨rfl, rfl⟩
    have wX2 : wfX g1 := by
      refine ⟨by subst hg1; exact wX.1, fun t ht => ?_, fun m hm z1 z2 => ?_⟩
      · rw [nx1] at ht
        obtain ⟨z1, z2⟩ := wX.2.1 t ht
        have e97 : g1.1 97 t = g.1 97 t := by subst hg1; rfl
        rw [e97, a96]
        refine ⟨z1, ?_⟩
        rcases z2 with ⟨k, k1, k2, k3, k4⟩ | ⟨k, k1, k2, k3, k4⟩
        · refine Or.inl ⟨k, k1, k2, k3, fun i hi => ?_⟩
          have i100 : i < 100 := by have := z1.2; omega
          have tk : tn (g.1 96 t) < 20 := by rw [k3]; show (I3 k).toNatClampNeg < 20; rw [I3_clamp (by omega)]; omega
          rw [(c98 t i i100 (fun _ => Or.inl tk)).1, (c98 t i i100 (fun _ => Or.inl tk)).2]
          exact okV_grow wK GG (k4 i hi)
        · refine Or.inr ⟨k, k1, by rw [nc1]; exact k2, k3, fun m hm y1 y2 => ?_⟩
          rw [nn] at hm
          have tk : 20 ≤ tn (g.1 96 t) := by rw [k3]; show 20 ≤ (I3 k).toNatClampNeg; rw [I3_clamp (by omega)]; omega
          by_cases c : m = n
          · subst c
            have ts : tn (I3 (nS g)) = nS g := I3_clamp (by omega)
            rw [a88, a91, tq, ts, (n98 t ht tk).1, (n98 t ht tk).2]
            exact okV_zk (by omega)
          · rw [T.a87 m c] at y1
            rw [T.a86, if_neg c] at y2
            rcases (wM.2.2 m (by omega)).2.2.2.2 with ⟨-, -, -, q4⟩ | ⟨q4, -⟩
            · obtain ⟨s, q5, q6⟩ := q4 y2
              have ts : tn (I3 s) = s := I3_clamp (by omega)
              have := k4 m (by omega) y1 y2
              rw [q6, ts] at this
              rw [T.a88 m c, T.a91 m c, q6, ts, (c98 t s (by omega) (fun _ => Or.inr (by omega))).1, (c98 t s (by omega) (fun _ => Or.inr (by omega))).2]
              exact okV_grow wK GG this
            · rw [q4] at y1; cases y1
      · rw [nn] at hm
        rw [a100, a101]
        by_cases c : m = n
        · rw [T.a86, if_pos c] at z2; cases z2
        · rw [if_neg c, if_neg c, T.a88 m c]
          rw [T.a87 m c] at z1
          rw [T.a86, if_neg c] at z2
          exact okV_grow wK GG (wX.2.2 m (by omega) z1 z2)
    have cX2 : g_cX (sm_wI (fldC h n (nS g) false of nm (I3 q) rt) 0 12 0) g1 := by
      refine ⟨by subst hg1; exact cX.1, fun m hm => ?_, fun t i t1 t2 hi => ?_, fun t i t1 k20 i1 i2 => ?_, fun m m1 m2 => ?_, told_sl T wM hn (fun _ _ => a91) cX.2.2.2.2.2⟩
      · rw [a100, a101]
        by_cases c : m = n
        · rw [if_pos c, if_pos c, tag_zk, c]
          obtain ⟨y1, y2⟩ := cX.2.2.2.2.1 n (by omega) hn
          obtain ⟨w1, w2⟩ := cX.2.1 n hn
          rw [y2] at w1
          rw [y1] at w2
          exact ⟨w1, w2⟩
        · rw [if_neg c, if_neg c]; exact cX.2.1 m hm
      · rw [nx1] at t1
        rw [(c98 t i hi (fun z => by omega)).1, (c98 t i hi (fun z => by omega)).2]
        exact cX.2.2.1 t i t1 t2 hi
      · rw [nx1] at t1
        rw [a96] at k20
        rw [s1] at i1
        rw [(c98 t i (by omega) (fun z => Or.inr (by omega))).1, (c98 t i (by omega) (fun z => Or.inr (by omega))).2]
        exact cX.2.2.2.1 t i t1 k20 (by omega) i2
      · rw [nn] at m1
        rw [a100, a101, if_neg (by omega), if_neg (by omega)]
        exact cX.2.2.2.2.1 m (by omega) m2
    have cXh2 : g_cXh (sm_wI (fldC h n (nS g) false of nm (I3 q) rt) 0 12 0) g1 := by
      have base : g_cXh (sm_wI (fldC h n (nS g) false of nm (I3 q) rt) 0 12 0) g := cXh_fr (by unfold fldC; repeat first | exact hi_rfl | refine hi_wI ?_ (by decide) | refine hi_wJ ?_ (by decide)) cXh
      refine ⟨by rw [nx1]; exact base.1, by rw [nx1]; exact base.2.1, fun t ht => ?_⟩
      rw [nx1] at ht
      obtain ⟨b1, b2, b3, b4, b5, b6, b7, b8, b9⟩ := base.2.2 t ht
      rw [sz]
      refine ⟨b1, b2, b3, b4, b5, b6, b7, b8, fun i hi => ?_⟩
      have sz100 := szX_le wX ht
      by_cases z : tn (g.1 96 t) < 20 ∨ i ≠ nS g
      · rw [(c98 t i (by omega) (fun _ => z)).1, (c98 t i (by omega) (fun _ => z)).2]
        exact b9 i hi
      · have z1 : 20 ≤ tn (g.1 96 t) := by omega
        have z2 : i = nS g := by omega
        subst z2
        rw [(n98 t ht z1).1, (n98 t ht z1).2, tag_zk]
        obtain ⟨w1, w2⟩ := b9 (nS g) hi
        obtain ⟨y1, y2⟩ := cX.2.2.2.1 t (nS g) ht z1 (Nat.le_refl _) hs
        rw [y2] at w1
        rw [y1] at w2
        exact ⟨w1, w2⟩
    have cM2 : g_cM (sm_wI (fldC h n (nS g) false of nm (I3 q) rt) 0 12 0) g1 := by
      refine ⟨T.n1.symm, a33.symm, fun m hm => ?_⟩
      rw [nn] at hm
      by_cases c : m = n
      · subst c
        refine ⟨by rw [T.a83, if_pos rfl]; exact if_pos rfl, by rw [T.a84, if_pos rfl]; exact if_pos rfl, by rw [T.a85, if_pos rfl]; exact if_pos rfl, by rw [T.a86, if_pos rfl]; exact if_pos rfl, fun _ => ⟨by rw [a88]; exact if_pos rfl, if_pos rfl, if_pos rfl, ?_⟩, fun z => by rw [a87] at z; cases z⟩
        rw [T.a86, if_pos rfl, if_pos (by decide), a91]
        exact if_pos rfl
      · obtain ⟨y1, y2, y3, y4, y5, y6⟩ := cM.2.2 m (by omega)
        rw [T.a83, T.a84, T.a85, T.a86, T.a87 m c, T.a88 m c, T.a89 m c, T.a90 m c, T.a91 m c, if_neg c, if_neg c, if_neg c, if_neg c]
        refine ⟨(if_neg c).trans y1, (if_neg c).trans y2, (if_neg c).trans y3, (if_neg c).trans y4, fun z => ?_, fun z => ?_⟩
        · obtain ⟨w1, w2, w3, w4⟩ := y5 z
          exact ⟨(if_neg c).trans w1, (if_neg c).trans w2, (if_neg c).trans w3, (if_neg c).trans w4⟩
        · obtain ⟨w1, w2, w3, w4⟩ := y6 z
          exact ⟨(if_neg c).trans w1, (if_neg c).trans w2, (if_neg c).trans w3, (if_neg c).trans w4⟩
    show I1 _ g1
    refine ⟨?_, ?_, ?_, ?_, ?_, ?_, W, cM2, ?_, ?_, ?_, ?_, ?_, wX2, cX2, cXh2, ?_, ?_, ?_, ?_, F⟩
    all_goals subst hg1
    · exact wK
    · exact cK
    · exact wT
    · exact cT
    · exact wH
    · exact cH
    · exact cR
    · exact cP
    · exact cG
    · exact cO
    · exact cV
    · exact cU
    · exact cY
    · exact cF
    · exact ⟨rfl, cZ.2⟩
theorem agr_fldC {h : sm_H} {n s : Nat} {st : Bool} {of nm kd rt : Int32} : agr (fun b _ => 38 ≤ b ∧ b ≤ 46) h (fldC h n s st of nm kd rt) := by
  unfold fldC
  repeat first | exact agr_rfl | refine agr_wI ?_ (by omega)
theorem agr_fldR0 {g : sm_H} {n : Nat} {st : Bool} {of nm kd rt : Int32} : agr (fun b _ => 67 ≤ b ∧ b ≤ 101) g (fldR0 g n st of nm kd rt) := by
  unfold fldR0
  repeat first | exact agr_rfl | refine agr_wI ?_ (by omega) | refine agr_wJ ?_ (by omega)
theorem cnt_inR {x : Int32} {n : Nat} (hn : n < 2147483648) (h : inR x (n + 1) = true) : cnt x n := by
  obtain ⟨a, z1, z2⟩ := inR_x (by omega) h
  rw [z2]; exact cnt_up (by omega) hn
theorem field2 (x1 x2 x3 : Int32) (st : Bool) (x5 : Int32) (h g : sm_H) (I : I1 h g) : ∃ v h1 g1, F_267 x1 x2 x3 (b2 st) x5 h = some (v, h1) ∧ F_390 x1 x2 x3 (b2 st) x5 g = some (v, g1) ∧ I1 h1 g1 ∧ kR h h1 ∧ kC g g1 := by
  obtain ⟨wK, cK, wT, cT, wH, cH, wM, cM, cR, cP, cG, cO, cV, wX, cX, cXh, cU, cY, cF, cZ, wF⟩ := id I
  have h12 := wK.2.1
  have s24 : nS g ≤ 24 := wM.2.1.2
  have m100 : nM g ≤ 100 := wM.1.2
  have x1000 : nX g ≤ 1000 := wX.1.2
  have e33 : g.1 67 33 = I3 (nS g) := wM.2.1.1
  have e32 : g.1 67 32 = I3 (nM g) := wM.1.1
  have c13 : h.1 38 13 = I3 (nM g) := cM.1.trans e32
  have c14 : h.1 38 14 = I3 (nS g) := cM.2.1.trans e33
  have V3 := C_hasV wK cK x3
  have MN := C_misnamed (h := h) x2 x5
  have R3 := R_kind (g := sm_wI g 67 19 0) wK x3
  have nCe : nC (sm_wI g 67 19 0) = nC g := rfl
  rw [nCe] at R3
  have RN := R_out99 (h := sm_wI g 67 19 0) x2
  have RT := R_out3 (h := sm_wI g 67 19 0) x5
  have ref : ∀ n : Nat, 0 < n → n < 100 → F_114 x1 x2 x3 (b2 st) x5 h = some (-I3 n, h) → F_390 x1 x2 x3 (b2 st) x5 g = some (-1, sm_wI (sm_wI g 67 19 0) 67 19 (I3 n)) → ∃ v h1 g1, F_267 x1 x2 x3 (b2 st) x5 h = some (v, h1) ∧ F_390 x1 x2 x3 (b2 st) x5 g = some (v, g1) ∧ I1 h1 g1 ∧ kR h h1 ∧ kC g g1 := fun n n1 n2 a b => by
    obtain ⟨r1, r2, r3⟩ := refuse2 I n
    refine ⟨-1, _, _, ?_, b, r1, r2, r3⟩
    show F_267_0 x1 x2 x3 (b2 st) x5 h = _
    unfold F_267_0
    rw [a]
    simp only [Option.bind_some]
    rw [C_judgeN n1 (by omega)]; rfl
  rcases isC_c g wK x1 with ⟨c, rfl, c1, c2, c3⟩ | ⟨c2, c3⟩
  · have c2 := c2 h cK
    have c3 := c3 (sm_wI g 67 19 0) wK rfl
    cases kv : kV g x3 with
    | false =>
      rw [kv] at V3
      refine ref 1 (by decide) (by decide) ?_ ?_
      · show F_114_0 _ _ _ _ _ h = _
        unfold F_114_0
        rw [c2]; simp only [Option.bind_some]
        rw [if_neg (by decide), V3]; simp only [Option.bind_some]
        rw [if_pos (by decide)]; rfl
      · show F_390_0 _ _ _ _ _ g = _
        unfold F_390_0
        simp only [Option.bind_some]
        rw [c3]; simp only [Option.bind_some]
        rw [if_neg (by decide), R3]; simp only [Option.bind_some]
        unfold kV at kv
        cases q : inR x3 (20 + nC g) with
        | false => rw [if_pos (by decide)]; rfl
        | true =>
          rw [q, Bool.true_and] at kv
          have : x3 = 0 := Classical.not_not.mp (of_decide_eq_false kv)
          rw [if_neg (by decide), if_pos this]; rfl
    | true =>
      rw [kv] at V3
      obtain ⟨q, rfl, q1, q2⟩ := (kV_iff wK).mp kv
      have q3 : ¬ I3 q = 0 := by rw [I3_lit, I3_inj (by omega) (by decide)]; omega
      rw [show inR (I3 q) (20 + nC g) = true by rw [inR_I (by omega)]; simp [q2]] at R3
      have pre1 : F_114 (I3 (20 + c)) x2 (I3 q) (b2 st) x5 h = if b2 (!(inR x2 100 && inR x5 4)) = 0 then (if 100 ≤ (h.1 38 13) then (F_114_60 h) else (if b2 st = 0 then (if (h.1 38 14) < 24 then (F_114_63 (I3 (20 + c)) x2 (I3 q) (b2 st) x5 h) else (F_114_60 h)) else (F_114_63 (I3 (20 + c)) x2 (I3 q) (b2 st) x5 h))) else (some ((-2), h)) := by
        show F_114_0 _ _ _ _ _ h = _
        unfold F_114_0
        rw [c2]; simp only [Option.bind_some]
        rw [if_neg (by decide), V3]; simp only [Option.bind_some]
        rw [if_neg (by decide), MN]; simp only [Option.bind_some]
      have pre2 : F_390 (I3 (20 + c)) x2 (I3 q) (b2 st) x5 g = if b2 (!inR x2 100) = 0 then (if b2 (!inR x5 4) = 0 then (if ((sm_wI g 67 19 0).1 67 32) = 100 then (F_390_85 (sm_wI g 67 19 0)) else (if b2 st = 0 then (if ((sm_wI g 67 19 0).1 67 33) = 24 then (F_390_85 (sm_wI g 67 19 0)) else (F_390_91 (I3 (20 + c)) x2 (I3 q) (b2 st) x5 (sm_wI g 67 19 0))) else (F_390_91 (I3 (20 + c)) x2 (I3 q) (b2 st) x5 (sm_wI g 67 19 0)))) else (F_390_56 (sm_wI g 67 19 0))) else (F_390_56 (sm_wI g 67 19 0)) := by
        show F_390_0 _ _ _ _ _ g = _
        unfold F_390_0
        simp only [Option.bind_some]
        rw [c3]; simp only [Option.bind_some]
        rw [if_neg (by decide), R3]; simp only [Option.bind_some]
        rw [if_neg (by decide), if_neg q3, RN]; simp only [Option.bind_some]
        rw [RT]; simp only [Option.bind_some]
      cases i2 : inR x2 100 with
      | false =>
        rw [i2] at pre1 pre2
        exact ref 2 (by decide) (by decide) (by rw [pre1]; rfl) (by rw [pre2]; rfl)
      | true =>
        cases i5 : inR x5 4 with
        | false =>
          rw [i2, i5] at pre1 pre2
          exact ref 2 (by decide) (by decide) (by rw [pre1]; rfl) (by rw [pre2]; rfl)
        | true =>
          rw [i2, i5] at pre1 pre2
          rw [if_pos (show b2 (!(true && true)) = 0 by decide)] at pre1
          rw [if_pos (show b2 (!true) = 0 by decide), if_pos (show b2 (!true) = 0 by decide)] at pre2
          have g32 : (sm_wI g 67 19 0).1 67 32 = I3 (nM g) := e32
          have g33 : (sm_wI g 67 19 0).1 67 33 = I3 (nS g) := e33
          rw [c13, c14] at pre1
          rw [g32, g33] at pre2
          by_cases full : nM g = 100
          · rw [if_pos (by rw [I3_lit, I3_le (by decide) (by omega)]; omega)] at pre1
            rw [if_pos (by rw [full]; rfl)] at pre2
            exact ref 5 (by decide) (by decide) pre1 pre2
          · rw [if_neg (by rw [I3_lit, I3_le (by decide) (by omega)]; omega)] at pre1
            rw [if_neg (by rw [I3_lit, I3_inj (by omega) (by decide)]; exact full)] at pre2
            have FI := field_I I (st := st) (of := I3 (20 + c)) (nm := x2) (rt := x5) (q := q) (by omega)
            have CF := C_fld (h := h) (n := nM g) (s := nS g) (by omega) s24 c13 c14 st (I3 (20 + c)) x2 (I3 q) x5
            have kRr : kR h (sm_wI (fldC h (nM g) (nS g) st (I3 (20 + c)) x2 (I3 q) x5) 0 12 0) := kR_agr (S := fun b _ => b < 67) (agr_wI (agr_mono (fun b j z => by omega) agr_fldC) (by decide)) (fun b j z => by omega)
            have go : ∀ g1, F_114 (I3 (20 + c)) x2 (I3 q) (b2 st) x5 h = F_114_63 (I3 (20 + c)) x2 (I3 q) (b2 st) x5 h → F_390 (I3 (20 + c)) x2 (I3 q) (b2 st) x5 g = some (I3 (nM g), g1) → I1 (sm_wI (fldC h (nM g) (nS g) st (I3 (20 + c)) x2 (I3 q) x5) 0 12 0) g1 → kC g g1 → ∃ v h1 g1, F_267 (I3 (20 + c)) x2 (I3 q) (b2 st) x5 h = some (v, h1) ∧ F_390 (I3 (20 + c)) x2 (I3 q) (b2 st) x5 g = some (v, g1) ∧ I1 h1 g1 ∧ kR h h1 ∧ kC g g1 := fun g1 a b i k => by
              refine ⟨_, _, g1, ?_, b, i, kRr, k⟩
              show F_267_0 _ _ _ _ _ h = _
              unfold F_267_0
              rw [a, CF]; simp only [Option.bind_some]
              rw [C_judge (by omega)]; rfl
            have zz := R_zero (g := sm_wI (sm_wI (sm_wI (sm_wI (sm_wI (sm_wI (sm_wI g 67 19 (I3 0)) 83 (nM g) (I3 (20 + c))) 84 (nM g) x2) 85 (nM g) x5) 86 (nM g) (b2 st)) 87 (nM g) (I3 1)) 88 (nM g) (I3 q)) (q := q) (by omega)
            have o : ∃ c', c' < nC g ∧ I3 (20 + c) = I3 (20 + c') := ⟨c, c1, rfl⟩
            cases st with
            | true =>
              rw [if_neg (show ¬ b2 true = 0 by decide)] at pre1 pre2
              refine go _ pre1 ?_ (FI (fun z => by cases z) o (cnt_inR (by decide) i2) (cnt_inR (by decide) i5) q1 q2) ?_
              · rw [pre2]
                show _ = some (I3 (nM g), sm_wI (fldR0 g (nM g) true (I3 (20 + c)) x2 (I3 q) x5) 67 32 (I3 (nM g + 1)))
                simp (disch := omega) only [↓reduceIte, if_true, if_false, ite_self, Option.bind_some, Option.map_some, wI_rd, wJ_rd, wI_2, wJ_1, wJ_22, I3_lit, I3_add, I3_mul, I3_lt, I3_le, I3_inj, I3_nn', I3_n1, I3_n2, m2m1, ldI_I, ldJ_I, ldZ_I, stI_I, stJ_I, true_or, or_true, false_or, or_false, true_and, and_true, false_and, and_false, not_true_eq_false, not_false_eq_true, reduceCtorEq, Nat.reduceEqDiff, Nat.lt_irrefl, Nat.not_lt_zero, Nat.le_refl, Nat.reduceLT, Nat.reduceLeDiff, eq_self, zbbI, bbI0, bbI1, decide_eq_false_iff_not, decide_eq_true_eq, Bool.not_eq_false, Bool.not_eq_true, Bool.not_true, Bool.not_false, cond_true, cond_false, F_390_91, F_390_251, F_389_0, F_389, e32, stZ_I, stZ_1, zz, I3_sub, Nat.add_sub_cancel]
                rfl
              · exact kC_agr (S := fun b _ => 67 ≤ b ∧ b ≤ 101) (agr_wI agr_fldR0 (by decide)) (fun b j z => by omega)
            | false =>
              rw [if_pos (show b2 false = 0 by decide)] at pre1 pre2
              by_cases f2 : nS g = 24
              · rw [if_neg (by rw [I3_lit, I3_lt (by omega) (by decide)]; omega)] at pre1
                rw [if_pos (by rw [f2]; rfl)] at pre2
                exact ref 5 (by decide) (by decide) pre1 pre2
              · rw [if_pos (by rw [I3_lit, I3_lt (by omega) (by decide)]; omega)] at pre1
                rw [if_neg (by rw [I3_lit, I3_inj (by omega) (by decide)]; exact f2)] at pre2
                have LL := R_fldLoop (g := sm_wI (fldR0 g (nM g) false (I3 (20 + c)) x2 (I3 q) x5) 91 (nM g) (I3 (nS g))) (n := nM g) (s := nS g) (x := nX g) (v := zk (I3 q)) wX.1.1 x1000 e33 (by omega) e32 (by omega) rfl rfl (fun t ht => by
                  rcases (wX.2.1 t ht).2 with ⟨k, k1, k2, k3, -⟩ | ⟨k, k1, k2, k3, -⟩
                  · exact ⟨k, k3, by omega⟩
                  · exact ⟨k, k3, by omega⟩)
                refine go _ pre1 ?_ (FI (fun _ => by omega) o (cnt_inR (by decide) i2) (cnt_inR (by decide) i5) q1 q2) ?_
                · rw [pre2]
                  refine Eq.trans ?_ LL
                  simp (disch := omega) only [↓reduceIte, if_true, if_false, ite_self, Option.bind_some, Option.map_some, wI_rd, wJ_rd, wI_2, wJ_1, wJ_22, I3_lit, I3_add, I3_mul, I3_lt, I3_le, I3_inj, I3_nn', I3_n1, I3_n2, m2m1, ldI_I, ldJ_I, ldZ_I, stI_I, stJ_I, true_or, or_true, false_or, or_false, true_and, and_true, false_and, and_false, not_true_eq_false, not_false_eq_true, reduceCtorEq, Nat.reduceEqDiff, Nat.lt_irrefl, Nat.not_lt_zero, Nat.le_refl, Nat.reduceLT, Nat.reduceLeDiff, eq_self, zbbI, bbI0, bbI1, decide_eq_false_iff_not, decide_eq_true_eq, Bool.not_eq_false, Bool.not_eq_true, Bool.not_true, Bool.not_false, cond_true, cond_false, F_390_91, F_389_0, F_389, e32, e33, stZ_I, stZ_1, zz]
                  rfl
                · exact kC_agr (S := fun b _ => 67 ≤ b ∧ b ≤ 101) (agr_wI (agr_wI (agr_wAJ (agr_wA (agr_wI agr_fldR0 (by decide)) (fun _ => by decide)) (fun _ => by decide)) (by decide)) (by decide)) (fun b j z => by omega)
  · have c2 := c2 h cK
    have c3 := c3 (sm_wI g 67 19 0) wK rfl
    refine ref 1 (by decide) (by decide) ?_ ?_
    · show F_114_0 _ _ _ _ _ h = _
      unfold F_114_0
      rw [c2]; simp only [Option.bind_some]
      rw [if_pos trivial]; rfl
    · show F_390_0 _ _ _ _ _ g = _
      unfold F_390_0
      simp only [Option.bind_some]
      rw [c3]; simp only [Option.bind_some]
      rw [if_pos trivial]; rfl
theorem op_field {h : sm_H} (x1 x2 x3 : Int32) (st : Bool) (x5 : Int32) (I : I0 h) : ∃ v h1 h2, F_267 x1 x2 x3 (b2 st) x5 h = some (v, h1) ∧ F_390 x1 x2 x3 (b2 st) x5 h1 = some (v, h2) ∧ I0 h2 := op_of2 (field2 x1 x2 x3 st x5) I
theorem tyExt_trans {g g1 g2 : sm_H} (a : tyExt g g1) (b : tyExt g1 g2) : tyExt g g2 := by
  refine ⟨Nat.le_trans a.1 b.1, fun t ht => ?_⟩
  obtain ⟨a1, a2, a3⟩ := a.2 t ht
  obtain ⟨b1, b2, b3⟩ := b.2 t (Nat.lt_of_lt_of_le ht a.1)
  have eM : tM g1 t = tM g t := by show tn _ = tn _; rw [a2]
  exact ⟨b1.trans a1, b2.trans a2, fun k hk => (b3 k (by rw [eM]; exact hk)).trans (a3 k hk)⟩
theorem ext_trans {g g1 g2 : sm_H} (a : ext g g1) (b : ext g1 g2) : ext g g2 := by
  have l := fun {x y z : Nat} (p : x < y) (q : y ≤ z) => Nat.lt_of_lt_of_le p q
  refine ⟨Nat.le_trans a.c1 b.c1, fun c hc => (b.c2 c (l hc a.c1)).trans (a.c2 c hc), Nat.le_trans a.v1 b.v1, fun v hv => (b.v2 v (l hv a.v1)).trans (a.v2 v hv), tyExt_trans a.t b.t, Nat.le_trans a.h1 b.h1, fun x hx => (b.h2 x (l hx a.h1)).trans (a.h2 x hx), Nat.le_trans a.k1 b.k1, fun k hk => (b.k2 k (l hk a.k1)).trans (a.k2 k hk), Nat.le_trans a.o b.o, Nat.le_trans a.m.1 b.m.1, fun m hm => ?_⟩
  obtain ⟨p1, p2, p3, p4, p5, p6⟩ := a.m.2 m hm
  obtain ⟨q1, q2, q3, q4, q5, q6⟩ := b.m.2 m (l hm a.m.1)
  exact ⟨q1.trans p1, q2.trans p2, q3.trans p3, q4.trans p4, q5.trans p5, q6.trans p6⟩
theorem grow_trans {g g1 g2 : sm_H} (a : grow g g1) (b : grow g1 g2) : grow g g2 := by
  obtain ⟨a1, a2, a3, a4, a5⟩ := a
  obtain ⟨b1, b2, b3, b4, b5⟩ := b
  exact ⟨by omega, by omega, by omega, fun t ht => (b4 t (by omega)).trans (a4 t ht), fun c hc => (b5 c (by omega)).trans (a5 c hc)⟩
def mtC0 (h : sm_H) (n : Nat) (x : Int32) : sm_H := sm_wI (sm_wI h 43 n 0) 44 n x
def mtR0 (g : sm_H) (n : Nat) (st : Bool) (of nm rt x : Int32) : sm_H := sm_wI (sm_wI (sm_wI (sm_wI (sm_wI (sm_wI g 83 n of) 84 n nm) 85 n rt) 86 n (b2 st)) 87 n 0) 90 n x
theorem K1_pre {h g : sm_H} (K : K1 h g) {st : Bool} {of nm rt x : Int32} : K1 (mtC0 h (nM g) x) (mtR0 g (nM g) st of nm rt x) ∧ ext g (mtR0 g (nM g) st of nm rt x) ∧ grow g (mtR0 g (nM g) st of nm rt x) := by
  have B0 := K1_base K
  obtain ⟨wK, cK, wT, cT, wH, cH, wM, cM, cG, cO, cV, wX, cX, cXh, wF⟩ := K
  generalize hnn : nM g = n at *
  have hnn' : tn (g.1 67 32) = n := hnn
  have nn : nM (mtR0 g n st of nm rt x) = n := hnn
  have r83 : ∀ m, m < n → (mtR0 g n st of nm rt x).1 83 m = g.1 83 m := fun m hm => if_neg (by omega)
  have r84 : ∀ m, m < n → (mtR0 g n st of nm rt x).1 84 m = g.1 84 m := fun m hm => if_neg (by omega)
  have r85 : ∀ m, m < n → (mtR0 g n st of nm rt x).1 85 m = g.1 85 m := fun m hm => if_neg (by omega)
  have r86 : ∀ m, m < n → (mtR0 g n st of nm rt x).1 86 m = g.1 86 m := fun m hm => if_neg (by omega)
  have r87 : ∀ m, m < n → (mtR0 g n st of nm rt x).1 87 m = g.1 87 m := fun m hm => if_neg (by omega)
  have r90 : ∀ m, m < n → (mtR0 g n st of nm rt x).1 90 m = g.1 90 m := fun m hm => if_neg (by omega)
  have EE : ext g (mtR0 g n st of nm rt x) := ⟨Nat.le_refl _, fun _ _ => rfl, Nat.le_refl _, fun _ _ => rfl, ⟨Nat.le_refl _, fun _ _ => ⟨rfl, rfl, fun _ _ => rfl⟩⟩, Nat.le_refl _, fun _ _ => rfl, Nat.le_refl _, fun _ _ => rfl, Nat.le_refl _, ⟨Nat.le_refl _, fun m hm => by
    rw [hnn] at hm
    exact ⟨r83 m hm, r84 m hm, r86 m hm, r87 m hm, rfl, rfl⟩⟩⟩
  refine ⟨⟨wK, cK, wT, cT, wH, cH, ⟨wM.1, wM.2.1, fun m hm => ?_⟩, ⟨cM.1, cM.2.1, fun m hm => ?_⟩, cG, cO, cV, ⟨wX.1, fun t ht => ?_, fun m hm z1 z2 => ?_⟩, ⟨cX.1, cX.2.1, cX.2.2.1, cX.2.2.2.1, cX.2.2.2.2.1, fun a b ab hb a1 a2 b1 b2 e => by
    rw [nn] at hb
    rw [r87 a (by omega)] at a1
    rw [r86 a (by omega)] at a2
    rw [r87 b hb] at b1
    rw [r86 b hb] at b2
    exact cX.2.2.2.2.2 a b ab (by omega) a1 a2 b1 b2 e⟩, cXh_fr (by unfold mtC0; repeat first | exact hi_rfl | refine hi_wI ?_ (by decide) | refine hi_wJ ?_ (by decide)) cXh, ?_⟩, EE, ⟨Nat.le_refl _, Nat.le_refl _, Nat.le_refl _, fun _ _ => rfl, fun _ _ => rfl⟩⟩
  · rw [nn] at hm
    rw [r83 m hm, r84 m hm, r85 m hm, r86 m hm, r87 m hm, r90 m hm]
    exact wM.2.2 m (by omega)
  · rw [nn] at hm
    obtain ⟨y1, y2, y3, y4, y5, y6⟩ := cM.2.2 m (by omega)
    have c : ¬ m = n := by omega
    rw [r83 m hm, r84 m hm, r85 m hm, r86 m hm, r87 m hm, r90 m hm]
    refine ⟨y1, y2, y3, y4, fun z => ?_, fun z => ?_⟩
    · obtain ⟨w1, w2, w3, w4⟩ := y5 z
      exact ⟨(if_neg c).trans w1, (if_neg c).trans w2, w3, w4⟩
    · obtain ⟨w1, w2, w3, w4⟩ := y6 z
      exact ⟨(if_neg c).trans w1, (if_neg c).trans w2, w3, w4⟩
  · obtain ⟨z1, z2⟩ := wX.2.1 t ht
    refine ⟨z1, ?_⟩
    rcases z2 with z | ⟨k, k1, k2, k3, k4⟩
    · exact Or.inl z
    · refine Or.inr ⟨k, k1, k2, k3, fun m hm y1 y2 => ?_⟩
      rw [nn] at hm
      rw [r87 m hm] at y1
      rw [r86 m hm] at y2
      exact k4 m (by omega) y1 y2
  · rw [nn] at hm
    rw [r87 m hm] at z1
    rw [r86 m hm] at z2
    exact wX.2.2 m (by omega) z1 z2
  · exact wfF_ext2 (g1 := mtR0 g n st of nm rt x) B0 B0.g EE ⟨rfl, fun _ _ => ⟨rfl, rfl, rfl, rfl, rfl⟩, fun _ _ _ _ => rfl⟩ (fun m hm => r90 m (by omega)) (fun m m1 m2 => by rw [nn] at m2; omega) wF
def mtC1 (h : sm_H) (n : Nat) (st : Bool) (of nm rt t : Int32) : sm_H := sm_wI (sm_wI (sm_wI (sm_wI (sm_wI (sm_wI (sm_wI h 45 n t) 46 n (-1)) 39 n of) 40 n nm) 42 n (b2 st)) 41 n rt) 38 13 (I3 (n + 1))
def mtR1 (g : sm_H) (n : Nat) (t : Int32) : sm_H := sm_wI (sm_wI g 89 n t) 67 32 (I3 (n + 1))
theorem method_K {h g : sm_H} (K : K1 h g) {st : Bool} {of nm rt : Int32} {x t : Nat} (hn : nM g < 100) (o : ∃ c, c < nC g ∧ of = I3 (20 + c)) (nm1 : cnt nm 99) (rt1 : cnt rt 3) (hx : x < nH g) (ht : t < nT g) (c43 : h.1 43 (nM g) = 0) (c44 : h.1 44 (nM g) = I3 x) (g83 : g.1 83 (nM g) = of) (g84 : g.1 84 (nM g) = nm) (g85 : g.1 85 (nM g) = rt) (g86 : g.1 86 (nM g) = b2 st) (g87 : g.1 87 (nM g) = 0) (g90 : g.1 90 (nM g) = I3 x) (rel : rs g t = hrs g x ∧ hpl g x = if b2 st = 0 then of :: pl g t else pl g t) : K1 (mtC1 h (nM g) st of nm rt (I3 t)) (mtR1 g (nM g) (I3 t)) ∧ ext g (mtR1 g (nM g) (I3 t)) ∧ grow g (mtR1 g (nM g) (I3 t)) := by
  have B0 := K1_base K
  obtain ⟨wK, cK, wT, cT, wH, cH, wM, cM, cG, cO, cV, wX, cX, cXh, wF⟩ := K
  have h12 := wK.2.1
  have w300 : nT g ≤ 300 := wT.1.2
  have w500 : nH g ≤ 500 := wH.1.2
  generalize hnn : nM g = n at *
  have hnn' : tn (g.1 67 32) = n := hnn
  have nn : nM (mtR1 g n (I3 t)) = n + 1 := I3_clamp (by omega)
  have T : told1 g (mtR1 g n (I3 t)) n st of nm rt := by
    refine ⟨hnn, rfl, fun m => ?_, fun m => ?_, fun m => ?_, fun m => ?_, fun _ _ => rfl, fun _ _ => rfl, fun m c => if_neg c, fun _ _ => rfl, fun _ _ => rfl⟩
    · show g.1 83 m = _
      by_cases c : m = n
      · rw [if_pos c, c, g83]
      · rw [if_neg c]
    · show g.1 84 m = _
      by_cases c : m = n
      · rw [if_pos c, c, g84]
      · rw [if_neg c]
    · show g.1 85 m = _
      by_cases c : m = n
      · rw [if_pos c, c, g85]
      · rw [if_neg c]
    · show g.1 86 m = _
      by_cases c : m = n
      · rw [if_pos c, c, g86]
      · rw [if_neg c]
  have a89 : (mtR1 g n (I3 t)).1 89 n = I3 t := if_pos rfl
  have W := told_wfM T wM hn rfl rfl (Nat.le_refl _) wM.2.1 (Nat.le_refl _) o nm1 rt1 (Or.inr ⟨g87, ⟨x, hx, g90⟩, t, ht, a89⟩)
  have EE : ext g (mtR1 g n (I3 t)) := ⟨Nat.le_refl _, fun _ _ => rfl, Nat.le_refl _, fun _ _ => rfl, ⟨Nat.le_refl _, fun _ _ => ⟨rfl, rfl, fun _ _ => rfl⟩⟩, Nat.le_refl _, fun _ _ => rfl, Nat.le_refl _, fun _ _ => rfl, Nat.le_refl _, told_mb T hn⟩
  refine ⟨⟨wK, cK, wT, cT, wH, cH, W, ⟨rfl, cM.2.1, fun m hm => ?_⟩, cG, cO, cV, ⟨wX.1, fun u hu => ?_, fun m hm z1 z2 => ?_⟩, ⟨cX.1, cX.2.1, cX.2.2.1, cX.2.2.2.1, fun m m1 m2 => cX.2.2.2.2.1 m (by rw [nn] at m1; omega) m2, told_sl T wM hn (fun z => by rw [show (mtR1 g n (I3 t)).1 87 n = 0 from g87] at z; cases z) cX.2.2.2.2.2⟩, cXh_fr (by unfold mtC1; repeat first | exact hi_rfl | refine hi_wI ?_ (by decide) | refine hi_wJ ?_ (by decide)) cXh, ?_⟩, EE, ⟨Nat.le_refl _, Nat.le_refl _, Nat.le_refl _, fun _ _ => rfl, fun _ _ => rfl⟩⟩
  · rw [nn] at hm
    by_cases c : m = n
    · subst c
      refine ⟨by rw [T.a83, if_pos rfl]; exact if_pos rfl, by rw [T.a84, if_pos rfl]; exact if_pos rfl, by rw [T.a85, if_pos rfl]; exact if_pos rfl, by rw [T.a86, if_pos rfl]; exact if_pos rfl, fun z => ?_, fun _ => ⟨c43, c44.trans g90.symm, by rw [a89]; exact if_pos rfl, if_pos rfl⟩⟩
      have : g.1 87 m = 1 := z
      rw [g87] at this; cases this
    · obtain ⟨y1, y2, y3, y4, y5, y6⟩ := cM.2.2 m (by omega)
      rw [T.a83, T.a84, T.a85, T.a86, T.a87 m c, T.a88 m c, T.a89 m c, T.a90 m c, T.a91 m c, if_neg c, if_neg c, if_neg c, if_neg c]
      refine ⟨(if_neg c).trans y1, (if_neg c).trans y2, (if_neg c).trans y3, (if_neg c).trans y4, fun z => ?_, fun z => ?_⟩
      · obtain ⟨w1, w2, w3, w4⟩ := y5 z
        exact ⟨w1, w2, (if_neg c).trans w3, (if_neg c).trans w4⟩
      · obtain ⟨w1, w2, w3, w4⟩ := y6 z
        exact ⟨w1, w2, (if_neg c).trans w3, (if_neg c).trans w4⟩
  · obtain ⟨z1, z2⟩ := wX.2.1 u hu
    refine ⟨z1, ?_⟩
    rcases z2 with z | ⟨k, k1, k2, k3, k4⟩
    · exact Or.inl z
    · refine Or.inr ⟨k, k1, k2, k3, fun m hm y1 y2 => ?_⟩
      rw [nn] at hm
      by_cases c : m = n
      · subst c
        have : g.1 87 m = 1 := y1
        rw [g87] at this; cases this
      · exact k4 m (by omega) y1 y2
  · rw [nn] at hm
    by_cases c : m = n
    · subst c
      have : g.1 87 m = 1 := z1
      rw [g87] at this; cases this
    · exact wX.2.2 m (by omega) z1 z2
  · refine wfF_ext2 (g1 := mtR1 g n (I3 t)) B0 B0.g EE ⟨rfl, fun _ _ => ⟨rfl, rfl, rfl, rfl, rfl⟩, fun _ _ _ _ => rfl⟩ (fun _ _ => rfl) (fun m m1 m2 z => ?_) wF
    have : m = n := by rw [nn] at m2; omega
    subst this
    have tt : tn (I3 t) = t := I3_clamp (by omega)
    have tx : tn (I3 x) = x := I3_clamp (by omega)
    have e90 : (mtR1 g m (I3 t)).1 90 m = I3 x := g90
    have e86 : (mtR1 g m (I3 t)).1 86 m = b2 st := g86
    have e83 : (mtR1 g m (I3 t)).1 83 m = of := g83
    rw [a89, e90, e86, e83, tt, tx]
    exact rel
theorem ext_eq {g g1 : sm_H} (a : ∀ b j, okR b j = true → g1.1 b j = g.1 b j ∧ g1.2.1 b j = g.2.1 b j) : ext g g1 ∧ grow g g1 ∧ same g g1 := by
  have i : ∀ b j, okR b j = true → g1.1 b j = g.1 b j := fun b j o => (a b j o).1
  have nc : nC g1 = nC g := by show tn _ = tn _; rw [i 67 6 rfl]
  have nv : nV g1 = nV g := by show tn _ = tn _; rw [i 67 40 rfl]
  have nt : nT g1 = nT g := by show tn _ = tn _; rw [i 67 10 rfl]
  have nh : nH g1 = nH g := by show tn _ = tn _; rw [i 67 18 rfl]
  have ng : nG g1 = nG g := by show tn _ = tn _; rw [i 67 35 rfl]
  have no : nO g1 = nO g := by show tn _ = tn _; rw [i 67 37 rfl]
  have nm : nM g1 = nM g := by show tn _ = tn _; rw [i 67 32 rfl]
  have nx : nX g1 = nX g := by show tn _ = tn _; rw [i 67 45 rfl]
  refine ⟨⟨by omega, fun c _ => i 70 c rfl, by omega, fun v _ => i 94 v rfl, ⟨by omega, fun t _ => ⟨i 72 t rfl, i 73 t rfl, fun k _ => i 74 _ rfl⟩⟩, by omega, fun x _ => i 76 x rfl, by omega, fun k _ => ?_, by omega, ⟨by omega, fun m _ => ⟨i 83 m rfl, i 84 m rfl, i 86 m rfl, i 87 m rfl, i 88 m rfl, i 89 m rfl⟩⟩⟩, ⟨by omega, by omega, by omega, fun t _ => i 96 t rfl, fun c _ => i 70 c rfl⟩, ⟨nh, fun x _ => ⟨i 75 x rfl, i 77 x rfl, i 78 x rfl, (a 79 x rfl).2, i 80 x rfl⟩, fun x k _ _ => i 81 _ rfl⟩⟩
  show tn (g1.1 76 (tn (g1.1 92 k))) = tn (g.1 76 (tn (g.1 92 k)))
  rw [i 92 k rfl, i 76 _ rfl]
theorem okR_SRd {g g1 : sm_H} (a : agr SRd g g1) : ∀ b j, okR b j = true → g1.1 b j = g.1 b j ∧ g1.2.1 b j = g.2.1 b j := fun b j ok => by
  have n : ¬ SRd b j := fun z => by have := SRd_not b j z; rw [show okR b j = false from this] at ok; cases ok
  exact ⟨a.1 b j n, a.2.1 b j n⟩
theorem isTy_pl {g : sm_H} {t : Nat} {r : Int32} {l : List Int32} (i : isTy g t r l) (hl : l.length < 2147483648) : rs g t = r ∧ pl g t = l := by
  obtain ⟨i1, i2, i3, i4⟩ := i
  have eM : tM g t = l.length := by show tn _ = _; rw [i3]; exact I3_clamp hl
  refine ⟨i2, ?_⟩
  show lst _ (tM g t) = l
  rw [eM]
  refine lst_ext (lst_len _ _) (fun k hk => ?_)
  rw [lst_len] at hk
  rw [at0_lst hk]; exact i4 k hk
theorem cons_seg {L : List Int32} (h : 0 < L.length) : L = at0 L 0 :: seg L 1 (L.length - 1) := by
  have : L = seg L 0 1 ++ seg L 1 (L.length - 1) := by
    rw [seg_take (by omega), seg_drop (by omega), List.take_append_drop]
  exact this
theorem refuse3 {h g h1 g1 : sm_H} (I : I1 h g) (a : agr SCd h h1) (b : agr SRd (sm_wI g 67 19 0) g1) (n : Nat) : I1 (sm_wI h1 0 12 (I3 n)) (sm_wI g1 67 19 (I3 n)) ∧ kR h (sm_wI h1 0 12 (I3 n)) ∧ kC g (sm_wI g1 67 19 (I3 n)) := by
  obtain ⟨r1, -, -⟩ := refuse2 (I1_h I (agr_mono SCd_not a)) n
  refine ⟨I1_g r1 (okR_SRd (agr_wI2 b 67 19 (I3 n))), ?_, ?_⟩
  · exact kR_agr (S := fun b j => SCd b j ∨ b = 0) (agr_wI (agr_mono (fun _ _ z => Or.inl z) a) (Or.inr rfl)) (fun b j z => by unfold SCd at z; omega)
  · exact kC_agr (S := fun b j => SRd b j ∨ b = 67) (agr_wI (agr_trans (agr_wI agr_rfl (Or.inr rfl)) (agr_mono (fun _ _ z => Or.inl z) b)) (Or.inr rfl)) (fun b j z => by unfold SRd at z; omega)
theorem kL_hpl {g : sm_H} (wT : wfT g) (wH : wfH0 g) {x a n : Nat} (hx : x < nH g) (h : a + n ≤ tM g (ty g x)) : kL g (seg (hpl g x) a n) := by
  intro i hi
  rw [seg_len] at hi
  have lt := (wH.2 x hx).2.2.1
  obtain ⟨z1, z2⟩ := (wT.2.1 _ lt).2.2 (a + i) (by omega)
  unfold seg
  rw [at0_lst hi, at0_lst (by omega)]
  exact ⟨_, z1.1, z2, by have := z1.2; omega⟩
theorem kR1_hrs {g : sm_H} (wT : wfT g) (wH : wfH0 g) {x : Nat} (hx : x < nH g) : kR1 g (hrs g x) := by
  have lt := (wH.2 x hx).2.2.1
  have z1 := (wT.2.1 _ lt).1
  exact ⟨_, z1.1, by have := z1.2; omega⟩
theorem methodOk {h g : sm_H} (I : I1 h g) {st : Bool} {c x : Nat} {nm rt : Int32} (hc : c < nC g) (hx : x < nH g) (nm1 : cnt nm 99) (rt1 : cnt rt 3) (pl0 : st = false → 0 < (hpl g x).length ∧ at0 (hpl g x) 0 = I3 (20 + c)) : ∃ v h1 g1 w, F_115_58 (I3 (20 + c)) nm (I3 x) (b2 st) rt h = some (w, h1) ∧ (F_264 w h1 = some (v, sm_wI h1 0 12 (g1.1 67 19))) ∧ F_391_87 (I3 (20 + c)) nm (I3 x) (b2 st) rt (sm_wI g 67 19 0) = some (v, g1) ∧ I1 (sm_wI h1 0 12 (g1.1 67 19)) g1 ∧ kR h (sm_wI h1 0 12 (g1.1 67 19)) ∧ kC g g1 := by
  have K := (I1_K.mp I).1
  obtain ⟨wK, cK, wT, cT, wH, cH, wM, cM, cG, cO, cV, wX, cX, cXh, wF⟩ := id K
  have h12 := wK.2.1
  have m100 : nM g ≤ 100 := wM.1.2
  have w300 : nT g ≤ 300 := wT.1.2
  have w500 : nH g ≤ 500 := wH.1.2
  have e32 : g.1 67 32 = I3 (nM g) := wM.1.1
  have lt := (wH.2 x hx).2.2.1
  have eT : g.1 76 x = I3 (ty g x) := (wH.2 x hx).2.1
  have m10 : tM g (ty g x) ≤ 10 := (wT.2.1 _ lt).2.1.2
  have eM : g.1 73 (ty g x) = I3 (tM g (ty g x)) := (wT.2.1 _ lt).2.1.1
  have ln : (hpl g x).length = tM g (ty g x) := lst_len _ _
  generalize ha : (bif st then 0 else 1 : Nat) = a
  have a1 : a ≤ 1 := by cases st <;> rw [← ha] <;> decide
  have aM : a ≤ tM g (ty g x) := by
    cases st with
    | true => rw [← ha]; exact Nat.zero_le _
    | false => have := (pl0 rfl).1; rw [ln] at this; omega
  generalize hl : seg (hpl g x) a (tM g (ty g x) - a) = l
  have len : l.length = tM g (ty g x) - a := by rw [← hl, seg_len]
  obtain ⟨h0, b1, b2', b3⟩ := C_begin h
  have K0 := K1_h K (agr_mono SCd_not b3)
  obtain ⟨h1, w1, w2, w3⟩ := C_withPlaces (t := ty g x) (a := a) (b := tM g (ty g x)) K0 b2' (by decide) lt (Nat.le_refl _) (by omega)
  rw [List.nil_append] at w2
  have w2 : dC h1 l := by rw [← hl]; exact w2
  have ag : agr SCd h h1 := agr_trans b3 w3
  have Kh1 := K1_h K (agr_mono SCd_not ag)
  have t1 := C_typeOf wH K0.2.2.2.2.2.1 hx
  have t2 := C_placesOf wH K0.2.2.2.2.2.1 hx
  have t3 := C_resultOf wH Kh1.2.2.2.2.2.1 hx
  have F := C_fits wT Kh1.2.2.2.1 w2 (by omega) (hrs g x)
  rw [eT] at t1
  rw [eM] at t2
  have Kg : K1 h (sm_wI g 67 19 0) := ⟨wK, cK, wT, cT, wH, cH, wM, cM, cG, cO, cV, wX, cX, cXh, wF⟩
  have r1 := R_result (g := sm_wI g 67 19 0) wT wH hx
  obtain ⟨g0, f1, f2, f3, f4⟩ := R_clear (sm_wI g 67 19 0) (hrs g x)
  have Kg0 := K1_g Kg (agr_mono SRd_not f3)
  obtain ⟨E0, -, -⟩ := ext_eq (okR_SRd f3)
  have nh0 : nH g0 = nH g := by show tn _ = tn _; rw [f3.1 67 18 (by unfold SRd; omega)]; rfl
  have ty0 : ty g0 x = ty g x := ext_ty E0 hx
  have tm0 : tM g0 (ty g x) = tM g (ty g x) := by show tn _ = tn _; rw [f3.1 73 _ (by unfold SRd; omega)]; rfl
  have hp0 : hpl g0 x = hpl g x := ext_hpl (g := sm_wI g 67 19 0) wH E0 hx
  have r2 := R_many (g := g0) Kg0.2.2.1 Kg0.2.2.2.2.1 (x := x) (by omega)
  rw [ty0, tm0] at r2
  obtain ⟨g1, p1, p2, p3, p4⟩ := R_addPlaces (g := g0) (x := x) (a := a) (b := tM g (ty g x)) Kg0 f2 (by omega) (by rw [ty0, tm0]; exact Nat.le_refl _) (by simp only [List.length_nil]; omega) (by omega)
  rw [List.nil_append, hp0, hl] at p2
  have bg : agr SRd (sm_wI g 67 19 0) g1 := agr_trans f3 p3
  have Kg1 : K1 h1 g1 := K1_g (K1_h Kg (agr_mono SCd_not ag)) (agr_mono SRd_not bg)
  have er : g1.1 67 20 = hrs g x := p4.trans f4
  have RF := R_findT Kg1.2.2.1 p2 (by omega) (hrs g x)
  obtain ⟨E1, G1, -⟩ := ext_eq (okR_SRd bg)
  have nT1 : nT g1 = nT g := by show tn _ = tn _; rw [bg.1 67 10 (by unfold SRd; omega)]; rfl
  have nM1 : nM g1 = nM g := by show tn _ = tn _; rw [bg.1 67 32 (by unfold SRd; omega)]; rfl
  have fTe : fT g1 (hrs g x) l = fT g (hrs g x) l := by
    unfold fT
    rw [nT1]
    refine fst1_congr (fun k _ => ?_)
    unfold tyP
    rw [bg.1 72 _ (by unfold SRd; omega), bg.1 73 _ (by unfold SRd; omega)]
    congr 2
    refine all1_congr (fun j _ => ?_)
    rw [bg.1 74 _ (by unfold SRd; omega)]; rfl
  rw [fTe, nT1] at RF
  have z2 : (bif st then (0 : Int32) else 1) = I3 a := by cases st <;> rw [← ha] <;> rfl
  have cls : F_115_58 (I3 (20 + c)) nm (I3 x) (b2 st) rt h = F_115_87 (I3 (20 + c)) nm (I3 x) (b2 st) rt (I3 (ty g x)) (I3 a) h0 := by
    unfold F_115_58
    rw [b1]; simp only [Option.bind_some]
    rw [t1]; simp only [Option.bind_some]
    rw [← z2]
    cases st <;> rfl
  have ref : F_391_87 (I3 (20 + c)) nm (I3 x) (b2 st) rt (sm_wI g 67 19 0) = F_391_108 (I3 (20 + c)) nm (I3 x) (b2 st) rt (I3 x) (I3 a) g0 := by
    unfold F_391_87
    rw [r1]; simp only [Option.bind_some]
    have f1' : F_308 (hrs (sm_wI g 67 19 0) x) (sm_wI g 67 19 0) = some g0 := f1
    rw [f1']; simp only [Option.bind_some]
    rw [← z2]
    cases st <;> rfl
  have cls2 : ∀ q, F_233 (hrs g x) h1 = some (b2 q, h1) → F_115_58 (I3 (20 + c)) nm (I3 x) (b2 st) rt h = if b2 q = 0 then (some ((-4), h1)) else (if (h1.1 38 13) < 100 then ((stI h1 43 100 (h1.1 38 13) 0).bind fun h5 => (stI h5 44 100 (h5.1 38 13) (I3 x)).bind fun h6 => (F_44 (I3 x) h6).bind fun q7 => (F_234 q7.1 q7.2).bind fun q8 => (stI q8.2 45 100 (h6.1 38 13) q8.1).bind fun h9 => (stI h9 46 100 (h9.1 38 13) (-1)).bind fun h10 => (F_117 (I3 (20 + c)) nm (b2 st) rt h10).bind fun q11 => some (q11.1, q11.2)) else (some ((-5), h1))) := fun q e => by
    rw [cls]
    unfold F_115_87
    rw [t2]; simp only [Option.bind_some]
    rw [w1]; simp only [Option.bind_some]
    rw [t3]; simp only [Option.bind_some]
    rw [e]; simp only [Option.bind_some]
  have ref2 : F_391_87 (I3 (20 + c)) nm (I3 x) (b2 st) rt (sm_wI g 67 19 0) = if orN (fT g (hrs g x) l < nT g) (fT g (hrs g x) l) = -1 then (if (g1.1 67 10) = 300 then ((F_388 4 g1).bind fun q11 => some (q11.1, q11.2)) else (F_391_148 (I3 (20 + c)) nm (I3 x) (b2 st) rt g1)) else (F_391_148 (I3 (20 + c)) nm (I3 x) (b2 st) rt g1) := by
    rw [ref]
    unfold F_391_108
    rw [r2]; simp only [Option.bind_some]
    rw [p1]; simp only [Option.bind_some]
    rw [er, p2.1, RF]; simp only [Option.bind_some]
  have e10 : g1.1 67 10 = I3 (nT g) := by have := Kg1.2.2.1.1.1; rw [this]; show I3 (nT g1) = _; rw [nT1]
  by_cases room : nT g < 300 ∨ fT g (hrs g x) l < nT g
  · rw [decide_eq_true ⟨by omega, room⟩] at F
    have c3 := cls2 true F
    rw [if_neg (show ¬ b2 true = 0 by decide)] at c3
    have r3 : F_391_87 (I3 (20 + c)) nm (I3 x) (b2 st) rt (sm_wI g 67 19 0) = F_391_148 (I3 (20 + c)) nm (I3 x) (b2 st) rt g1 := by
      rw [ref2, e10]
      by_cases q : nT g < 300
      · rw [if_neg (show ¬ I3 (nT g) = 300 by rw [I3_lit, I3_inj (by omega) (by decide)]; omega), ite_self]
      · unfold orN
        rw [if_pos (show fT g (hrs g x) l < nT g by omega), if_neg (I3_m1 (by omega))]
    have k13 : h1.1 38 13 = I3 (nM g) := by rw [ag.1 38 13 (by unfold SCd; omega)]; exact cM.1.trans e32
    have g32 : g1.1 67 32 = I3 (nM g) := by rw [bg.1 67 32 (by unfold SRd; omega)]; exact e32
    by_cases full : nM g = 100
    · rw [k13, if_neg (by rw [I3_lit, I3_lt (by omega) (by decide)]; omega)] at c3
      obtain ⟨q1, q2, q3⟩ := refuse3 I ag bg 5
      refine ⟨-1, h1, sm_wI g1 67 19 (I3 5), -I3 5, c3, C_judgeN (by decide) (by decide), ?_, q1, q2, q3⟩
      rw [r3]
      unfold F_391_148
      rw [g32, full, if_pos (show I3 100 = (100 : Int32) by decide)]; rfl
    · rw [k13, if_pos (by rw [I3_lit, I3_lt (by omega) (by decide)]; omega)] at c3
      obtain ⟨KP, EP, GP⟩ := K1_pre (h := h1) (g := g1) Kg1 (st := st) (of := I3 (20 + c)) (nm := nm) (rt := rt) (x := I3 x)
      rw [nM1] at KP EP GP
      have fP : fT (mtR0 g1 (nM g) st (I3 (20 + c)) nm rt (I3 x)) (hrs g x) l = fT g (hrs g x) l := fTe
      have nP : nT (mtR0 g1 (nM g) st (I3 (20 + c)) nm rt (I3 x)) = nT g := nT1
      have kr : kR1 g (hrs g x) := kR1_hrs wT wH hx
      have kl : kL g l := by rw [← hl]; exact kL_hpl wT wH hx (by omega)
      have nC1 : nC (mtR0 g1 (nM g) st (I3 (20 + c)) nm rt (I3 x)) = nC g := by show tn (g1.1 67 6) = tn (g.1 67 6); rw [bg.1 67 6 (by unfold SRd; omega)]; rfl
      obtain ⟨h3, g3, s1, s2, s3, s4, s5, s6, s7, s8, s9⟩ := settled (h := mtC0 h1 (nM g) (I3 x)) (g := mtR0 g1 (nM g) st (I3 (20 + c)) nm rt (I3 x)) (r := hrs g x) (l := l) KP w2 p2 er (by omega) (by rw [fP, nP]; exact room) (by unfold kR1; rw [nC1]; exact kr) (by unfold kL; rw [nC1]; exact kl)
      rw [fP] at s1 s2 s7
      generalize ht : fT g (hrs g x) l = t at s1 s2 s7
      have nM3 : nM g3 = nM g := by show tn _ = tn _; rw [s9.1 67 32 (by unfold SRt; omega)]; show tn (g1.1 67 32) = _; rw [g32]; exact I3_clamp (by omega)
      have T3 : ext (sm_wI g 67 19 0) g3 := ext_trans (ext_trans E1 EP) s4
      have hx3 : x < nH g3 := Nat.lt_of_lt_of_le hx T3.h1
      have tt : t < nT g3 := s7.1
      obtain ⟨y1, y2⟩ := isTy_pl s7 (by omega)
      have hr3 : hrs g3 x = hrs g x := ext_hrs (g := sm_wI g 67 19 0) wH T3 hx
      have hp3 : hpl g3 x = hpl g x := ext_hpl (g := sm_wI g 67 19 0) wH T3 hx
      have w301 : nT g3 ≤ 300 := s3.2.2.1.1.2
      obtain ⟨M1, M2, M3⟩ := method_K (h := h3) (g := g3) s3 (st := st) (of := I3 (20 + c)) (nm := nm) (rt := rt) (x := x) (t := t) (by omega) ⟨c, Nat.lt_of_lt_of_le hc T3.c1, rfl⟩ nm1 rt1 hx3 tt
        (by rw [nM3, s8.1 43 _ (by unfold SCt; omega)]; exact if_pos rfl) (by rw [nM3, s8.1 44 _ (by unfold SCt; omega)]; exact if_pos rfl)
        (by rw [nM3, s9.1 83 _ (by unfold SRt; omega)]; exact if_pos rfl) (by rw [nM3, s9.1 84 _ (by unfold SRt; omega)]; exact if_pos rfl) (by rw [nM3, s9.1 85 _ (by unfold SRt; omega)]; exact if_pos rfl) (by rw [nM3, s9.1 86 _ (by unfold SRt; omega)]; exact if_pos rfl) (by rw [nM3, s9.1 87 _ (by unfold SRt; omega)]; exact if_pos rfl) (by rw [nM3, s9.1 90 _ (by unfold SRt; omega)]; exact if_pos rfl)
        (by
          rw [y1, y2, hr3, hp3]
          refine ⟨rfl, ?_⟩
          cases st with
          | true =>
            rw [if_neg (show ¬ b2 true = 0 by decide), ← hl, ← ha]
            show hpl g x = seg (hpl g x) 0 (tM g (ty g x) - 0)
            rw [Nat.sub_zero, ← ln, seg_all]
          | false =>
            obtain ⟨u1, u2⟩ := pl0 rfl
            rw [if_pos (show b2 false = 0 by decide), ← hl, ← ha]
            show hpl g x = I3 (20 + c) :: seg (hpl g x) 1 (tM g (ty g x) - 1)
            rw [← ln, ← u2]
            exact cons_seg u1)
      rw [nM3] at M1 M2 M3
      have k13' : h3.1 38 13 = I3 (nM g) := by rw [s8.1 38 13 (by unfold SCt; omega)]; exact k13
      have g32' : g3.1 67 32 = I3 (nM g) := by rw [s9.1 67 32 (by unfold SRt; omega)]; exact g32
      have z19 : (mtR1 g3 (nM g) (I3 t)).1 67 19 = 0 := by
        show g3.1 67 19 = 0
        rw [s9.1 67 19 (by unfold SRt; omega)]
        show g1.1 67 19 = 0
        rw [bg.1 67 19 (by unfold SRd; omega)]; rfl
      have t3' := C_resultOf (h := mtC0 h1 (nM g) (I3 x)) (g := g) wH Kh1.2.2.2.2.2.1 hx
      refine ⟨I3 (nM g), mtC1 h3 (nM g) st (I3 (20 + c)) nm rt (I3 t), mtR1 g3 (nM g) (I3 t), I3 (nM g), ?_, ?_, ?_, ?_, ?_, ?_⟩
      · rw [c3]
        have t3'' : F_44 (I3 x) (sm_wI (sm_wI h1 43 (nM g) (I3 0)) 44 (nM g) (I3 x)) = some (hrs g x, mtC0 h1 (nM g) (I3 x)) := t3'
        have hn : nM g < 100 := by omega
        simp (disch := omega) only [↓reduceIte, if_true, if_false, ite_self, Option.bind_some, Option.map_some, wI_rd, wJ_rd, wI_2, wJ_1, wJ_22, I3_lit, I3_add, I3_mul, I3_lt, I3_le, I3_inj, I3_nn', I3_n1, I3_n2, m2m1, ldI_I, ldJ_I, ldZ_I, stI_I, stJ_I, true_or, or_true, false_or, or_false, true_and, and_true, false_and, and_false, not_true_eq_false, not_false_eq_true, reduceCtorEq, Nat.reduceEqDiff, Nat.lt_irrefl, Nat.not_lt_zero, Nat.le_refl, Nat.reduceLT, Nat.reduceLeDiff, eq_self, zbbI, bbI0, bbI1, decide_eq_false_iff_not, decide_eq_true_eq, Bool.not_eq_false, Bool.not_eq_true, Bool.not_true, Bool.not_false, cond_true, cond_false, F_117_0, F_117, k13, t3'', s1, k13', hn, stZ_I, I3_sub, Nat.add_sub_cancel]
        rfl
      · rw [z19]; exact C_judge (by omega)
      · rw [r3]
        have s2' : F_302 (sm_wI (sm_wI (sm_wI (sm_wI (sm_wI (sm_wI g1 83 (nM g) (I3 (20 + c))) 84 (nM g) nm) 85 (nM g) rt) 86 (nM g) (b2 st)) 87 (nM g) (I3 0)) 90 (nM g) (I3 x)) = some (I3 t, g3) := s2
        have nf : ¬ nM g = 100 := full
        have z0 : ∀ (u : sm_H) (k : Nat), k < 100 → stZ u 87 100 (I3 k) (I3 0) = some (sm_wI u 87 k (I3 0)) := fun u k hk => stZ_I (b := false) hk (by omega)
        simp (disch := omega) only [↓reduceIte, if_true, if_false, ite_self, Option.bind_some, Option.map_some, wI_rd, wJ_rd, wI_2, wJ_1, wJ_22, I3_lit, I3_add, I3_mul, I3_lt, I3_le, I3_inj, I3_nn', I3_n1, I3_n2, m2m1, ldI_I, ldJ_I, ldZ_I, stI_I, stJ_I, true_or, or_true, false_or, or_false, true_and, and_true, false_and, and_false, not_true_eq_false, not_false_eq_true, reduceCtorEq, Nat.reduceEqDiff, Nat.lt_irrefl, Nat.not_lt_zero, Nat.le_refl, Nat.reduceLT, Nat.reduceLeDiff, eq_self, zbbI, bbI0, bbI1, decide_eq_false_iff_not, decide_eq_true_eq, Bool.not_eq_false, Bool.not_eq_true, Bool.not_true, Bool.not_false, cond_true, cond_false, F_391_148, F_389_0, F_389, g32, nf, stZ_I, z0, s2', g32', I3_sub, Nat.add_sub_cancel]
        rfl
      · rw [z19]
        have B1 : I1 (sm_wI h 0 12 0) (sm_wI g 67 19 0) := (refuse2 I 0).1 |> fun z => I1_g z (fun b j _ => by
          refine ⟨?_, rfl⟩
          rw [wI_rd, wI_rd, wI_rd]
          by_cases q : b = 67 ∧ j = 19
          · rw [if_pos q, if_pos q]; rfl
          · rw [if_neg q, if_neg q])
        refine I1_re B1 (h1 := sm_wI (mtC1 h3 (nM g) st (I3 (20 + c)) nm rt (I3 t)) 0 12 0) ?_ (ext_trans T3 M2) (grow_trans (grow_trans (grow_trans G1 GP) s5) M3) ?_ ?_
        · obtain ⟨wK, cK, wT, cT, wH, cH, wM, cM, cG, cO, cV, wX, cX, cXh, wF⟩ := M1
          exact ⟨wK, cK, wT, cT, wH, cH, wM, cM, cG, cO, cV, wX, cX, cXh_fr (by repeat first | exact hi_rfl | refine hi_wI ?_ (by decide) | refine hi_wJ ?_ (by decide)) cXh, wF⟩
        · refine oC_agr (S := fun b j => SCd b j ∨ SCt b j ∨ (38 ≤ b ∧ b ≤ 46)) (agr_wI2 ?_ 0 12 0) (fun b j z => by unfold SCd SCt at z; unfold oC; omega)
          refine agr_trans (agr_mono (fun _ _ z => Or.inl z) ag) ?_
          refine agr_trans (h1 := mtC0 h1 (nM g) (I3 x)) (by unfold mtC0; exact agr_wI (agr_wI agr_rfl (by omega)) (by omega)) ?_
          refine agr_trans (agr_mono (fun _ _ z => Or.inr (Or.inl z)) s8) ?_
          unfold mtC1
          repeat first | exact agr_rfl | refine agr_wI ?_ (by omega)
        · refine oR_agr (S := fun b j => SRd b j ∨ SRt b j ∨ (83 ≤ b ∧ b ≤ 91) ∨ (b = 67 ∧ j = 32)) ?_ (fun b j z => by unfold SRd SRt at z; unfold oR; omega)
          refine agr_trans (agr_mono (fun _ _ z => Or.inl z) bg) ?_
          refine agr_trans (h1 := mtR0 g1 (nM g) st (I3 (20 + c)) nm rt (I3 x)) (by unfold mtR0; repeat first | exact agr_rfl | refine agr_wI ?_ (by omega)) ?_
          refine agr_trans (agr_mono (fun _ _ z => Or.inr (Or.inl z)) s9) ?_
          unfold mtR1
          repeat first | exact agr_rfl | refine agr_wI ?_ (by omega)
      · refine kR_agr (S := fun b j => SCd b j ∨ SCt b j ∨ (38 ≤ b ∧ b ≤ 46) ∨ b = 0) (agr_wI ?_ (by omega)) (fun b j z => by unfold SCd SCt at z; omega)
        refine agr_trans (agr_mono (fun _ _ z => Or.inl z) ag) ?_
        refine agr_trans (h1 := mtC0 h1 (nM g) (I3 x)) (by unfold mtC0; exact agr_wI (agr_wI agr_rfl (by omega)) (by omega)) ?_
        refine agr_trans (agr_mono (fun _ _ z => Or.inr (Or.inl z)) s8) ?_
        unfold mtC1
        repeat first | exact agr_rfl | refine agr_wI ?_ (by omega)
      · refine kC_agr (S := fun b _ => 67 ≤ b ∧ b < 131) ?_ (fun b j z => z)
        refine agr_trans (h1 := sm_wI g 67 19 0) (agr_wI agr_rfl (by omega)) ?_
        refine agr_trans (agr_mono (fun b j z => by unfold SRd at z; omega) bg) ?_
        refine agr_trans (h1 := mtR0 g1 (nM g) st (I3 (20 + c)) nm rt (I3 x)) (by unfold mtR0; repeat first | exact agr_rfl | refine agr_wI ?_ (by omega)) ?_
        refine agr_trans (agr_mono (fun b j z => by unfold SRt at z; omega) s9) ?_
        unfold mtR1
        repeat first | exact agr_rfl | refine agr_wI ?_ (by omega)
  · rw [decide_eq_false (by omega)] at F
    have c3 := cls2 false F
    rw [if_pos (show b2 false = 0 by decide)] at c3
    obtain ⟨q1, q2, q3⟩ := refuse3 I ag bg 4
    refine ⟨-1, h1, sm_wI g1 67 19 (I3 4), -I3 4, c3, C_judgeN (by decide) (by decide), ?_, q1, q2, q3⟩
    rw [ref2, e10]
    have on : orN (fT g (hrs g x) l < nT g) (fT g (hrs g x) l) = -1 := if_neg (by omega)
    rw [on, if_pos rfl, if_pos (by rw [show nT g = 300 by omega]; rfl)]; rfl
