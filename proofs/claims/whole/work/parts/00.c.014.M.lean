def txF (b f : Nat → Int32) (l n : Nat) : Nat → Int32 := fun j => if l ≤ j ∧ j < l + n then f (j - l) else b j
def clF (f : Nat → Int32) (i : Nat) : Nat → Int32 := fun j => if j < i then I3 0 else f j
def enS (h : sm_H) (l n i : Nat) : sm_H := sm_wI (wA (wA h 53 (txF (h.1 53) (h.1 54) l (min i n))) 54 (clF (h.1 54) i)) 52 1 (I3 (l + min i n))
theorem enS_rd (h : sm_H) (l n i b j : Nat) : (enS h l n i).1 b j = if b = 52 ∧ j = 1 then I3 (l + min i n) else if b = 54 then clF (h.1 54) i j else if b = 53 then txF (h.1 53) (h.1 54) l (min i n) j else h.1 b j := by
  unfold enS; rw [wI_rd, wA_rd, wA_rd]
theorem enS_2 (h : sm_H) (l n i : Nat) : (enS h l n i).2 = h.2 := rfl
theorem heap_ext {h h' : sm_H} (e : ∀ b j, h.1 b j = h'.1 b j) (e2 : h.2 = h'.2) : h = h' := Prod.ext (funext fun b => funext fun j => e b j) e2
theorem C_end1 {h : sm_H} {l n i : Nat} (hl : l + n ≤ 3000) (hi : i < 20) : F_239_26B (I3 n, I3 i, enS h l n i) = some (.inl (I3 n, I3 (i + 1), enS h l n (i + 1))) := by
  have r1 : (enS h l n i).1 52 1 = I3 (l + min i n) := by rw [enS_rd]; simp
  have r2 : (enS h l n i).1 54 i = h.1 54 i := by rw [enS_rd]; simp [clF]
  have hn : n < 2147483648 := by omega
  by_cases c : i < n
  · have e1 : sm_wI (sm_wI (sm_wI (enS h l n i) 53 (l + min i n) (h.1 54 i)) 52 1 (I3 (l + min i n + 1))) 54 i (I3 0) = enS h l n (i + 1) := by
      refine heap_ext (fun b j => ?_) rfl
      rw [wI_rd, wI_rd, wI_rd, enS_rd, enS_rd, show min i n = i by omega, show min (i + 1) n = i + 1 by omega]
      by_cases b54 : b = 54
      · subst b54
        simp only [true_and, clF, Nat.reduceEqDiff, false_and, if_false, if_true]
        by_cases q : j = i
        · rw [if_pos q, if_pos (by omega)]
        · rw [if_neg q]
          by_cases q2 : j < i
          · rw [if_pos q2, if_pos (by omega)]
          · rw [if_neg q2, if_neg (by omega)]
      by_cases b52 : b = 52
      · subst b52
        simp only [true_and, Nat.reduceEqDiff, false_and, if_false]
        by_cases q : j = 1
        · rw [if_pos q, if_pos q]; rfl
        · rw [if_neg q, if_neg q, if_neg q]
      by_cases b53 : b = 53
      · subst b53
        simp only [true_and, Nat.reduceEqDiff, false_and, if_false, if_true, txF]
        by_cases q : j = l + i
        · rw [if_pos q, if_pos (by omega), show j - l = i by omega]
        · rw [if_neg q]
          by_cases q2 : l ≤ j ∧ j < l + i
          · rw [if_pos q2, if_pos (by omega)]
          · rw [if_neg q2, if_neg (by omega)]
      simp only [b54, b52, b53, false_and, if_false]
    have m20 : ¬ 20 ≤ i := by omega
    have mni : ¬ n ≤ i := by omega
    have m3 : ¬ 3000 ≤ l + min i n := by omega
    simp (disch := omega) only [↓reduceIte, if_true, if_false, ite_self, Option.bind_some, Option.map_some, wI_rd, wJ_rd, wI_2, wJ_1, wJ_22, I3_lit, I3_add, I3_mul, I3_lt, I3_le, I3_inj, I3_nn', I3_n1, I3_n2, m2m1, ldI_I, ldJ_I, ldZ_I, stI_I, stJ_I, true_or, or_true, false_or, or_false, true_and, and_true, false_and, and_false, not_true_eq_false, not_false_eq_true, reduceCtorEq, Nat.reduceEqDiff, Nat.lt_irrefl, Nat.not_lt_zero, Nat.le_refl, Nat.reduceLT, Nat.reduceLeDiff, eq_self, zbbI, bbI0, bbI1, decide_eq_false_iff_not, decide_eq_true_eq, Bool.not_eq_false, Bool.not_eq_true, Bool.not_true, Bool.not_false, cond_true, cond_false, F_239_26B, F_239_72, m20, mni, m3, r1, r2, Nat.add_assoc]
    rw [← e1, Nat.add_assoc]
  · have e1 : sm_wI (enS h l n i) 54 i (I3 0) = enS h l n (i + 1) := by
      refine heap_ext (fun b j => ?_) rfl
      rw [wI_rd, enS_rd, enS_rd, show min i n = n by omega, show min (i + 1) n = n by omega]
      by_cases b54 : b = 54
      · subst b54
        simp only [true_and, clF, Nat.reduceEqDiff, false_and, if_false, if_true]
        by_cases q : j = i
        · rw [if_pos q, if_pos (by omega)]
        · rw [if_neg q]
          by_cases q2 : j < i
          · rw [if_pos q2, if_pos (by omega)]
          · rw [if_neg q2, if_neg (by omega)]
      simp only [b54, false_and, if_false]
    have m20 : ¬ 20 ≤ i := by omega
    have mni : n ≤ i := by omega
    simp (disch := omega) only [↓reduceIte, if_true, if_false, ite_self, Option.bind_some, Option.map_some, wI_rd, wJ_rd, wI_2, wJ_1, wJ_22, I3_lit, I3_add, I3_mul, I3_lt, I3_le, I3_inj, I3_nn', I3_n1, I3_n2, m2m1, ldI_I, ldJ_I, ldZ_I, stI_I, stJ_I, true_or, or_true, false_or, or_false, true_and, and_true, false_and, and_false, not_true_eq_false, not_false_eq_true, reduceCtorEq, Nat.reduceEqDiff, Nat.lt_irrefl, Nat.not_lt_zero, Nat.le_refl, Nat.reduceLT, Nat.reduceLeDiff, eq_self, zbbI, bbI0, bbI1, decide_eq_false_iff_not, decide_eq_true_eq, Bool.not_eq_false, Bool.not_eq_true, Bool.not_true, Bool.not_false, cond_true, cond_false, F_239_26B, F_239_72, m20, mni]
    rw [e1]
theorem C_end {h : sm_H} {l n : Nat} (el : h.1 52 1 = I3 l) (hl : l + n ≤ 3000) (hn : n ≤ 20) : F_239_26 (I3 n) 0 h = some (I3 (l + n), enS h l n 20) := by
  have e0 : enS h l n 0 = h := by
    refine heap_ext (fun b j => ?_) rfl
    rw [enS_rd]
    by_cases b52 : b = 52 ∧ j = 1
    · rw [if_pos b52, b52.1, b52.2, el]; simp
    rw [if_neg b52]
    by_cases b54 : b = 54
    · rw [if_pos b54, b54]; unfold clF; simp
    rw [if_neg b54]
    by_cases b53 : b = 53
    · rw [if_pos b53, b53]; unfold txF; rw [if_neg (by omega)]
    rw [if_neg b53]
  have r1 : (enS h l n 20).1 52 1 = I3 (l + n) := by rw [enS_rd]; simp [show min 20 n = n by omega]
  have z : lp F_239_26B 1000000 (I3 n, I3 0, enS h l n 0) = _ := lp_it (body := F_239_26B) (r := (I3 (l + n), enS h l n 20)) 20 (fun k => (I3 n, I3 k, enS h l n k)) 1000000 (fun k hk => C_end1 hl hk) (by simp (disch := omega) only [↓reduceIte, if_true, if_false, ite_self, Option.bind_some, Option.map_some, wI_rd, wJ_rd, wI_2, wJ_1, wJ_22, I3_lit, I3_add, I3_mul, I3_lt, I3_le, I3_inj, I3_nn', I3_n1, I3_n2, m2m1, ldI_I, ldJ_I, ldZ_I, stI_I, stJ_I, true_or, or_true, false_or, or_false, true_and, and_true, false_and, and_false, not_true_eq_false, not_false_eq_true, reduceCtorEq, Nat.reduceEqDiff, Nat.lt_irrefl, Nat.not_lt_zero, Nat.le_refl, Nat.reduceLT, Nat.reduceLeDiff, eq_self, zbbI, bbI0, bbI1, decide_eq_false_iff_not, decide_eq_true_eq, Bool.not_eq_false, Bool.not_eq_true, Bool.not_true, Bool.not_false, cond_true, cond_false, F_239_26B, r1]) (by omega)
  rw [e0] at z
  exact z
def reS (g : sm_H) (l i : Nat) : sm_H := wA g 112 (txF (g.1 112) (g.1 111) l i)
theorem reS_rd (g : sm_H) (l i b j : Nat) : (reS g l i).1 b j = if b = 112 then txF (g.1 112) (g.1 111) l i j else g.1 b j := by unfold reS; rw [wA_rd]
def rfS (g : sm_H) (l n i : Nat) : sm_H := sm_wI (wA (reS g l n) 111 (clF (g.1 111) i)) 67 76 (I3 (l + n))
theorem rfS_rd (g : sm_H) (l n i b j : Nat) : (rfS g l n i).1 b j = if b = 67 ∧ j = 76 then I3 (l + n) else if b = 111 then clF (g.1 111) i j else if b = 112 then txF (g.1 112) (g.1 111) l n j else g.1 b j := by
  unfold rfS; rw [wI_rd, wA_rd, reS_rd]
theorem R_end {g : sm_H} {l n : Nat} (el : g.1 67 76 = I3 l) (hl : l + n ≤ 3000) (hn : n ≤ 20) : F_412_26 (I3 n) 0 g = some (I3 (l + n), rfS g l n 20) := by
  have e0 : reS g l 0 = g := by
    refine heap_ext (fun b j => ?_) rfl
    rw [reS_rd]
    by_cases c : b = 112
    · rw [if_pos c, c]; unfold txF; rw [if_neg (by omega)]
    · rw [if_neg c]
  have e1 : sm_wI (reS g l n) 67 76 (I3 (l + n)) = rfS g l n 0 := by
    refine heap_ext (fun b j => ?_) rfl
    rw [wI_rd, rfS_rd, reS_rd]
    by_cases c : b = 67 ∧ j = 76
    · rw [if_pos c, if_pos c]
    rw [if_neg c, if_neg c]
    by_cases c1 : b = 111
    · subst c1; simp [clF]
    · rw [if_neg c1]
  have L2 : F_412_66 0 (rfS g l n 0) = some (I3 (l + n), rfS g l n 20) := by
    have r1 : (rfS g l n 20).1 67 76 = I3 (l + n) := by rw [rfS_rd]; simp
    refine lp_it (body := F_412_66B) 20 (fun k => (I3 k, rfS g l n k)) 1000000 (fun k hk => ?_) (by simp (disch := omega) only [↓reduceIte, if_true, if_false, ite_self, Option.bind_some, Option.map_some, wI_rd, wJ_rd, wI_2, wJ_1, wJ_22, I3_lit, I3_add, I3_mul, I3_lt, I3_le, I3_inj, I3_nn', I3_n1, I3_n2, m2m1, ldI_I, ldJ_I, ldZ_I, stI_I, stJ_I, true_or, or_true, false_or, or_false, true_and, and_true, false_and, and_false, not_true_eq_false, not_false_eq_true, reduceCtorEq, Nat.reduceEqDiff, Nat.lt_irrefl, Nat.not_lt_zero, Nat.le_refl, Nat.reduceLT, Nat.reduceLeDiff, eq_self, zbbI, bbI0, bbI1, decide_eq_false_iff_not, decide_eq_true_eq, Bool.not_eq_false, Bool.not_eq_true, Bool.not_true, Bool.not_false, cond_true, cond_false, F_412_66B, r1]) (by omega)
    have e2 : sm_wI (rfS g l n k) 111 k (I3 0) = rfS g l n (k + 1) := by
      refine heap_ext (fun b j => ?_) rfl
      rw [wI_rd, rfS_rd, rfS_rd]
      by_cases c : b = 67 ∧ j = 76
      · rw [if_neg (by omega), if_pos c, if_pos c]
      rw [if_neg c, if_neg c]
      by_cases c1 : b = 111
      · subst c1
        simp only [true_and, if_true, clF]
        by_cases q : j = k
        · rw [if_pos q, if_pos (by omega)]
        · rw [if_neg q]
          by_cases q2 : j < k
          · rw [if_pos q2, if_pos (by omega)]
          · rw [if_neg q2, if_neg (by omega)]
      · rw [if_neg (fun z => c1 z.1), if_neg c1, if_neg c1]
    have m20 : ¬ 20 ≤ k := by omega
    simp (disch := omega) only [↓reduceIte, if_true, if_false, ite_self, Option.bind_some, Option.map_some, wI_rd, wJ_rd, wI_2, wJ_1, wJ_22, I3_lit, I3_add, I3_mul, I3_lt, I3_le, I3_inj, I3_nn', I3_n1, I3_n2, m2m1, ldI_I, ldJ_I, ldZ_I, stI_I, stJ_I, true_or, or_true, false_or, or_false, true_and, and_true, false_and, and_false, not_true_eq_false, not_false_eq_true, reduceCtorEq, Nat.reduceEqDiff, Nat.lt_irrefl, Nat.not_lt_zero, Nat.le_refl, Nat.reduceLT, Nat.reduceLeDiff, eq_self, zbbI, bbI0, bbI1, decide_eq_false_iff_not, decide_eq_true_eq, Bool.not_eq_false, Bool.not_eq_true, Bool.not_true, Bool.not_false, cond_true, cond_false, F_412_66B, m20]
    rw [e2]
  have z : (∀ k, k < n → F_412_26B (I3 n, I3 k, reS g l k) = some (.inl (I3 n, I3 (k + 1), reS g l (k + 1)))) → F_412_26B (I3 n, I3 n, reS g l n) = some (.inr (I3 (l + n), rfS g l n 20)) → lp F_412_26B 1000000 (I3 n, I3 0, reS g l 0) = some (I3 (l + n), rfS g l n 20) := fun a b => lp_it (body := F_412_26B) n (fun k => (I3 n, I3 k, reS g l k)) 1000000 a b (by omega)
  rw [e0] at z
  refine z (fun k hk => ?_) ?_
  · have r1 : (reS g l k).1 67 76 = I3 l := by rw [reS_rd]; simp [el]
    have r2 : (reS g l k).1 111 k = g.1 111 k := by rw [reS_rd]; simp
    have e2 : sm_wI (reS g l k) 112 (l + k) (g.1 111 k) = reS g l (k + 1) := by
      refine heap_ext (fun b j => ?_) rfl
      rw [wI_rd, reS_rd, reS_rd]
      by_cases c1 : b = 112
      · subst c1
        simp only [true_and, if_true, txF]
        by_cases q : j = l + k
        · rw [if_pos q, if_pos (by omega), show j - l = k by omega]
        · rw [if_neg q]
          by_cases q2 : l ≤ j ∧ j < l + k
          · rw [if_pos q2, if_pos (by omega)]
          · rw [if_neg q2, if_neg (by omega)]
      · rw [if_neg (fun z => c1 z.1), if_neg c1, if_neg c1]
    have mn : ¬ n ≤ k := by omega
    simp (disch := omega) only [↓reduceIte, if_true, if_false, ite_self, Option.bind_some, Option.map_some, wI_rd, wJ_rd, wI_2, wJ_1, wJ_22, I3_lit, I3_add, I3_mul, I3_lt, I3_le, I3_inj, I3_nn', I3_n1, I3_n2, m2m1, ldI_I, ldJ_I, ldZ_I, stI_I, stJ_I, true_or, or_true, false_or, or_false, true_and, and_true, false_and, and_false, not_true_eq_false, not_false_eq_true, reduceCtorEq, Nat.reduceEqDiff, Nat.lt_irrefl, Nat.not_lt_zero, Nat.le_refl, Nat.reduceLT, Nat.reduceLeDiff, eq_self, zbbI, bbI0, bbI1, decide_eq_false_iff_not, decide_eq_true_eq, Bool.not_eq_false, Bool.not_eq_true, Bool.not_true, Bool.not_false, cond_true, cond_false, F_412_26B, mn, r1, r2]
    rw [e2]
  · have r1 : (reS g l n).1 67 76 = I3 l := by rw [reS_rd]; simp [el]
    have L2' : F_412_66 (I3 0) (rfS g l n 0) = some (I3 (l + n), rfS g l n 20) := L2
    simp (disch := omega) only [↓reduceIte, if_true, if_false, ite_self, Option.bind_some, Option.map_some, wI_rd, wJ_rd, wI_2, wJ_1, wJ_22, I3_lit, I3_add, I3_mul, I3_lt, I3_le, I3_inj, I3_nn', I3_n1, I3_n2, m2m1, ldI_I, ldJ_I, ldZ_I, stI_I, stJ_I, true_or, or_true, false_or, or_false, true_and, and_true, false_and, and_false, not_true_eq_false, not_false_eq_true, reduceCtorEq, Nat.reduceEqDiff, Nat.lt_irrefl, Nat.not_lt_zero, Nat.le_refl, Nat.reduceLT, Nat.reduceLeDiff, eq_self, zbbI, bbI0, bbI1, decide_eq_false_iff_not, decide_eq_true_eq, Bool.not_eq_false, Bool.not_eq_true, Bool.not_true, Bool.not_false, cond_true, cond_false, F_412_26B, r1, e1, L2']
theorem op_end {h : sm_H} (x : Int32) (I : I0 h) : ∃ v h1 h2, F_283 x h = some (v, h1) ∧ F_412 x h1 = some (v, h2) ∧ I0 h2 := by
  obtain ⟨wK, cK, wT, cT, wH, cH, wM, cM, cR, cP, cG, cO, cV, wX, cX, cXh, cU, cY, cF, cZ⟩ := id I
  obtain ⟨y1, y2, y3, y4⟩ := cY
  have y2' := y2
  obtain ⟨y5, y6⟩ := y2
  generalize hl : tn (h.1 67 76) = l at y5 y6
  have z1 : h.1 52 1 = I3 l := y1.trans y5
  rcases I3_cases x with ⟨n, hn, rfl⟩ | hx
  · by_cases c20 : n ≤ 20
    · by_cases c3 : l + n ≤ 3000
      · have E1 : lp F_239_26B 1000000 (I3 n, I3 0, h) = _ := C_end z1 c3 c20
        have E2 : lp F_412_26B 1000000 (I3 n, I3 0, enS h l n 20) = _ := R_end (g := enS h l n 20) (by rw [enS_rd]; simp; exact y5) c3 c20
        refine ⟨I3 (l + n), enS h l n 20, rfS (enS h l n 20) l n 20, ?_, ?_, wK, cK, wT, cT, wH, cH, wM, cM, cR, cP, cG, cO, cV, wX, cX, cXh_fr (by unfold rfS reS enS; repeat first | exact hi_rfl | refine hi_wI ?_ (by decide) | refine hi_wJ ?_ (by decide) | refine hi_wA ?_ (by decide)) cXh, cU, ⟨by rw [rfS_rd, enS_rd, rfS_rd]; simp [show min 20 n = n by omega], cnt_up (by omega) (by decide), fun k hk => ?_, fun k hk => ?_⟩, cF, cZ⟩
        · simp (disch := omega) only [F_283_0, F_283, F_239_72, F_239_26B, F_239_26, F_239_22, F_239_0, F_239, ↓reduceIte, if_true, if_false, ite_self, Option.bind_some, Option.map_some, wI_rd, wJ_rd, wI_2, wJ_1, wJ_22, I3_lit, I3_add, I3_mul, I3_lt, I3_le, I3_inj, I3_nn', I3_n1, I3_n2, m2m1, ldI_I, ldJ_I, ldZ_I, stI_I, stJ_I, true_or, or_true, false_or, or_false, true_and, and_true, false_and, and_false, not_true_eq_false, not_false_eq_true, reduceCtorEq, Nat.reduceEqDiff, Nat.lt_irrefl, Nat.not_lt_zero, Nat.le_refl, Nat.reduceLT, Nat.reduceLeDiff, eq_self, zbbI, bbI0, bbI1, decide_eq_false_iff_not, decide_eq_true_eq, Bool.not_eq_false, Bool.not_eq_true, Bool.not_true, Bool.not_false, cond_true, cond_false, z1, show ¬ 20 < n by omega, c3, E1]
        · have r1 : (enS h l n 20).1 67 76 = I3 l := by rw [enS_rd]; simp; exact y5
          simp (disch := omega) only [F_412_66B, F_412_66, F_412_26B, F_412_26, F_412_22, F_412_0, F_412, ↓reduceIte, if_true, if_false, ite_self, Option.bind_some, Option.map_some, wI_rd, wJ_rd, wI_2, wJ_1, wJ_22, I3_lit, I3_add, I3_mul, I3_lt, I3_le, I3_inj, I3_nn', I3_n1, I3_n2, m2m1, ldI_I, ldJ_I, ldZ_I, stI_I, stJ_I, true_or, or_true, false_or, or_false, true_and, and_true, false_and, and_false, not_true_eq_false, not_false_eq_true, reduceCtorEq, Nat.reduceEqDiff, Nat.lt_irrefl, Nat.not_lt_zero, Nat.le_refl, Nat.reduceLT, Nat.reduceLeDiff, eq_self, zbbI, bbI0, bbI1, decide_eq_false_iff_not, decide_eq_true_eq, Bool.not_eq_false, Bool.not_eq_true, Bool.not_true, Bool.not_false, cond_true, cond_false, r1, show ¬ 20 < n by omega, c3, E2]
        · have a1 : (rfS (enS h l n 20) l n 20).1 53 k = txF (h.1 53) (h.1 54) l n k := by
            rw [rfS_rd, enS_rd]; simp [show min 20 n = n by omega]
          have a2 : (rfS (enS h l n 20) l n 20).1 112 k = txF (h.1 112) (h.1 111) l n k := by
            rw [rfS_rd]; simp; rfl
          rw [a1, a2]
          unfold txF
          by_cases q : l ≤ k ∧ k < l + n
          · rw [if_pos q, if_pos q]; exact y4 (k - l) (by omega)
          · rw [if_neg q, if_neg q]; exact y3 k hk
        · have a1 : (rfS (enS h l n 20) l n 20).1 54 k = I3 0 := by
            rw [rfS_rd, enS_rd]; simp [clF, hk]
          have a2 : (rfS (enS h l n 20) l n 20).1 111 k = I3 0 := by
            rw [rfS_rd]; simp [clF, hk]
          rw [a1, a2]
          exact ⟨rfl, cnt_up (by omega) (by decide)⟩
      · refine ⟨-1, h, h, ?_, ?_, I⟩
        · simp (disch := omega) only [F_283_0, F_283, F_239_72, F_239_26B, F_239_26, F_239_22, F_239_0, F_239, ↓reduceIte, if_true, if_false, ite_self, Option.bind_some, Option.map_some, wI_rd, wJ_rd, wI_2, wJ_1, wJ_22, I3_lit, I3_add, I3_mul, I3_lt, I3_le, I3_inj, I3_nn', I3_n1, I3_n2, m2m1, ldI_I, ldJ_I, ldZ_I, stI_I, stJ_I, true_or, or_true, false_or, or_false, true_and, and_true, false_and, and_false, not_true_eq_false, not_false_eq_true, reduceCtorEq, Nat.reduceEqDiff, Nat.lt_irrefl, Nat.not_lt_zero, Nat.le_refl, Nat.reduceLT, Nat.reduceLeDiff, eq_self, zbbI, bbI0, bbI1, decide_eq_false_iff_not, decide_eq_true_eq, Bool.not_eq_false, Bool.not_eq_true, Bool.not_true, Bool.not_false, cond_true, cond_false, z1, show ¬ 20 < n by omega, c3]
        · simp (disch := omega) only [F_412_66B, F_412_66, F_412_26B, F_412_26, F_412_22, F_412_0, F_412, ↓reduceIte, if_true, if_false, ite_self, Option.bind_some, Option.map_some, wI_rd, wJ_rd, wI_2, wJ_1, wJ_22, I3_lit, I3_add, I3_mul, I3_lt, I3_le, I3_inj, I3_nn', I3_n1, I3_n2, m2m1, ldI_I, ldJ_I, ldZ_I, stI_I, stJ_I, true_or, or_true, false_or, or_false, true_and, and_true, false_and, and_false, not_true_eq_false, not_false_eq_true, reduceCtorEq, Nat.reduceEqDiff, Nat.lt_irrefl, Nat.not_lt_zero, Nat.le_refl, Nat.reduceLT, Nat.reduceLeDiff, eq_self, zbbI, bbI0, bbI1, decide_eq_false_iff_not, decide_eq_true_eq, Bool.not_eq_false, Bool.not_eq_true, Bool.not_true, Bool.not_false, cond_true, cond_false, y5, show ¬ 20 < n by omega, c3]
    · refine ⟨-1, h, h, ?_, ?_, I⟩
      · simp (disch := omega) only [F_283_0, F_283, F_239_72, F_239_26B, F_239_26, F_239_22, F_239_0, F_239, ↓reduceIte, if_true, if_false, ite_self, Option.bind_some, Option.map_some, wI_rd, wJ_rd, wI_2, wJ_1, wJ_22, I3_lit, I3_add, I3_mul, I3_lt, I3_le, I3_inj, I3_nn', I3_n1, I3_n2, m2m1, ldI_I, ldJ_I, ldZ_I, stI_I, stJ_I, true_or, or_true, false_or, or_false, true_and, and_true, false_and, and_false, not_true_eq_false, not_false_eq_true, reduceCtorEq, Nat.reduceEqDiff, Nat.lt_irrefl, Nat.not_lt_zero, Nat.le_refl, Nat.reduceLT, Nat.reduceLeDiff, eq_self, zbbI, bbI0, bbI1, decide_eq_false_iff_not, decide_eq_true_eq, Bool.not_eq_false, Bool.not_eq_true, Bool.not_true, Bool.not_false, cond_true, cond_false, z1, show 20 < n by omega]
      · simp (disch := omega) only [F_412_66B, F_412_66, F_412_26B, F_412_26, F_412_22, F_412_0, F_412, ↓reduceIte, if_true, if_false, ite_self, Option.bind_some, Option.map_some, wI_rd, wJ_rd, wI_2, wJ_1, wJ_22, I3_lit, I3_add, I3_mul, I3_lt, I3_le, I3_inj, I3_nn', I3_n1, I3_n2, m2m1, ldI_I, ldJ_I, ldZ_I, stI_I, stJ_I, true_or, or_true, false_or, or_false, true_and, and_true, false_and, and_false, not_true_eq_false, not_false_eq_true, reduceCtorEq, Nat.reduceEqDiff, Nat.lt_irrefl, Nat.not_lt_zero, Nat.le_refl, Nat.reduceLT, Nat.reduceLeDiff, eq_self, zbbI, bbI0, bbI1, decide_eq_false_iff_not, decide_eq_true_eq, Bool.not_eq_false, Bool.not_eq_true, Bool.not_true, Bool.not_false, cond_true, cond_false, y5, show 20 < n by omega]
  · have lt0 : x < I3 0 := hx
    refine ⟨-1, h, h, ?_, ?_, I⟩
    · simp (disch := omega) only [F_283_0, F_283, F_239_72, F_239_26B, F_239_26, F_239_22, F_239_0, F_239, ↓reduceIte, if_true, if_false, ite_self, Option.bind_some, Option.map_some, wI_rd, wJ_rd, wI_2, wJ_1, wJ_22, I3_lit, I3_add, I3_mul, I3_lt, I3_le, I3_inj, I3_nn', I3_n1, I3_n2, m2m1, ldI_I, ldJ_I, ldZ_I, stI_I, stJ_I, true_or, or_true, false_or, or_false, true_and, and_true, false_and, and_false, not_true_eq_false, not_false_eq_true, reduceCtorEq, Nat.reduceEqDiff, Nat.lt_irrefl, Nat.not_lt_zero, Nat.le_refl, Nat.reduceLT, Nat.reduceLeDiff, eq_self, zbbI, bbI0, bbI1, decide_eq_false_iff_not, decide_eq_true_eq, Bool.not_eq_false, Bool.not_eq_true, Bool.not_true, Bool.not_false, cond_true, cond_false, lt0]
    · simp (disch := omega) only [F_412_66B, F_412_66, F_412_26B, F_412_26, F_412_22, F_412_0, F_412, ↓reduceIte, if_true, if_false, ite_self, Option.bind_some, Option.map_some, wI_rd, wJ_rd, wI_2, wJ_1, wJ_22, I3_lit, I3_add, I3_mul, I3_lt, I3_le, I3_inj, I3_nn', I3_n1, I3_n2, m2m1, ldI_I, ldJ_I, ldZ_I, stI_I, stJ_I, true_or, or_true, false_or, or_false, true_and, and_true, false_and, and_false, not_true_eq_false, not_false_eq_true, reduceCtorEq, Nat.reduceEqDiff, Nat.lt_irrefl, Nat.not_lt_zero, Nat.le_refl, Nat.reduceLT, Nat.reduceLeDiff, eq_self, zbbI, bbI0, bbI1, decide_eq_false_iff_not, decide_eq_true_eq, Bool.not_eq_false, Bool.not_eq_true, Bool.not_true, Bool.not_false, cond_true, cond_false, lt0]
