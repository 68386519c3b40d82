def fldC (h : sm_H) (n s : Nat) (st : Bool) (of nm kd rt : Int32) : sm_H := sm_wI (sm_wI (sm_wI (sm_wI (sm_wI (sm_wI (sm_wI (sm_wI (sm_wI (sm_wI h 43 n kd) 44 n (-1)) 45 n (-1)) 46 n (bif st then I3 n else I3 s)) 38 14 (I3 (s + bif st then 0 else 1))) 39 n of) 40 n nm) 42 n (b2 st)) 41 n rt) 38 13 (I3 (n + 1))
theorem C_fld {h : sm_H} {n s : Nat} (hn : n < 100) (hs : s ≤ 24) (e1 : h.1 38 13 = I3 n) (e2 : h.1 38 14 = I3 s) (st : Bool) (of nm kd rt : Int32) : F_114_63 of nm kd (b2 st) rt h = some (I3 n, fldC h n s st of nm kd rt) := by
  unfold fldC
  have m1 : (-1 : Int32) = -I3 1 := rfl
  cases st with
  | true => simp (disch := omega) only [↓reduceIte, if_true, if_false, ite_self, Option.bind_some, Option.map_some, wI_rd, wJ_rd, wI_2, wJ_1, wJ_22, I3_lit, I3_add, I3_mul, I3_lt, I3_le, I3_inj, I3_nn', I3_n1, I3_n2, m2m1, ldI_I, ldJ_I, ldZ_I, stI_I, stJ_I, true_or, or_true, false_or, or_false, true_and, and_true, false_and, and_false, not_true_eq_false, not_false_eq_true, reduceCtorEq, Nat.reduceEqDiff, Nat.lt_irrefl, Nat.not_lt_zero, Nat.le_refl, Nat.reduceLT, Nat.reduceLeDiff, eq_self, zbbI, bbI0, bbI1, decide_eq_false_iff_not, decide_eq_true_eq, Bool.not_eq_false, Bool.not_eq_true, Bool.not_true, Bool.not_false, cond_true, cond_false, F_114_63, F_114_117, F_114_133, F_117_0, F_117, e1, e2, hn, stZ_I, I3_sub, Nat.add_sub_cancel, Nat.add_zero]
  | false => simp (disch := omega) only [↓reduceIte, if_true, if_false, ite_self, Option.bind_some, Option.map_some, wI_rd, wJ_rd, wI_2, wJ_1, wJ_22, I3_lit, I3_add, I3_mul, I3_lt, I3_le, I3_inj, I3_nn', I3_n1, I3_n2, m2m1, ldI_I, ldJ_I, ldZ_I, stI_I, stJ_I, true_or, or_true, false_or, or_false, true_and, and_true, false_and, and_false, not_true_eq_false, not_false_eq_true, reduceCtorEq, Nat.reduceEqDiff, Nat.lt_irrefl, Nat.not_lt_zero, Nat.le_refl, Nat.reduceLT, Nat.reduceLeDiff, eq_self, zbbI, bbI0, bbI1, decide_eq_false_iff_not, decide_eq_true_eq, Bool.not_eq_false, Bool.not_eq_true, Bool.not_true, Bool.not_false, cond_true, cond_false, F_114_63, F_114_117, F_114_133, F_117_0, F_117, e1, e2, hn, stZ_I, I3_sub, Nat.add_sub_cancel]
def fldR0 (g : sm_H) (n : Nat) (st : Bool) (of nm kd rt : Int32) : sm_H := sm_wJ (sm_wI (sm_wJ (sm_wI (sm_wI (sm_wI (sm_wI (sm_wI (sm_wI (sm_wI (sm_wI g 67 19 0) 83 n of) 84 n nm) 85 n rt) 86 n (b2 st)) 87 n 1) 88 n kd) 67 48 (zk kd)) 67 49 0) 100 n (zk kd)) 101 n 0
def elI (f k : Nat → Int32) (s m : Nat) (v : Int32) : Nat → Int32 := fun i => if i / 100 < m ∧ i % 100 = s ∧ 20 ≤ tn (k (i / 100)) then v else f i
def elJ (f : Nat → Int64) (k : Nat → Int32) (s m : Nat) (v : Int64) : Nat → Int64 := fun i => if i / 100 < m ∧ i % 100 = s ∧ 20 ≤ tn (k (i / 100)) then v else f i
def elH (g : sm_H) (s m : Nat) (v : Int32) : sm_H := wAJ (wA g 98 (elI (g.1 98) (g.1 96) s m v)) 99 (elJ (g.2.1 99) (g.1 96) s m 0)
theorem elH_rd (g : sm_H) (s m : Nat) (v : Int32) (b j : Nat) : (elH g s m v).1 b j = if b = 98 then elI (g.1 98) (g.1 96) s m v j else g.1 b j := wA_rd _ _ _ _ _
theorem elH_rdJ (g : sm_H) (s m : Nat) (v : Int32) (b j : Nat) : (elH g s m v).2.1 b j = if b = 99 then elJ (g.2.1 99) (g.1 96) s m 0 j else g.2.1 b j := wAJ_rd _ _ _ _ _
theorem R_fldLoop {g : sm_H} {n s x : Nat} {v : Int32} (e1 : g.1 67 45 = I3 x) (hx : x ≤ 1000) (e2 : g.1 67 33 = I3 s) (hs : s < 24) (e3 : g.1 67 32 = I3 n) (hn : n < 100) (e4 : g.1 67 48 = v) (e5 : g.2.1 67 49 = 0) (kd : ∀ t, t < x → ∃ k, g.1 96 t = I3 k ∧ k < 32) : F_390_173 0 g = some (I3 n, sm_wI (sm_wI (elH g s x v) 67 33 (I3 (s + 1))) 67 32 (I3 (n + 1))) := by
  have w0 : elH g s 0 v = g := by
    refine heap_eq (fun b j => ?_) (fun b j => ?_) rfl
    · rw [elH_rd]
      by_cases c : b = 98
      · rw [if_pos c]; unfold elI; rw [if_neg (by omega), c]
      · rw [if_neg c]
    · rw [elH_rdJ]
      by_cases c : b = 99
      · rw [if_pos c]; unfold elJ; rw [if_neg (by omega), c]
      · rw [if_neg c]
  have L := lp_it (body := F_390_173B) (r := (I3 n, sm_wI (sm_wI (elH g s x v) 67 33 (I3 (s + 1))) 67 32 (I3 (n + 1)))) x (fun k => (I3 k, elH g s k v)) 1000000 (fun t ht => ?_) ?_ (by omega)
  · simp only [w0] at L
    exact L
  · obtain ⟨k, k1, k2⟩ := kd t ht
    by_cases c : 20 ≤ k
    · have st : sm_wJ (sm_wI (elH g s t v) 98 (100 * t + s) v) 99 (100 * t + s) 0 = elH g s (t + 1) v := by
        refine heap_eq (fun b j => ?_) (fun b j => ?_) rfl
        · show (sm_wI (elH g s t v) 98 (100 * t + s) v).1 b j = _
          rw [wI_rd, elH_rd, elH_rd]
          by_cases q : b = 98
          · rw [if_pos q]
            unfold elI
            by_cases q2 : j = 100 * t + s
            · rw [if_pos ⟨q, q2⟩, if_pos q, if_pos]
              have e : j / 100 = t := by omega
              rw [e, k1]
              refine ⟨by omega, by omega, ?_⟩
              show 20 ≤ (I3 k).toNatClampNeg
              rw [I3_clamp (by omega)]; exact c
            · rw [if_neg (by omega), if_pos q]
              by_cases q3 : j / 100 < t ∧ j % 100 = s ∧ 20 ≤ tn (g.1 96 (j / 100))
              · rw [if_pos q3, if_pos ⟨by omega, q3.2⟩]
              · rw [if_neg q3, if_neg]
                rintro ⟨z1, z2, z3⟩
                exact q3 ⟨by omega, z2, z3⟩
          · rw [if_neg (by omega), if_neg q, if_neg q]
        · show (sm_wJ (sm_wI (elH g s t v) 98 (100 * t + s) v) 99 (100 * t + s) 0).2.1 b j = _
          rw [wJ_rd, wI_2, elH_rdJ, elH_rdJ]
          by_cases q : b = 99
          · rw [if_pos q]
            unfold elJ
            by_cases q2 : j = 100 * t + s
            · rw [if_pos ⟨q, q2⟩, if_pos q, if_pos]
              have e : j / 100 = t := by omega
              rw [e, k1]
              refine ⟨by omega, by omega, ?_⟩
              show 20 ≤ (I3 k).toNatClampNeg
              rw [I3_clamp (by omega)]; exact c
            · rw [if_neg (by omega), if_pos q]
              by_cases q3 : j / 100 < t ∧ j % 100 = s ∧ 20 ≤ tn (g.1 96 (j / 100))
              · rw [if_pos q3, if_pos ⟨by omega, q3.2⟩]
              · rw [if_neg q3, if_neg]
                rintro ⟨z1, z2, z3⟩
                exact q3 ⟨by omega, z2, z3⟩
          · rw [if_neg (by omega), if_neg q, if_neg q]
      simp (disch := omega) only [↓reduceIte, if_true, if_false, ite_self, Option.bind_some, Option.map_some, wI_rd, wJ_rd, wI_2, wJ_1, wJ_22, I3_lit, I3_add, I3_mul, I3_lt, I3_le, I3_inj, I3_nn', I3_n1, I3_n2, m2m1, ldI_I, ldJ_I, ldZ_I, stI_I, stJ_I, true_or, or_true, false_or, or_false, true_and, and_true, false_and, and_false, not_true_eq_false, not_false_eq_true, reduceCtorEq, Nat.reduceEqDiff, Nat.lt_irrefl, Nat.not_lt_zero, Nat.le_refl, Nat.reduceLT, Nat.reduceLeDiff, eq_self, zbbI, bbI0, bbI1, decide_eq_false_iff_not, decide_eq_true_eq, Bool.not_eq_false, Bool.not_eq_true, Bool.not_true, Bool.not_false, cond_true, cond_false, F_390_173B, F_390_235, elH_rd, elH_rdJ, e1, e2, e4, e5, k1, c, show ¬ x ≤ t by omega, st]
    · have st : elH g s t v = elH g s (t + 1) v := by
        refine heap_eq (fun b j => ?_) (fun b j => ?_) rfl
        · rw [elH_rd, elH_rd]
          by_cases q : b = 98
          · rw [if_pos q, if_pos q]
            unfold elI
            by_cases q3 : j / 100 < t ∧ j % 100 = s ∧ 20 ≤ tn (g.1 96 (j / 100))
            · rw [if_pos q3, if_pos ⟨by omega, q3.2⟩]
            · rw [if_neg q3, if_neg]
              rintro ⟨z1, z2, z3⟩
              by_cases q4 : j / 100 = t
              · rw [q4, k1] at z3
                have z3 : 20 ≤ (I3 k).toNatClampNeg := z3
                rw [I3_clamp (by omega)] at z3
                omega
              · exact q3 ⟨by omega, z2, z3⟩
          · rw [if_neg q, if_neg q]
        · rw [elH_rdJ, elH_rdJ]
          by_cases q : b = 99
          · rw [if_pos q, if_pos q]
            unfold elJ
            by_cases q3 : j / 100 < t ∧ j % 100 = s ∧ 20 ≤ tn (g.1 96 (j / 100))
            · rw [if_pos q3, if_pos ⟨by omega, q3.2⟩]
            · rw [if_neg q3, if_neg]
              rintro ⟨z1, z2, z3⟩
              by_cases q4 : j / 100 = t
              · rw [q4, k1] at z3
                have z3 : 20 ≤ (I3 k).toNatClampNeg := z3
                rw [I3_clamp (by omega)] at z3
                omega
              · exact q3 ⟨by omega, z2, z3⟩
          · rw [if_neg q, if_neg q]
      simp (disch := omega) only [↓reduceIte, if_true, if_false, ite_self, Option.bind_some, Option.map_some, wI_rd, wJ_rd, wI_2, wJ_1, wJ_22, I3_lit, I3_add, I3_mul, I3_lt, I3_le, I3_inj, I3_nn', I3_n1, I3_n2, m2m1, ldI_I, ldJ_I, ldZ_I, stI_I, stJ_I, true_or, or_true, false_or, or_false, true_and, and_true, false_and, and_false, not_true_eq_false, not_false_eq_true, reduceCtorEq, Nat.reduceEqDiff, Nat.lt_irrefl, Nat.not_lt_zero, Nat.le_refl, Nat.reduceLT, Nat.reduceLeDiff, eq_self, zbbI, bbI0, bbI1, decide_eq_false_iff_not, decide_eq_true_eq, Bool.not_eq_false, Bool.not_eq_true, Bool.not_true, Bool.not_false, cond_true, cond_false, F_390_173B, F_390_235, elH_rd, elH_rdJ, e1, e2, e4, e5, k1, c, show ¬ x ≤ t by omega, ← st]
  · simp (disch := omega) only [↓reduceIte, if_true, if_false, ite_self, Option.bind_some, Option.map_some, wI_rd, wJ_rd, wI_2, wJ_1, wJ_22, I3_lit, I3_add, I3_mul, I3_lt, I3_le, I3_inj, I3_nn', I3_n1, I3_n2, m2m1, ldI_I, ldJ_I, ldZ_I, stI_I, stJ_I, true_or, or_true, false_or, or_false, true_and, and_true, false_and, and_false, not_true_eq_false, not_false_eq_true, reduceCtorEq, Nat.reduceEqDiff, Nat.lt_irrefl, Nat.not_lt_zero, Nat.le_refl, Nat.reduceLT, Nat.reduceLeDiff, eq_self, zbbI, bbI0, bbI1, decide_eq_false_iff_not, decide_eq_true_eq, Bool.not_eq_false, Bool.not_eq_true, Bool.not_true, Bool.not_false, cond_true, cond_false, F_390_173B, F_390_251, elH_rd, elH_rdJ, e1, e2, e3, I3_sub, Nat.add_sub_cancel]
