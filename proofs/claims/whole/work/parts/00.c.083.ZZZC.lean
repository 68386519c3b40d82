theorem nk_1 (h : sm_H) (c n b j : Nat) : (sm_mk G0 h c n).1 b j = if b = 131 + h.2.2.2.2.2.1 then 0 else h.1 b j := by
  show (if b = 131 + h.2.2.2.2.2.1 then (fun _ => 0) else h.1 b) j = _
  split <;> rfl
theorem nk_2 (h : sm_H) (c n b j : Nat) : (sm_mk G0 h c n).2.1 b j = if b = 131 + h.2.2.2.2.2.1 then 0 else h.2.1 b j := by
  show (if b = 131 + h.2.2.2.2.2.1 then (fun _ => 0) else h.2.1 b) j = _
  split <;> rfl
theorem nk_3 (h : sm_H) (c n b j : Nat) : (sm_mk G0 h c n).2.2.1 b j = if b = 131 + h.2.2.2.2.2.1 then none else h.2.2.1 b j := by
  show (if b = 131 + h.2.2.2.2.2.1 then (fun _ => none) else h.2.2.1 b) j = _
  split <;> rfl
theorem nk_4 (h : sm_H) (c n b : Nat) : (sm_mk G0 h c n).2.2.2.1 b = if b = 131 + h.2.2.2.2.2.1 then c else h.2.2.2.1 b := rfl
theorem nk_5 (h : sm_H) (c n b : Nat) : (sm_mk G0 h c n).2.2.2.2.1 b = if b = 131 + h.2.2.2.2.2.1 then n else h.2.2.2.2.1 b := rfl
theorem nk_6 (h : sm_H) (c n : Nat) : (sm_mk G0 h c n).2.2.2.2.2.1 = h.2.2.2.2.2.1 + 1 := rfl
theorem nk_7 (h : sm_H) (c n : Nat) : (sm_mk G0 h c n).2.2.2.2.2.2 = h.2.2.2.2.2.2 + n := rfl
theorem wR_3 (h : sm_H) (a k : Nat) (o : Option Nat) (b j : Nat) : (sm_wR h a k o).2.2.1 b j = if b = a ∧ j = k then o else h.2.2.1 b j := by
  show (if b = a then (fun i => if i = k then o else h.2.2.1 a i) else h.2.2.1 b) j = _
  by_cases e : b = a
  · subst e
    rw [if_pos rfl]
    by_cases e2 : j = k
    · rw [if_pos e2, if_pos ⟨rfl, e2⟩]
    · rw [if_neg e2, if_neg (fun z => e2 z.2)]
  · rw [if_neg e, if_neg (fun z => e z.1)]
theorem wR_1 (h : sm_H) (a k : Nat) (o : Option Nat) : (sm_wR h a k o).1 = h.1 := rfl
theorem wR_2 (h : sm_H) (a k : Nat) (o : Option Nat) : (sm_wR h a k o).2.1 = h.2.1 := rfl
theorem wR_4 (h : sm_H) (a k : Nat) (o : Option Nat) : (sm_wR h a k o).2.2.2 = h.2.2.2 := rfl
theorem C_new1 {h : sm_H} {t sz : Nat} (ht : t < 1000) (hs : sz ≤ 100) (e21 : h.1 21 2 = I3 t) (hn : h.2.2.2.2.2.1 = 3 * t) : ∃ h1, F_146 (I3 sz) h = some (I3 t, h1) ∧ NwC h h1 t sz ∧ ∀ i, h1.2.1 (132 + 3 * t) i = 0 ∧ h1.1 (133 + 3 * t) i = 0 := by
  have C0 : F_146 (I3 sz) h = F_146_0 (I3 sz) h := rfl
  unfold F_146_0 at C0
  rw [if_neg (I3_nn (by omega)), if_neg (by rw [I3_lit, I3_lt (by decide) (by omega)]; omega), e21, if_pos (by rw [I3_lit, I3_lt (by omega) (by decide)]; omega), hn] at C0
  simp only [obs] at C0
  generalize ha : sm_mk G0 h 8 2 = a at *
  have an : a.2.2.2.2.2.1 = 3 * t + 1 := by rw [← ha, nk_6, hn]
  rw [show F_215 (131 + 3 * t) (I3 sz) a = F_215_0 (131 + 3 * t) (I3 sz) a from rfl] at C0
  unfold F_215_0 at C0
  simp only [obs] at C0
  rw [if_neg (I3_nn (by omega)), if_neg (I3_nn (by omega)), an, show Int32.toNatClampNeg (I3 sz) = sz from I3_clamp (by omega)] at C0
  generalize hb : sm_mk G0 a 101 sz = b at *
  have bn : b.2.2.2.2.2.1 = 3 * t + 2 := by rw [← hb, nk_6, an]
  have a4 : a.2.2.2.1 (131 + 3 * t) = 8 := by rw [← ha, nk_4, hn, if_pos rfl]
  have b4 : b.2.2.2.1 (131 + 3 * t) = 8 := by rw [← hb, nk_4, an, if_neg (by omega), a4]
  rw [if_pos ⟨is_live (by omega) (by rw [bn]; omega) b4, fr_hi (by omega)⟩] at C0
  rw [if_neg (I3_nn (by omega))] at C0
  rw [show (sm_wR b (131 + 3 * t) 0 (some (131 + (3 * t + 1)))).2.2.2.2.2.1 = b.2.2.2.2.2.1 from rfl, bn] at C0
  generalize hc : sm_wR b (131 + 3 * t) 0 (some (131 + (3 * t + 1))) = c at *
  generalize hd : sm_mk G0 c 100 sz = e at *
  have cn : c.2.2.2.2.2.1 = 3 * t + 2 := by rw [← hc]; exact bn
  have en : e.2.2.2.2.2.1 = 3 * t + 3 := by rw [← hd, nk_6, cn]
  have e4 : e.2.2.2.1 (131 + 3 * t) = 8 := by rw [← hd, nk_4, cn, if_neg (by omega), ← hc]; exact b4
  rw [if_pos ⟨is_live (by omega) (by rw [en]; omega) e4, fr_hi (by omega)⟩] at C0
  simp only [obs] at C0
  generalize hf : sm_wR e (131 + 3 * t) 1 (some (131 + (3 * t + 2))) = f at *
  have fn : f.2.2.2.2.2.1 = 3 * t + 3 := by rw [← hf]; exact en
  have f4 : f.2.2.2.1 (131 + 3 * t) = 8 := by rw [← hf]; exact e4
  have sR : sm_stR G0 f 8 22 (I3 t) (131 + 3 * t) = some (sm_wR f 22 t (some (131 + 3 * t))) := by
    unfold sm_stR
    rw [is_live (by omega) (by rw [fn]; omega) f4]
    show (if sm_in (I3 t) 1000 then some (sm_wR f 22 (I3 t).toNatClampNeg (some (131 + 3 * t))) else none) = _
    rw [if_pos (sm_in_I3 (by omega) (by omega)), I3_clamp (by omega)]
  rw [sR] at C0; simp only [obs] at C0
  generalize hk : sm_wR f 22 t (some (131 + 3 * t)) = k at *
  have i1 : ∀ b' j, k.1 b' j = if b' = 133 + 3 * t then 0 else if b' = 132 + 3 * t then 0 else if b' = 131 + 3 * t then 0 else h.1 b' j := fun b' j => by
    rw [← hk, wR_1, ← hf, wR_1, ← hd, nk_1, cn, ← hc, wR_1, ← hb, nk_1, an, ← ha, nk_1, hn, show 131 + (3 * t + 2) = 133 + 3 * t by omega, show 131 + (3 * t + 1) = 132 + 3 * t by omega]
  have i2 : ∀ b' j, k.2.1 b' j = if b' = 133 + 3 * t then 0 else if b' = 132 + 3 * t then 0 else if b' = 131 + 3 * t then 0 else h.2.1 b' j := fun b' j => by
    rw [← hk, wR_2, ← hf, wR_2, ← hd, nk_2, cn, ← hc, wR_2, ← hb, nk_2, an, ← ha, nk_2, hn, show 131 + (3 * t + 2) = 133 + 3 * t by omega, show 131 + (3 * t + 1) = 132 + 3 * t by omega]
  have i3 : ∀ b' j, k.2.2.1 b' j = if b' = 22 ∧ j = t then some (131 + 3 * t) else if b' = 131 + 3 * t ∧ j = 1 then some (133 + 3 * t) else if b' = 133 + 3 * t then none else if b' = 131 + 3 * t ∧ j = 0 then some (132 + 3 * t) else if b' = 132 + 3 * t then none else if b' = 131 + 3 * t then none else h.2.2.1 b' j := fun b' j => by
    rw [← hk, wR_3, ← hf, wR_3, ← hd, nk_3, cn, ← hc, wR_3, ← hb, nk_3, an, ← ha, nk_3, hn, show 131 + (3 * t + 2) = 133 + 3 * t by omega, show 131 + (3 * t + 1) = 132 + 3 * t by omega]
  have i4 : ∀ b', k.2.2.2.1 b' = if b' = 133 + 3 * t then 100 else if b' = 132 + 3 * t then 101 else if b' = 131 + 3 * t then 8 else h.2.2.2.1 b' := fun b' => by
    rw [← hk, wR_4, ← hf, wR_4, ← hd, nk_4, cn, ← hc, wR_4, ← hb, nk_4, an, ← ha, nk_4, hn, show 131 + (3 * t + 2) = 133 + 3 * t by omega, show 131 + (3 * t + 1) = 132 + 3 * t by omega]
  have i5 : ∀ b', k.2.2.2.2.1 b' = if b' = 133 + 3 * t then sz else if b' = 132 + 3 * t then sz else if b' = 131 + 3 * t then 2 else h.2.2.2.2.1 b' := fun b' => by
    rw [← hk, wR_4, ← hf, wR_4, ← hd, nk_5, cn, ← hc, wR_4, ← hb, nk_5, an, ← ha, nk_5, hn, show 131 + (3 * t + 2) = 133 + 3 * t by omega, show 131 + (3 * t + 1) = 132 + 3 * t by omega]
  have i6 : k.2.2.2.2.2.1 = 3 * t + 3 := by rw [← hk, wR_4]; exact fn
  have i7 : k.2.2.2.2.2.2 = h.2.2.2.2.2.2 + (2 + sz + sz) := by
    rw [← hk, wR_4, ← hf, wR_4, ← hd, nk_7, ← hc, wR_4, ← hb, nk_7, ← ha, nk_7]; omega
  have k21 : k.1 21 2 = I3 t := by rw [i1, if_neg (by omega), if_neg (by omega), if_neg (by omega), e21]
  rw [k21, show (sm_wI k 21 2 (I3 t + 1)).1 21 2 = I3 t + 1 from rfl, show I3 t + 1 = I3 (t + 1) from I3_add t 1, show I3 (t + 1) - 1 = I3 t from I3_sub (a := t + 1) (b := 1) (by omega)] at C0
  refine ⟨_, C0, ⟨⟨fun b' j nn => ?_, fun b' j nn => ?_, fun b' j nn => ?_⟩, fun b' hb' => ?_, ?_, ?_, rfl, ?_, ?_, ?_, ⟨?_, ?_, ?_⟩, ?_, ?_⟩, fun i => ⟨?_, ?_⟩⟩
  · rw [wI_rd, if_neg (by omega), i1, if_neg (by omega), if_neg (by omega), if_neg (by omega)]
  · show k.2.1 b' j = _; rw [i2, if_neg (by omega), if_neg (by omega), if_neg (by omega)]
  · show k.2.2.1 b' j = _; rw [i3, if_neg (by omega), if_neg (by omega), if_neg (by omega), if_neg (by omega), if_neg (by omega), if_neg (by omega)]
  · show k.2.2.2.1 b' = _ ∧ k.2.2.2.2.1 b' = _
    rw [i4, i5, if_neg (by omega), if_neg (by omega), if_neg (by omega), if_neg (by omega), if_neg (by omega), if_neg (by omega)]; exact ⟨rfl, rfl⟩
  · show k.2.2.2.2.2.1 = _; rw [i6, hn]
  · show k.2.2.2.2.2.2 = _; rw [i7]
  · show k.2.2.1 22 t = _; rw [i3, if_pos ⟨rfl, rfl⟩]
  · show k.2.2.1 (131 + 3 * t) 0 = _; rw [i3, if_neg (by omega), if_neg (by omega), if_neg (by omega), if_pos ⟨rfl, rfl⟩]
  · show k.2.2.1 (131 + 3 * t) 1 = _; rw [i3, if_neg (by omega), if_pos ⟨rfl, rfl⟩]
  · show k.2.2.2.1 (131 + 3 * t) = _; rw [i4, if_neg (by omega), if_neg (by omega), if_pos rfl]
  · show k.2.2.2.1 (132 + 3 * t) = _; rw [i4, if_neg (by omega), if_pos rfl]
  · show k.2.2.2.1 (133 + 3 * t) = _; rw [i4, if_pos rfl]
  · show k.2.2.2.2.1 (132 + 3 * t) = _; rw [i5, if_neg (by omega), if_pos rfl]
  · show k.2.2.2.2.1 (133 + 3 * t) = _; rw [i5, if_pos rfl]
  · show k.2.1 (132 + 3 * t) i = _; rw [i2, if_neg (by omega), if_pos rfl]
  · rw [wI_rd, if_neg (by omega), i1, if_pos rfl]
theorem C_new0 {h : sm_H} {sz : Nat} (hs : sz ≤ 100) (e21 : h.1 21 2 = I3 1000) : F_146 (I3 sz) h = some (-1, h) := by
  show F_146_0 (I3 sz) h = _
  unfold F_146_0
  rw [if_neg (I3_nn (by omega)), if_neg (by rw [I3_lit, I3_lt (by decide) (by omega)]; omega), e21, if_neg (by decide)]; rfl
theorem NwC.isTh {h h1 : sm_H} {t sz : Nat} (C : NwC h h1 t sz) (hn : h.2.2.2.2.2.1 = 3 * t) (hs : sz ≤ 100) (ht : t < 1000) : CHandleHouseLaw_law_r9294_ac1f8b.isTh h1 (131 + 3 * t) (132 + 3 * t) (133 + 3 * t) sz := by
  have n := C.n
  exact ⟨is_live (by omega) (by omega) C.k.1, (rr_hi (by omega)).trans C.r0, (rr_hi (by omega)).trans C.r1, is_live (by omega) (by omega) C.k.2.1, (ln_hi (by omega)).trans C.l.1, is_live (by omega) (by omega) C.k.2.2, (ln_hi (by omega)).trans C.l.2, by omega, by omega, hs⟩
theorem NwC.put {h h1 : sm_H} {t sz i : Nat} (C : NwC h h1 t sz) (n : Int64) (k : Int32) : NwC h (sm_wI (sm_wJ h1 (132 + 3 * t) i n) (133 + 3 * t) i k) t sz := by
  refine ⟨agr3_trans C.a (agr3_of (agr_wI (agr_wJ agr_rfl (by omega)) (by omega))), C.c, C.n, C.sl, ?_, C.e22, C.r0, C.r1, C.k, C.l⟩
  rw [wI_rd, if_neg (by omega)]; exact C.e21
theorem R_new {g : sm_H} {k sz : Nat} (w : cnt (g.1 67 45) 1000) (h : nX g < 1000) (hs : sz ≤ 100) : F_357 (I3 sz) g = some (0, g) ∧ ∃ g1, F_358 (I3 k) (I3 sz) g = some (I3 (nX g), g1) ∧ NwR g g1 (nX g) k sz ∧ ∀ j, g1.1 98 j = g.1 98 j ∧ g1.2.1 99 j = g.2.1 99 j := by
  have e : g.1 67 45 = I3 (nX g) := w.1
  generalize nX g = t at *
  refine ⟨?_, sm_wI (sm_wI (sm_wI g 96 t (I3 k)) 97 t (I3 sz)) 67 45 (I3 (t + 1)), ?_, ⟨agr_wI (agr_wI (agr_wI agr_rfl (by omega)) (by omega)) (by omega), rfl, ?_, ?_⟩, fun j => ⟨rfl, rfl⟩⟩
  · show F_357_0 (I3 sz) g = _
    unfold F_357_0
    rw [e, if_neg (by rw [I3_lit, I3_le (by decide) (by omega)]; omega), if_neg (by rw [I3_lit, I3_lt (by decide) (by omega)]; omega)]
  · show F_358_0 (I3 k) (I3 sz) g = _
    unfold F_358_0
    rw [e, stI_I (by omega) (by decide)]; simp only [obs]
    rw [show (sm_wI g 96 t (I3 k)).1 67 45 = g.1 67 45 from rfl, e, stI_I (by omega) (by decide)]; simp only [obs]
    rw [show (sm_wI (sm_wI g 96 t (I3 k)) 97 t (I3 sz)).1 67 45 = g.1 67 45 from rfl, e, show I3 t + 1 = I3 (t + 1) from I3_add t 1, show (sm_wI (sm_wI (sm_wI g 96 t (I3 k)) 97 t (I3 sz)) 67 45 (I3 (t + 1))).1 67 45 = I3 (t + 1) from rfl, show I3 (t + 1) - 1 = I3 t from I3_sub (a := t + 1) (b := 1) (by omega)]
  · show (if t = t then I3 k else g.1 96 t) = _; rw [if_pos rfl]
  · show (if t = t then I3 sz else g.1 97 t) = _; rw [if_pos rfl]
theorem R_new0 {g : sm_H} {sz : Nat} (w : cnt (g.1 67 45) 1000) (h : nX g = 1000) : F_357 (I3 sz) g = some (1, sm_wI g 67 64 4) := by
  have e : g.1 67 45 = I3 (nX g) := w.1
  show F_357_0 (I3 sz) g = _
  unfold F_357_0 F_357_18
  rw [e, h, if_pos (by decide)]; rfl
theorem NwR.put {g g1 : sm_H} {t k sz i : Nat} (R : NwR g g1 t k sz) (hi : i < 100) (v : Val) : NwR g (sm_wJ (sm_wI g1 98 (100 * t + i) v.1) 99 (100 * t + i) v.2) t k sz := ⟨agr_wJ (agr_wI R.a (by omega)) (by omega), R.e45, R.e96, R.e97⟩
