abbrev told1 (g g1 : sm_H) (n : Nat) (st : Bool) (of nm rt : Int32) : Prop := (nM g = n) ∧ (g1.1 67 32 = I3 (n + 1)) ∧ (∀ m, g1.1 83 m = if m = n then of else g.1 83 m) ∧ (∀ m, g1.1 84 m = if m = n then nm else g.1 84 m) ∧ (∀ m, g1.1 85 m = if m = n then rt else g.1 85 m) ∧ (∀ m, g1.1 86 m = if m = n then b2 st else g.1 86 m) ∧ (∀ m, m ≠ n → g1.1 87 m = g.1 87 m) ∧ (∀ m, m ≠ n → g1.1 88 m = g.1 88 m) ∧ (∀ m, m ≠ n → g1.1 89 m = g.1 89 m) ∧ (∀ m, m ≠ n → g1.1 90 m = g.1 90 m) ∧ (∀ m, m ≠ n → g1.1 91 m = g.1 91 m)
theorem told1.n0 {g g1 : sm_H} {n : Nat} {st : Bool} {of nm rt : Int32} (F_ : told1 g g1 n st of nm rt) : nM g = n := F_.1
theorem told1.n1 {g g1 : sm_H} {n : Nat} {st : Bool} {of nm rt : Int32} (F_ : told1 g g1 n st of nm rt) : g1.1 67 32 = I3 (n + 1) := F_.2.1
theorem told1.a83 {g g1 : sm_H} {n : Nat} {st : Bool} {of nm rt : Int32} (F_ : told1 g g1 n st of nm rt) : ∀ m, g1.1 83 m = if m = n then of else g.1 83 m := F_.2.2.1
theorem told1.a84 {g g1 : sm_H} {n : Nat} {st : Bool} {of nm rt : Int32} (F_ : told1 g g1 n st of nm rt) : ∀ m, g1.1 84 m = if m = n then nm else g.1 84 m := F_.2.2.2.1
theorem told1.a85 {g g1 : sm_H} {n : Nat} {st : Bool} {of nm rt : Int32} (F_ : told1 g g1 n st of nm rt) : ∀ m, g1.1 85 m = if m = n then rt else g.1 85 m := F_.2.2.2.2.1
theorem told1.a86 {g g1 : sm_H} {n : Nat} {st : Bool} {of nm rt : Int32} (F_ : told1 g g1 n st of nm rt) : ∀ m, g1.1 86 m = if m = n then b2 st else g.1 86 m := F_.2.2.2.2.2.1
theorem told1.a87 {g g1 : sm_H} {n : Nat} {st : Bool} {of nm rt : Int32} (F_ : told1 g g1 n st of nm rt) : ∀ m, m ≠ n → g1.1 87 m = g.1 87 m := F_.2.2.2.2.2.2.1
theorem told1.a88 {g g1 : sm_H} {n : Nat} {st : Bool} {of nm rt : Int32} (F_ : told1 g g1 n st of nm rt) : ∀ m, m ≠ n → g1.1 88 m = g.1 88 m := F_.2.2.2.2.2.2.2.1
theorem told1.a89 {g g1 : sm_H} {n : Nat} {st : Bool} {of nm rt : Int32} (F_ : told1 g g1 n st of nm rt) : ∀ m, m ≠ n → g1.1 89 m = g.1 89 m := F_.2.2.2.2.2.2.2.2.1
theorem told1.a90 {g g1 : sm_H} {n : Nat} {st : Bool} {of nm rt : Int32} (F_ : told1 g g1 n st of nm rt) : ∀ m, m ≠ n → g1.1 90 m = g.1 90 m := F_.2.2.2.2.2.2.2.2.2.1
theorem told1.a91 {g g1 : sm_H} {n : Nat} {st : Bool} {of nm rt : Int32} (F_ : told1 g g1 n st of nm rt) : ∀ m, m ≠ n → g1.1 91 m = g.1 91 m := F_.2.2.2.2.2.2.2.2.2.2
theorem told_sl {g g1 : sm_H} {n : Nat} {st : Bool} {of nm rt : Int32} (T : told1 g g1 n st of nm rt) (wM : wfM g) (hn : n < 100) (new : g1.1 87 n = 1 → g1.1 86 n = 0 → g1.1 91 n = I3 (nS g)) (sl : slI g) : slI g1 := by
  have nn : nM g1 = n + 1 := by show tn _ = _; rw [T.n1]; exact I3_clamp (by omega)
  have n0 := T.n0
  intro a b ab hb a1 a2 b1 b2 e
  rw [nn] at hb
  have ca : a ≠ n := by omega
  rw [T.a87 a ca] at a1
  rw [T.a86, if_neg ca] at a2
  by_cases c : b = n
  · subst c
    rw [T.a91 a ca, new b1 b2] at e
    rcases (wM.2.2 a (by omega)).2.2.2.2 with ⟨-, -, -, q4⟩ | ⟨q4, -⟩
    · obtain ⟨s, q5, q6⟩ := q4 a2
      have s24 : nS g ≤ 24 := wM.2.1.2
      rw [q6, I3_inj (by omega) (by omega)] at e; omega
    · rw [q4] at a1; cases a1
  · rw [T.a87 b c] at b1
    rw [T.a86, if_neg c] at b2
    rw [T.a91 a ca, T.a91 b c] at e
    exact sl a b ab (by omega) a1 a2 b1 b2 e
theorem told_wfM {g g1 : sm_H} {n : Nat} {st : Bool} {of nm rt : Int32} (T : told1 g g1 n st of nm rt) (wM : wfM g) (hn : n < 100) (hc : nC g1 = nC g) (hh : nH g1 = nH g) (ht : nT g ≤ nT g1) (s1 : cnt (g1.1 67 33) 24) (s2 : nS g ≤ nS g1) (o : ∃ c, c < nC g ∧ of = I3 (20 + c)) (nm1 : cnt nm 99) (rt1 : cnt rt 3) (new : (g1.1 87 n = 1 ∧ cnt (g1.1 88 n) (19 + nC g) ∧ 0 < tn (g1.1 88 n) ∧ (b2 st = 0 → ∃ s, s < nS g1 ∧ g1.1 91 n = I3 s)) ∨ (g1.1 87 n = 0 ∧ (∃ a, a < nH g ∧ g1.1 90 n = I3 a) ∧ ∃ t, t < nT g1 ∧ g1.1 89 n = I3 t)) : wfM g1 := by
  have nn : nM g1 = n + 1 := by show tn _ = _; rw [T.n1]; exact I3_clamp (by omega)
  refine ⟨by rw [T.n1]; exact cnt_up (by omega) (by decide), s1, fun m hm => ?_⟩
  rw [nn] at hm
  by_cases c : m = n
  · subst c
    rw [T.a83, T.a84, T.a85, T.a86, if_pos rfl, if_pos rfl, if_pos rfl, if_pos rfl, hc, hh]
    exact ⟨o, nm1, rt1, ⟨st, rfl⟩, new⟩
  · obtain ⟨m1, m2, m3, m4, m5⟩ := wM.2.2 m (by rw [T.n0]; omega)
    rw [T.a83, T.a84, T.a85, T.a86, T.a87 m c, T.a88 m c, T.a89 m c, T.a90 m c, T.a91 m c, if_neg c, if_neg c, if_neg c, if_neg c, hc, hh]
    refine ⟨m1, m2, m3, m4, ?_⟩
    rcases m5 with ⟨z1, z2, z3, z4⟩ | ⟨z1, z2, t, z3, z4⟩
    · exact Or.inl ⟨z1, z2, z3, fun z => by obtain ⟨s, q1, q2⟩ := z4 z; exact ⟨s, by omega, q2⟩⟩
    · exact Or.inr ⟨z1, z2, t, by omega, z4⟩
theorem told_mb {g g1 : sm_H} {n : Nat} {st : Bool} {of nm rt : Int32} (T : told1 g g1 n st of nm rt) (hn : n < 100) : mbExt g g1 := by
  have nn : nM g1 = n + 1 := by show tn _ = _; rw [T.n1]; exact I3_clamp (by omega)
  refine ⟨by rw [nn, T.n0]; omega, fun m hm => ?_⟩
  rw [T.n0] at hm
  have c : m ≠ n := by omega
  refine ⟨by rw [T.a83, if_neg c], by rw [T.a84, if_neg c], by rw [T.a86, if_neg c], T.a87 m c, T.a88 m c, T.a89 m c⟩
theorem field_I {h g : sm_H} (I : I1 h g) {st : Bool} {of nm rt : Int32} {q : Nat} (hn : nM g < 100) (hs : st = false → nS g < 24) (o : ∃ c, c < nC g ∧ of = I3 (20 + c)) (nm1 : cnt nm 99) (rt1 : cnt rt 3) (q1 : 0 < q) (q2 : q < 20 + nC g) : I1 (sm_wI (fldC h (nM g) (nS g) st of nm (I3 q) rt) 0 12 0) (bif st then sm_wI (fldR0 g (nM g) st of nm (I3 q) rt) 67 32 (I3 (nM g + 1)) else sm_wI (sm_wI (elH (sm_wI (fldR0 g (nM g) st of nm (I3 q) rt) 91 (nM g) (I3 (nS g))) (nS g) (nX g) (zk (I3 q))) 67 33 (I3 (nS g + 1))) 67 32 (I3 (nM g + 1))) := by
  have B0 := I1_base I
  obtain ⟨wK, cK, wT, cT, wH, cH, wM, cM, cR, cP, cG, cO, cV, wX, cX, cXh, cU, cY, cF, cZ, wF⟩ := id I
  have h12 := wK.2.1
  have s24 : nS g ≤ 24 := wM.2.1.2
  have x1000 : nX g ≤ 1000 := wX.1.2
  have e67 : g.1 67 33 = I3 (nS g) := wM.2.1.1
  have tq : tn (I3 q) = q := I3_clamp (by omega)
  generalize hnn : nM g = n at *
  have hnn' : tn (g.1 67 32) = n := hnn
  cases st with
  | true =>
    have T : told1 g (sm_wI (fldR0 g n true of nm (I3 q) rt) 67 32 (I3 (n + 1))) n true of nm rt := ⟨hnn, rfl, fun _ => rfl, fun _ => rfl, fun _ => rfl, fun _ => rfl, fun m c => if_neg c, fun m c => if_neg c, fun _ _ => rfl, fun _ _ => rfl, fun _ _ => rfl⟩
    have a87 : (sm_wI (fldR0 g n true of nm (I3 q) rt) 67 32 (I3 (n + 1))).1 87 n = 1 := if_pos rfl
    have a88 : (sm_wI (fldR0 g n true of nm (I3 q) rt) 67 32 (I3 (n + 1))).1 88 n = I3 q := if_pos rfl
    have a100 : ∀ m, (sm_wI (fldR0 g n true of nm (I3 q) rt) 67 32 (I3 (n + 1))).1 100 m = if m = n then zk (I3 q) else g.1 100 m := fun _ => rfl
    have a101 : ∀ m, (sm_wI (fldR0 g n true of nm (I3 q) rt) 67 32 (I3 (n + 1))).2.1 101 m = if m = n then 0 else g.2.1 101 m := fun _ => rfl
    have W := told_wfM T wM hn rfl rfl (Nat.le_refl _) wM.2.1 (Nat.le_refl _) o nm1 rt1 (Or.inl ⟨a87, by rw [a88]; exact cnt_up (by omega) (by omega), by rw [a88, tq]; exact q1, fun z => by cases z⟩)
    have EE : ext g (sm_wI (fldR0 g n true of nm (I3 q) rt) 67 32 (I3 (n + 1))) := ⟨Nat.le_refl _, fun _ _ => rfl, Nat.le_refl _, fun _ _ => rfl, ⟨Nat.le_refl _, fun _ _ => ⟨rfl, rfl, fun _ _ => rfl⟩⟩, Nat.le_refl _, fun _ _ => rfl, Nat.le_refl _, fun _ _ => rfl, Nat.le_refl _, told_mb T hn⟩
    have nn : nM (sm_wI (fldR0 g n true of nm (I3 q) rt) 67 32 (I3 (n + 1))) = n + 1 := I3_clamp (by omega)
    have F := wfF_ext2 (g1 := sm_wI (fldR0 g n true of nm (I3 q) rt) 67 32 (I3 (n + 1))) B0 B0.g EE ⟨rfl, fun _ _ => ⟨rfl, rfl, rfl, rfl, rfl⟩, fun _ _ _ _ => rfl⟩ (fun _ _ => rfl) (fun m m1 m2 z => by
      have : m = n := by rw [nn] at m2; omega
      subst this
      rw [a87] at z; cases z) wF
    show I1 _ (sm_wI (fldR0 g n true of nm (I3 q) rt) 67 32 (I3 (n + 1)))
    refine ⟨wK, cK, wT, cT, wH, cH, W, ⟨rfl, ?_, fun m hm => ?_⟩, cR, cP, cG, cO, cV, ⟨wX.1, fun t ht => ?_, fun m hm z1 z2 => ?_⟩, ⟨cX.1, fun m hm => ?_, cX.2.2.1, cX.2.2.2.1, fun m m1 m2 => ?_, told_sl T wM hn (fun _ z => by rw [T.a86, if_pos rfl] at z; cases z) cX.2.2.2.2.2⟩, cXh_fr (by repeat first | exact hi_rfl | refine hi_wI ?_ (by decide) | refine hi_wJ ?_ (by decide)) cXh, cU, cY, cF, ⟨rfl, cZ.2⟩, F⟩
    · show I3 (nS g + 0) = g.1 67 33
      rw [e67]; rfl
    · rw [nn] at hm
      by_cases c : m = n
      · subst c
        refine ⟨by rw [T.a83, if_pos rfl]; exact if_pos rfl, by rw [T.a84, if_pos rfl]; exact if_pos rfl, by rw [T.a85, if_pos rfl]; exact if_pos rfl, by rw [T.a86, if_pos rfl]; exact if_pos rfl, fun _ => ⟨by rw [a88]; exact if_pos rfl, if_pos rfl, if_pos rfl, ?_⟩, fun z => by rw [a87] at z; cases z⟩
        rw [T.a86, if_pos rfl, if_neg (by decide)]
        exact if_pos rfl
      · obtain ⟨y1, y2, y3, y4, y5, y6⟩ := cM.2.2 m (by omega)
        rw [T.a83, T.a84, T.a85, T.a86, T.a87 m c, T.a88 m c, T.a89 m c, T.a90 m c, T.a91 m c, if_neg c, if_neg c, if_neg c, if_neg c]
        refine ⟨(if_neg c).trans y1, (if_neg c).trans y2, (if_neg c).trans y3, (if_neg c).trans y4, fun z => ?_, fun z => ?_⟩
        · obtain ⟨w1, w2, w3, w4⟩ := y5 z
          exact ⟨(if_neg c).trans w1, (if_neg c).trans w2, (if_neg c).trans w3, (if_neg c).trans w4⟩
        · obtain ⟨w1, w2, w3, w4⟩ := y6 z
          exact ⟨(if_neg c).trans w1, (if_neg c).trans w2, (if_neg c).trans w3, (if_neg c).trans w4⟩
    · obtain ⟨z1, z2⟩ := wX.2.1 t ht
      refine ⟨z1, ?_⟩
      rcases z2 with z | ⟨k, k1, k2, k3, k4⟩
      · exact Or.inl z
      · refine Or.inr ⟨k, k1, k2, k3, fun m hm y1 y2 => ?_⟩
        rw [nn] at hm
        by_cases c : m = n
        · subst c; rw [T.a86, if_pos rfl] at y2; cases y2
        · rw [T.a87 m c] at y1
          rw [T.a86, if_neg c] at y2
          have := k4 m (by omega) y1 y2
          rw [T.a88 m c]
          exact this
    · rw [nn] at hm
      rw [a100, a101]
      by_cases c : m = n
      · rw [if_pos c, if_pos c, c, a88, tq]; exact okV_zk (by omega)
      · rw [if_neg c, if_neg c, T.a88 m c]
        rw [T.a87 m c] at z1
        rw [T.a86, if_neg c] at z2
        exact wX.2.2 m (by omega) z1 z2
    · rw [a100, a101]
      by_cases c : m = n
      · rw [if_pos c, if_pos c, tag_zk, c]
        obtain ⟨y1, y2⟩ := cX.2.2.2.2.1 n (by omega) hn
        obtain ⟨w1, w2⟩ := cX.2.1 n hn
        rw [y2] at w1
        rw [y1] at w2
        exact ⟨w1, w2⟩
      · rw [if_neg c, if_neg c]; exact cX.2.1 m hm
    · rw [nn] at m1
      rw [a100, a101, if_neg (by omega), if_neg (by omega)]
      exact cX.2.2.2.2.1 m (by omega) m2
  | false =>
    have hs := hs rfl
    generalize hg1 : sm_wI (sm_wI (elH (sm_wI (fldR0 g n false of nm (I3 q) rt) 91 n (I3 (nS g))) (nS g) (nX g) (zk (I3 q))) 67 33 (I3 (nS g + 1))) 67 32 (I3 (n + 1)) = g1
    have T : told1 g g1 n false of nm rt := by subst hg1; exact ⟨hnn, rfl, fun _ => rfl, fun _ => rfl, fun _ => rfl, fun _ => rfl, fun m c => if_neg c, fun m c => if_neg c, fun _ _ => rfl, fun _ _ => rfl, fun m c => if_neg c⟩
    have a87 : g1.1 87 n = 1 := by subst hg1; exact if_pos rfl
    have a88 : g1.1 88 n = I3 q := by subst hg1; exact if_pos rfl
    have a91 : g1.1 91 n = I3 (nS g) := by subst hg1; exact if_pos rfl
    have a100 : ∀ m, g1.1 100 m = if m = n then zk (I3 q) else g.1 100 m := by subst hg1; exact fun _ => rfl
    have a101 : ∀ m, g1.2.1 101 m = if m = n then 0 else g.2.1 101 m := by subst hg1; exact fun _ => rfl
    have a98 : ∀ i, g1.1 98 i = elI (g.1 98) (g.1 96) (nS g) (nX g) (zk (I3 q)) i := by subst hg1; exact fun _ => rfl
    have a99 : ∀ i, g1.2.1 99 i = elJ (g.2.1 99) (g.1 96) (nS g) (nX g) 0 i := by subst hg1; exact fun _ => rfl
    have a33 : g1.1 67 33 = I3 (nS g + 1) := by subst hg1; rfl
    have s1 : nS g1 = nS g + 1 := by show tn _ = _; rw [a33]; exact I3_clamp (by omega)
    have nc1 : nC g1 = nC g := by subst hg1; rfl
    have nh1 : nH g1 = nH g := by subst hg1; rfl
    have nt1 : nT g1 = nT g := by subst hg1; rfl
    have nx1 : nX g1 = nX g := by subst hg1; rfl
    have a96 : ∀ t, g1.1 96 t = g.1 96 t := by subst hg1; exact fun _ => rfl
    have W := told_wfM T wM hn nc1 nh1 (by omega) (by rw [a33]; exact cnt_up (by omega) (by decide)) (by omega) o nm1 rt1 (Or.inl ⟨a87, by rw [a88]; exact cnt_up (by omega) (by omega), by rw [a88, tq]; exact q1, fun z => ⟨nS g, by omega, a91⟩⟩)
    have EE : ext g g1 := by
      have M := told_mb T hn
      subst hg1
      exact ⟨Nat.le_refl _, fun _ _ => rfl, Nat.le_refl _, fun _ _ => rfl, ⟨Nat.le_refl _, fun _ _ => ⟨rfl, rfl, fun _ _ => rfl⟩⟩, Nat.le_refl _, fun _ _ => rfl, Nat.le_refl _, fun _ _ => rfl, Nat.le_refl _, M⟩
    have nn : nM g1 = n + 1 := by show tn _ = _; rw [T.n1]; exact I3_clamp (by omega)
    have F : wfF g1 := by
      have := wfF_ext2 B0 (g1 := g1) (by subst hg1; exact B0.g) EE (by subst hg1; exact ⟨rfl, fun _ _ => ⟨rfl, rfl, rfl, rfl, rfl⟩, fun _ _ _ _ => rfl⟩) (by subst hg1; exact (fun _ _ => rfl)) (fun m m1 m2 z => by
        have : m = n := by rw [nn] at m2; omega
        subst this
        rw [a87] at z; cases z) wF
      exact this
    have GG : grow g g1 := by subst hg1; exact ⟨Nat.le_refl _, Nat.le_refl _, Nat.le_refl _, fun _ _ => rfl, fun _ _ => rfl⟩
    have sz : ∀ t, szX g1 t = szX g t := by subst hg1; exact fun _ => rfl
    have c98 : ∀ t i, i < 100 → (t < nX g → tn (g.1 96 t) < 20 ∨ i ≠ nS g) → g1.1 98 (100 * t + i) = g.1 98 (100 * t + i) ∧ g1.2.1 99 (100 * t + i) = g.2.1 99 (100 * t + i) := fun t i hi z => by
      rw [a98, a99]
      unfold elI elJ
      have e : (100 * t + i) / 100 = t := by omega
      have e2 : (100 * t + i) % 100 = i := by omega
      rw [e, e2]
      have nq : ¬ (t < nX g ∧ i = nS g ∧ 20 ≤ tn (g.1 96 t)) := by
        rintro ⟨z1, z2, z3⟩
        rcases z z1 with z4 | z4
        · omega
        · exact z4 z2
      rw [if_neg nq, if_neg nq]; exact ⟨rfl, rfl⟩
    have n98 : ∀ t, t < nX g → 20 ≤ tn (g.1 96 t) → g1.1 98 (100 * t + nS g) = zk (I3 q) ∧ g1.2.1 99 (100 * t + nS g) = 0 := fun t ht z => by
      rw [a98, a99]
      unfold elI elJ
      have e : (100 * t + nS g) / 100 = t := by omega
      have e2 : (100 * t + nS g) % 100 = nS g := by omega
      rw [e, e2, if_pos ⟨ht, rfl, z⟩, if_pos ⟨ht, rfl, z⟩]; exact ⟨rfl, rfl⟩
    have wX2 : wfX g1 := by
      refine ⟨by subst hg1; exact wX.1, fun t ht => ?_, fun m hm z1 z2 => ?_⟩
      · rw [nx1] at ht
        obtain ⟨z1, z2⟩ := wX.2.1 t ht
        have e97 : g1.1 97 t = g.1 97 t := by subst hg1; rfl
        rw [e97, a96]
        refine ⟨z1, ?_⟩
        rcases z2 with ⟨k, k1, k2, k3, k4⟩ | ⟨k, k1, k2, k3, k4⟩
        · refine Or.inl ⟨k, k1, k2, k3, fun i hi => ?_⟩
          have i100 : i < 100 := by have := z1.2; omega
          have tk : tn (g.1 96 t) < 20 := by rw [k3]; show (I3 k).toNatClampNeg < 20; rw [I3_clamp (by omega)]; omega
          rw [(c98 t i i100 (fun _ => Or.inl tk)).1, (c98 t i i100 (fun _ => Or.inl tk)).2]
          exact okV_grow wK GG (k4 i hi)
        · refine Or.inr ⟨k, k1, by rw [nc1]; exact k2, k3, fun m hm y1 y2 => ?_⟩
          rw [nn] at hm
          have tk : 20 ≤ tn (g.1 96 t) := by rw [k3]; show 20 ≤ (I3 k).toNatClampNeg; rw [I3_clamp (by omega)]; omega
          by_cases c : m = n
          · subst c
            have ts : tn (I3 (nS g)) = nS g := I3_clamp (by omega)
            rw [a88, a91, tq, ts, (n98 t ht tk).1, (n98 t ht tk).2]
            exact okV_zk (by omega)
          · rw [T.a87 m c] at y1
            rw [T.a86, if_neg c] at y2
            rcases (wM.2.2 m (by omega)).2.2.2.2 with ⟨-, -, -, q4⟩ | ⟨q4, -⟩
            · obtain ⟨s, q5, q6⟩ := q4 y2
              have ts : tn (I3 s) = s := I3_clamp (by omega)
              have := k4 m (by omega) y1 y2
              rw [q6, ts] at this
              rw [T.a88 m c, T.a91 m c, q6, ts, (c98 t s (by omega) (fun _ => Or.inr (by omega))).1, (c98 t s (by omega) (fun _ => Or.inr (by omega))).2]
              exact okV_grow wK GG this
            · rw [q4] at y1; cases y1
      · rw [nn] at hm
        rw [a100, a101]
        by_cases c : m = n
        · rw [T.a86, if_pos c] at z2; cases z2
        · rw [if_neg c, if_neg c, T.a88 m c]
          rw [T.a87 m c] at z1
          rw [T.a86, if_neg c] at z2
          exact okV_grow wK GG (wX.2.2 m (by omega) z1 z2)
    have cX2 : CHandleHouseLaw_law_r9294_ac1f8b.cX (sm_wI (fldC h n (nS g) false of nm (I3 q) rt) 0 12 0) g1 := by
      refine ⟨by subst hg1; exact cX.1, fun m hm => ?_, fun t i t1 t2 hi => ?_, fun t i t1 k20 i1 i2 => ?_, fun m m1 m2 => ?_, told_sl T wM hn (fun _ _ => a91) cX.2.2.2.2.2⟩
      · rw [a100, a101]
        by_cases c : m = n
        · rw [if_pos c, if_pos c, tag_zk, c]
          obtain ⟨y1, y2⟩ := cX.2.2.2.2.1 n (by omega) hn
          obtain ⟨w1, w2⟩ := cX.2.1 n hn
          rw [y2] at w1
          rw [y1] at w2
          exact ⟨w1, w2⟩
        · rw [if_neg c, if_neg c]; exact cX.2.1 m hm
      · rw [nx1] at t1
        rw [(c98 t i hi (fun z => by omega)).1, (c98 t i hi (fun z => by omega)).2]
        exact cX.2.2.1 t i t1 t2 hi
      · rw [nx1] at t1
        rw [a96] at k20
        rw [s1] at i1
        rw [(c98 t i (by omega) (fun z => Or.inr (by omega))).1, (c98 t i (by omega) (fun z => Or.inr (by omega))).2]
        exact cX.2.2.2.1 t i t1 k20 (by omega) i2
      · rw [nn] at m1
        rw [a100, a101, if_neg (by omega), if_neg (by omega)]
        exact cX.2.2.2.2.1 m (by omega) m2
    have cXh2 : CHandleHouseLaw_law_r9294_ac1f8b.cXh (sm_wI (fldC h n (nS g) false of nm (I3 q) rt) 0 12 0) g1 := by
      have base : CHandleHouseLaw_law_r9294_ac1f8b.cXh (sm_wI (fldC h n (nS g) false of nm (I3 q) rt) 0 12 0) g := cXh_fr (by unfold fldC; repeat first | exact hi_rfl | refine hi_wI ?_ (by decide) | refine hi_wJ ?_ (by decide)) cXh
      refine ⟨by rw [nx1]; exact base.1, by rw [nx1]; exact base.2.1, fun t ht => ?_⟩
      rw [nx1] at ht
      obtain ⟨b1, b2, b3, b4, b5, b6, b7, b8, b9⟩ := base.2.2 t ht
      rw [sz]
      refine ⟨b1, b2, b3, b4, b5, b6, b7, b8, fun i hi => ?_⟩
      have sz100 := szX_le wX ht
      by_cases z : tn (g.1 96 t) < 20 ∨ i ≠ nS g
      · rw [(c98 t i (by omega) (fun _ => z)).1, (c98 t i (by omega) (fun _ => z)).2]
        exact b9 i hi
      · have z1 : 20 ≤ tn (g.1 96 t) := by omega
        have z2 : i = nS g := by omega
        subst z2
        rw [(n98 t ht z1).1, (n98 t ht z1).2, tag_zk]
        obtain ⟨w1, w2⟩ := b9 (nS g) hi
        obtain ⟨y1, y2⟩ := cX.2.2.2.1 t (nS g) ht z1 (Nat.le_refl _) hs
        rw [y2] at w1
        rw [y1] at w2
        exact ⟨w1, w2⟩
    have cM2 : CHandleHouseLaw_law_r9294_ac1f8b.cM (sm_wI (fldC h n (nS g) false of nm (I3 q) rt) 0 12 0) g1 := by
      refine ⟨T.n1.symm, a33.symm, fun m hm => ?_⟩
      rw [nn] at hm
      by_cases c : m = n
      · subst c
        refine ⟨by rw [T.a83, if_pos rfl]; exact if_pos rfl, by rw [T.a84, if_pos rfl]; exact if_pos rfl, by rw [T.a85, if_pos rfl]; exact if_pos rfl, by rw [T.a86, if_pos rfl]; exact if_pos rfl, fun _ => ⟨by rw [a88]; exact if_pos rfl, if_pos rfl, if_pos rfl, ?_⟩, fun z => by rw [a87] at z; cases z⟩
        rw [T.a86, if_pos rfl, if_pos (by decide), a91]
        exact if_pos rfl
      · obtain ⟨y1, y2, y3, y4, y5, y6⟩ := cM.2.2 m (by omega)
        rw [T.a83, T.a84, T.a85, T.a86, T.a87 m c, T.a88 m c, T.a89 m c, T.a90 m c, T.a91 m c, if_neg c, if_neg c, if_neg c, if_neg c]
        refine ⟨(if_neg c).trans y1, (if_neg c).trans y2, (if_neg c).trans y3, (if_neg c).trans y4, fun z => ?_, fun z => ?_⟩
        · obtain ⟨w1, w2, w3, w4⟩ := y5 z
          exact ⟨(if_neg c).trans w1, (if_neg c).trans w2, (if_neg c).trans w3, (if_neg c).trans w4⟩
        · obtain ⟨w1, w2, w3, w4⟩ := y6 z
          exact ⟨(if_neg c).trans w1, (if_neg c).trans w2, (if_neg c).trans w3, (if_neg c).trans w4⟩
    show I1 _ g1
    refine ⟨?_, ?_, ?_, ?_, ?_, ?_, W, cM2, ?_, ?_, ?_, ?_, ?_, wX2, cX2, cXh2, ?_, ?_, ?_, ?_, F⟩
    all_goals subst hg1
    · exact wK
    · exact cK
    · exact wT
    · exact cT
    · exact wH
    · exact cH
    · exact cR
    · exact cP
    · exact cG
    · exact cO
    · exact cV
    · exact cU
    · exact cY
    · exact cF
    · exact ⟨rfl, cZ.2⟩
theorem agr_fldC {h : sm_H} {n s : Nat} {st : Bool} {of nm kd rt : Int32} : agr (fun b _ => 38 ≤ b ∧ b ≤ 46) h (fldC h n s st of nm kd rt) := by
  unfold fldC
  repeat first | exact agr_rfl | refine agr_wI ?_ (by omega)
theorem agr_fldR0 {g : sm_H} {n : Nat} {st : Bool} {of nm kd rt : Int32} : agr (fun b _ => 67 ≤ b ∧ b ≤ 101) g (fldR0 g n st of nm kd rt) := by
  unfold fldR0
  repeat first | exact agr_rfl | refine agr_wI ?_ (by omega) | refine agr_wJ ?_ (by omega)
