theorem tyExt_trans {g g1 g2 : sm_H} (a : tyExt g g1) (b : tyExt g1 g2) : tyExt g g2 := by
  refine ⟨Nat.le_trans a.1 b.1, fun t ht => ?_⟩
  obtain ⟨a1, a2, a3⟩ := a.2 t ht
  obtain ⟨b1, b2, b3⟩ := b.2 t (Nat.lt_of_lt_of_le ht a.1)
  have eM : tM g1 t = tM g t := by show tn _ = tn _; rw [a2]
  exact ⟨b1.trans a1, b2.trans a2, fun k hk => (b3 k (by rw [eM]; exact hk)).trans (a3 k hk)⟩
theorem ext_trans {g g1 g2 : sm_H} (a : ext g g1) (b : ext g1 g2) : ext g g2 := by
  have l := fun {x y z : Nat} (p : x < y) (q : y ≤ z) => Nat.lt_of_lt_of_le p q
  refine ⟨Nat.le_trans a.c1 b.c1, fun c hc => (b.c2 c (l hc a.c1)).trans (a.c2 c hc), Nat.le_trans a.v1 b.v1, fun v hv => (b.v2 v (l hv a.v1)).trans (a.v2 v hv), tyExt_trans a.t b.t, Nat.le_trans a.h1 b.h1, fun x hx => (b.h2 x (l hx a.h1)).trans (a.h2 x hx), Nat.le_trans a.k1 b.k1, fun k hk => (b.k2 k (l hk a.k1)).trans (a.k2 k hk), Nat.le_trans a.o b.o, Nat.le_trans a.m.1 b.m.1, fun m hm => ?_⟩
  obtain ⟨p1, p2, p3, p4, p5, p6⟩ := a.m.2 m hm
  obtain ⟨q1, q2, q3, q4, q5, q6⟩ := b.m.2 m (l hm a.m.1)
  exact ⟨q1.trans p1, q2.trans p2, q3.trans p3, q4.trans p4, q5.trans p5, q6.trans p6⟩
theorem grow_trans {g g1 g2 : sm_H} (a : grow g g1) (b : grow g1 g2) : grow g g2 := by
  obtain ⟨a1, a2, a3, a4, a5⟩ := a
  obtain ⟨b1, b2, b3, b4, b5⟩ := b
  exact ⟨by omega, by omega, by omega, fun t ht => (b4 t (by omega)).trans (a4 t ht), fun c hc => (b5 c (by omega)).trans (a5 c hc)⟩
def mtC0 (h : sm_H) (n : Nat) (x : Int32) : sm_H := sm_wI (sm_wI h 43 n 0) 44 n x
def mtR0 (g : sm_H) (n : Nat) (st : Bool) (of nm rt x : Int32) : sm_H := sm_wI (sm_wI (sm_wI (sm_wI (sm_wI (sm_wI g 83 n of) 84 n nm) 85 n rt) 86 n (b2 st)) 87 n 0) 90 n x
theorem K1_pre {h g : sm_H} (K : K1 h g) {st : Bool} {of nm rt x : Int32} : K1 (mtC0 h (nM g) x) (mtR0 g (nM g) st of nm rt x) ∧ ext g (mtR0 g (nM g) st of nm rt x) ∧ grow g (mtR0 g (nM g) st of nm rt x) := by
  have B0 := K1_base K
  obtain ⟨wK, cK, wT, cT, wH, cH, wM, cM, cG, cO, cV, wX, cX, cXh, wF⟩ := K
  generalize hnn : nM g = n at *
  have hnn' : tn (g.1 67 32) = n := hnn
  have nn : nM (mtR0 g n st of nm rt x) = n := hnn
  have r83 : ∀ m, m < n → (mtR0 g n st of nm rt x).1 83 m = g.1 83 m := fun m hm => if_neg (by omega)
  have r84 : ∀ m, m < n → (mtR0 g n st of nm rt x).1 84 m = g.1 84 m := fun m hm => if_neg (by omega)
  have r85 : ∀ m, m < n → (mtR0 g n st of nm rt x).1 85 m = g.1 85 m := fun m hm => if_neg (by omega)
  have r86 : ∀ m, m < n → (mtR0 g n st of nm rt x).1 86 m = g.1 86 m := fun m hm => if_neg (by omega)
  have r87 : ∀ m, m < n → (mtR0 g n st of nm rt x).1 87 m = g.1 87 m := fun m hm => if_neg (by omega)
  have r90 : ∀ m, m < n → (mtR0 g n st of nm rt x).1 90 m = g.1 90 m := fun m hm => if_neg (by omega)
  have EE : ext g (mtR0 g n st of nm rt x) := ⟨Nat.le_refl _, fun _ _ => rfl, Nat.le_refl _, fun _ _ => rfl, ⟨Nat.le_refl _, fun _ _ => ⟨rfl, rfl, fun _ _ => rfl⟩⟩, Nat.le_refl _, fun _ _ => rfl, Nat.le_refl _, fun _ _ => rfl, Nat.le_refl _, ⟨Nat.le_refl _, fun m hm => by
    rw [hnn] at hm
    exact ⟨r83 m hm, r84 m hm, r86 m hm, r87 m hm, rfl, rfl⟩⟩⟩
  refine ⟨⟨wK, cK, wT, cT, wH, cH, ⟨wM.1, wM.2.1, fun m hm => ?_⟩, ⟨cM.1, cM.2.1, fun m hm => ?_⟩, cG, cO, cV, ⟨wX.1, fun t ht => ?_, fun m hm z1 z2 => ?_⟩, ⟨cX.1, cX.2.1, cX.2.2.1, cX.2.2.2.1, cX.2.2.2.2.1, fun a b ab hb a1 a2 b1 b2 e => by
    rw [nn] at hb
    rw [r87 a (by omega)] at a1
    rw [r86 a (by omega)] at a2
    rw [r87 b hb] at b1
    rw [r86 b hb] at b2
    exact cX.2.2.2.2.2 a b ab (by omega) a1 a2 b1 b2 e⟩, cXh_fr (by unfold mtC0; repeat first | exact hi_rfl | refine hi_wI ?_ (by decide) | refine hi_wJ ?_ (by decide)) cXh, ?_⟩, EE, ⟨Nat.le_refl _, Nat.le_refl _, Nat.le_refl _, fun _ _ => rfl, fun _ _ => rfl⟩⟩
  · rw [nn] at hm
    rw [r83 m hm, r84 m hm, r85 m hm, r86 m hm, r87 m hm, r90 m hm]
    exact wM.2.2 m (by omega)
  · rw [nn] at hm
    obtain ⟨y1, y2, y3, y4, y5, y6⟩ := cM.2.2 m (by omega)
    have c : ¬ m = n := by omega
    rw [r83 m hm, r84 m hm, r85 m hm, r86 m hm, r87 m hm, r90 m hm]
    refine ⟨y1, y2, y3, y4, fun z => ?_, fun z => ?_⟩
    · obtain ⟨w1, w2, w3, w4⟩ := y5 z
      exact ⟨(if_neg c).trans w1, (if_neg c).trans w2, w3, w4⟩
    · obtain ⟨w1, w2, w3, w4⟩ := y6 z
      exact ⟨(if_neg c).trans w1, (if_neg c).trans w2, w3, w4⟩
  · obtain ⟨z1, z2⟩ := wX.2.1 t ht
    refine ⟨z1, ?_⟩
    rcases z2 with z | ⟨k, k1, k2, k3, k4⟩
    · exact Or.inl z
    · refine Or.inr ⟨k, k1, k2, k3, fun m hm y1 y2 => ?_⟩
      rw [nn] at hm
      rw [r87 m hm] at y1
      rw [r86 m hm] at y2
      exact k4 m (by omega) y1 y2
  · rw [nn] at hm
    rw [r87 m hm] at z1
    rw [r86 m hm] at z2
    exact wX.2.2 m (by omega) z1 z2
  · exact wfF_ext2 (g1 := mtR0 g n st of nm rt x) B0 B0.g EE ⟨rfl, fun _ _ => ⟨rfl, rfl, rfl, rfl, rfl⟩, fun _ _ _ _ => rfl⟩ (fun m hm => r90 m (by omega)) (fun m m1 m2 => by rw [nn] at m2; omega) wF
def mtC1 (h : sm_H) (n : Nat) (st : Bool) (of nm rt t : Int32) : sm_H := sm_wI (sm_wI (sm_wI (sm_wI (sm_wI (sm_wI (sm_wI h 45 n t) 46 n (-1)) 39 n of) 40 n nm) 42 n (b2 st)) 41 n rt) 38 13 (I3 (n + 1))
def mtR1 (g : sm_H) (n : Nat) (t : Int32) : sm_H := sm_wI (sm_wI g 89 n t) 67 32 (I3 (n + 1))
theorem method_K {h g : sm_H} (K : K1 h g) {st : Bool} {of nm rt : Int32} {x t : Nat} (hn : nM g < 100) (o : ∃ c, c < nC g ∧ of = I3 (20 + c)) (nm1 : cnt nm 99) (rt1 : cnt rt 3) (hx : x < nH g) (ht : t < nT g) (c43 : h.1 43 (nM g) = 0) (c44 : h.1 44 (nM g) = I3 x) (g83 : g.1 83 (nM g) = of) (g84 : g.1 84 (nM g) = nm) (g85 : g.1 85 (nM g) = rt) (g86 : g.1 86 (nM g) = b2 st) (g87 : g.1 87 (nM g) = 0) (g90 : g.1 90 (nM g) = I3 x) (rel : rs g t = hrs g x ∧ hpl g x = if b2 st = 0 then of :: pl g t else pl g t) : K1 (mtC1 h (nM g) st of nm rt (I3 t)) (mtR1 g (nM g) (I3 t)) ∧ ext g (mtR1 g (nM g) (I3 t)) ∧ grow g (mtR1 g (nM g) (I3 t)) := by
  have B0 := K1_base K
  obtain ⟨wK, cK, wT, cT, wH, cH, wM, cM, cG, cO, cV, wX, cX, cXh, wF⟩ := K
  have h12 := wK.2.1
  have w300 : nT g ≤ 300 := wT.1.2
  have w500 : nH g ≤ 500 := wH.1.2
  generalize hnn : nM g = n at *
  have hnn' : tn (g.1 67 32) = n := hnn
  have nn : nM (mtR1 g n (I3 t)) = n + 1 := I3_clamp (by omega)
  have T : told1 g (mtR1 g n (I3 t)) n st of nm rt := by
    refine ⟨hnn, rfl, fun m => ?_, fun m => ?_, fun m => ?_, fun m => ?_, fun _ _ => rfl, fun _ _ => rfl, fun m c => if_neg c, fun _ _ => rfl, fun _ _ => rfl⟩
    · show g.1 83 m = _
      by_cases c : m = n
      · rw [if_pos c, c, g83]
      · rw [if_neg c]
    · show g.1 84 m = _
      by_cases c : m = n
      · rw [if_pos c, c, g84]
      · rw [if_neg c]
    · show g.1 85 m = _
      by_cases c : m = n
      · rw [if_pos c, c, g85]
      · rw [if_neg c]
    · show g.1 86 m = _
      by_cases c : m = n
      · rw [if_pos c, c, g86]
      · rw [if_neg c]
  have a89 : (mtR1 g n (I3 t)).1 89 n = I3 t := if_pos rfl
  have W := told_wfM T wM hn rfl rfl (Nat.le_refl _) wM.2.1 (Nat.le_refl _) o nm1 rt1 (Or.inr ⟨g87, ⟨x, hx, g90⟩, t, ht, a89⟩)
  have EE : ext g (mtR1 g n (I3 t)) := ⟨Nat.le_refl _, fun _ _ => rfl, Nat.le_refl _, fun _ _ => rfl, ⟨Nat.le_refl _, fun _ _ => ⟨rfl, rfl, fun _ _ => rfl⟩⟩, Nat.le_refl _, fun _ _ => rfl, Nat.le_refl _, fun _ _ => rfl, Nat.le_refl _, told_mb T hn⟩
  refine ⟨⟨wK, cK, wT, cT, wH, cH, W, ⟨rfl, cM.2.1, fun m hm => ?_⟩, cG, cO, cV, ⟨wX.1, fun u hu => ?_, fun m hm z1 z2 => ?_⟩, ⟨cX.1, cX.2.1, cX.2.2.1, cX.2.2.2.1, fun m m1 m2 => cX.2.2.2.2.1 m (by rw [nn] at m1; omega) m2, told_sl T wM hn (fun z => by rw [show (mtR1 g n (I3 t)).1 87 n = 0 from g87] at z; cases z) cX.2.2.2.2.2⟩, cXh_fr (by unfold mtC1; repeat first | exact hi_rfl | refine hi_wI ?_ (by decide) | refine hi_wJ ?_ (by decide)) cXh, ?_⟩, EE, ⟨Nat.le_refl _, Nat.le_refl _, Nat.le_refl _, fun _ _ => rfl, fun _ _ => rfl⟩⟩
  · rw [nn] at hm
    by_cases c : m = n
    · subst c
      refine ⟨by rw [T.a83, if_pos rfl]; exact if_pos rfl, by rw [T.a84, if_pos rfl]; exact if_pos rfl, by rw [T.a85, if_pos rfl]; exact if_pos rfl, by rw [T.a86, if_pos rfl]; exact if_pos rfl, fun z => ?_, fun _ => ⟨c43, c44.trans g90.symm, by rw [a89]; exact if_pos rfl, if_pos rfl⟩⟩
      have : g.1 87 m = 1 := z
      rw [g87] at this; cases this
    · obtain ⟨y1, y2, y3, y4, y5, y6⟩ := cM.2.2 m (by omega)
      rw [T.a83, T.a84, T.a85, T.a86, T.a87 m c, T.a88 m c, T.a89 m c, T.a90 m c, T.a91 m c, if_neg c, if_neg c, if_neg c, if_neg c]
      refine ⟨(if_neg c).trans y1, (if_neg c).trans y2, (if_neg c).trans y3, (if_neg c).trans y4, fun z => ?_, fun z => ?_⟩
      · obtain ⟨w1, w2, w3, w4⟩ := y5 z
        exact ⟨w1, w2, (if_neg c).trans w3, (if_neg c).trans w4⟩
      · obtain ⟨w1, w2, w3, w4⟩ := y6 z
        exact ⟨w1, w2, (if_neg c).trans w3, (if_neg c).trans w4⟩
  · obtain ⟨z1, z2⟩ := wX.2.1 u hu
    refine ⟨z1, ?_⟩
    rcases z2 with z | ⟨k, k1, k2, k3, k4⟩
    · exact Or.inl z
    · refine Or.inr ⟨k, k1, k2, k3, fun m hm y1 y2 => ?_⟩
      rw [nn] at hm
      by_cases c : m = n
      · subst c
        have : g.1 87 m = 1 := y1
        rw [g87] at this; cases this
      · exact k4 m (by omega) y1 y2
  · rw [nn] at hm
    by_cases c : m = n
    · subst c
      have : g.1 87 m = 1 := z1
      rw [g87] at this; cases this
    · exact wX.2.2 m (by omega) z1 z2
  · refine wfF_ext2 (g1 := mtR1 g n (I3 t)) B0 B0.g EE ⟨rfl, fun _ _ => ⟨rfl, rfl, rfl, rfl, rfl⟩, fun _ _ _ _ => rfl⟩ (fun _ _ => rfl) (fun m m1 m2 z => ?_) wF
    have : m = n := by rw [nn] at m2; omega
    subst this
    have tt : tn (I3 t) = t := I3_clamp (by omega)
    have tx : tn (I3 x) = x := I3_clamp (by omega)
    have e90 : (mtR1 g m (I3 t)).1 90 m = I3 x := g90
    have e86 : (mtR1 g m (I3 t)).1 86 m = b2 st := g86
    have e83 : (mtR1 g m (I3 t)).1 83 m = of := g83
    rw [a89, e90, e86, e83, tt, tx]
    exact rel
