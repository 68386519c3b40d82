def grow (g g' : sm_H) : Prop := nC g ≤ nC g' ∧ nX g ≤ nX g' ∧ nH g ≤ nH g' ∧ (∀ t, t < nX g → g'.1 96 t = g.1 96 t) ∧ ∀ c, c < nC g → g'.1 70 c = g.1 70 c
theorem bel_grow {g g' : sm_H} (wK : wfK g) (e : ∀ c, c < nC g → g'.1 70 c = g.1 70 c) : ∀ (n x o : Nat), x < 20 + nC g → bel g' n x o = bel g n x o := by
  intro n
  induction n with
  | zero => intro x o _; rfl
  | succ n ih =>
    intro x o hx
    rcases Nat.lt_or_ge x 20 with c | c
    · rw [bel_lt20 g' _ x o c, bel_lt20 g _ x o c]
    · have p2 := (wK.2.2 (x - 20) (by omega)).2
      have ep : par g' (x - 20) = par g (x - 20) := by show tn (g'.1 70 _) = tn (g.1 70 _); rw [e _ (by omega)]
      rw [bel_ge20 g' n x o c, bel_ge20 g n x o c, ep, ih _ o (by omega)]
theorem okO_grow {g g' : sm_H} (G : grow g g') {k : Nat} {n : Int64} (h : okO g k n) : okO g' k n := by
  obtain ⟨g1, g2, g3, g4, g5⟩ := G
  rcases h with h | ⟨h1, t, h2, h3, h4⟩ | ⟨h1, a, h2, h3⟩ | h
  · exact Or.inl h
  · exact Or.inr (Or.inl ⟨by omega, t, by omega, h3, by rw [g4 t h2]; exact h4⟩)
  · exact Or.inr (Or.inr (Or.inl ⟨h1, a, by omega, h3⟩))
  · exact Or.inr (Or.inr (Or.inr h))
theorem okV_grow {g g' : sm_H} (wK : wfK g) (G : grow g g') {s : Nat} {k : Int32} {n : Int64} (h : okV g s k n) : okV g' s k n := by
  rcases h with h | h | ⟨h1, q, h2, h3, h4, h5⟩
  · exact Or.inl h
  · exact Or.inr (Or.inl h)
  · exact Or.inr (Or.inr ⟨h1, q, h2, by have := G.1; omega, by show bel g' 12 q s = true; rw [bel_grow wK G.2.2.2.2 12 q s h3]; exact h4, okO_grow G h5⟩)
theorem cnt_le {x : Int32} {n m : Nat} (h : cnt x n) (e : n ≤ m) : cnt x m := ⟨h.1, Nat.le_trans h.2 e⟩
def tyExt (g g1 : sm_H) : Prop := nT g ≤ nT g1 ∧ ∀ t, t < nT g → g1.1 72 t = g.1 72 t ∧ g1.1 73 t = g.1 73 t ∧ ∀ k, k < tM g t → g1.1 74 (10 * t + k) = g.1 74 (10 * t + k)
def mbExt (g g1 : sm_H) : Prop := nM g ≤ nM g1 ∧ ∀ m, m < nM g → g1.1 83 m = g.1 83 m ∧ g1.1 84 m = g.1 84 m ∧ g1.1 86 m = g.1 86 m ∧ g1.1 87 m = g.1 87 m ∧ g1.1 88 m = g.1 88 m ∧ g1.1 89 m = g.1 89 m
abbrev ext (g g1 : sm_H) : Prop := (nC g ≤ nC g1) ∧ (∀ c, c < nC g → g1.1 70 c = g.1 70 c) ∧ (nV g ≤ nV g1) ∧ (∀ v, v < nV g → g1.1 94 v = g.1 94 v) ∧ (tyExt g g1) ∧ (nH g ≤ nH g1) ∧ (∀ x, x < nH g → g1.1 76 x = g.1 76 x) ∧ (nG g ≤ nG g1) ∧ (∀ k, k < nG g → ty g1 (tn (g1.1 92 k)) = ty g (tn (g.1 92 k))) ∧ (nO g ≤ nO g1) ∧ (mbExt g g1)
theorem ext.c1 {g g1 : sm_H} (F_ : ext g g1) : nC g ≤ nC g1 := F_.1
theorem ext.c2 {g g1 : sm_H} (F_ : ext g g1) : ∀ c, c < nC g → g1.1 70 c = g.1 70 c := F_.2.1
theorem ext.v1 {g g1 : sm_H} (F_ : ext g g1) : nV g ≤ nV g1 := F_.2.2.1
theorem ext.v2 {g g1 : sm_H} (F_ : ext g g1) : ∀ v, v < nV g → g1.1 94 v = g.1 94 v := F_.2.2.2.1
theorem ext.t {g g1 : sm_H} (F_ : ext g g1) : tyExt g g1 := F_.2.2.2.2.1
theorem ext.h1 {g g1 : sm_H} (F_ : ext g g1) : nH g ≤ nH g1 := F_.2.2.2.2.2.1
theorem ext.h2 {g g1 : sm_H} (F_ : ext g g1) : ∀ x, x < nH g → g1.1 76 x = g.1 76 x := F_.2.2.2.2.2.2.1
theorem ext.k1 {g g1 : sm_H} (F_ : ext g g1) : nG g ≤ nG g1 := F_.2.2.2.2.2.2.2.1
theorem ext.k2 {g g1 : sm_H} (F_ : ext g g1) : ∀ k, k < nG g → ty g1 (tn (g1.1 92 k)) = ty g (tn (g.1 92 k)) := F_.2.2.2.2.2.2.2.2.1
theorem ext.o {g g1 : sm_H} (F_ : ext g g1) : nO g ≤ nO g1 := F_.2.2.2.2.2.2.2.2.2.1
theorem ext.m {g g1 : sm_H} (F_ : ext g g1) : mbExt g g1 := F_.2.2.2.2.2.2.2.2.2.2
theorem lst_len (f : Nat → Int32) (n : Nat) : (lst f n).length = n := by unfold lst; rw [List.length_map, List.length_range]
theorem lst_congr {f f1 : Nat → Int32} {n : Nat} (e : ∀ k, k < n → f1 k = f k) : lst f1 n = lst f n := by
  unfold lst
  refine List.map_congr_left (fun k hk => e k ?_)
  exact List.mem_range.mp hk
theorem ext_pl {g g1 : sm_H} (E : ext g g1) {t : Nat} (ht : t < nT g) : pl g1 t = pl g t := by
  obtain ⟨e1, e2, e3⟩ := E.t.2 t ht
  have : tM g1 t = tM g t := by show tn _ = tn _; rw [e2]
  show lst _ (tM g1 t) = lst _ (tM g t)
  rw [this]
  exact lst_congr e3
theorem ext_rs {g g1 : sm_H} (E : ext g g1) {t : Nat} (ht : t < nT g) : rs g1 t = rs g t := (E.t.2 t ht).1
theorem ext_ty {g g1 : sm_H} (E : ext g g1) {x : Nat} (hx : x < nH g) : ty g1 x = ty g x := by show tn _ = tn _; rw [E.h2 x hx]
theorem ext_hpl {g g1 : sm_H} (wH : wfH0 g) (E : ext g g1) {x : Nat} (hx : x < nH g) : hpl g1 x = hpl g x := by
  show pl g1 (ty g1 x) = pl g (ty g x)
  rw [ext_ty E hx, ext_pl E (wH.2 x hx).2.2.1]
theorem ext_hrs {g g1 : sm_H} (wH : wfH0 g) (E : ext g g1) {x : Nat} (hx : x < nH g) : hrs g1 x = hrs g x := by
  show rs g1 (ty g1 x) = rs g (ty g x)
  rw [ext_ty E hx, ext_rs E (wH.2 x hx).2.2.1]
theorem ext_B {g g1 : sm_H} (wK : wfK g) (E : ext g g1) {x o : Nat} (hx : x < 20 + nC g) : B g1 x o = B g x o := bel_grow wK E.c2 12 x o hx
theorem ext_may {g g1 : sm_H} (wK : wfK g) (E : ext g g1) {a b : Nat} {f r : Bool} : mayB g1 a b f r = mayB g a b f r := by
  unfold mayB
  by_cases c : a ≤ 6
  · rw [ext_B wK E (show a + 8 < 20 + nC g by omega)]
  · simp only [c, if_false]
theorem ext_okK {g g1 : sm_H} (wK : wfK g) (cVq : ∀ v, v < nV g → tn (g.1 94 v) < 20 + nC g) (E : ext g g1) {k : Nat} {c : Int64} (h : okK g k c) : okK g1 k c := by
  rcases h with h | ⟨h1, h2 | ⟨v, z1, z2, z3⟩⟩
  · exact Or.inl h
  · exact Or.inr ⟨h1, Or.inl h2⟩
  · refine Or.inr ⟨h1, Or.inr ⟨v, Nat.lt_of_lt_of_le z1 E.v1, z2, ?_⟩⟩
    rw [E.v2 v z1, ext_B wK E (cVq v z1)]; exact z3
theorem ext_mkr {g g1 : sm_H} (wM : wfM g) (E : ext g g1) {m : Nat} (hm : m < nM g) : mkr g1 m ↔ mkr g m := by
  obtain ⟨z1, z2, z3, z4, z5, z6⟩ := E.m.2 m hm
  unfold mkr
  rw [z4, z3, z2, z6]
  constructor
  · rintro ⟨a1, a2, a3, a4⟩
    refine ⟨a1, a2, a3, ?_⟩
    rcases (wM.2.2 m hm).2.2.2.2 with q | ⟨-, -, t, q2, q3⟩
    · rw [a1] at q; exact absurd q.1 (by decide)
    · have h300 : t < 2147483648 := by have : nT g < 2147483648 := by { have := b32 (g.1 67 10); show tn (g.1 67 10) < _; unfold tn Int32.toNatClampNeg; omega }
                                       omega
      rw [q3] at a4 ⊢
      have e : tn (I3 t) = t := I3_clamp h300
      rw [e] at a4 ⊢
      rwa [ext_rs E q2] at a4
  · rintro ⟨a1, a2, a3, a4⟩
    refine ⟨a1, a2, a3, ?_⟩
    rcases (wM.2.2 m hm).2.2.2.2 with q | ⟨-, -, t, q2, q3⟩
    · rw [a1] at q; exact absurd q.1 (by decide)
    · have h300 : t < 2147483648 := by have : nT g < 2147483648 := by { have := b32 (g.1 67 10); show tn (g.1 67 10) < _; unfold tn Int32.toNatClampNeg; omega }
                                       omega
      rw [q3] at a4 ⊢
      have e : tn (I3 t) = t := I3_clamp h300
      rw [e] at a4 ⊢
      rwa [ext_rs E q2]
theorem FS_ext {g g1 : sm_H} (wK : wfK g) (wT : wfT g) (wH : wfH0 g) (wM : wfM g) (cVq : ∀ v, v < nV g → tn (g.1 94 v) < 20 + nC g) (cGq : ∀ k, k < nG g → tn (g.1 92 k) < nH g) (cGq1 : ∀ k, k < nG g → tn (g1.1 92 k) < nH g1) (E : ext g g1) {f : Nat} {a b : Int32} {c : Int64} {ps : List Int32} {r : Int32} {l : List Int32} (h : FS g f a b c ps r l) : FS g1 f a b c ps r l := by
  have hc := E.c1
  have hh := E.h1
  have ht := E.t.1
  have hm := E.m.1
  have ho := E.o
  have hg := E.k1
  unfold FS at h ⊢
  rcases h with ⟨f0, a1, a2, a3, k, a4, a5, a6, a7⟩ | ⟨f0, ⟨p, a1, a2⟩, a3⟩ | ⟨f0, a1, a2, a3, k, a4, a5, a6⟩ | h | ⟨f0, p, n, t, a1, a2, a3, a4, a5, a6, a7, a8⟩ | ⟨f0, p, t, a1, a2, a3, a4, a5, a6, a7, a8, a9⟩ | ⟨f0, p, n, a1, a2, a3, a4, a5, a6, a7⟩ | ⟨f0, p, q, n, a1, a2, a3, a4, a5, a6, a7, a8⟩ | ⟨f0, p, q, n, a1, a2, a3, a4, a5, a6, a7, a8, a9⟩ | ⟨f0, p, q, a1, a2, a3, a4, a5, a6⟩ | ⟨f0, p, k, n, a1, a2, a3, a4, a5, a6, a7, a8, a9, a10⟩ | ⟨f0, p, n, k, m, a1, a2, a3, a4, a5, a6, a7, a8, a9⟩ | ⟨f0, p, t, a1, a2, a3, a4, ⟨a5, a6, a7⟩, a8, a9⟩ | ⟨f0, p, q, s, a1, a2, a3, a4, a5, a6, a7, a8, a9⟩ | ⟨f0, p, q, k, m, a1, a2, a3, a4, a5, a6, a7, a8, a9, a10, a11⟩ | ⟨f0, p, q, m, a1, a2, a3, a4, a5, a6, a7, a8⟩ | ⟨f0, p, m, a1, a2, a3, a4, a5, a6, a7⟩ | h | ⟨f0, a1, k, e, a2, a3, a4, a5, a6, a7⟩ | h | ⟨f0, a1, t, a2, a3, a4, a5⟩ | ⟨f0, a1, n, a2, a3, a4, a5⟩ | ⟨f0, p, q, n, a1, a2, a3, a4, a5, a6, a7, a8⟩ | ⟨f0, a1, ⟨k, a2, a3, a4⟩, a5⟩ | h | h | ⟨f0, a1, t, a2, a3, a4, a5⟩ | ⟨f0, a1, m, w, a2, a3, a4, a5, a6, a7, a8, a9, a10⟩ | ⟨f0, a1, m, k, a2, a3, a4, a5, a6, a7, a8, a9, a10, a11, a12, a13⟩ | ⟨f0, a1, m, a2, a3, a4, a5, a6⟩
  · exact Or.inl ⟨f0, a1, a2, a3, k, a4, by omega, a6, ext_okK wK cVq E a7⟩
  · exact Or.inr (Or.inl ⟨f0, ⟨p, by omega, a2⟩, a3⟩)
  · exact Or.inr (Or.inr (Or.inl ⟨f0, a1, a2, a3, k, a4, by omega, a6⟩))
  · exact Or.inr (Or.inr (Or.inr (Or.inl h)))
  · refine Or.inr (Or.inr (Or.inr (Or.inr (Or.inl ⟨f0, p, n, t, by omega, a2, ?_, a4, by omega, a6, ?_, ?_⟩))))
    · rw [ext_hpl wH E a1]; exact a3
    · rw [ext_hrs wH E a1]; exact a7
    · rw [ext_hpl wH E a1, ext_pl E a5]; exact a8
  · refine Or.inr (Or.inr (Or.inr (Or.inr (Or.inr (Or.inl ⟨f0, p, t, by omega, by omega, a3, ?_, ?_, ?_, ?_, a8, ?_⟩)))))
    · rw [ext_hrs wH E a1]; exact a4
    · rw [ext_rs E a2]; exact a5
    · rw [ext_pl E a2]; exact a6
    · rw [ext_hpl wH E a1]; exact a7
    · rw [ext_hpl wH E a1]; exact a9
  · refine Or.inr (Or.inr (Or.inr (Or.inr (Or.inr (Or.inr (Or.inl ⟨f0, p, n, by omega, a2, ?_, a4, ?_, ?_, ?_⟩))))))
    · rw [ext_hpl wH E a1]; exact a3
    · rw [ext_hpl wH E a1]; exact ext_okK wK cVq E a5
    · rw [ext_hrs wH E a1]; exact a6
    · rw [ext_hpl wH E a1]; exact a7
  · refine Or.inr (Or.inr (Or.inr (Or.inr (Or.inr (Or.inr (Or.inr (Or.inl ⟨f0, p, q, n, by omega, by omega, a3, a4, ?_⟩)))))))
    rw [ext_hpl wH E a1, ext_hpl wH E a2, ext_hrs wH E a1, ext_hrs wH E a2]; exact ⟨a5, a6, a7, a8⟩
  · refine Or.inr (Or.inr (Or.inr (Or.inr (Or.inr (Or.inr (Or.inr (Or.inr (Or.inl ⟨f0, p, q, n, by omega, by omega, a3, a4, ?_⟩))))))))
    rw [ext_hpl wH E a1, ext_hpl wH E a2, ext_hrs wH E a1, ext_hrs wH E a2]; exact ⟨a5, a6, a7, a8, a9⟩
  · refine Or.inr (Or.inr (Or.inr (Or.inr (Or.inr (Or.inr (Or.inr (Or.inr (Or.inr (Or.inl ⟨f0, p, q, by omega, by omega, a3, ?_⟩)))))))))
    rw [ext_hpl wH E a1, ext_hpl wH E a2, ext_hrs wH E a1, ext_hrs wH E a2]; exact ⟨a4, a5, a6⟩
  · refine Or.inr (Or.inr (Or.inr (Or.inr (Or.inr (Or.inr (Or.inr (Or.inr (Or.inr (Or.inr (Or.inl ⟨f0, p, k, n, by omega, a2, a3, a4, a5, ?_⟩))))))))))
    rw [ext_hpl wH E a1, ext_hrs wH E a1]; exact ⟨a6, a7, a8, a9, a10⟩
  · refine Or.inr (Or.inr (Or.inr (Or.inr (Or.inr (Or.inr (Or.inr (Or.inr (Or.inr (Or.inr (Or.inr (Or.inl ⟨f0, p, n, k, m, by omega, a2, a3, a4, a5, a6, ?_⟩)))))))))))
    rw [ext_hpl wH E a1, ext_hrs wH E a1]; exact ⟨a7, a8, a9⟩
  · refine Or.inr (Or.inr (Or.inr (Or.inr (Or.inr (Or.inr (Or.inr (Or.inr (Or.inr (Or.inr (Or.inr (Or.inr (Or.inl ⟨f0, p, t, by omega, a2, by omega, a4, ?_, ?_⟩))))))))))))
    · have tp := (wH.2 p a1).2.2.1
      have e1 : ∀ u, u < nT g → tM g1 u = tM g u := fun u hu => by show tn _ = tn _; rw [(E.t.2 u hu).2.1]
      have e2 : ∀ u, u < nT g → tR g1 u = tR g u := fun u hu => by show tn _ = tn _; rw [(E.t.2 u hu).1]
      have e3 : ∀ u k, u < nT g → k < tM g u → tP g1 u k = tP g u k := fun u k hu hk => by show tn _ = tn _; rw [(E.t.2 u hu).2.2 k hk]
      unfold mayAs
      rw [ext_ty E a1, e1 _ tp, e1 _ a3, e2 _ tp, e2 _ a3]
      refine ⟨a5, fun k hk => ?_, by rw [ext_may wK E]; exact a7⟩
      rw [e3 _ k tp hk, e3 _ k a3 (by rw [a5]; exact hk), ext_may wK E]
      exact a6 k hk
    · rw [ext_rs E a3, ext_pl E a3]; exact ⟨a8, a9⟩
  · refine Or.inr (Or.inr (Or.inr (Or.inr (Or.inr (Or.inr (Or.inr (Or.inr (Or.inr (Or.inr (Or.inr (Or.inr (Or.inr (Or.inl ⟨f0, p, q, s, by omega, by omega, by omega, a4, ?_⟩)))))))))))))
    rw [ext_hpl wH E a1, ext_hpl wH E a2, ext_hrs wH E a1, ext_hrs wH E a2, ext_ty E a2, ext_ty E a3]; exact ⟨a5, a6, a7, a8, a9⟩
  · refine Or.inr (Or.inr (Or.inr (Or.inr (Or.inr (Or.inr (Or.inr (Or.inr (Or.inr (Or.inr (Or.inr (Or.inr (Or.inr (Or.inr (Or.inl ⟨f0, p, q, k, m, by omega, by omega, a3, by omega, a5, ?_⟩))))))))))))))
    rw [ext_hpl wH E a1, ext_hpl wH E a2, ext_hrs wH E a1, ext_hrs wH E a2, ext_B wK E a4]; exact ⟨a6, a7, a8, a9, a10, a11⟩
  · refine Or.inr (Or.inr (Or.inr (Or.inr (Or.inr (Or.inr (Or.inr (Or.inr (Or.inr (Or.inr (Or.inr (Or.inr (Or.inr (Or.inr (Or.inr (Or.inl ⟨f0, p, q, m, by omega, by omega, a3, ?_⟩)))))))))))))))
    rw [ext_hpl wH E a1, ext_hpl wH E a2, ext_hrs wH E a1, ext_hrs wH E a2]; exact ⟨a4, a5, a6, a7, a8⟩
  · refine Or.inr (Or.inr (Or.inr (Or.inr (Or.inr (Or.inr (Or.inr (Or.inr (Or.inr (Or.inr (Or.inr (Or.inr (Or.inr (Or.inr (Or.inr (Or.inr (Or.inl ⟨f0, p, m, by omega, a2, a3, fun k hk => ?_, ?_⟩))))))))))))))))
    · obtain ⟨q, z1, z2, z3⟩ := a4 k hk
      exact ⟨q, by omega, z2, by rw [ext_ty E z1, ext_ty E a1]; exact z3⟩
    · rw [ext_hpl wH E a1, ext_hrs wH E a1]; exact ⟨a5, a6, a7⟩
  · refine Or.inr (Or.inr (Or.inr (Or.inr (Or.inr (Or.inr (Or.inr (Or.inr (Or.inr (Or.inr (Or.inr (Or.inr (Or.inr (Or.inr (Or.inr (Or.inr (Or.inr (Or.inl ?_)))))))))))))))))
    obtain ⟨f0, t, n, a1, a2, a3, a4, a5, a6, a7, a8, a9⟩ := h
    have H500 : nH g < 2147483648 := by { have w500 : nH g ≤ 500 := wH.1.2; omega }
    have hx : ∀ k, k < 4 * n → at0 ps k ≠ -1 → tn (at0 ps k) < nH g := fun k hk ne => by
      rcases a6 k hk with z | ⟨p, z1, z2⟩
      · exact absurd z ne
      · rw [z2]; show (I3 p).toNatClampNeg < _; rw [I3_clamp (by omega)]; exact z1
    have ev : vrs g1 ps n = vrs g ps n := by
      unfold vrs
      congr 1
      refine List.map_congr_left (fun i hi => ?_)
      have hi := List.mem_range.mp hi
      unfold vk
      by_cases c1 : at0 ps (4 * i + 1) ≠ -1
      · rw [if_pos c1, if_pos c1, ext_hrs wH E (hx _ (by omega) c1)]
      · rw [if_neg c1, if_neg c1]
        by_cases c2 : at0 ps (4 * i) ≠ -1
        · rw [if_pos c2, if_pos c2, ext_hrs wH E (hx _ (by omega) c2)]
        · rw [if_neg c2, if_neg c2]
    refine ⟨f0, t, n, by omega, a2, a3, a4, a5, fun k hk => ?_, a7, fun i hi => ?_, ?_⟩
    · rcases a6 k hk with z | ⟨p, z1, z2⟩
      · exact Or.inl z
      · exact Or.inr ⟨p, by omega, z2⟩
    · obtain ⟨b1, b2, b3, b4, b5, b6⟩ := a8 i hi
      rw [ext_rs E a1, ext_pl E a1, ev]
      refine ⟨fun n1 n2 => ?_, b2, fun n1 => ?_, fun n1 => ?_, fun n1 => ?_, fun z z1 z2 n1 => ?_⟩
      · rw [ext_hrs wH E (hx _ (by omega) n1), ext_hrs wH E (hx _ (by omega) n2)]; exact b1 n1 n2
      · rw [ext_hrs wH E (hx _ (by omega) n1)]; exact b3 n1
      · rw [ext_hrs wH E (hx _ (by omega) n1)]; exact b4 n1
      · rw [ext_hpl wH E (hx _ (by omega) n1)]; exact b5 n1
      · rw [ext_hpl wH E (hx _ (by omega) n1)]; exact b6 z z1 z2 n1
    · rw [ext_rs E a1, ext_pl E a1]; exact a9
  · refine Or.inr (Or.inr (Or.inr (Or.inr (Or.inr (Or.inr (Or.inr (Or.inr (Or.inr (Or.inr (Or.inr (Or.inr (Or.inr (Or.inr (Or.inr (Or.inr (Or.inr (Or.inr (Or.inl ⟨f0, a1, k, e, by omega, a3, by omega, a5, ?_, a7⟩))))))))))))))))))
    rw [ext_B wK E a4]; exact a6
  · exact Or.inr (Or.inr (Or.inr (Or.inr (Or.inr (Or.inr (Or.inr (Or.inr (Or.inr (Or.inr (Or.inr (Or.inr (Or.inr (Or.inr (Or.inr (Or.inr (Or.inr (Or.inr (Or.inr (Or.inl h)))))))))))))))))))
  · refine Or.inr (Or.inr (Or.inr (Or.inr (Or.inr (Or.inr (Or.inr (Or.inr (Or.inr (Or.inr (Or.inr (Or.inr (Or.inr (Or.inr (Or.inr (Or.inr (Or.inr (Or.inr (Or.inr (Or.inr (Or.inl ⟨f0, a1, t, by omega, a3, ?_⟩))))))))))))))))))))
    rw [ext_rs E a2, ext_pl E a2]; exact ⟨a4, a5⟩
  · refine Or.inr (Or.inr (Or.inr (Or.inr (Or.inr (Or.inr (Or.inr (Or.inr (Or.inr (Or.inr (Or.inr (Or.inr (Or.inr (Or.inr (Or.inr (Or.inr (Or.inr (Or.inr (Or.inr (Or.inr (Or.inr (Or.inl ⟨f0, a1, n, by omega, a3, ?_⟩)))))))))))))))))))))
    have et : ty g1 (tn (g1.1 92 n)) = ty g (tn (g.1 92 n)) := E.k2 n a2
    have lt := (wH.2 _ (cGq n a2)).2.2.1
    refine ⟨?_, ?_⟩
    · show r = rs g1 (ty g1 _); rw [et, ext_rs E lt]; exact a4
    · show l = pl g1 (ty g1 _); rw [et, ext_pl E lt]; exact a5
  · refine Or.inr (Or.inr (Or.inr (Or.inr (Or.inr (Or.inr (Or.inr (Or.inr (Or.inr (Or.inr (Or.inr (Or.inr (Or.inr (Or.inr (Or.inr (Or.inr (Or.inr (Or.inr (Or.inr (Or.inr (Or.inr (Or.inr (Or.inl ⟨f0, p, q, n, by omega, by omega, a3, ?_⟩))))))))))))))))))))))
    rw [ext_hpl wH E a1, ext_hrs wH E a1, ext_ty E a1, ext_ty E a2]; exact ⟨a4, by omega, a6, a7, a8⟩
  · exact Or.inr (Or.inr (Or.inr (Or.inr (Or.inr (Or.inr (Or.inr (Or.inr (Or.inr (Or.inr (Or.inr (Or.inr (Or.inr (Or.inr (Or.inr (Or.inr (Or.inr (Or.inr (Or.inr (Or.inr (Or.inr (Or.inr (Or.inr (Or.inl ⟨f0, a1, ⟨k, a2, by omega, a4⟩, a5⟩)))))))))))))))))))))))
  · exact Or.inr (Or.inr (Or.inr (Or.inr (Or.inr (Or.inr (Or.inr (Or.inr (Or.inr (Or.inr (Or.inr (Or.inr (Or.inr (Or.inr (Or.inr (Or.inr (Or.inr (Or.inr (Or.inr (Or.inr (Or.inr (Or.inr (Or.inr (Or.inr (Or.inl h))))))))))))))))))))))))
  · exact Or.inr (Or.inr (Or.inr (Or.inr (Or.inr (Or.inr (Or.inr (Or.inr (Or.inr (Or.inr (Or.inr (Or.inr (Or.inr (Or.inr (Or.inr (Or.inr (Or.inr (Or.inr (Or.inr (Or.inr (Or.inr (Or.inr (Or.inr (Or.inr (Or.inr (Or.inl h)))))))))))))))))))))))))
  · refine Or.inr (Or.inr (Or.inr (Or.inr (Or.inr (Or.inr (Or.inr (Or.inr (Or.inr (Or.inr (Or.inr (Or.inr (Or.inr (Or.inr (Or.inr (Or.inr (Or.inr (Or.inr (Or.inr (Or.inr (Or.inr (Or.inr (Or.inr (Or.inr (Or.inr (Or.inr (Or.inl ⟨f0, a1, t, by omega, a3, ?_⟩))))))))))))))))))))))))))
    rw [ext_rs E a2, ext_pl E a2]; exact ⟨a4, a5⟩
  · refine Or.inr (Or.inr (Or.inr (Or.inr (Or.inr (Or.inr (Or.inr (Or.inr (Or.inr (Or.inr (Or.inr (Or.inr (Or.inr (Or.inr (Or.inr (Or.inr (Or.inr (Or.inr (Or.inr (Or.inr (Or.inr (Or.inr (Or.inr (Or.inr (Or.inr (Or.inr (Or.inr (Or.inl ⟨f0, a1, m, w, by omega, a3, ?_⟩)))))))))))))))))))))))))))
    obtain ⟨z1, z2, z3, z4, z5, z6⟩ := E.m.2 m a2
    rw [z1, z3, z4, z5]
    refine ⟨a4, a5, a6, a7, a8, a9, ?_⟩
    rcases a10 with q | ⟨q1, k, q2, q3, q4, q5⟩
    · exact Or.inl q
    · exact Or.inr ⟨q1, k, q2, by omega, by rw [ext_B wK E q3]; exact q4, q5⟩
  · refine Or.inr (Or.inr (Or.inr (Or.inr (Or.inr (Or.inr (Or.inr (Or.inr (Or.inr (Or.inr (Or.inr (Or.inr (Or.inr (Or.inr (Or.inr (Or.inr (Or.inr (Or.inr (Or.inr (Or.inr (Or.inr (Or.inr (Or.inr (Or.inr (Or.inr (Or.inr (Or.inr (Or.inr (Or.inl ⟨f0, a1, m, k, by omega, a3, ?_⟩))))))))))))))))))))))))))))
    obtain ⟨z1, z2, z3, z4, z5, z6⟩ := E.m.2 m a2
    rw [z1, z2, z3, z4, z6, ext_mkr wM E a2, ext_B wK E a7]
    refine ⟨a4, a5, a6, by omega, a8, a9, a10, fun n hn => ?_, ?_⟩
    · obtain ⟨y1, y2, y3, y4, y5, y6⟩ := E.m.2 n (by omega)
      rw [y1, y2, y3, y4, y6, ext_mkr wM E (by omega)]
      exact a11 n hn
    · rcases (wM.2.2 m a2).2.2.2.2 with q | ⟨-, -, t, q2, q3⟩
      · rw [a4] at q; exact absurd q.1 (by decide)
      · have e : tn (g.1 89 m) = t := by rw [q3]; exact I3_clamp (by have w300 : nT g ≤ 300 := wT.1.2; omega)
        rw [e] at a12 a13 ⊢
        rw [ext_rs E q2, ext_pl E q2]; exact ⟨a12, a13⟩
  · refine Or.inr (Or.inr (Or.inr (Or.inr (Or.inr (Or.inr (Or.inr (Or.inr (Or.inr (Or.inr (Or.inr (Or.inr (Or.inr (Or.inr (Or.inr (Or.inr (Or.inr (Or.inr (Or.inr (Or.inr (Or.inr (Or.inr (Or.inr (Or.inr (Or.inr (Or.inr (Or.inr (Or.inr (Or.inr ⟨f0, a1, m, by omega, a3, ?_⟩))))))))))))))))))))))))))))
    obtain ⟨z1, z2, z3, z4, z5, z6⟩ := E.m.2 m a2
    rw [z1, z6, ext_mkr wM E a2]
    refine ⟨a4, a5, ?_⟩
    rcases (wM.2.2 m a2).2.2.2.2 with q | ⟨-, -, t, q2, q3⟩
    · rw [a4.1] at q; exact absurd q.1 (by decide)
    · have e : tn (g.1 89 m) = t := by rw [q3]; exact I3_clamp (by have w300 : nT g ≤ 300 := wT.1.2; omega)
      rw [e] at a6 ⊢
      rw [ext_pl E q2]; exact a6
theorem FS_vw (g : sm_H) (f : Nat) (a b : Int32) (c : Int64) (ps : List Int32) (r : Int32) (l : List Int32) : FS (vw g) f a b c ps r l = FS g f a b c ps r l := rfl
theorem wfF_0 (g : sm_H) : wfF g = wfF0 g := by
  unfold wfF wfF0
  have e : FS (vw g) = FS g := by funext f a b c ps r l; exact FS_vw g f a b c ps r l
  rw [e]; rfl
abbrev same (g g1 : sm_H) : Prop := (nH g1 = nH g) ∧ (∀ x, x < nH g → g1.1 75 x = g.1 75 x ∧ g1.1 77 x = g.1 77 x ∧ g1.1 78 x = g.1 78 x ∧ g1.2.1 79 x = g.2.1 79 x ∧ g1.1 80 x = g.1 80 x) ∧ (∀ x i, x < nH g → i < pm g x → g1.1 81 (24 * x + i) = g.1 81 (24 * x + i))
theorem same.n {g g1 : sm_H} (F_ : same g g1) : nH g1 = nH g := F_.1
theorem same.x {g g1 : sm_H} (F_ : same g g1) : ∀ x, x < nH g → g1.1 75 x = g.1 75 x ∧ g1.1 77 x = g.1 77 x ∧ g1.1 78 x = g.1 78 x ∧ g1.2.1 79 x = g.2.1 79 x ∧ g1.1 80 x = g.1 80 x := F_.2.1
theorem same.p {g g1 : sm_H} (F_ : same g g1) : ∀ x i, x < nH g → i < pm g x → g1.1 81 (24 * x + i) = g.1 81 (24 * x + i) := F_.2.2
theorem prt_ext {g g1 : sm_H} {x : Nat} (e : g1.1 80 x = g.1 80 x) (p : ∀ i, i < pm g x → g1.1 81 (24 * x + i) = g.1 81 (24 * x + i)) : prt g1 x = prt g x := by
  have : pm g1 x = pm g x := by show tn _ = tn _; rw [e]
  show lst _ (pm g1 x) = lst _ (pm g x)
  rw [this]
  exact lst_congr p
abbrev base (g : sm_H) : Prop := (wfK g) ∧ (wfT g) ∧ (wfH0 g) ∧ (wfM g) ∧ (∀ v, v < nV g → tn (g.1 94 v) < 20 + nC g) ∧ (∀ k, k < nG g → tn (g.1 92 k) < nH g)
theorem base.k {g : sm_H} (F_ : base g) : wfK g := F_.1
theorem base.t {g : sm_H} (F_ : base g) : wfT g := F_.2.1
theorem base.h {g : sm_H} (F_ : base g) : wfH0 g := F_.2.2.1
theorem base.m {g : sm_H} (F_ : base g) : wfM g := F_.2.2.2.1
theorem base.v {g : sm_H} (F_ : base g) : ∀ v, v < nV g → tn (g.1 94 v) < 20 + nC g := F_.2.2.2.2.1
theorem base.g {g : sm_H} (F_ : base g) : ∀ k, k < nG g → tn (g.1 92 k) < nH g := F_.2.2.2.2.2
theorem I1_base {h g : sm_H} (I : I1 h g) : base g := by
  obtain ⟨wK, cK, wT, cT, wH, cH, wM, cM, cR, cP, cG, cO, cV, wX, cX, cXh, cU, cY, cF, cZ, wF⟩ := I
  have h12 := wK.2.1
  refine ⟨wK, wT, wH, wM, fun v hv => ?_, fun k hk => ?_⟩
  · obtain ⟨q, z1, z2, -⟩ := cV.2.2.2 v hv
    rw [z1]; show (I3 q).toNatClampNeg < _; rw [I3_clamp (by omega)]; exact z2
  · obtain ⟨a, z1, z2⟩ := cG.2.2.2 k hk
    have w500 : nH g ≤ 500 := wH.1.2
    rw [z2]; show (I3 a).toNatClampNeg < _; rw [I3_clamp (by omega)]; exact z1
theorem FS_up {g g1 : sm_H} (b : base g) (cGq1 : ∀ k, k < nG g → tn (g1.1 92 k) < nH g1) (E : ext g g1) {f : Nat} {a c : Int32} {d : Int64} {ps : List Int32} {r : Int32} {l : List Int32} (h : FS g f a c d ps r l) : FS g1 f a c d ps r l := FS_ext b.k b.t b.h b.m b.v b.g cGq1 E h
theorem mrel_ext {g g1 : sm_H} (b : base g) (E : ext g g1) {m : Nat} (hm : m < nM g) (e90 : g1.1 90 m = g.1 90 m) (w : g.1 87 m = 0 → rs g (tn (g.1 89 m)) = hrs g (tn (g.1 90 m)) ∧ hpl g (tn (g.1 90 m)) = if g.1 86 m = 0 then g.1 83 m :: pl g (tn (g.1 89 m)) else pl g (tn (g.1 89 m))) : g1.1 87 m = 0 → rs g1 (tn (g1.1 89 m)) = hrs g1 (tn (g1.1 90 m)) ∧ hpl g1 (tn (g1.1 90 m)) = if g1.1 86 m = 0 then g1.1 83 m :: pl g1 (tn (g1.1 89 m)) else pl g1 (tn (g1.1 89 m)) := by
  obtain ⟨z1, z2, z3, z4, z5, z6⟩ := E.m.2 m hm
  rw [z1, z3, z4, z6, e90]
  intro q
  rcases (b.m.2.2 m hm).2.2.2.2 with p | ⟨-, ⟨a, q1, q2⟩, t, q3, q4⟩
  · rw [q] at p; exact absurd p.1 (by decide)
  · have w300 : nT g ≤ 300 := b.t.1.2
    have w500 : nH g ≤ 500 := b.h.1.2
    have e : tn (g.1 89 m) = t := by rw [q4]; exact I3_clamp (by omega)
    have e' : tn (g.1 90 m) = a := by rw [q2]; exact I3_clamp (by omega)
    have w := w q
    rw [e, e'] at w ⊢
    rw [ext_rs E q3, ext_hrs b.h E q1, ext_hpl b.h E q1, ext_pl E q3]; exact w
theorem wfF_ext {g g1 : sm_H} (b : base g) (cGq1 : ∀ k, k < nG g → tn (g1.1 92 k) < nH g1) (E : ext g g1) (s : same g g1) (ms : nM g1 = nM g ∧ ∀ m, m < nM g → g1.1 90 m = g.1 90 m) (w : wfF g) : wfF g1 := by
  rw [wfF_0] at w ⊢
  refine ⟨fun x hx => ?_, fun m hm => ?_⟩
  · have hx : x < nH g := by rw [← s.n]; exact hx
    obtain ⟨z1, z2, z3, z4, z5⟩ := s.x x hx
    have ef : fm g1 x = fm g x := by show tn _ = tn _; rw [z1]
    rw [ef, z2, z3, z4, prt_ext z5 (s.p x · hx), ext_hrs b.h E hx, ext_hpl b.h E hx]
    exact FS_up b cGq1 E (w.1 x hx)
  · have hm : m < nM g := by rw [← ms.1]; exact hm
    exact mrel_ext b E hm (ms.2 m hm) (w.2 m hm)
