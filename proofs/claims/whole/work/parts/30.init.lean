def i_zl : List (Nat × Nat) := [(67, 6), (67, 10), (5, 4), (67, 18), (10, 11), (67, 32), (38, 13), (67, 33), (38, 14), (67, 1), (64, 1), (67, 68), (0, 11), (67, 35), (21, 8), (67, 37), (21, 10), (67, 40), (21, 6), (67, 45), (21, 2), (67, 71), (52, 1), (67, 76), (55, 15), (67, 91), (47, 1)]
def i_el : List (Nat × Nat × Nat) := [(49, 11, 69), (49, 8, 73), (49, 12, 70), (49, 10, 71), (55, 17, 77), (55, 18, 78), (0, 12, 19)]
theorem cnt_0 {x : Int32} {n : Nat} (e : x = 0) : cnt x n := by
  subst e
  exact ⟨rfl, Nat.zero_le _⟩
theorem I0_init {h : sm_H} (z : ∀ q ∈ i_zl, h.1 q.1 q.2 = 0) (e : ∀ q ∈ i_el, h.1 q.1 q.2.1 = h.1 67 q.2.2) (e13 : h.1 1 3 = 20) (ej : h.2.1 49 9 = h.2.1 67 72) (eu : h.1 67 70 = 0 ∨ h.1 67 69 = 0) (e70 : h.1 67 70 = I3 (tn (h.1 67 70)))
    (r9 : ∀ b, (b = 6 ∨ b = 7 ∨ b = 72 ∨ b = 73 ∨ b = 11 ∨ b = 12 ∨ b = 13 ∨ b = 15 ∨ b = 17 ∨ b = 75 ∨ b = 76 ∨ b = 77 ∨ b = 78 ∨ b = 80) → ∀ k, k < 512 → h.1 b k = 0) (r12 : ∀ b, (b = 8 ∨ b = 74 ∨ b = 53 ∨ b = 112) → ∀ k, k < 4096 → h.1 b k = 0) (r14 : ∀ b, (b = 16 ∨ b = 81) → ∀ k, k < 12288 → h.1 b k = 0) (r7 : ∀ b, (b = 65 ∨ b = 68 ∨ b = 33 ∨ b = 93 ∨ b = 54 ∨ b = 111 ∨ b = 32 ∨ b = 92 ∨ b = 31 ∨ b = 94 ∨ b = 25 ∨ b = 100) → ∀ k, k < 128 → h.1 b k = 0) (r17 : ∀ k, k < 106496 → h.1 98 k = 0)
    (j9 : ∀ b, (b = 14 ∨ b = 79 ∨ b = 66 ∨ b = 110 ∨ b = 30 ∨ b = 95 ∨ b = 24 ∨ b = 101) → ∀ k, k < 512 → h.2.1 b k = 0) (j17 : ∀ k, k < 106496 → h.2.1 99 k = 0)
    (be : ∀ a b, a < 20 → b < 32 → h.1 2 (a * 32 + b) = b2 (kBase a b)) (n0 : h.2.2.2.2.2.1 = 0) (s0 : h.2.2.2.2.2.2 = 0) : I0 h := by
  have c : ∀ b j, (b, j) ∈ i_zl → h.1 b j = 0 := fun b j m => z (b, j) m
  have d : ∀ b j k, (b, j, k) ∈ i_el → h.1 b j = h.1 67 k := fun b j k m => e (b, j, k) m
  have z6 := c 67 6 (by decide)
  have z10 := c 67 10 (by decide)
  have z18 := c 67 18 (by decide)
  have z32 := c 67 32 (by decide)
  have z33 := c 67 33 (by decide)
  have z35 := c 67 35 (by decide)
  have z37 := c 67 37 (by decide)
  have z40 := c 67 40 (by decide)
  have z45 := c 67 45 (by decide)
  have z91 := c 67 91 (by decide)
  have t0 : tn (0 : Int32) = 0 := rfl
  have nC0 : nC h = 0 := by show tn (h.1 67 6) = 0; rw [z6]; rfl
  have nT0 : nT h = 0 := by show tn (h.1 67 10) = 0; rw [z10]; rfl
  have nH0 : nH h = 0 := by show tn (h.1 67 18) = 0; rw [z18]; rfl
  have nM0 : nM h = 0 := by show tn (h.1 67 32) = 0; rw [z32]; rfl
  have nG0 : nG h = 0 := by show tn (h.1 67 35) = 0; rw [z35]; rfl
  have nV0 : nV h = 0 := by show tn (h.1 67 40) = 0; rw [z40]; rfl
  have nX0 : nX h = 0 := by show tn (h.1 67 45) = 0; rw [z45]; rfl
  have nD0 : nD h = 0 := by show tn (h.1 67 91) = 0; rw [z91]; rfl
  refine ⟨⟨?_, ?_, fun c hc => by omega⟩, ⟨?_, fun c hc => by omega, fun a b ha hb => ?_⟩, ⟨cnt_0 z10, fun t ht => by omega, fun t u ht => by omega⟩, ⟨?_, fun t ht => ⟨?_, ?_⟩, fun k hk => ?_⟩, ⟨cnt_0 z18, fun x hx => by omega⟩, ⟨?_, fun x hx => ⟨?_, ?_, ?_, ?_, ?_, ?_⟩, fun x i hx hi => ?_, fun x hx => by omega⟩, ⟨cnt_0 z32, cnt_0 z33, fun m hm => by omega⟩, ⟨?_, ?_, fun m hm => by omega⟩, ⟨?_, cnt_0 (c 67 1 (by decide)), fun k hk => ?_⟩, ⟨?_, cnt_0 (c 67 68 (by decide)), fun k hk => ?_⟩, ⟨?_, cnt_0 z35, fun k hk => ?_, fun k hk => by omega⟩, ⟨?_, cnt_0 z37, fun k hk => ?_, fun k hk => ⟨false, ?_⟩⟩, ⟨?_, cnt_0 z40, fun v hv => ⟨?_, ?_⟩, fun v hv => by omega⟩, ⟨cnt_0 z45, fun t ht => by omega, fun m hm => by omega⟩, ⟨?_, fun m hm => ⟨?_, ?_⟩, fun t i h1 h2 h3 => ⟨?_, ?_⟩, fun t i h1 => by omega, fun m h1 h2 => ⟨?_, ?_⟩, fun m n h1 h2 => by omega⟩, ⟨?_, ?_, fun t ht => by omega⟩, ⟨d 49 11 69 (by decide), d 49 8 73 (by decide), d 49 12 70 (by decide), d 49 10 71 (by decide), ej, ?_, e70⟩, ⟨?_, cnt_0 (c 67 76 (by decide)), fun k hk => ⟨?_, ?_⟩, fun k hk => ⟨?_, ?_⟩⟩, ⟨d 55 17 77 (by decide), d 55 18 78 (by decide), ?_, cnt_0 z91, fun q hq => by omega⟩, ⟨d 0 12 19 (by decide), c 47 1 (by decide)⟩, ⟨fun x hx => ?_, fun m hm => ?_⟩⟩
  · rw [nC0]; exact z6
  · omega
  · rw [nC0]; exact e13
  · rw [be a b (by omega) hb]
    show _ = b2 (bel h 12 a b)
    rw [bel_lt20 h 12 a b (by omega)]
  · rw [c 5 4 (by decide), z10]
  · rw [r9 6 (by omega) t (by omega), r9 72 (by omega) t (by omega)]
  · rw [r9 7 (by omega) t (by omega), r9 73 (by omega) t (by omega)]
  · rw [r12 8 (by omega) k (by omega), r12 74 (by omega) k (by omega)]
  · rw [c 10 11 (by decide), z18]
  · rw [r9 11 (by omega) x (by omega), r9 75 (by omega) x (by omega)]
  · rw [r9 12 (by omega) x (by omega), r9 77 (by omega) x (by omega)]
  · rw [r9 13 (by omega) x (by omega), r9 78 (by omega) x (by omega)]
  · rw [j9 14 (by omega) x (by omega), j9 79 (by omega) x (by omega)]
  · rw [r9 15 (by omega) x (by omega), r9 80 (by omega) x (by omega)]
  · rw [r9 17 (by omega) x (by omega), r9 76 (by omega) x (by omega)]
  · rw [r14 16 (by omega) _ (by omega), r14 81 (by omega) _ (by omega)]
  · rw [c 38 13 (by decide), z32]
  · rw [c 38 14 (by decide), z33]
  · rw [c 64 1 (by decide), c 67 1 (by decide)]
  · rw [r7 65 (by omega) k (by omega), r7 68 (by omega) k (by omega)]
  · rw [c 0 11 (by decide), c 67 68 (by decide)]
  · rw [j9 66 (by omega) k (by omega), j9 110 (by omega) k (by omega)]
  · rw [c 21 8 (by decide), z35]
  · rw [r7 32 (by omega) k (by omega), r7 92 (by omega) k (by omega)]
  · rw [c 21 10 (by decide), z37]
  · rw [r7 33 (by omega) k (by omega), r7 93 (by omega) k (by omega)]
  · rw [r7 93 (by omega) k (by omega)]; rfl
  · rw [c 21 6 (by decide), z40]
  · rw [r7 31 (by omega) v (by omega), r7 94 (by omega) v (by omega)]
  · rw [j9 30 (by omega) v (by omega), j9 95 (by omega) v (by omega)]
  · rw [c 21 2 (by decide), z45]
  · rw [j9 24 (by omega) m (by omega), j9 101 (by omega) m (by omega)]
  · rw [r7 25 (by omega) m (by omega), r7 100 (by omega) m (by omega)]; rfl
  · exact r17 _ (by omega)
  · exact j17 _ (by omega)
  · exact r7 100 (by omega) m (by omega)
  · exact j9 101 (by omega) m (by omega)
  · rw [n0, nX0]
  · rw [s0, nX0]; exact Nat.zero_le _
  · rcases eu with w | w
    · exact Or.inl ⟨c 67 71 (by decide), w⟩
    · exact Or.inr (Or.inl ⟨c 67 71 (by decide), w⟩)
  · rw [c 52 1 (by decide), c 67 76 (by decide)]
  · rw [r12 53 (by omega) k (by omega), r12 112 (by omega) k (by omega)]
  · exact cnt_0 (r12 112 (by omega) k (by omega))
  · rw [r7 54 (by omega) k (by omega), r7 111 (by omega) k (by omega)]
  · exact cnt_0 (r7 111 (by omega) k (by omega))
  · rw [c 55 15 (by decide), z91]
  · have hx : x < tn (h.1 67 18) := hx
    rw [z18] at hx
    exact absurd hx (by rw [t0]; omega)
  · have hm : m < tn (h.1 67 32) := hm
    rw [z32] at hm
    exact absurd hm (by rw [t0]; omega)
