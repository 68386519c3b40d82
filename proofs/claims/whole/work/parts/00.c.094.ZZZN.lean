theorem hrs_wp (g : sm_H) (x : Nat) : hrs (sm_wI g 67 68 0) x = hrs g x := rfl
def waV (g : sm_H) (a k : Nat) : Val := conV g (tn (at0 (hpl g a) k)) (g.2.1 110 k)
def waL (g : sm_H) (a n : Nat) : List Val := (List.range n).map (waV g a)
theorem waL_len (g : sm_H) (a n : Nat) : (waL g a n).length = n := by unfold waL; rw [List.length_map, List.length_range]
theorem waL_s (g : sm_H) (a n : Nat) : waL g a (n + 1) = waL g a n ++ [waV g a n] := by
  unfold waL; rw [List.range_succ, List.map_append]; rfl
theorem atv_wa {g : sm_H} {a n k : Nat} (h : k < n) : atv (waL g a n) k = waV g a k := by
  unfold atv waL
  rw [List.getD_eq_getElem?_getD, List.getElem?_map, List.getElem?_range h]; rfl
theorem plk {h g : sm_H} (K : K1 h g) {a k : Nat} (ha : a < nH g) (hk : k < (hpl g a).length) : ∃ q, at0 (hpl g a) k = I3 q ∧ 0 < q ∧ q < 20 + nC g ∧ tn (at0 (hpl g a) k) = q := by
  have h12 := K.1.2.1
  obtain ⟨q, q1, q2, q3⟩ := kL_h K ha k hk
  exact ⟨q, q1, q2, q3, by rw [q1]; exact tnI (by omega)⟩
theorem C_wait {h g : sm_H} (K : K1 h g) (cPq : ∀ k, k < 10 → h.2.1 66 k = g.2.1 110 k) {a n : Nat} (ha : a < nH g) (hn : (hpl g a).length = n) (ok : ∀ k, k < n → trK g (tn (at0 (hpl g a) k)) (g.2.1 110 k) = 0) (u : Int32) : ∃ h1, Ly h h1 0 (waL g a n) ∧ F_276_98 (I3 a) u (I3 n) h = F_276_146 (I3 a) u h1 := by
  have n10 : n ≤ 10 := by rw [← hn]; exact mn_10 K ha
  have LL : ∀ k, k ≤ n → ∃ h1, F_276_98 (I3 a) u (I3 n) h = lp F_276_101B (1000000 - k) (I3 a, u, I3 n, I3 k, h1) ∧ Ly h h1 0 (waL g a k) := by
    intro k
    induction k with
    | zero => intro _; exact ⟨h, rfl, Ly_0 h 0⟩
    | succ k ih =>
      intro hk
      obtain ⟨h1, e1, L1⟩ := ih (by omega)
      have K' : K1 h1 g := K1_mach K (agr_mono (fun b j z => by unfold SL at z; unfold SM; omega) L1.a) L1.r
      obtain ⟨q, q1, q2, q3, q4⟩ := plk K ha (show k < (hpl g a).length by omega)
      have okK' := trK_0 K' (k := q) q2 (c := g.2.1 110 k) (by have := ok k (by omega); rw [q4] at this; exact this)
      obtain ⟨c1, c2, c3, -⟩ := constV K' q3 okK'
      obtain ⟨h2, a1, L2⟩ := C_lay1 L1 (by omega) (by rw [waL_len]; omega) (waV g a k)
      rw [waL_len] at a1
      refine ⟨h2, ?_, by rw [waL_s]; exact L2⟩
      have wv : waV g a k = conV g q (g.2.1 110 k) := by unfold waV; rw [q4]
      rw [e1, lp_s (s' := (I3 a, u, I3 n, I3 (k + 1), h2)) (by omega) ?_]
      · rw [show 1000000 - k - 1 = 1000000 - (k + 1) by omega]
      · unfold F_276_101B
        rw [if_neg (by rw [I3_le (by omega) (by omega)]; omega), if_neg (by rw [I3_lit, I3_le (by decide) (by omega)]; omega), C_pc K' ha (by omega), q1]; simp only [obs]
        rw [ldJ_I (by omega) (by decide), L1.a.2.1 66 k (by unfold SL; omega), cPq k (by omega)]; simp only [obs]
        rw [show F_73 (I3 k) (I3 q) (g.2.1 110 k) h1 = some h2 by
          show F_73_0 (I3 k) (I3 q) (g.2.1 110 k) h1 = _
          unfold F_73_0
          rw [c2]; simp only [obs]
          rw [c3]; simp only [obs]
          rw [← wv, show F_79 0 (I3 k) (waV g a k).2 (tag (waV g a k).1) h1 = some h2 from a1]; simp only [obs]]; simp only [obs]
        rw [show I3 k + 1 = I3 (k + 1) from I3_add k 1]
  obtain ⟨h1, e1, L1⟩ := LL n (Nat.le_refl _)
  refine ⟨h1, L1, ?_⟩
  rw [e1, lp_oK (by omega)]
  unfold F_276_101B
  rw [if_pos (by rw [I3_le (by omega) (by omega)]; omega)]
  cases F_276_146 (I3 a) u h1 <;> rfl
theorem R_wait {h g g0 : sm_H} (K : K1 h g) (a0 : agr SRm g g0) (K0 : K1 h g0) (e110 : ∀ k, g0.2.1 110 k = g.2.1 110 k) (c59 : g0.1 67 59 = I3 0) {a n : Nat} (ha : a < nH g) (hn : (hpl g a).length = n) (ok : ∀ k, k < n → trK g (tn (at0 (hpl g a) k)) (g.2.1 110 k) = 0) : ∃ g1, Ph g0 g1 0 (waL g a n) ∧ F_404_126 (I3 a) (I3 n) 0 g0 = lp F_404_126B (1000000 - n) (I3 a, I3 n, I3 n, g1) := by
  have n10 : n ≤ 10 := by rw [← hn]; exact mn_10 K ha
  have LL : ∀ k, k ≤ n → ∃ g1, F_404_126 (I3 a) (I3 n) 0 g0 = lp F_404_126B (1000000 - k) (I3 a, I3 n, I3 k, g1) ∧ Ph g0 g1 0 (waL g a k) := by
    intro k
    induction k with
    | zero => intro _; exact ⟨g0, rfl, Ph_0 c59⟩
    | succ k ih =>
      intro hk
      obtain ⟨g1, e1, P1⟩ := ih (by omega)
      have aN : agr SN g0 g1 := agr_mono (fun b j z => by unfold SP at z; unfold SN; omega) P1.a
      have K' : K1 h g1 := K1_N K0 aN
      have am : agr SRm g g1 := agr_trans a0 (agr_mono (fun _ _ z => Or.inl z) aN)
      obtain ⟨q, q1, q2, q3, q4⟩ := plk K ha (show k < (hpl g a).length by omega)
      have okK' := okK_m am (trK_0 K (k := q) q2 (c := g.2.1 110 k) (by have := ok k (by omega); rw [q4] at this; exact this))
      obtain ⟨-, -, -, g2, c4, c5, c6, c7⟩ := constV K' (by rw [m_nC am]; exact q3) okK'
      rw [conV_m am] at c6 c7
      have wv : waV g a k = conV g q (g.2.1 110 k) := by unfold waV; rw [q4]
      obtain ⟨g3, b1, P3⟩ := R_push (Ph_48 P1 c5) (by rw [waL_len]; omega) (waV g a k)
      refine ⟨g3, ?_, by rw [waL_s]; exact P3⟩
      have ha' : a < nH g1 := by rw [m_nH am]; exact ha
      have pc : F_306 (I3 a) (I3 k) g1 = some (I3 q, g1) := by
        rw [R_pc K' ha' (by rw [m_hpl am]; omega), m_hpl am, q1]
      rw [e1, lp_s (s' := (I3 a, I3 n, I3 (k + 1), g3)) (by omega) ?_]
      · rw [show 1000000 - k - 1 = 1000000 - (k + 1) by omega]
      · unfold F_404_126B
        rw [if_neg (by rw [I3_le (by omega) (by omega)]; omega), pc]; simp only [obs]
        rw [ldJ_I (by omega) (by decide), P1.a.2.1 110 k (by unfold SP; omega), e110]; simp only [obs]
        rw [c4]; simp only [obs]
        rw [c6, c7, ← wv, b1]; simp only [obs]
        rw [show I3 k + 1 = I3 (k + 1) from I3_add k 1]
  obtain ⟨g1, e1, P1⟩ := LL n (Nat.le_refl _)
  exact ⟨g1, P1, e1⟩
theorem tag_big {q : Nat} (h1 : 7 ≤ q) (h2 : q < 2147483648) : tag (I3 q) = I3 q := tag_I (Or.inl h1) h2
theorem okO_9 {g : sm_H} {q : Nat} {n : Int64} (o : okO g q n) : 9 ≤ q := by
  rcases o with ⟨h, -⟩ | ⟨h, -⟩ | ⟨h, -⟩ | ⟨h, -⟩ <;> omega
theorem told_run {h g : sm_H} (K : K1 h g) {a out : Nat} (ha : a < nH g) (o4 : out ≤ 4) (r : out ≤ 1 → res h g out (tn (hrs g a))) (c62 : out ≤ 1 → g.1 67 62 = I3 out) (c64 : g.1 67 64 = if out ≤ 1 then 0 else I3 out) (hs : h.1 49 8 = g.1 67 66) :
    ∃ hF a' b' c' d' e', (if (sm_wI h 49 11 (I3 out)).1 49 11 = 0 then ((F_44 (I3 a) (sm_wI h 49 11 (I3 out))).bind fun q7 => F_74_53 q7.1 q7.2) else (if (sm_wI h 49 11 (I3 out)).1 49 11 = 1 then (F_74_53 19 (sm_wI h 49 11 (I3 out))) else (F_74_53 0 (sm_wI h 49 11 (I3 out))))) = some (I3 out, hF) ∧
      (if (sm_wI g 67 73 (g.1 67 66)).1 67 64 = 0 then (if (sm_wI g 67 73 (g.1 67 66)).1 67 62 = 0 then F_404_212 (I3 a) 0 (sm_wI g 67 73 (g.1 67 66)) else F_404_212 (I3 a) 1 (sm_wI g 67 73 (g.1 67 66))) else F_404_212 (I3 a) ((sm_wI g 67 73 (g.1 67 66)).1 67 64) (sm_wI g 67 73 (g.1 67 66))) = some (I3 out, sm_wJ (sm_wI (sm_wI (sm_wI (sm_wI g 67 73 a') 67 69 b') 67 70 c') 67 71 d') 67 72 e') ∧
      agr (fun b j => b = 49 ∧ 9 ≤ j) h hF ∧ hF.2.2 = h.2.2 ∧ cU hF (sm_wJ (sm_wI (sm_wI (sm_wI (sm_wI g 67 73 a') 67 69 b') 67 70 c') 67 71 d') 67 72 e') := by
  have h12 := K.1.2.1
  have w500 : nH g ≤ 500 := K.2.2.2.2.1.1.2
  obtain ⟨rk, k1, k2⟩ := rs_k K ha
  have tk : tn (hrs g a) = rk := by rw [k1]; exact tnI (by omega)
  have W : ∀ x : Int32, (sm_wI h 49 11 x).1 49 11 = x := fun _ => rfl
  rw [W]
  have C53 : ∀ z : Int32, out ≤ 1 → F_74_53 z (sm_wI h 49 11 (I3 out)) = some (I3 out, sm_wI (sm_wI h 49 11 (I3 out)) 49 12 z) := fun z o1 => by
    unfold F_74_53 F_74_78
    simp only [obs]
    rw [show (sm_wI (sm_wI h 49 11 (I3 out)) 49 12 z).1 49 11 = I3 out from rfl]
    rcases (show out = 0 ∨ out = 1 by omega) with rfl | rfl
    · rw [if_pos (by decide)]
    · rw [if_neg (by decide), if_pos (by decide)]
  have ag1 : ∀ z : Int32, agr (fun b j => b = 49 ∧ 9 ≤ j) h (sm_wI (sm_wI h 49 11 (I3 out)) 49 12 z) := fun z => agr_wI (agr_wI agr_rfl (by omega)) (by omega)
  have R212 : ∀ z : Int32, F_404_212 (I3 a) z (sm_wI g 67 73 (g.1 67 66)) = (if z = 0 then F_404_245 (I3 rk) (sm_wI (sm_wI g 67 73 (g.1 67 66)) 67 69 z) else if z = 1 then F_404_245 19 (sm_wI (sm_wI g 67 73 (g.1 67 66)) 67 69 z) else F_404_245 0 (sm_wI (sm_wI g 67 73 (g.1 67 66)) 67 69 z)) := fun z => by
    have rr : F_307 (I3 a) (sm_wI (sm_wI g 67 73 (g.1 67 66)) 67 69 z) = some (I3 rk, sm_wI (sm_wI g 67 73 (g.1 67 66)) 67 69 z) := by
      have K' : K1 h (sm_wI (sm_wI g 67 73 (g.1 67 66)) 67 69 z) := by
        obtain ⟨wK, cK, wT, cT, wH, cH, wM, cM, cG, cO, cV, wX, cX, cXh, wF⟩ := K
        exact ⟨wK, cK, wT, cT, wH, cH, wM, cM, cG, cO, cV, wX, cX, cXh, wF⟩
      have := R_rs K' (p := a) ha
      rw [show hrs (sm_wI (sm_wI g 67 73 (g.1 67 66)) 67 69 z) a = hrs g a from rfl, k1] at this; exact this
    unfold F_404_212
    simp only [obs]
    rw [rr]; simp only [obs]
    rfl
  have R245 : ∀ (z w : Nat) (z2 : z ≤ 1) (w2 : w < 1000), F_404_245 (I3 w) (sm_wI (sm_wI g 67 73 (g.1 67 66)) 67 69 (I3 z)) = (if 7 ≤ w then F_404_271 1 (sm_wI (sm_wI (sm_wI g 67 73 (g.1 67 66)) 67 69 (I3 z)) 67 70 (I3 w)) else F_404_271 0 (sm_wI (sm_wI (sm_wI g 67 73 (g.1 67 66)) 67 69 (I3 z)) 67 70 (I3 w))) := fun z w z2 w2 => by
    unfold F_404_245 F_404_270
    simp only [obs]
    rw [show (sm_wI (sm_wI (sm_wI g 67 73 (g.1 67 66)) 67 69 (I3 z)) 67 70 (I3 w)).1 67 69 = I3 z from rfl, show (sm_wI (sm_wI (sm_wI g 67 73 (g.1 67 66)) 67 69 (I3 z)) 67 70 (I3 w)).1 67 70 = I3 w from rfl, if_neg (by rw [I3_lit, I3_le (by decide) (by omega)]; omega), R_ref (by omega)]; simp only [obs]
    by_cases q : 7 ≤ w
    · rw [if_pos q, decide_eq_true q, if_neg (by decide)]
    · rw [if_neg q, decide_eq_false q, if_pos (by decide)]
  have n20 : ¬ (2 : Int32) ≤ I3 0 := by decide
  have n21 : ¬ (2 : Int32) ≤ I3 1 := by decide
  have n19 : ¬ I3 19 = (0 : Int32) := by decide
  by_cases o1 : out ≤ 1
  · have rr := r o1
    rw [if_pos o1] at c64
    rw [show (sm_wI g 67 73 (g.1 67 66)).1 67 64 = 0 from c64, if_pos rfl, show (sm_wI g 67 73 (g.1 67 66)).1 67 62 = I3 out from c62 o1]
    rcases (show out = 0 ∨ out = 1 by omega) with rfl | rfl
    · rw [if_pos (by decide), if_pos (by decide), R212, if_pos rfl, show (0 : Int32) = I3 0 from rfl, R245 0 rk (by decide) (by omega)]
      have CF : F_44 (I3 a) (sm_wI h 49 11 (I3 0)) = some (I3 rk, sm_wI h 49 11 (I3 0)) := by
        have K' : K1 (sm_wI h 49 11 (I3 0)) g := K1_mach K (agr_wI agr_rfl (by unfold SM; omega)) rfl
        have := C_rs K' ha
        rw [k1] at this; exact this
      rw [CF]; simp only [obs]
      rw [C53 _ (by decide)]
      have ok := rr.2.2.1 rfl
      rw [tk] at ok
      refine ⟨_, g.1 67 66, I3 0, I3 rk, tag (g.1 67 60), g.2.1 67 61, rfl, ?_, ag1 _, rfl, rfl, hs, rfl, rr.2.1, rr.1, ?_, ?_⟩
      · rcases ok with ⟨s1, s2, s3, s4⟩ | ⟨s1, s2, s3⟩ | ⟨s1, q, s2, s3, s4, s5⟩
        · rw [if_neg (by omega), s3, tag_p s1 s2]
          unfold F_404_271
          rw [if_pos rfl]
          unfold F_404_287 F_404_318 F_404_326
          simp only [obs]
          rw [if_neg (show ¬ (2 : Int32) ≤ (sm_wI (sm_wI (sm_wI (sm_wI g 67 73 (g.1 67 66)) 67 69 (I3 0)) 67 70 (I3 rk)) 67 71 0).1 67 69 from n20), if_neg (show ¬ (sm_wI (sm_wI (sm_wI (sm_wI g 67 73 (g.1 67 66)) 67 69 (I3 0)) 67 70 (I3 rk)) 67 71 0).1 67 70 = 0 from by show ¬ I3 rk = I3 0; rw [I3_inj (by omega) (by omega)]; omega), if_pos trivial]; rfl
        · have nz : g.2.1 67 61 = 0 := s3
          rw [s2, nz]
          by_cases q : 7 ≤ rk
          · rw [if_pos q]
            unfold F_404_271
            rw [if_neg (by decide)]
            unfold F_404_287 F_404_318 F_404_325 F_404_326
            simp only [obs]
            rw [show (sm_wI (sm_wI (sm_wI g 67 73 (g.1 67 66)) 67 69 (I3 0)) 67 70 (I3 rk)).1 67 60 = I3 0 from s2, if_neg (show ¬ (2 : Int32) ≤ (sm_wI (sm_wI (sm_wI (sm_wI g 67 73 (g.1 67 66)) 67 69 (I3 0)) 67 70 (I3 rk)) 67 71 (I3 0)).1 67 69 from n20), if_neg (show ¬ (sm_wI (sm_wI (sm_wI (sm_wI g 67 73 (g.1 67 66)) 67 69 (I3 0)) 67 70 (I3 rk)) 67 71 (I3 0)).1 67 70 = 0 from by show ¬ I3 rk = I3 0; rw [I3_inj (by omega) (by omega)]; omega), if_neg (by decide), if_pos (show (sm_wI (sm_wI (sm_wI (sm_wI g 67 73 (g.1 67 66)) 67 69 (I3 0)) 67 70 (I3 rk)) 67 71 (I3 0)).1 67 60 = 0 from s2)]; rfl
          · have rk0 : rk = 0 := by omega
            subst rk0
            rw [if_neg q]
            unfold F_404_271
            rw [if_pos rfl]
            unfold F_404_287 F_404_318 F_404_325 F_404_326
            simp only [obs]
            rw [if_neg (show ¬ (2 : Int32) ≤ (sm_wI (sm_wI (sm_wI (sm_wI g 67 73 (g.1 67 66)) 67 69 (I3 0)) 67 70 (I3 0)) 67 71 0).1 67 69 from n20), if_pos (show (sm_wI (sm_wI (sm_wI (sm_wI g 67 73 (g.1 67 66)) 67 69 (I3 0)) 67 70 (I3 0)) 67 71 0).1 67 70 = 0 from rfl)]; rfl
        · have q9 := okO_9 s5
          rw [if_pos s1, s2, tag_big (by omega) (by omega)]
          unfold F_404_271
          rw [if_neg (by decide)]
          unfold F_404_287 F_404_318 F_404_326
          simp only [obs]
          rw [show (sm_wI (sm_wI (sm_wI g 67 73 (g.1 67 66)) 67 69 (I3 0)) 67 70 (I3 rk)).1 67 60 = I3 q from s2, if_neg (show ¬ (2 : Int32) ≤ (sm_wI (sm_wI (sm_wI (sm_wI g 67 73 (g.1 67 66)) 67 69 (I3 0)) 67 70 (I3 rk)) 67 71 (I3 q)).1 67 69 from n20), if_neg (show ¬ (sm_wI (sm_wI (sm_wI (sm_wI g 67 73 (g.1 67 66)) 67 69 (I3 0)) 67 70 (I3 rk)) 67 71 (I3 q)).1 67 70 = 0 from by show ¬ I3 rk = I3 0; rw [I3_inj (by omega) (by omega)]; omega), if_neg (by decide), if_neg (show ¬ (sm_wI (sm_wI (sm_wI (sm_wI g 67 73 (g.1 67 66)) 67 69 (I3 0)) 67 70 (I3 rk)) 67 71 (I3 q)).1 67 60 = 0 from by show ¬ g.1 67 60 = I3 0; rw [s2, I3_inj (by omega) (by omega)]; omega)]; rfl
      · show (tag (g.1 67 60) = 0 ∧ I3 rk = 0) ∨ (tag (g.1 67 60) = 0 ∧ I3 0 = 0) ∨ ((∃ q, tag (g.1 67 60) = I3 q ∧ q < 20 + nC g ∧ okO g q (g.2.1 67 61)) ∧ (I3 0 = 0 ∨ I3 0 = 1) ∧ 7 ≤ tn (I3 rk))
        rcases ok with ⟨s1, s2, s3, s4⟩ | ⟨s1, s2, s3⟩ | ⟨s1, q, s2, s3, s4, s5⟩
        · exact Or.inr (Or.inl ⟨by rw [s3, tag_p s1 s2], rfl⟩)
        · exact Or.inr (Or.inl ⟨by rw [s2]; decide, rfl⟩)
        · have q9 := okO_9 s5
          exact Or.inr (Or.inr ⟨⟨q, by rw [s2, tag_big (by omega) (by omega)], s3, s5⟩, Or.inl rfl, by rw [tnI (by omega)]; exact s1⟩)
      · show I3 rk = I3 (tn (I3 rk)); rw [tnI (by omega)]
    · rw [if_neg (by decide), if_pos (by decide), if_neg (by decide), R212, if_neg (by decide), if_pos rfl, show (1 : Int32) = I3 1 from rfl, show (19 : Int32) = I3 19 from rfl, R245 1 19 (by decide) (by decide), if_pos (by decide), C53 _ (by decide)]
      obtain ⟨q, s2, s3, s4, s5⟩ := rr.2.2.2 rfl
      have q9 := okO_9 s5
      refine ⟨_, g.1 67 66, I3 1, I3 19, tag (g.1 67 60), g.2.1 67 61, rfl, ?_, ag1 _, rfl, rfl, hs, rfl, rr.2.1, rr.1, ?_, rfl⟩
      · rw [s2, tag_big (by omega) (by omega)]
        unfold F_404_271
        rw [if_neg (by decide)]
        unfold F_404_287 F_404_318 F_404_326
        simp only [obs]
        rw [show (sm_wI (sm_wI (sm_wI g 67 73 (g.1 67 66)) 67 69 (I3 1)) 67 70 (I3 19)).1 67 60 = I3 q from s2, if_neg (show ¬ (2 : Int32) ≤ (sm_wI (sm_wI (sm_wI (sm_wI g 67 73 (g.1 67 66)) 67 69 (I3 1)) 67 70 (I3 19)) 67 71 (I3 q)).1 67 69 from n21), if_neg (show ¬ (sm_wI (sm_wI (sm_wI (sm_wI g 67 73 (g.1 67 66)) 67 69 (I3 1)) 67 70 (I3 19)) 67 71 (I3 q)).1 67 70 = 0 from n19), if_neg (by decide), if_neg (show ¬ (sm_wI (sm_wI (sm_wI (sm_wI g 67 73 (g.1 67 66)) 67 69 (I3 1)) 67 70 (I3 19)) 67 71 (I3 q)).1 67 60 = 0 from by show ¬ g.1 67 60 = I3 0; rw [s2, I3_inj (by omega) (by omega)]; omega)]; rfl
      · show (tag (g.1 67 60) = 0 ∧ I3 19 = 0) ∨ (tag (g.1 67 60) = 0 ∧ I3 1 = 0) ∨ ((∃ q, tag (g.1 67 60) = I3 q ∧ q < 20 + nC g ∧ okO g q (g.2.1 67 61)) ∧ (I3 1 = 0 ∨ I3 1 = 1) ∧ 7 ≤ tn (I3 19))
        exact Or.inr (Or.inr ⟨⟨q, by rw [s2, tag_big (by omega) (by omega)], s3, s5⟩, Or.inr rfl, by decide⟩)
  · rw [if_neg o1] at c64
    have n0 : ¬ I3 out = (0 : Int32) := I3_ne0 (by omega) o4
    have n1 : ¬ I3 out = (1 : Int32) := I3_ne1 (by omega) o4
    rw [show (sm_wI g 67 73 (g.1 67 66)).1 67 64 = I3 out from c64, if_neg n0, if_neg n0, if_neg n1, R212, if_neg n0, if_neg n1]
    refine ⟨sm_wI (sm_wJ (sm_wI (sm_wI h 49 11 (I3 out)) 49 12 0) 49 9 0) 49 10 0, g.1 67 66, I3 out, 0, 0, 0, ?_, ?_, agr_wI (agr_wJ (ag1 0) (by omega)) (by omega), rfl, rfl, hs, rfl, rfl, rfl, Or.inl ⟨rfl, rfl⟩, rfl⟩
    · unfold F_74_53 F_74_78
      simp only [obs]
      rw [if_neg (show ¬ (sm_wI (sm_wI h 49 11 (I3 out)) 49 12 0).1 49 11 = 0 from n0), if_neg (show ¬ (sm_wI (sm_wI h 49 11 (I3 out)) 49 12 0).1 49 11 = 1 from n1), show F_75 0 0 (sm_wI (sm_wI h 49 11 (I3 out)) 49 12 0) = some (0, sm_wI (sm_wJ (sm_wI (sm_wI h 49 11 (I3 out)) 49 12 0) 49 9 0) 49 10 0) from rfl]; rfl
    · have ge : (2 : Int32) ≤ I3 out := by rw [I3_lit, I3_le (by decide) (by omega)]; omega
      unfold F_404_245 F_404_270 F_404_271
      simp only [obs]
      rw [if_pos (show (2 : Int32) ≤ (sm_wI (sm_wI (sm_wI g 67 73 (g.1 67 66)) 67 69 (I3 out)) 67 70 0).1 67 69 from ge), if_pos trivial]
      unfold F_404_287 F_404_325 F_404_326
      simp only [obs]
      rw [if_pos (show (2 : Int32) ≤ (sm_wI (sm_wI (sm_wI (sm_wI g 67 73 (g.1 67 66)) 67 69 (I3 out)) 67 70 0) 67 71 0).1 67 69 from ge)]; rfl
