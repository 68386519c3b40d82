theorem hrs_wp (g : sm_H) (x : Nat) : hrs (sm_wI g 67 68 0) x = hrs g x := rfl
def waV (g : sm_H) (a k : Nat) : Val := conV g (tn (at0 (hpl g a) k)) (g.2.1 110 k)
def waL (g : sm_H) (a n : Nat) : List Val := (List.range n).map (waV g a)
theorem waL_len (g : sm_H) (a n : Nat) : (waL g a n).length = n := by unfold waL; rw [List.length_map, List.length_range]
theorem waL_s (g : sm_H) (a n : Nat) : waL g a (n + 1) = waL g a n ++ [waV g a n] := by
  unfold waL; rw [List.range_succ, List.map_append]; rfl
theorem atv_wa {g : sm_H} {a n k : Nat} (h : k < n) : atv (waL g a n) k = waV g a k := by
  unfold atv waL
  rw [List.getD_eq_getElem?_getD, List.getElem?_map, List.getElem?_range h]; rfl
theorem plk {h g : sm_H} (K : K1 h g) {a k : Nat} (ha : a < nH g) (hk : k < (hpl g a).length) : ∃ q, at0 (hpl g a) k = I3 q ∧ 0 < q ∧ q < 20 + nC g ∧ tn (at0 (hpl g a) k) = q := by
  have h12 := K.1.2.1
  obtain ⟨q, q1, q2, q3⟩ := kL_h K ha k hk
  exact ⟨q, q1, q2, q3, by rw [q1]; exact tnI (by omega)⟩
theorem C_wait {h g : sm_H} (K : K1 h g) (cPq : ∀ k, k < 10 → h.2.1 66 k = g.2.1 110 k) {a n : Nat} (ha : a < nH g) (hn : (hpl g a).length = n) (ok : ∀ k, k < n → trK g (tn (at0 (hpl g a) k)) (g.2.1 110 k) = 0) (u : Int32) : ∃ h1, Ly h h1 0 (waL g a n) ∧ F_276_98 (I3 a) u (I3 n) h = F_276_146 (I3 a) u h1 := by
  have n10 : n ≤ 10 := by rw [← hn]; exact mn_10 K ha
  have LL : ∀ k, k ≤ n → ∃ h1, F_276_98 (I3 a) u (I3 n) h = lp F_276_101B (1000000 - k) (I3 a, u, I3 n, I3 k, h1) ∧ Ly h h1 0 (waL g a k) := by
    intro k
    induction k with
    | zero => intro _; exact ⟨h, rfl, Ly_0 h 0⟩
    | succ k ih =>
      intro hk
      obtain ⟨h1, e1, L1⟩ := ih (by omega)
      have K' : K1 h1 g := K1_mach K (agr_mono (fun b j z => by unfold SL at z; unfold SM; omega) L1.a) L1.r
      obtain ⟨q, q1, q2, q3, q4⟩ := plk K ha (show k < (hpl g a).length by omega)
      have okK' := trK_0 K' (k := q) q2 (c := g.2.1 110 k) (by have := ok k (by omega); rw [q4] at this; exact this)
      obtain ⟨c1, c2, c3, -⟩ := constV K' q3 okK'
      obtain ⟨h2, a1, L2⟩ := C_lay1 L1 (by omega) (by rw [waL_len]; omega) (waV g a k)
      rw [waL_len] at a1
      refine ⟨h2, ?_, by rw [waL_s]; exact L2⟩
      have wv : waV g a k = conV g q (g.2.1 110 k) := by unfold waV; rw [q4]
      rw [e1, lp_s (s' := (I3 a, u, I3 n, I3 (k + 1), h2)) (by omega) ?_]
      · rw [show 1000000 - k - 1 = 1000000 - (k + 1) by omega]
      · unfold F_276_101B
        rw [if_neg (by rw [I3_le (by omega) (by omega)]; omega), if_neg (by rw [I3_lit, I3_le (by decide) (by omega)]; omega), C_pc K' ha (by omega), q1]; simp only [obs]
        rw [ldJ_I (by omega) (by decide), L1.a.2.1 66 k (by unfold SL; omega), cPq k (by omega)]; simp only [obs]
        rw [show F_73 (I3 k) (I3 q) (g.2.1 110 k) h1 = some h2 by
          show F_73_0 (I3 k) (I3 q) (g.2.1 110 k) h1 = _
          unfold F_73_0
          rw [c2]; simp only [obs]
          rw [c3]; simp only [obs]
          rw [← wv, show F_79 0 (I3 k) (waV g a k).2 (tag (waV g a k).1) h1 = some h2 from a1]; simp only [obs]]; simp only [obs]
        rw [show I3 k + 1 = I3 (k + 1) from I3_add k 1]
  obtain ⟨h1, e1, L1⟩ := LL n (Nat.le_refl _)
  refine ⟨h1, L1, ?_⟩
  rw [e1, lp_oK (by omega)]
  unfold F_276_101B
  rw [if_pos (by rw [I3_le (by omega) (by omega)]; omega)]
  cases F_276_146 (I3 a) u h1 <;> rfl
theorem R_wait {h g g0 : sm_H} (K : K1 h g) (a0 : agr SRm g g0) (K0 : K1 h g0) (e110 : ∀ k, g0.2.1 110 k = g.2.1 110 k) (c59 : g0.1 67 59 = I3 0) {a n : Nat} (ha : a < nH g) (hn : (hpl g a).length = n) (ok : ∀ k, k < n → trK g (tn (at0 (hpl g a) k)) (g.2.1 110 k) = 0) : ∃ g1, Ph g0 g1 0 (waL g a n) ∧ F_404_126 (I3 a) (I3 n) 0 g0 = lp F_404_126B (1000000 - n) (I3 a, I3 n, I3 n, g1) := by
  have n10 : n ≤ 10 := by rw [← hn]; exact mn_10 K ha
  have LL : ∀ k, k ≤ n → ∃ g1, F_404_126 (I3 a) (I3 n) 0 g0 = lp F_404_126B (1000000 - k) (I3 a, I3 n, I3 k, g1) ∧ Ph g0 g1 0 (waL g a k) := by
    intro k
    induction k with
    | zero => intro _; exact ⟨g0, rfl, Ph_0 c59⟩
    | succ k ih =>
      intro hk
      obtain ⟨g1, e1, P1⟩ := ih (by omega)
      have aN : agr SN g0 g1 := agr_mono (fun b j z => by unfold SP at z; unfold SN; omega) P1.a
      have K' : K1 h g1 := K1_N K0 aN
      have am : agr SRm g g1 := agr_trans a0 (agr_mono (fun _ _ z => Or.inl z) aN)
      obtain ⟨q, q1, q2, q3, q4⟩ := plk K ha (show k < (hpl g a).length by omega)
      have okK' := okK_m am (trK_0 K (k := q) q2 (c := g.2.1 110 k) (by have := ok k (by omega); rw [q4] at this; exact this))
      obtain ⟨-, -, -, g2, c4, c5, c6, c7⟩ := constV K' (by rw [m_nC am]; exact q3) okK'
      rw [conV_m am] at c6 c7
      have wv : waV g a k = conV g q (g.2.1 110 k) := by unfold waV; rw [q4]
      obtain ⟨g3, b1, P3⟩ := R_push (Ph_48 P1 c5) (by rw [waL_len]; omega) (waV g a k)
      refine ⟨g3, ?_, by rw [waL_s]; exact P3⟩
      have ha' : a < nH g1 := by rw [m_nH am]; exact ha
      have pc : F_306 (I3 a) (I3 k) g1 = some (I3 q, g1) := by
        rw [R_pc K' ha' (by rw [m_hpl am]; omega), m_hpl am, q1]
      rw [e1, lp_s (s' := (I3 a, I3 n, I3 (k + 1), g3)) (by omega) ?_]
      · rw [show 1000000 - k - 1 = 1000000 - (k + 1) by omega]
      · unfold F_404_126B
        rw [if_neg (by rw [I3_le (by omega) (by omega)]; omega), pc]; simp only [obs]
        rw [ldJ_I (by omega) (by decide), P1.a.2.1 110 k (by unfold SP; omega), e110]; simp only [obs]
        rw [c4]; simp only [obs]
        rw [c6, c7, ← wv, b1]; simp only [obs]
        rw [show I3 k + 1 = I3 (k + 1) from I3_add k 1]
  obtain ⟨g1, e1, P1⟩ := LL n (Nat.le_refl _)
  exact ⟨g1, P1, e1⟩
theorem tag_big {q : Nat} (h1 : 7 ≤ q) (h2 : q < 2147483648) : tag (I3 q) = I3 q := tag_I (Or.inl h1) h2
theorem okO_9 {g : sm_H} {q : Nat} {n : Int64} (o : okO g q n) : 9 ≤ q := by
  rcases o with ⟨h, -⟩ | ⟨h, -⟩ | ⟨h, -⟩ | ⟨h, -⟩ <;> omega
theorem told_run {h g : sm_H} (K : K1 h g) {a out : Nat} (ha : a < nH g) (o4 : out ≤ 4) (r : out ≤ 1 → res h g out (tn (hrs g a))) (c62 : out ≤ 1 → g.1 67 62 = I3 out) (c64 : g.1 67 64 = if out ≤ 1 then 0 else I3 out) (hs : h.1 49 8 = g.1 67 66) :
    ∃ hF a' b' c' d' e', (if (sm_wI h 49 11 (I3 out)).1 49 11 = 0 then ((F_44 (I3 a) (sm_wI h 49 11 (I3 out))).bind fun q7 => F_74_53 q7.1 q7.2) else (if (sm_wI h 49 11 (I3 out)).1 49 11 = 1 then (F_74_53 19 (sm_wI h 49 11 (I3 out))) else (F_74_53 0 (sm_wI h 49 11 (I3 out))))) = some (I3 out, hF) ∧
      (if (sm_wI g 67 73 (g.1 67 66)).1 67 64 = 0 then (if (sm_wI g 67 73 (g.1 67 66)).1 67 62 = 0 then F_404_212 (I3 a) 0 (sm_wI g 67 73 (g.1 67 66)) else F_404_212 (I3 a) 1 (sm_wI g 67 73 (g.1 67 66))) else F_404_212 (I3 a) ((sm_wI g 67 73 (g.1 67 66)).1 67 64) (sm_wI g 67 73 (g.1 67 66))) = some (I3 out, sm_wJ (sm_wI (sm_wI (sm_wI (sm_wI g 67 73 a') 67 69 b') 67 70 c') 67 71 d') 67 72 e') ∧
      agr (fun b j => b = 49 ∧ 9 ≤ j) h hF ∧ hF.2.2 = h.2.2 ∧ cU hF (sm_wJ (sm_wI (sm_wI (sm_wI (sm_wI g 67 73 a') 67 69 b') 67 70 c') 67 71 d') 67 72 e') := by
  have h12 := K.1.2.1
  have w500 : nH g ≤ 500 := K.2.2.2.2.1.1.2
  obtain ⟨rk, k1, k2⟩ := rs_k K ha
  have tk : tn (hrs g a) = rk := by rw [k1]; exact tnI (by omega)
  have W : ∀ x : Int32, (sm_wI h 49 11 x).1 49 11 = x := fun _ => rfl
  rw [W]
  have C53 : ∀ z : Int32, out ≤ 1 → F_74_53 z (sm_wI h 49 11 (I3 out)) = some (I3 out, sm_wI (sm_wI h 49 11 (I3 out)) 49 12 z) := fun z o1 => by
    unfold F_74_53 F_74_78
    simp only [obs]
    rw [show (sm_wI (sm_wI h 49 11 (I3 out)) 49 12 z).1 49 11 = I3 out from rfl]
    rcases (show out = 0 ∨ out = 1 by omega) with rfl | rfl
    · rw [if_pos (by decide)]
    · rw [if_neg (by decide), if_pos (by decide)]
  have ag1 : ∀ z : Int32, agr (fun b j => b = 49 ∧ 9 ≤ j) h (sm_wI (sm_wI h 49 11 (I3 out)) 49 12 z) := fun z => agr_wI (agr_wI agr_rfl (by omega)) (by omega)
  have R212 : ∀ z : Int32, F_404_212 (I3 a) z (sm_wI g 67 73 (g.1 67 66)) = (if z = 0 then F_404_245 (I3 rk) (sm_wI (sm_wI g 67 73 (g.1 67 66)) 67 69 z) else if z = 1 then F_404_245 19 (sm_wI (sm_wI g 67 73 (g.1 67 66)) 67 69 z) else F_404_245 0 (sm_wI (sm_wI g 67 73 (g.1 67 66)) 67 69 z)) := fun z => by
    have rr : F_307 (I3 a) (sm_wI (sm_wI g 67 73 (g.1 67 66)) 67 69 z) = some (I3 rk, sm_wI (sm_wI g 67 73 (g.1 67 66)) 67 69 z) := by
      have K' : K1 h (sm_wI (sm_wI g 67 73 (g.1 67 66)) 67 69 z) := by
        obtain ⟨wK, cK, wT, cT, wH, cH, wM, cM, cG, cO, cV, wX, cX, cXh, wF⟩ := K
        exact ⟨wK, cK, wT, cT, wH, cH, wM, cM, cG, cO, cV, wX, cX, cXh, wF⟩
      have := R_rs K' (p := a) ha
      rw [show hrs (sm_wI (sm_wI g 67 73 (g.1 67 66)) 67 69 z) a = hrs g a from rfl, k1] at this; exact this
    unfold F_404_212
    simp only [obs]
    rw [rr]; simp only [obs]
    rfl
  have R245 : ∀ (z w : Nat) (z2 : z ≤ 1) (w2 : w < 1000), F_404_245 (I3 w) (sm_wI (sm_wI g 67 73 (g.1 67 66)) 67 69 (I3 z)) = (if 7 ≤ w then F_404_271 1 (sm_wI (sm_wI (sm_wI g 67 73 (g.1 67 66)) 67 69 (I3 z)) 67 70 (I3 w)) else F_404_271 0 (sm_wI (sm_wI (sm_wI g 67 73 (g.1 67 66)) 67 69 (I3 z)) 67 70 (I3 w))) := fun z w z2 w2 => by
    unfold F_404_245 F_404_270
    simp only [obs]
    rw [show (sm_wI (sm_wI (sm_wI g 67 73 (g.1 67 66)) 67 69 (I3 z)) 67 70 (I3 w)).1 67 69 = I3 z from rfl, show (sm_wI (sm_wI (sm_wI g 67 73 (g.1 67 66)) 67 69 (I3 z)) 67 70 (I3 w)).1 67 70 = I3 w from rfl, if_neg (by rw [I3_lit, I3_le (by decide) (by omega)]; omega), R_ref (by omega)]; simp only [obs]
    by_cases q : 7 ≤ w
    · rw [if_pos q, decide_eq_true q, if_neg (by decide)]
    · rw [if_neg q, decide_eq_false q, if_pos (by decide)]
  have n20 : ¬ (2 : Int32) ≤ I3 0 := by decide
  have n21 : ¬ (2 : Int32) ≤ I3 1 := by decide
  have n19 : ¬ I3 19 = (0 : Int32) := by decide
  by_cases o1 : out ≤ 1
  · have rr := r o1
    rw [if_pos o1] at c64
    rw [show (sm_wI g 67 73 (g.1 67 66)).1 67 64 = 0 from c64, if_pos rfl, show (sm_wI g 67 73 (g.1 67 66)).1 67 62 = I3 out from c62 o1]
    rcases (show out = 0 ∨ out = 1 by omega) with rfl | rfl
    · rw [if_pos (by decide), if_pos (by decide), R212, if_pos rfl, show (0 : Int32) = I3 0 from rfl, R245 0 rk (by decide) (by omega)]
      have CF : F_44 (I3 a) (sm_wI h 49 11 (I3 0)) = some (I3 rk, sm_wI h 49 11 (I3 0)) := by
        have K' : K1 (sm_wI h 49 11 (I3 0)) g := K1_mach K (agr_wI agr_rfl (by unfold SM; omega)) rfl
        have := C_rs K' ha
        rw [k1] at this; exact this
      rw [CF]; simp only [obs]
      rw [C53 _ (by decide)]
      have ok := rr.2.2.1 rfl
      rw [tk] at ok
      refine ⟨_, g.1 67 66, I3 0, I3 rk, tag (g.1 67 60), g.2.1 67 61, rfl, ?_, ag1 _, rfl, rfl, hs, rfl, rr.2.1, rr.1, ?_, ?_⟩
      · rcases ok with ⟨s1, s2, s3, s4⟩ | ⟨s1, s2, s3⟩ | ⟨s1, q, s2, s3, s4, s5⟩
        · rw [if_neg (by omega), s3, tag_p s1 s2]
          unfold F_404_271
          rw [if_pos rfl]
          unfold F_404_287 F_404_318 F_404_326
          simp only [obs]
          rw [if_neg (show ¬ (2 : Int32) ≤ (sm_wI (sm_wI (sm_wI (sm_wI g 67 73 (g.1 67 66)) 67 69 (I3 0)) 67 70 (I3 rk)) 67 71 0).1 67 69 from n20), if_neg (show ¬ (sm_wI (sm_wI (sm_wI (sm_wI g 67 73 (g.1 67 66)) 67 69 (I3 0)) 67 70 (I3 rk)) 67 71 0).1 67 70 = 0 from by show ¬ I3 rk = I3 0; rw [I3_inj (by omega) (by omega)]; omega), if_pos trivial]; rfl
        · have nz : g.2.1 67 61 = 0 := s3
          rw [s2, nz]
          by_cases q : 7 ≤ rk
          · rw [if_pos q]
            unfold F_404_271
            rw [if_neg (by decide)]
            unfold F_404_287 F_404_318 F_404_325 F_404_326
            simp only [obs]
            rw [show (sm_wI (sm_wI (sm_wI g 67 73 (g.1 67 66)) 67 69 (I3 0)) 67 70 (I3 rk)).1 67 60 = I3 0 from s2, if_neg (show ¬ (2 : Int32) ≤ (sm_wI (sm_wI (sm_wI (sm_wI g 67 73 (g.1 67 66)) 67 69 (I3 0)) 67 70 (I3 rk)) 67 71 (I3 0)).1 67 69 from n20), if_neg (show ¬ (sm_wI (sm_wI (sm_wI (sm_wI g 67 73 (g.1 67 66)) 67 69 (I3 0)) 67 70 (I3 rk)) 67 71 (I3 0)).1 67 70 = 0 from by show ¬ I3 rk = I3 0; rw [I3_inj (by omega) (by omega)]; omega), if_neg (by decide), if_pos (show (sm_wI (sm_wI (sm_wI (sm_wI g 67 73 (g.1 67 66)) 67 69 (I3 0)) 67 70 (I3 rk)) 67 71 (I3 0)).1 67 60 = 0 from s2)]; rfl
          · have rk0 : rk = 0 := by omega
            subst rk0
            rw [if_neg q]
            unfold F_404_271
            rw [if_pos rfl]
            unfold F_404_287 F_404_318 F_404_325 F_404_326
            simp only [obs]
            rw [if_neg (show ¬ (2 : Int32) ≤ (sm_wI (sm_wI (sm_wI (sm_wI g 67 73 (g.1 67 66)) 67 69 (I3 0)) 67 70 (I3 0)) 67 71 0).1 67 69 from n20), if_pos (show (sm_wI (sm_wI (sm_wI (sm_wI g 67 73 (g.1 67 66)) 67 69 (I3 0)) 67 70 (I3 0)) 67 71 0).1 67 70 = 0 from rfl)]; rfl
        · have q9 := okO_9 s5
          rw [if_pos s1, s2, tag_big (by omega) (by omega)]
          unfold F_404_271
          rw [if_neg (by decide)]
          unfold F_404_287 F_404_318 F_404_326
          simp only [obs]
          rw [show (sm_wI (sm_wI (sm_wI g 67 73 (g.1 67 66)) 67 69 (I3 0)) 67 70 (I3 rk)).1 67 60 = I3 q from s2, if_neg (show ¬ (2 : Int32) ≤ (sm_wI (sm_wI (sm_wI (sm_wI g 67 73 (g.1 67 66)) 67 69 (I3 0)) 67 70 (I3 rk)) 67 71 (I3 q)).1 67 69 from n20), if_neg (show ¬ (sm_wI (sm_wI (sm_wI (sm_wI g 67 73 (g.1 67 66)) 67 69 (I3 0)) 67 70 (I3 rk)) 67 71 (I3 q)).1 67 70 = 0 from by show ¬ I3 rk = I3 0; rw [I3_inj (by omega) (by omega)]; omega), if_neg (by decide), if_neg (show ¬ (sm_wI (sm_wI (sm_wI (sm_wI g 67 73 (g.1 67 66)) 67 69 (I3 0)) 67 70 (I3 rk)) 67 71 (I3 q)).1 67 60 = 0 from by show ¬ g.1 67 60 = I3 0; rw [s2, I3_inj (by omega) (by omega)]; omega)]; rfl
      · show (tag (g.1 67 60) = 0 ∧ I3 rk = 0) ∨ (tag (g.1 67 60) = 0 ∧ I3 0 = 0) ∨ ((∃ q, tag (g.1 67 60) = I3 q ∧ q < 20 + nC g ∧ okO g q (g.2.1 67 61)) ∧ (I3 0 = 0 ∨ I3 0 = 1) ∧ 7 ≤ tn (I3 rk))
        rcases ok with ⟨s1, s2, s3, s4⟩ | ⟨s1, s2, s3⟩ | ⟨s1, q, s2, s3, s4, s5⟩
        · exact Or.inr (Or.inl ⟨by rw [s3, tag_p s1 s2], rfl⟩)
        · exact Or.inr (Or.inl ⟨by rw [s2]; decide, rfl⟩)
        · have q9 := okO_9 s5
          exact Or.inr (Or.inr ⟨⟨q, by rw [s2, tag_big (by omega) (by omega)], s3, s5⟩, Or.inl rfl, by rw [tnI (by omega)]; exact s1⟩)
      · show I3 rk = I3 (tn (I3 rk)); rw [tnI (by omega)]
    · rw [if_neg (by decide), if_pos (by decide), if_neg (by decide), R212, if_neg (by decide), if_pos rfl, show (1 : Int32) = I3 1 from rfl, show (19 : Int32) = I3 19 from rfl, R245 1 19 (by decide) (by decide), if_pos (by decide), C53 _ (by decide)]
      obtain ⟨q, s2, s3, s4, s5⟩ := rr.2.2.2 rfl
      have q9 := okO_9 s5
      refine ⟨_, g.1 67 66, I3 1, I3 19, tag (g.1 67 60), g.2.1 67 61, rfl, ?_, ag1 _, rfl, rfl, hs, rfl, rr.2.1, rr.1, ?_, rfl⟩
      · rw [s2, tag_big (by omega) (by omega)]
        unfold F_404_271
        rw [if_neg (by decide)]
        unfold F_404_287 F_404_318 F_404_326
        simp only [obs]
        rw [show (sm_wI (sm_wI (sm_wI g 67 73 (g.1 67 66)) 67 69 (I3 1)) 67 70 (I3 19)).1 67 60 = I3 q from s2, if_neg (show ¬ (2 : Int32) ≤ (sm_wI (sm_wI (sm_wI (sm_wI g 67 73 (g.1 67 66)) 67 69 (I3 1)) 67 70 (I3 19)) 67 71 (I3 q)).1 67 69 from n21), if_neg (show ¬ (sm_wI (sm_wI (sm_wI (sm_wI g 67 73 (g.1 67 66)) 67 69 (I3 1)) 67 70 (I3 19)) 67 71 (I3 q)).1 67 70 = 0 from n19), if_neg (by decide), if_neg (show ¬ (sm_wI (sm_wI (sm_wI (sm_wI g 67 73 (g.1 67 66)) 67 69 (I3 1)) 67 70 (I3 19)) 67 71 (I3 q)).1 67 60 = 0 from by show ¬ g.1 67 60 = I3 0; rw [s2, I3_inj (by omega) (by omega)]; omega)]; rfl
      · show (tag (g.1 67 60) = 0 ∧ I3 19 = 0) ∨ (tag (g.1 67 60) = 0 ∧ I3 1 = 0) ∨ ((∃ q, tag (g.1 67 60) = I3 q ∧ q < 20 + nC g ∧ okO g q (g.2.1 67 61)) ∧ (I3 1 = 0 ∨ I3 1 = 1) ∧ 7 ≤ tn (I3 19))
        exact Or.inr (Or.inr ⟨⟨q, by rw [s2, tag_big (by omega) (by omega)], s3, s5⟩, Or.inr rfl, by decide⟩)
  · rw [if_neg o1] at c64
    have n0 : ¬ I3 out = (0 : Int32) := I3_ne0 (by omega) o4
    have n1 : ¬ I3 out = (1 : Int32) := I3_ne1 (by omega) o4
    rw [show (sm_wI g 67 73 (g.1 67 66)).1 67 64 = I3 out from c64, if_neg n0, if_neg n0, if_neg n1, R212, if_neg n0, if_neg n1]
    refine ⟨sm_wI (sm_wJ (sm_wI (sm_wI h 49 11 (I3 out)) 49 12 0) 49 9 0) 49 10 0, g.1 67 66, I3 out, 0, 0, 0, ?_, ?_, agr_wI (agr_wJ (ag1 0) (by omega)) (by omega), rfl, rfl, hs, rfl, rfl, rfl, Or.inl ⟨rfl, rfl⟩, rfl⟩
    · unfold F_74_53 F_74_78
      simp only [obs]
      rw [if_neg (show ¬ (sm_wI (sm_wI h 49 11 (I3 out)) 49 12 0).1 49 11 = 0 from n0), if_neg (show ¬ (sm_wI (sm_wI h 49 11 (I3 out)) 49 12 0).1 49 11 = 1 from n1), show F_75 0 0 (sm_wI (sm_wI h 49 11 (I3 out)) 49 12 0) = some (0, sm_wI (sm_wJ (sm_wI (sm_wI h 49 11 (I3 out)) 49 12 0) 49 9 0) 49 10 0) from rfl]; rfl
    · have ge : (2 : Int32) ≤ I3 out := by rw [I3_lit, I3_le (by decide) (by omega)]; omega
      unfold F_404_245 F_404_270 F_404_271
      simp only [obs]
      rw [if_pos (show (2 : Int32) ≤ (sm_wI (sm_wI (sm_wI g 67 73 (g.1 67 66)) 67 69 (I3 out)) 67 70 0).1 67 69 from ge), if_pos trivial]
      unfold F_404_287 F_404_325 F_404_326
      simp only [obs]
      rw [if_pos (show (2 : Int32) ≤ (sm_wI (sm_wI (sm_wI (sm_wI g 67 73 (g.1 67 66)) 67 69 (I3 out)) 67 70 0) 67 71 0).1 67 69 from ge)]; rfl
theorem lp_379 {c : Nat} {u g1 : sm_H} (L : Lp c u g1) (hc : c < 1000000) (e : F_379_0B g1 = some (.inr g1)) : F_379 u = some g1 := by
  show lp F_379_0B 1000000 u = _
  rw [show 1000000 = (1000000 - c) + c by omega, L]
  exact lp_e (by omega) e
theorem ite_map {α β : Type} {A B : Prop} [Decidable A] [Decidable B] {x y z : Option α} (f : α → β) : (if A then (if B then x.map f else y.map f) else z.map f) = (if A then (if B then x else y) else z).map f := by
  by_cases a : A
  · by_cases b : B
    · rw [if_pos a, if_pos b, if_pos a, if_pos b]
    · rw [if_pos a, if_neg b, if_pos a, if_neg b]
  · rw [if_neg a, if_neg a]
theorem run_body {h g : sm_H} (I : I1 (sm_wI h 0 11 0) (sm_wI g 67 68 0)) (cPq : ∀ k, k < 10 → h.2.1 66 k = g.2.1 110 k) {a n fu : Nat} (ha : a < nH g) (hn : (hpl g a).length = n) (f1 : 1 ≤ fu) (f2 : fu ≤ 10000) (ok : ∀ k, k < n → trK g (tn (at0 (hpl g a) k)) (g.2.1 110 k) = 0) :
    ∃ v h1 g1, F_276_98 (I3 a) (I3 fu) (I3 n) (sm_wI h 0 11 0) = some (v, h1) ∧ F_404_86 (I3 a) (I3 fu) (I3 n) 1 (sm_wI g 67 68 0) = some (v, g1) ∧ I1 h1 g1 ∧ kR h h1 ∧ kC g g1 := by
  have K := (I1_K.mp I).1
  have n10 : n ≤ 10 := by rw [← hn]; exact mn_10 K ha
  have Kb : K1 (sm_wI h 0 11 0) (sm_wI (sm_wI g 67 68 0) 67 65 (I3 fu)) := K1_g K (agr_wI agr_rfl rfl)
  obtain ⟨h1, L1, C1⟩ := C_wait Kb (show ∀ k, k < 10 → (sm_wI h 0 11 0).2.1 66 k = (sm_wI (sm_wI g 67 68 0) 67 65 (I3 fu)).2.1 110 k from cPq) (show a < nH (sm_wI (sm_wI g 67 68 0) 67 65 (I3 fu)) from ha) (show (hpl (sm_wI (sm_wI g 67 68 0) 67 65 (I3 fu)) a).length = n from hn) (show ∀ k, k < n → trK (sm_wI (sm_wI g 67 68 0) 67 65 (I3 fu)) (tn (at0 (hpl (sm_wI (sm_wI g 67 68 0) 67 65 (I3 fu)) a) k)) ((sm_wI (sm_wI g 67 68 0) 67 65 (I3 fu)).2.1 110 k) = 0 from ok) (I3 fu)
  have hab : a < nH (sm_wI (sm_wI g 67 68 0) 67 65 (I3 fu)) := ha
  have hnb : (hpl (sm_wI (sm_wI g 67 68 0) 67 65 (I3 fu)) a).length = n := hn
  have okb : ∀ k, k < n → trK (sm_wI (sm_wI g 67 68 0) 67 65 (I3 fu)) (tn (at0 (hpl (sm_wI (sm_wI g 67 68 0) 67 65 (I3 fu)) a) k)) ((sm_wI (sm_wI g 67 68 0) 67 65 (I3 fu)).2.1 110 k) = 0 := ok
  have ab : agr SRm (sm_wI (sm_wI g 67 68 0) 67 65 (I3 fu)) (sm_wI (sm_wI (sm_wI (sm_wI (sm_wI (sm_wI (sm_wI g 67 68 0) 67 56 0) 67 59 0) 67 64 0) 67 63 0) 67 65 (I3 fu)) 67 66 0) := by
    refine ⟨fun b j nz => ?_, fun _ _ _ => rfl, fun _ _ _ => rfl, rfl⟩
    have n1 : ¬ (b = 67 ∧ j = 66) := by unfold SRm SN at nz; omega
    have n2 : ¬ (b = 67 ∧ j = 63) := by unfold SRm SN at nz; omega
    have n3 : ¬ (b = 67 ∧ j = 64) := by unfold SRm SN at nz; omega
    have n4 : ¬ (b = 67 ∧ j = 59) := by unfold SRm SN at nz; omega
    have n5 : ¬ (b = 67 ∧ j = 56) := by unfold SRm SN at nz; omega
    simp only [wI_rd, n1, n2, n3, n4, n5, if_false]
  have aG : agr (fun b _ => 67 ≤ b ∧ b < 131) g (sm_wI (sm_wI (sm_wI (sm_wI (sm_wI (sm_wI (sm_wI g 67 68 0) 67 56 0) 67 59 0) 67 64 0) 67 63 0) 67 65 (I3 fu)) 67 66 0) := agr_wI (agr_wI (agr_wI (agr_wI (agr_wI (agr_wI (agr_wI agr_rfl (by omega)) (by omega)) (by omega)) (by omega)) (by omega)) (by omega)) (by omega)
  have q56 : (sm_wI (sm_wI (sm_wI (sm_wI (sm_wI (sm_wI (sm_wI g 67 68 0) 67 56 0) 67 59 0) 67 64 0) 67 63 0) 67 65 (I3 fu)) 67 66 0).1 67 56 = I3 0 := rfl
  have q59 : (sm_wI (sm_wI (sm_wI (sm_wI (sm_wI (sm_wI (sm_wI g 67 68 0) 67 56 0) 67 59 0) 67 64 0) 67 63 0) 67 65 (I3 fu)) 67 66 0).1 67 59 = I3 0 := rfl
  have q64 : (sm_wI (sm_wI (sm_wI (sm_wI (sm_wI (sm_wI (sm_wI g 67 68 0) 67 56 0) 67 59 0) 67 64 0) 67 63 0) 67 65 (I3 fu)) 67 66 0).1 67 64 = 0 := rfl
  have q65 : (sm_wI (sm_wI (sm_wI (sm_wI (sm_wI (sm_wI (sm_wI g 67 68 0) 67 56 0) 67 59 0) 67 64 0) 67 63 0) 67 65 (I3 fu)) 67 66 0).1 67 65 = I3 fu := rfl
  have q66 : (sm_wI (sm_wI (sm_wI (sm_wI (sm_wI (sm_wI (sm_wI g 67 68 0) 67 56 0) 67 59 0) 67 64 0) 67 63 0) 67 65 (I3 fu)) 67 66 0).1 67 66 = I3 0 := rfl
  have R86 : F_404_86 (I3 a) (I3 fu) (I3 n) 1 (sm_wI g 67 68 0) = F_404_126 (I3 a) (I3 n) 0 (sm_wI (sm_wI (sm_wI (sm_wI (sm_wI (sm_wI (sm_wI g 67 68 0) 67 56 0) 67 59 0) 67 64 0) 67 63 0) 67 65 (I3 fu)) 67 66 0) := by
    unfold F_404_86
    rw [if_neg (by decide)]
    simp only [obs]
  have Eb : ∀ g4 : sm_H, agr SRm (sm_wI (sm_wI g 67 68 0) 67 65 (I3 fu)) g4 → ∀ (a' b' c' d' : Int32) (e' : Int64), ext (sm_wI g 67 68 0) (sm_wJ (sm_wI (sm_wI (sm_wI (sm_wI g4 67 73 a') 67 69 b') 67 70 c') 67 71 d') 67 72 e') := fun g4 am a' b' c' d' e' => by
    obtain ⟨c1, c2, c3, c4, c5, c6, c7, c8, c9, c10, c11⟩ := ext_m am
    exact ⟨c1, c2, c3, c4, c5, c6, c7, c8, c9, c10, c11⟩
  have Gb : ∀ g4 : sm_H, grow (sm_wI (sm_wI g 67 68 0) 67 65 (I3 fu)) g4 → ∀ (a' b' c' d' : Int32) (e' : Int64), grow (sm_wI g 67 68 0) (sm_wJ (sm_wI (sm_wI (sm_wI (sm_wI g4 67 73 a') 67 69 b') 67 70 c') 67 71 d') 67 72 e') := fun g4 am a' b' c' d' e' => by
    obtain ⟨c1, c2, c3, c4, c5⟩ := am
    exact ⟨c1, c2, c3, c4, c5⟩
  have bp : ∀ b j, ¬ (b = 67 ∧ j = 65) → (sm_wI (sm_wI g 67 68 0) 67 65 (I3 fu)).1 b j = (sm_wI g 67 68 0).1 b j := fun b j nz => by rw [wI_rd, if_neg nz]
  have bp2 : (sm_wI (sm_wI g 67 68 0) 67 65 (I3 fu)).2 = (sm_wI g 67 68 0).2 := rfl
  have Kq : K1 h1 (sm_wI (sm_wI (sm_wI (sm_wI (sm_wI (sm_wI (sm_wI g 67 68 0) 67 56 0) 67 59 0) 67 64 0) 67 63 0) 67 65 (I3 fu)) 67 66 0) := by
    refine K1_g (K1_mach K (agr_mono (fun b j z => by unfold SL at z; unfold SM; omega) L1.a) L1.r) ?_
    exact agr_wI (agr_wI (agr_wI (agr_wI (agr_wI (agr_wI agr_rfl rfl) rfl) rfl) rfl) rfl) rfl
  have Kb1 : K1 h1 (sm_wI (sm_wI g 67 68 0) 67 65 (I3 fu)) := K1_mach Kb (agr_mono (fun b j z => by unfold SL at z; unfold SM; omega) L1.a) L1.r
  have e110 : ∀ k, (sm_wI (sm_wI (sm_wI (sm_wI (sm_wI (sm_wI (sm_wI g 67 68 0) 67 56 0) 67 59 0) 67 64 0) 67 63 0) 67 65 (I3 fu)) 67 66 0).2.1 110 k = (sm_wI (sm_wI g 67 68 0) 67 65 (I3 fu)).2.1 110 k := fun _ => rfl
  have Gq : grow (sm_wI (sm_wI g 67 68 0) 67 65 (I3 fu)) (sm_wI (sm_wI (sm_wI (sm_wI (sm_wI (sm_wI (sm_wI g 67 68 0) 67 56 0) 67 59 0) 67 64 0) 67 63 0) 67 65 (I3 fu)) 67 66 0) := by
    obtain ⟨c1, c2, c3, c4, c5⟩ := grow_rfl (g := sm_wI (sm_wI g 67 68 0) 67 65 (I3 fu))
    exact ⟨c1, c2, c3, c4, c5⟩
  generalize sm_wI (sm_wI (sm_wI (sm_wI (sm_wI (sm_wI (sm_wI g 67 68 0) 67 56 0) 67 59 0) 67 64 0) 67 63 0) 67 65 (I3 fu)) 67 66 0 = gq at *
  generalize sm_wI (sm_wI g 67 68 0) 67 65 (I3 fu) = gb at *
  obtain ⟨g1, P1, R1⟩ := R_wait Kb1 ab Kq e110 q59 hab hnb okb
  have aN1 : agr SN gq g1 := agr_mono (fun b j z => by unfold SP at z; unfold SN; omega) P1.a
  have am : agr SRm gb g1 := agr_trans ab (agr_mono (fun _ _ z => Or.inl z) aN1)
  have ah3 : agr SM h1 (sm_wI (sm_wI h1 49 7 (I3 fu)) 49 8 0) := agr_wI (agr_wI agr_rfl (by unfold SM; omega)) (by unfold SM; omega)
  have K3 : K1 (sm_wI (sm_wI h1 49 7 (I3 fu)) 49 8 0) g1 := K1_mach (K1_N Kq aN1) ah3 rfl
  have tv : tyV g1 (hpl g1 a) (waL gb a n) := by
    rw [m_hpl am]
    refine ⟨by rw [waL_len, hnb], fun k hk => ?_⟩
    rw [waL_len] at hk
    rw [atv_wa hk]
    obtain ⟨q, q1, q2, q3, q4⟩ := plk Kb1 hab (show k < (hpl gb a).length by omega)
    have okK' := okK_m am (trK_0 Kb1 (k := q) q2 (c := gb.2.1 110 k) (by have := okb k hk; rw [q4] at this; exact this))
    have z := (constV K3 (by rw [m_nC am]; exact q3) okK').1
    rw [conV_m am] at z
    unfold waV
    rw [q4]; exact z
  obtain ⟨u, e1, out, h4, g4, c, s1, o1, o2, o3, o4, o5, o6, o7, o8, o9⟩ := call_ok 101 0 (by omega) (by omega) (sm_wI (sm_wI h1 49 7 (I3 fu)) 49 8 0) g1 fu 0 a 0 (waL gb a n) ⟨K3, rfl, (P1.a.1 67 65 (by unfold SP; omega)).trans q65, rfl, (P1.a.1 67 66 (by unfold SP; omega)).trans q66, by omega, f2⟩ (by rw [m_nH am]; exact hab) ((P1.a.1 67 56 (by unfold SP; omega)).trans q56) P1.n ((P1.a.1 67 64 (by unfold SP; omega)).trans q64) (Nat.le_refl _) tv (show frm (sm_wI (sm_wI h1 49 7 (I3 fu)) 49 8 0) 0 (waL gb a n) from L1.f) P1.s
  have le := o3.le
  have am4 : agr SRm gb g4 := agr_trans am o6
  have o4' : out ≤ 4 := by rcases o9 with ⟨q, -⟩ | ⟨-, q, -⟩ <;> omega
  have hc : c ≤ 20000 := by rcases o9 with ⟨-, q, -⟩ | ⟨-, -, q, -⟩ <;> omega
  have e379 : F_379 u = some g4 := by
    refine lp_379 o2 (by omega) ?_
    unfold F_379_0B F_379_35
    rcases o9 with ⟨-, -, q3, -, q5, -⟩ | ⟨q1, q2, -, q4⟩
    · rw [if_pos q5, if_pos (by rw [q3]; decide)]; rfl
    · rw [if_neg (by rw [q4]; exact I3_ne0 (by omega) q2)]; rfl
  obtain ⟨hF, a', b', c', d', e', T1, T2, agF, rF, U⟩ := told_run o3.k (a := a) (out := out) (by rw [m_nH am4]; exact hab) o4' (fun z => by
      rcases o9 with ⟨-, -, -, -, -, -, -, -, q9⟩ | ⟨q, -⟩
      · rw [m_hrs o6]; exact q9
      · omega) (fun z => by
      rcases o9 with ⟨-, -, -, -, -, -, q7, -⟩ | ⟨q, -⟩
      · exact q7
      · omega) (by
      rcases o9 with ⟨q, -, -, -, q5, -⟩ | ⟨q, -, -, q4⟩
      · rw [if_pos q]; exact q5
      · rw [if_neg (by omega)]; exact q4) (o3.hs.trans o3.gs.symm)
  have hcell : ∀ b j, b ≠ 49 → b ≠ 50 → b ≠ 51 → b < 131 → b ≠ 22 → b ≠ 24 → b ≠ 25 → b ≠ 21 → hF.1 b j = (sm_wI h 0 11 0).1 b j ∧ hF.2.1 b j = (sm_wI h 0 11 0).2.1 b j := fun b j z1 z2 z3 z4 z5 z6 z7 z8 => by
    have w : ¬ SCm b j := by unfold SCm; omega
    rw [agF.1 b j (by omega), agF.2.1 b j (by omega), o5.1 b j w, o5.2.1 b j w, ah3.1 b j (by unfold SM; omega), ah3.2.1 b j (by unfold SM; omega), L1.a.1 b j (by unfold SL; omega), L1.a.2.1 b j (by unfold SL; omega)]
    exact ⟨rfl, rfl⟩
  have gcell : ∀ b j, oR2 b j → (sm_wJ (sm_wI (sm_wI (sm_wI (sm_wI g4 67 73 a') 67 69 b') 67 70 c') 67 71 d') 67 72 e').1 b j = (sm_wI g 67 68 0).1 b j ∧ (sm_wJ (sm_wI (sm_wI (sm_wI (sm_wI g4 67 73 a') 67 69 b') 67 70 c') 67 71 d') 67 72 e').2.1 b j = (sm_wI g 67 68 0).2.1 b j := fun b j z => by
    have w : ¬ SRm b j := by unfold oR2 at z; unfold SRm SN; omega
    unfold oR2 at z
    rw [wJ_1, wI_rd, if_neg (by omega), wI_rd, if_neg (by omega), wI_rd, if_neg (by omega), wI_rd, if_neg (by omega), am4.1 b j w, bp b j (by omega), wJ_rd, if_neg (by omega)]
    refine ⟨rfl, ?_⟩
    show g4.2.1 b j = _
    rw [am4.2.1 b j w, bp2]
  refine ⟨I3 out, hF, _, ?_, ?_, I1_run I ?_ (Eb g4 am4 a' b' c' d' e') (Gb g4 (grow_trans (grow_trans ?_ (grow_N aN1)) o7) a' b' c' d' e') (fun b j z => hcell b j (by unfold oC2 at z; omega) (by unfold oC2 at z; omega) (by unfold oC2 at z; omega) (by unfold oC2 at z; omega) (by unfold oC2 at z; omega) (by unfold oC2 at z; omega) (by unfold oC2 at z; omega) (by unfold oC2 at z; omega)) (fun b j z => (gcell b j z).1) (fun b j z _ => (gcell b j z).2) U, fun b j z1 z2 => ?_, ?_⟩
  · rw [C1]
    unfold F_276_146
    rw [bind_id, show F_74 (I3 a) (I3 fu) h1 = F_74_0 (I3 a) (I3 fu) h1 from rfl]
    unfold F_74_0
    simp only [obs]
    rw [show K_82 102 (I3 a) 0 (sm_wI (sm_wI h1 49 7 (I3 fu)) 49 8 0) = some (I3 out, h4) from o1]; simp only [obs]
    exact T1
  · rw [R86, R1, lp_oK (by omega)]
    unfold F_404_126B
    rw [if_pos (by rw [I3_le (by omega) (by omega)]; omega), e1]; simp only [obs]
    rw [e379]; simp only [obs]
    rw [ite_map, T2]; rfl
  · exact K1_mach (K1_u o3.k a' b' c' d' e') (agr_mono (fun b j z => Or.inl z.1) agF) rF
  · exact Gq
  · rw [(hcell b j (by omega) (by omega) (by omega) (by omega) (by omega) (by omega) (by omega) (by omega)).1, (hcell b j (by omega) (by omega) (by omega) (by omega) (by omega) (by omega) (by omega) (by omega)).2, wI_rd, if_neg (by omega)]
    exact ⟨rfl, rfl⟩
  · refine agr_trans (agr_trans (agr_trans aG (agr_mono (fun b j z => by unfold SN at z; omega) aN1)) (agr_mono (fun b j z => by unfold SRm SN at z; omega) o6)) ?_
    exact agr_wJ (agr_wI (agr_wI (agr_wI (agr_wI agr_rfl (by omega)) (by omega)) (by omega)) (by omega)) (by omega)
theorem run2 (x u : Int32) (h g : sm_H) (I : I1 h g) : ∃ v h1 g1, F_276 x u h = some (v, h1) ∧ F_404 x u g = some (v, g1) ∧ I1 h1 g1 ∧ kR h h1 ∧ kC g g1 := by
  have K := (I1_K.mp I).1
  have cPq := (I1_K.mp I).2.2.1
  have n10 : tn (g.1 67 68) ≤ 10 := cPq.2.1.2
  have eN : g.1 67 68 = I3 (tn (g.1 67 68)) := cPq.2.1.1
  have eN' : h.1 0 11 = I3 (tn (g.1 67 68)) := cPq.1.trans eN
  generalize hn : tn (g.1 67 68) = n at n10 eN eN'
  have h12 := K.1.2.1
  have w500 : nH g ≤ 500 := K.2.2.2.2.1.1.2
  have I' : I1 (sm_wI h 0 11 0) (sm_wI g 67 68 0) := by
    obtain ⟨wK, cK, wT, cT, wH, cH, wM, cM, cR, cP, cG, cO, cV, wX, cX, cXh, cU, cY, cF, cZ, wF⟩ := I
    exact ⟨wK, cK, wT, cT, wH, cH, wM, cM, cR, ⟨rfl, cnt_up (n := 0) (by decide) (by decide), cP.2.2⟩, cG, cO, cV, wX, cX, cXh_fr (by repeat first | exact hi_rfl | refine hi_wI ?_ (by decide) | refine hi_wJ ?_ (by decide)) cXh, cU, cY, cF, cZ, wF⟩
  have K' := (I1_K.mp I').1
  have no : F_276 x u h = some (-1, sm_wI h 0 11 0) → F_404 x u g = some (-1, sm_wI g 67 68 0) → ∃ v h1 g1, F_276 x u h = some (v, h1) ∧ F_404 x u g = some (v, g1) ∧ I1 h1 g1 ∧ kR h h1 ∧ kC g g1 := fun z1 z2 =>
    ⟨-1, _, _, z1, z2, I', kR_agr (S := fun b j => b = 0) (agr_wI agr_rfl rfl) (fun b j z => by omega), kC_agr (S := fun b j => b = 67) (agr_wI agr_rfl rfl) (fun b j z => by omega)⟩
  have bad : ∀ (f k : Nat), 0 < f → lp F_404_49B f (x, u, I3 n, 0, I3 k, sm_wI g 67 68 0) = some (-1, sm_wI g 67 68 0) := fun f k hf => by
    refine lp_e hf ?_
    unfold F_404_49B F_404_86
    by_cases q : I3 n ≤ I3 k
    · rw [if_pos q, if_pos rfl]; rfl
    · rw [if_neg q, if_pos rfl, if_pos rfl]; rfl
  have C0 : F_276 x u h = F_276_0 x u h := rfl
  have R0 : F_404 x u g = F_404_0 x u g := rfl
  unfold F_276_0 F_276_45 at C0
  unfold F_404_0 at R0
  simp only [obs] at C0 R0
  rw [eN', C_hasHg K'.2.2.2.2.1 K'.2.2.2.2.2.1] at C0
  rw [eN, R_isHg K'.2.2.2.2.1] at R0
  simp only [obs] at C0 R0
  rw [show nH (sm_wI g 67 68 0) = nH g from rfl] at C0 R0
  have b43 : F_404_43 x u (I3 n) (sm_wI g 67 68 0) = some (-1, sm_wI g 67 68 0) := bad 1000000 0 (by decide)
  rcases inR_c x (nH g) (by omega) with ⟨a, ha, rfl, hx⟩ | hx
  · rw [hx, if_neg (by decide)] at C0 R0
    rw [R_out, toI64] at R0
    simp only [obs] at R0
    rw [show (1 : Int64).toInt = 1 from rfl, show (10000 : Int64).toInt = 10000 from rfl] at R0
    by_cases q1 : u < 1
    · rw [if_pos q1] at C0
      have q1' : u.toInt < 1 := Int32.lt_iff_toInt_lt.mp q1
      rw [decide_eq_true (Or.inl q1'), if_neg (by decide), b43] at R0
      exact no C0 R0
    · rw [if_neg q1] at C0
      have q1' : ¬ u.toInt < 1 := fun z => q1 (Int32.lt_iff_toInt_lt.mpr z)
      by_cases q2 : (10000 : Int32) < u
      · rw [if_pos q2] at C0
        have q2' : 10000 < u.toInt := Int32.lt_iff_toInt_lt.mp q2
        rw [decide_eq_true (Or.inr q2'), if_neg (by decide), b43] at R0
        exact no C0 R0
      · rw [if_neg q2] at C0
        have q2' : ¬ 10000 < u.toInt := fun z => q2 (Int32.lt_iff_toInt_lt.mpr z)
        rw [decide_eq_false (by omega), if_pos (by decide), show F_305 (I3 a) (sm_wI g 67 68 0) = some (I3 (tM g (ty g a)), sm_wI g 67 68 0) from R_mn K' ha] at R0
        rw [show F_45 (I3 a) (sm_wI h 0 11 0) = some (I3 (tM g (ty g a)), sm_wI h 0 11 0) from C_mn K' ha] at C0
        simp only [obs] at C0 R0
        have m10 := mn_10 K ha
        rw [hpl_len] at m10
        by_cases q3 : tM g (ty g a) = n
        · rw [if_pos (congrArg I3 q3)] at C0 R0
          have eu : u = I3 u.toInt.toNat := by rw [← Int32.toInt_inj, I3_toInt (by omega)]; omega
          generalize hfu : u.toInt.toNat = fu at eu
          have f1 : 1 ≤ fu := by omega
          have f2 : fu ≤ 10000 := by omega
          have hn' : (hpl g a).length = n := by rw [hpl_len]; exact q3
          obtain ⟨s1, s2, s3⟩ := fst1_spec (fun k => decide (trK g (tn (at0 (hpl g a) k)) (g.2.1 110 k) ≠ 0)) n
          generalize fst1 (fun k => decide (trK g (tn (at0 (hpl g a) k)) (g.2.1 110 k) ≠ 0)) n = m at s1 s2 s3
          have step : ∀ k, k < n → ∃ q, F_46 (I3 a) (I3 k) (sm_wI h 0 11 0) = some (I3 q, sm_wI h 0 11 0) ∧ F_306 (I3 a) (I3 k) (sm_wI g 67 68 0) = some (I3 q, sm_wI g 67 68 0) ∧ ldJ (sm_wI h 0 11 0) 66 10 (I3 k) = some (g.2.1 110 k) ∧ ldJ (sm_wI g 67 68 0) 110 10 (I3 k) = some (g.2.1 110 k) ∧ F_152 (I3 q) (g.2.1 110 k) (sm_wI h 0 11 0) = some (I3 (trK g (tn (at0 (hpl g a) k)) (g.2.1 110 k)), sm_wI h 0 11 0) ∧ F_403 (I3 q) (g.2.1 110 k) (sm_wI g 67 68 0) = some (b2 (decide (trK g (tn (at0 (hpl g a) k)) (g.2.1 110 k) = 0)), sm_wI g 67 68 0) := fun k hk => by
            obtain ⟨q, p1, p2, p3, p4⟩ := plk K ha (show k < (hpl g a).length by omega)
            have c1 := C_pc K' (p := a) ha (k := k) (by show k < (hpl g a).length; omega)
            have r1 := R_pc K' (p := a) ha (k := k) (by show k < (hpl g a).length; omega)
            rw [show at0 (hpl (sm_wI g 67 68 0) a) k = at0 (hpl g a) k from rfl, p1] at c1 r1
            refine ⟨q, c1, r1, ?_, ?_, ?_, ?_⟩
            · rw [ldJ_I (by omega) (by decide)]; exact congrArg some (cPq.2.2 k (by omega))
            · rw [ldJ_I (by omega) (by decide)]; rfl
            · rw [p4]; exact C_trouble K' p2 p3 _
            · rw [p4]; exact R_isValue K' p2 p3 _
          have good : ∀ k, k < m → trK g (tn (at0 (hpl g a) k)) (g.2.1 110 k) = 0 := fun k hk => by
            have := s2 k hk
            simp only [decide_eq_false_iff_not, ne_eq, Decidable.not_not] at this; exact this
          have Cs : ∀ k, k < m → F_276_50B (I3 a, u, I3 n, I3 k, sm_wI h 0 11 0) = some (.inl (I3 a, u, I3 n, I3 (k + 1), sm_wI h 0 11 0)) := fun k hk => by
            obtain ⟨q, t1, t2, t3, t4, t5, t6⟩ := step k (by omega)
            unfold F_276_50B
            rw [if_neg (by rw [I3_le (by omega) (by omega)]; omega), if_neg (by rw [I3_lit, I3_le (by decide) (by omega)]; omega), t1]; simp only [obs]
            rw [t3]; simp only [obs]
            rw [t5, good k hk]; simp only [obs]
            rw [if_pos (by decide), show I3 k + 1 = I3 (k + 1) from I3_add k 1]
          have Rs : ∀ k, k < m → F_404_49B (I3 a, u, I3 n, 1, I3 k, sm_wI g 67 68 0) = some (.inl (I3 a, u, I3 n, 1, I3 (k + 1), sm_wI g 67 68 0)) := fun k hk => by
            obtain ⟨q, t1, t2, t3, t4, t5, t6⟩ := step k (by omega)
            unfold F_404_49B
            rw [if_neg (by rw [I3_le (by omega) (by omega)]; omega), if_neg (show ¬ (1 : Int32) = 0 by decide), t2]; simp only [obs]
            rw [t4]; simp only [obs]
            rw [t6, good k hk]; simp only [obs]
            rw [show I3 k + 1 = I3 (k + 1) from I3_add k 1]; rfl
          by_cases q4 : m < n
          · obtain ⟨q, t1, t2, t3, t4, t5, t6⟩ := step m q4
            have nz : ¬ trK g (tn (at0 (hpl g a) m)) (g.2.1 110 m) = 0 := by
              have := s3 q4
              simp only [decide_eq_true_eq] at this; exact this
            have t3' := trK_3 g (tn (at0 (hpl g a) m)) (g.2.1 110 m)
            refine no (C0.trans ?_) (R0.trans ?_)
            · refine lp_it m (fun k => (I3 a, u, I3 n, I3 k, sm_wI h 0 11 0)) 1000000 Cs ?_ (by omega)
              show F_276_50B (I3 a, u, I3 n, I3 m, sm_wI h 0 11 0) = _
              unfold F_276_50B
              rw [if_neg (by rw [I3_le (by omega) (by omega)]; omega), if_neg (by rw [I3_lit, I3_le (by decide) (by omega)]; omega), t1]; simp only [obs]
              rw [t3]; simp only [obs]
              rw [t5]; simp only [obs]
              rw [if_neg (I3_ne0 (by omega) (by omega))]
            · have LL : ∀ k, k ≤ m → lp F_404_49B 1000000 (I3 a, u, I3 n, 1, 0, sm_wI g 67 68 0) = lp F_404_49B (1000000 - k) (I3 a, u, I3 n, 1, I3 k, sm_wI g 67 68 0) := by
                intro k
                induction k with
                | zero => intro _; rfl
                | succ k ih =>
                  intro hk
                  rw [ih (by omega), lp_s (by omega) (Rs k (by omega)), show 1000000 - k - 1 = 1000000 - (k + 1) by omega]
              show lp F_404_49B 1000000 (I3 a, u, I3 n, 1, 0, sm_wI g 67 68 0) = _
              rw [LL m (Nat.le_refl _), lp_s (s' := (I3 a, u, I3 n, 0, I3 (m + 1), sm_wI g 67 68 0)) (by omega) ?_]
              · exact bad _ _ (by omega)
              · unfold F_404_49B
                rw [if_neg (by rw [I3_le (by omega) (by omega)]; omega), if_neg (show ¬ (1 : Int32) = 0 by decide), t2]; simp only [obs]
                rw [t4]; simp only [obs]
                rw [t6, decide_eq_false nz]; simp only [obs]
                rw [show I3 m + 1 = I3 (m + 1) from I3_add m 1]; rfl
          · have mn : m = n := by omega
            subst mn
            obtain ⟨v, h1, g1, c1, c2, c3, c4, c5⟩ := run_body I' cPq.2.2 ha hn' f1 f2 good
            rw [← eu] at c1 c2
            refine ⟨v, h1, g1, C0.trans ?_, R0.trans ?_, c3, c4, c5⟩
            · refine lp_it m (fun k => (I3 a, u, I3 m, I3 k, sm_wI h 0 11 0)) 1000000 Cs ?_ (by omega)
              show F_276_50B (I3 a, u, I3 m, I3 m, sm_wI h 0 11 0) = _
              unfold F_276_50B
              rw [if_pos (by rw [I3_le (by omega) (by omega)]; omega), c1]; rfl
            · refine lp_it m (fun k => (I3 a, u, I3 m, 1, I3 k, sm_wI g 67 68 0)) 1000000 Rs ?_ (by omega)
              show F_404_49B (I3 a, u, I3 m, 1, I3 m, sm_wI g 67 68 0) = _
              unfold F_404_49B
              rw [if_pos (by rw [I3_le (by omega) (by omega)]; omega), c2]; rfl
        · have q3' : ¬ I3 (tM g (ty g a)) = I3 n := by rw [I3_inj (by omega) (by omega)]; exact q3
          rw [if_neg q3'] at C0 R0
          exact no C0 (R0.trans b43)
  · rw [hx, if_pos (by decide)] at C0 R0
    exact no C0 (R0.trans b43)
theorem op_run {h : sm_H} (x u : Int32) (I : I0 h) : ∃ v h1 h2, F_276 x u h = some (v, h1) ∧ F_404 x u h1 = some (v, h2) ∧ I0 h2 := op_of2 (run2 x u) I
