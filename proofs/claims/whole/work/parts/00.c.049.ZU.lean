theorem mk_0 {h g : sm_H} (K : K1 h g) (a b : Int32) (c : Int64) {o p : Nat} {ps : List Int32} (S : fS h (I3 0) a 0 c o p ps) (op : oP o p) (P : prR g ps) : ∃ out, OC h (I3 0) a 0 c out ∧ OR g (I3 0) a b c out ∧ OK g 0 a 0 c out := by
  have e7 := S.f7
  have wK := K.1
  have h12 := wK.2.1
  have RK := R_kind wK a
  have HV := C_hasV wK K.2.1 a
  rcases hC7 K S (by decide) (by decide) (by decide) rfl with ⟨rfl, q7⟩ | ⟨q, q7⟩
  · have P3 : g.1 67 3 = 0 := P.1
    have R := B336_0 (h := g) a b c
    rw [if_pos P3, RK] at R; simp only [obs] at R
    have n9 := B9_0 e7
    rw [S.f8, HV] at n9; simp only [obs] at n9
    cases kv : kV g a with
    | false =>
      rw [kv] at n9
      refine ⟨.ref 1, tl_2 q7 n9, ⟨g, ?_, agr_rfl⟩, ⟨by decide, by decide⟩⟩
      rw [R]
      rcases kV_0 wK kv with i | ⟨i, rfl⟩
      · rw [i]; rfl
      · rw [i]; rfl
    | true =>
      rw [kv, if_neg (by decide)] at n9
      obtain ⟨k, rfl, k1, k2⟩ := (kV_iff wK).mp kv
      have T := C_trouble K k1 k2 c
      have t3 := trK_3 g k c
      rw [S.f8, S.f10, T] at n9; simp only [obs] at n9
      have n11 := B11_0 e7 (n11d K S)
      rw [S.f8, S.f10, T] at n11; simp only [obs] at n11
      have n14 := B14_0 e7
      rw [S.f8, S.f10, T] at n14; simp only [obs] at n14
      obtain ⟨g0, y1, E0⟩ := E_clear K (I3 k)
      rw [show inR (I3 k) (20 + nC g) = true by rw [inR_I (by omega)]; exact decide_eq_true k2, if_neg (by decide), if_neg (by rw [I3_lit, I3_inj (by omega) (by decide)]; omega), y1] at R; simp only [obs] at R
      rw [E_trouble E0 k1 k2] at R; simp only [obs] at R
      have z := trK_0 K k1 (c := c)
      generalize trK g k c = t at *
      rcases (show t = 0 ∨ t = 1 ∨ t = 2 ∨ t = 3 by omega) with rfl | rfl | rfl | rfl
      · obtain ⟨u, d1, D0⟩ := D_begin K S op
        refine ⟨.fin (I3 k) [] [] o p, tl_6 S.w q7 n9 n11 n14 (B26_0 e7) S.f7 S.f8 S.f9 S.f10 S.f11 ?_ D0.d D0.s.r op (Ssc_d D0.a), ⟨g0, R, E0.d, E0.r, prR_SRd P E0.a, agr_mono SRd_p E0.a⟩, ?_⟩
        · rw [B29_0 d1 D0.s.f7 (n11d D0.k D0.s)]; unfold F_29_461
          rw [B32_0 D0.s.f7, D0.s.f8]; rfl
        · exact ⟨Or.inl ⟨rfl, rfl, rfl, rfl, k, k1, k2, rfl, z rfl⟩, ⟨k, rfl, k2⟩, kL_0, by decide⟩
      · exact ⟨.ref 1, tl_2 q7 n9, ⟨g0, R, agr_mono SRd_p E0.a⟩, ⟨by decide, by decide⟩⟩
      · exact ⟨.ref 2, tl_3 q7 n9 n11, ⟨g0, R, agr_mono SRd_p E0.a⟩, ⟨by decide, by decide⟩⟩
      · exact ⟨.ref 3, tl_4 q7 n9 n11 n14 agr_rfl, ⟨g0, R, agr_mono SRd_p E0.a⟩, ⟨by decide, by decide⟩⟩
  · refine ⟨.ref 1, tl_1 q7, ⟨g, ?_, agr_rfl⟩, ⟨by decide, by decide⟩⟩
    rw [B336_0, if_neg (show ¬ g.1 67 3 = 0 from fun z => (e67 P q).mp z)]; rfl
theorem mk_6 {h g : sm_H} (K : K1 h g) (a b : Int32) (c : Int64) {o p : Nat} {ps : List Int32} (S : fS h (I3 6) a 0 c o p ps) (op : oP o p) (P : prR g ps) : ∃ out, OC h (I3 6) a 0 c out ∧ OR g (I3 6) a b c out ∧ OK g 6 a 0 c out := by
  have e7 := S.f7
  have wK := K.1
  have h12 := wK.2.1
  refine gen1 K S P (by decide) (by decide) (by decide) rfl ((B336_6 _ _ _).trans rfl) rfl rfl (fun x x1 ep e12 ld c7 R => ?_)
  subst ep
  dsimp only at R
  have m10 := mn_10 K x1
  have hl := hpl_len g x
  have n9 := B9_6 e7
  have n11 := B11_6 e7 (e12 ▸ C_mn K x1)
  have n14 := B14_6 e7
  rw [if_neg (by decide), ld] at R; simp only [obs] at R
  rw [R_mn K x1] at R; simp only [obs] at R
  rw [show F_315 (Int32.toInt64 a) 0 (Int32.toInt64 (I3 (tM g (ty g x)) - 1)) g = some (b2 (!inR a (tM g (ty g x))), g) from R_outI (n := tM g (ty g x)) (by omega) a] at R; simp only [obs] at R
  rcases inR_c a (tM g (ty g x)) (by omega) with ⟨n, n1, rfl, i⟩ | i
  · obtain ⟨k, k1, k2, k3⟩ := kL_h K x1 n (by omega)
    have T : F_10 h = some (I3 (trK g k c), h) := by
      show F_10_0 h = _
      unfold F_10_0 F_10_37
      rw [e12, S.f8, C_pc K x1 (by omega), k1]; simp only [obs]
      rw [if_neg (fun z => I3_m1 (show k < 2147483648 by omega) z), S.f10, C_trouble K k2 k3]; rfl
    rw [T] at n9 n11 n14; simp only [obs] at n9 n11 n14
    rw [i, if_pos (by decide), R_pc K x1 (by omega), k1] at R; simp only [obs] at R
    rw [R_trouble K k2 k3] at R; simp only [obs] at R
    have t3 := trK_3 g k c
    have z := trK_0 K k2 (c := c)
    generalize trK g k c = t at *
    rcases (show t = 0 ∨ t = 1 ∨ t = 2 ∨ t = 3 by omega) with rfl | rfl | rfl | rfl
    · rw [if_pos (by decide), R_rs K x1] at R; simp only [obs] at R
      obtain ⟨u, d1, D0⟩ := D_begin K S op
      obtain ⟨u1, d2, D1⟩ := D_insideN D0 op x1 rfl (n := n) (m := n + 1) (by omega) (by omega)
      obtain ⟨g0, f1, E0⟩ := E_clear K (hrs g x)
      obtain ⟨g1, f2, E1⟩ := E_places E0 (i := 0) (j := n) x1 (by omega) (by decide) (by omega)
      rw [List.nil_append, Nat.sub_zero, seg_take (by omega)] at E1
      obtain ⟨g3, f4, E3⟩ := E_places E1 (i := n + 1) (j := tM g (ty g x)) x1 (Nat.le_refl _) (by rw [List.length_take]; omega) (by omega)
      rw [seg_drop (L := hpl g x) (by omega)] at E3
      have f2' : F_310 (I3 x) 0 (I3 n) g0 = some g1 := f2
      have n45' := C_mn D0.k x1
      have e12' : u.1 34 12 = I3 x := D0.s.f12
      rw [← e12'] at n45'
      refine ⟨.fin (hrs g x) ((hpl g x).take n ++ (hpl g x).drop (n + 1)) _ o p, tl_6 S.w c7 n9 n11 n14 (B26_6 e7) S.f7 S.f8 S.f9 S.f10 S.f11 ?_ D1.d D1.s.r op (Ssc_d D1.a), ⟨g3, ?_, E3.d, E3.r, prR_SRd P E3.a, agr_mono SRd_p E3.a⟩, ?_⟩
      · rw [B29_6 d1 D0.s.f7 n45', D0.s.f8, show I3 n + 1 = I3 (n + 1) from I3_add n 1, d2]; rfl
      · rw [R, f1]; simp only [obs]; rw [f2']; simp only [obs]; rw [E_many E1 x1]; simp only [obs]; rw [show I3 n + 1 = I3 (n + 1) from I3_add n 1, f4]; rfl
      · refine ⟨(Or.inr (Or.inr (Or.inr (Or.inr (Or.inr (Or.inr (Or.inl ⟨rfl, x, n, x1, rfl, by omega, rfl, ?_, rfl, rfl⟩))))))), kR_h K x1, kL_app (kL_take (kL_h K x1)) (kL_drop (kL_h K x1)), by rw [List.length_append, List.length_take, List.length_drop]; omega⟩
        rw [k1, tnI (by omega)]; exact z rfl
    · exact ⟨.ref 1, tl_2 c7 n9, ⟨g, R, agr_rfl⟩, ⟨by decide, by decide⟩⟩
    · exact ⟨.ref 2, tl_3 c7 n9 n11, ⟨g, R, agr_rfl⟩, ⟨by decide, by decide⟩⟩
    · exact ⟨.ref 3, tl_4 c7 n9 n11 n14 agr_rfl, ⟨g, R, agr_rfl⟩, ⟨by decide, by decide⟩⟩
  · have T : F_10 h = some (2, h) := by
      show F_10_0 h = _
      unfold F_10_0 F_10_37
      rw [e12, S.f8, C_pc_o K x1 (by rw [hl]; exact i)]; simp only [obs]
      rw [if_pos trivial]
    rw [T] at n9 n11; simp only [obs] at n9 n11
    rw [i, if_neg (by decide)] at R
    exact ⟨.ref 2, tl_3 c7 n9 n11, ⟨g, R, agr_rfl⟩, ⟨by decide, by decide⟩⟩
theorem kL_rep {g : sm_H} {q n : Nat} (h1 : 0 < q) (h2 : q < 20 + nC g) : kL g (List.replicate n (I3 q)) := fun i hi => by
  rw [List.length_replicate] at hi
  refine ⟨q, ?_, h1, h2⟩
  unfold at0; rw [List.getD_eq_getElem?_getD, List.getElem?_replicate_of_lt hi]; rfl
theorem take_last {l : List Int32} {n : Nat} (h : l.length = n) (h0 : 0 < n) : l = l.take (n - 1) ++ [at0 l (n - 1)] := by
  have hn : n - 1 < l.length := by omega
  rw [at0_get hn, ← List.take_succ_eq_append_getElem hn, List.take_of_length_le (by omega)]
def spB (l : List Int32) (n : Nat) (e : Int32) : Bool := all1 (fun k => decide (at0 l (l.length - n + k) = e)) n
theorem mk_10 {h g : sm_H} (K : K1 h g) (a b : Int32) (c : Int64) {o p : Nat} {ps : List Int32} (S : fS h (I3 10) a b 0 o p ps) (op : oP o p) (P : prR g ps) : ∃ out, OC h (I3 10) a b 0 out ∧ OR g (I3 10) a b c out ∧ OK g 10 a b 0 out := by
  have e7 := S.f7
  have wK := K.1
  have h12 := wK.2.1
  have n9 := (B9_10 e7).trans (n9_350 S.f8)
  refine gen1 K S P (by decide) (by decide) (by decide) rfl ((B336_10 _ _ _).trans rfl) rfl rfl (fun x x1 ep e12 ld c7 R => ?_)
  subst ep
  dsimp only at R
  have m10 := mn_10 K x1
  have hl := hpl_len g x
  rw [if_neg (by decide), R_isRowX] at R; simp only [obs] at R
  cases i : rowB a with
  | false =>
    rw [i] at n9 R
    rw [if_pos (by decide)] at R
    exact ⟨.ref 1, tl_2 c7 n9, ⟨g, R, agr_rfl⟩, ⟨by decide, by decide⟩⟩
  | true =>
    rw [i] at n9 R
    obtain ⟨k, k1, k2, rfl⟩ := rowB_x i
    rw [if_neg (by decide), ld] at R; simp only [obs] at R
    rw [R_mn K x1] at R; simp only [obs] at R
    rw [R_out' (by omega)] at R; simp only [obs] at R
    have n11 := B11_10 e7 (e12 ▸ C_mn K x1)
    rw [S.f9, rngle (by omega)] at n11
    rcases inR_c b (tM g (ty g x) + 1) (by omega) with ⟨n, n1, rfl, j⟩ | j
    · rw [j] at n11 R
      rw [if_pos (by decide)] at R
      have n14 : F_14 h = some (b2 (!spB (hpl g x) n (I3 (k - 10))), h) := by
        have main : F_18 h = some (b2 (!spB (hpl g x) n (I3 (k - 10))), h) := by
          show F_18_0 h = _
          unfold F_18_0
          rw [e12, C_mn K x1]; simp only [obs]
          rw [S.f9, I3_sub (by omega), if_neg (I3_nn (by omega))]
          have L := lp_all (body := F_18_23B) (fun k' => decide (at0 (hpl g x) ((hpl g x).length - n + k') = I3 (k - 10))) n (fun k' => (I3 (tM g (ty g x)), I3 ((hpl g x).length - n + k'), h)) (1, h) (0, h) (f := 1000000) (by omega) (fun k' hk e => ?_) (fun k' hk e => ?_) ?_
          · refine Eq.trans (show F_18_23 (I3 (tM g (ty g x))) (I3 (tM g (ty g x) - n)) h = lp F_18_23B 1000000 (I3 (tM g (ty g x)), I3 ((hpl g x).length - n + 0), h) from by rw [hl]; rfl) (L.trans ?_)
            unfold spB
            cases all1 (fun k' => decide (at0 (hpl g x) ((hpl g x).length - n + k') = I3 (k - 10))) n <;> rfl
          · show F_18_23B (I3 (tM g (ty g x)), I3 ((hpl g x).length - n + k'), h) = _
            unfold F_18_23B
            rw [if_neg (by rw [I3_le (by omega) (by omega)]; omega), e12, C_pc K x1 (by omega)]; simp only [obs]
            rw [S.f8, C_elem k1 k2]; simp only [obs]
            rw [if_pos (of_decide_eq_true e), I3_lit, I3_add, Nat.add_assoc]
          · show F_18_23B (I3 (tM g (ty g x)), I3 ((hpl g x).length - n + k'), h) = _
            unfold F_18_23B
            rw [if_neg (by rw [I3_le (by omega) (by omega)]; omega), e12, C_pc K x1 (by omega)]; simp only [obs]
            rw [S.f8, C_elem k1 k2]; simp only [obs]
            rw [if_neg (of_decide_eq_false e)]
          · show F_18_23B (I3 (tM g (ty g x)), I3 ((hpl g x).length - n + n), h) = _
            unfold F_18_23B
            rw [if_pos (by rw [I3_le (by omega) (by omega)]; omega)]
        rw [B14_10 e7, main]; simp only [obs]
        exact z01 h _
      obtain ⟨u, d1, D0⟩ := D_begin K S op
      obtain ⟨u1, d2, D1⟩ := D_places D0 op (t := ty g x) (i := 0) (j := (hpl g x).length - n) (ty_lt K x1) (by omega) (by omega) (by decide)
      rw [List.nil_append, Nat.sub_zero, seg_take (L := pl g (ty g x)) (by have := pl_len g (ty g x); omega)] at D1
      obtain ⟨u2, d3, D2⟩ := D_with D1 op (I3 k) (by rw [List.length_take]; omega)
      obtain ⟨g0, f1, E0⟩ := E_clear K (hrs g x)
      obtain ⟨g1, f2, E1⟩ := E_places E0 (i := 0) (j := (hpl g x).length - n) x1 (by omega) (by decide) (by omega)
      rw [List.nil_append, Nat.sub_zero, seg_take (by omega)] at E1
      obtain ⟨g2, f3, E2⟩ := E_add E1 (by rw [List.length_take]; omega) (I3 k)
      have f2' : F_310 (I3 x) 0 (I3 (tM g (ty g x) - n)) g0 = some g1 := by rw [← hl]; exact f2
      have d2' : F_230 (I3 (ty g x)) 0 (I3 (tM g (ty g x) - n)) u = some u1 := by rw [← hl]; exact d2
      have RL : F_324_59 (I3 k) (I3 n) (I3 x) (I3 (tM g (ty g x) - n)) g = some (bif spB (hpl g x) n (I3 (k - 10)) then (0, g2) else (3, g)) := by
        have L := lp_all (body := F_324_59B) (fun k' => decide (at0 (hpl g x) ((hpl g x).length - n + k') = I3 (k - 10))) n (fun k' => (I3 k, I3 n, I3 x, I3 ((hpl g x).length - n + k'), g)) (3, g) (0, g2) (f := 1000000) (by omega) (fun k' hk e => ?_) (fun k' hk e => ?_) ?_
        · refine Eq.trans (show F_324_59 (I3 k) (I3 n) (I3 x) (I3 (tM g (ty g x) - n)) g = lp F_324_59B 1000000 (I3 k, I3 n, I3 x, I3 ((hpl g x).length - n + 0), g) from by rw [hl]; rfl) (L.trans ?_)
          rfl
        · show F_324_59B (I3 k, I3 n, I3 x, I3 ((hpl g x).length - n + k'), g) = _
          unfold F_324_59B
          rw [R_mn K x1]; simp only [obs]
          rw [if_neg (by rw [I3_le (by omega) (by omega)]; omega), R_pc K x1 (by omega)]; simp only [obs]
          rw [R_elem _ k1 k2]; simp only [obs]
          rw [if_pos (of_decide_eq_true e), I3_lit, I3_add, Nat.add_assoc]
        · show F_324_59B (I3 k, I3 n, I3 x, I3 ((hpl g x).length - n + k'), g) = _
          unfold F_324_59B
          rw [R_mn K x1]; simp only [obs]
          rw [if_neg (by rw [I3_le (by omega) (by omega)]; omega), R_pc K x1 (by omega)]; simp only [obs]
          rw [R_elem _ k1 k2]; simp only [obs]
          rw [if_neg (of_decide_eq_false e)]
        · show F_324_59B (I3 k, I3 n, I3 x, I3 ((hpl g x).length - n + n), g) = _
          unfold F_324_59B
          rw [R_mn K x1]; simp only [obs]
          rw [if_pos (by rw [I3_le (by omega) (by omega)]; omega), R_rs K x1]; simp only [obs]
          rw [f1]; simp only [obs]
          rw [E_many E0 x1]; simp only [obs]
          rw [I3_sub (by omega), f2']; simp only [obs]
          rw [f3]; simp only [obs]
      rw [R_mn K x1] at R; simp only [obs] at R
      rw [I3_sub (by omega), RL] at R
      cases l : spB (hpl g x) n (I3 (k - 10)) with
      | false =>
        rw [l] at n14 R
        exact ⟨.ref 3, tl_4 c7 n9 n11 n14 agr_rfl, ⟨g, R, agr_rfl⟩, ⟨by decide, by decide⟩⟩
      | true =>
        rw [l] at n14 R
        have n45' := C_mn D0.k x1
        have e12' : u.1 34 12 = I3 x := D0.s.f12
        have e12'' : u2.1 34 12 = I3 x := D2.s.f12
        rw [← e12'] at n45'
        refine ⟨.fin (hrs g x) ((hpl g x).take ((hpl g x).length - n) ++ [I3 k]) _ o p, tl_6 S.w c7 n9 n11 n14 (B26_10 e7) S.f7 S.f8 S.f9 S.f10 S.f11 ?_ D2.d D2.s.r op (Ssc_d D2.a), ⟨g2, R, E2.d, E2.r, prR_SRd P E2.a, agr_mono SRd_p E2.a⟩, ?_⟩
        · rw [B29_10 d1 D0.s.f7 n45', e12', C_ty D0.k x1]; simp only [obs]; rw [D0.s.f9, I3_sub (by omega), d2']; simp only [obs]; rw [D1.s.f8, d3]; simp only [obs]; rw [e12'', C_rs D2.k x1]; rfl
        · refine ⟨(Or.inr (Or.inr (Or.inr (Or.inr (Or.inr (Or.inr (Or.inr (Or.inr (Or.inr (Or.inr (Or.inl ⟨rfl, x, k, n, x1, rfl, k1, k2, rfl, by omega, rfl, fun j' j1 j2 => ?_, rfl, rfl⟩))))))))))), kR_h K x1, kL_app (kL_take (kL_h K x1)) (kL_1 (by omega) (by omega)), by rw [List.length_append, List.length_take]; simp only [List.length_cons, List.length_nil]; omega⟩
          have := of_decide_eq_true (all1_iff.mp l (j' - ((hpl g x).length - n)) (by omega))
          rw [show (hpl g x).length - n + (j' - ((hpl g x).length - n)) = j' by omega] at this
          exact this
    · rw [j] at n11 R
      rw [if_neg (by decide)] at R
      exact ⟨.ref 2, tl_3 c7 n9 n11, ⟨g, R, agr_rfl⟩, ⟨by decide, by decide⟩⟩
theorem rep_succ (e : Int32) (n : Nat) : List.replicate (n + 1) e = List.replicate n e ++ [e] := List.replicate_succ'
theorem mk_11 {h g : sm_H} (K : K1 h g) (a b : Int32) (c : Int64) {o p : Nat} {ps : List Int32} (S : fS h (I3 11) 0 b 0 o p ps) (op : oP o p) (P : prR g ps) : ∃ out, OC h (I3 11) 0 b 0 out ∧ OR g (I3 11) a b c out ∧ OK g 11 0 b 0 out := by
  have e7 := S.f7
  have wK := K.1
  have h12 := wK.2.1
  refine gen1 K S P (by decide) (by decide) (by decide) rfl ((B336_11 _ _ _).trans rfl) rfl rfl (fun x x1 ep e12 ld c7 R => ?_)
  subst ep
  dsimp only at R
  have m10 := mn_10 K x1
  have hl := hpl_len g x
  rw [if_neg (by decide), ld] at R; simp only [obs] at R
  rw [R_mn K x1] at R; simp only [obs] at R
  rw [show F_315 (Int32.toInt64 b) 0 10 g = some (b2 (!inR b 11), g) from R_out' (m := 10) (by omega) b] at R; simp only [obs] at R
  have n11 := B11_11 e7 (e12 ▸ C_mn K x1)
  rw [S.f9, show (10 : Int32) = I3 10 from rfl, rngle (by omega)] at n11
  rcases inR_c b 11 (by omega) with ⟨n, n1, rfl, j⟩ | j
  · rw [show inR (I3 n) (10 + 1) = true from j] at n11
    rw [j, if_pos (by decide)] at R
    have n14 := B14_11 e7
    have bad : F_15 h = some (-1, h) → F_336 (I3 11) a (I3 n) c g = some (3, g) → ∃ out, OC h (I3 11) 0 (I3 n) 0 out ∧ OR g (I3 11) a (I3 n) c out ∧ OK g 11 0 (I3 n) 0 out := fun z r => by
      rw [z] at n14; simp only [obs] at n14
      rw [C_isRowX] at n14; simp only [obs] at n14
      exact ⟨.ref 3, tl_4 c7 (B9_11 e7) n11 n14 agr_rfl, ⟨g, r, agr_rfl⟩, ⟨by decide, by decide⟩⟩
    by_cases q : tM g (ty g x) = 0
    · rw [if_pos (show I3 (tM g (ty g x)) = (0 : Int32) from congrArg I3 q)] at R
      refine bad ?_ R
      show F_15_0 h = _
      unfold F_15_0
      rw [e12, C_mn K x1]; simp only [obs]
      rw [q, show (I3 0 - 1 : Int32) = -1 from rfl, C_pc_o K x1 (inR_m1 _)]; rfl
    · have C15 : ∀ u, D h u g (I3 11) 0 (I3 n) 0 o p [I3 x] [] ∨ u = h ∨ (∃ l, D h u g (I3 11) 0 (I3 n) 0 o p [I3 x] l) → F_15 u = some (at0 (hpl g x) (tM g (ty g x) - 1), u) := fun u hu => by
        have ku : K1 u g ∧ u.1 34 12 = I3 x := by
          rcases hu with z | z | ⟨l, z⟩
          · exact ⟨z.k, z.s.f12⟩
          · subst z; exact ⟨K, e12⟩
          · exact ⟨z.k, z.s.f12⟩
        show F_15_0 u = _
        unfold F_15_0
        rw [ku.2, C_mn ku.1 x1]; simp only [obs]
        rw [I3_lit, I3_sub (by omega), C_pc ku.1 x1 (by omega)]; rfl
      rw [if_neg (show ¬ I3 (tM g (ty g x)) = (0 : Int32) by rw [I3_lit, I3_inj (by omega) (by decide)]; exact q), show I3 (tM g (ty g x)) - 1 = I3 (tM g (ty g x) - 1) from I3_sub (b := 1) (by omega), R_pc K x1 (by omega)] at R; simp only [obs] at R
      rw [R_isRowX] at R; simp only [obs] at R
      rw [C15 h (Or.inr (Or.inl rfl))] at n14; simp only [obs] at n14
      rw [C_isRowX] at n14; simp only [obs] at n14
      cases i : rowB (at0 (hpl g x) (tM g (ty g x) - 1)) with
      | false =>
        rw [i] at n14 R
        rw [if_pos (by decide)] at R
        exact ⟨.ref 3, tl_4 c7 (B9_11 e7) n11 n14 agr_rfl, ⟨g, R, agr_rfl⟩, ⟨by decide, by decide⟩⟩
      | true =>
        rw [i] at n14 R
        obtain ⟨k, k1, k2, ke⟩ := rowB_x i
        rw [if_neg (by decide), R_rs K x1] at R; simp only [obs] at R
        obtain ⟨u, d1, D0⟩ := D_begin K S op
        obtain ⟨u1, d2, D1⟩ := D_places D0 op (t := ty g x) (i := 0) (j := tM g (ty g x) - 1) (ty_lt K x1) (by omega) (by omega) (by decide)
        rw [List.nil_append, Nat.sub_zero, seg_take (L := pl g (ty g x)) (by have := pl_len g (ty g x); omega)] at D1
        obtain ⟨g0, f1, E0⟩ := E_clear K (hrs g x)
        obtain ⟨g1, f2, E1⟩ := E_places E0 (i := 0) (j := tM g (ty g x) - 1) x1 (by omega) (by decide) (by omega)
        rw [List.nil_append, Nat.sub_zero, seg_take (by omega)] at E1
        have f2' : F_310 (I3 x) 0 (I3 (tM g (ty g x) - 1)) g0 = some g1 := f2
        have d2' : F_230 (I3 (ty g x)) 0 (I3 (tM g (ty g x) - 1)) u = some u1 := d2
        have CL : ∃ u2, F_29_329 0 u1 = some (hrs g x, u2) ∧ D h u2 g (I3 11) 0 (I3 n) 0 o p [I3 x] ((hpl g x).take (tM g (ty g x) - 1) ++ List.replicate n (I3 (k - 10))) := by
          have L := lp_ex (body := F_29_329B) (P := fun i s => s.1 = I3 i ∧ D h s.2 g (I3 11) 0 (I3 n) 0 o p [I3 x] ((hpl g x).take (tM g (ty g x) - 1) ++ List.replicate i (I3 (k - 10)))) (Q := fun r => r.1 = hrs g x ∧ D h r.2 g (I3 11) 0 (I3 n) 0 o p [I3 x] ((hpl g x).take (tM g (ty g x) - 1) ++ List.replicate n (I3 (k - 10)))) n (fun i s hi p1 => ?_) (fun s p1 => ?_) (0, u1) 1000000 ⟨rfl, by rw [show List.replicate 0 (I3 (k - 10)) = [] from rfl, List.append_nil]; exact D1⟩ (by omega)
          · obtain ⟨r, e1, e2, e3⟩ := L
            exact ⟨r.2, by rw [show F_29_329 0 u1 = lp F_29_329B 1000000 (0, u1) from rfl, e1, ← e2], e3⟩
          · obtain ⟨s1, s2⟩ := s
            obtain ⟨p1, p2⟩ := p1
            have p1 : s1 = I3 i := p1
            subst p1
            obtain ⟨u2, v1, D2⟩ := D_with p2 op (I3 (k - 10)) (by rw [List.length_append, List.length_take, List.length_replicate]; omega)
            refine Or.inl ⟨(I3 (i + 1), u2), ?_, rfl, by rw [rep_succ, ← List.append_assoc]; exact D2⟩
            show F_29_329B (I3 i, s2) = _
            unfold F_29_329B
            rw [if_neg (by rw [p2.s.f9, I3_le (by omega) (by omega)]; omega), if_neg (by rw [I3_lit, I3_le (by decide) (by omega)]; omega), C15 s2 (Or.inr (Or.inr ⟨_, p2⟩)), ke]; simp only [obs]
            rw [C_elem k1 k2]; simp only [obs]
            rw [v1]; simp only [obs]
            rw [I3_lit, I3_add]
          · obtain ⟨s1, s2⟩ := s
            obtain ⟨p1, p2⟩ := p1
            have p1 : s1 = I3 n := p1
            subst p1
            refine ⟨(hrs g x, s2), ?_, rfl, p2⟩
            show F_29_329B (I3 n, s2) = _
            unfold F_29_329B F_29_367
            rw [if_pos (by rw [p2.s.f9, I3_le (by omega) (by omega)]; omega), show s2.1 34 12 = I3 x from p2.s.f12, C_rs p2.k x1]; rfl
        have RL : ∃ g2, F_325_87 (I3 n) (I3 x) (I3 (tM g (ty g x))) 0 g1 = some (0, g2) ∧ E h g g2 (hrs g x) ((hpl g x).take (tM g (ty g x) - 1) ++ List.replicate n (I3 (k - 10))) := by
          have L := lp_ex (body := F_325_87B) (P := fun i s => s.1 = I3 n ∧ s.2.1 = I3 x ∧ s.2.2.1 = I3 (tM g (ty g x)) ∧ s.2.2.2.1 = I3 i ∧ E h g s.2.2.2.2 (hrs g x) ((hpl g x).take (tM g (ty g x) - 1) ++ List.replicate i (I3 (k - 10)))) (Q := fun r => r.1 = 0 ∧ E h g r.2 (hrs g x) ((hpl g x).take (tM g (ty g x) - 1) ++ List.replicate n (I3 (k - 10)))) n (fun i s hi p1 => ?_) (fun s p1 => ?_) (I3 n, I3 x, I3 (tM g (ty g x)), 0, g1) 1000000 ⟨rfl, rfl, rfl, rfl, by rw [show List.replicate 0 (I3 (k - 10)) = [] from rfl, List.append_nil]; exact E1⟩ (by omega)
          · obtain ⟨r, e1, e2, e3⟩ := L
            exact ⟨r.2, by rw [show F_325_87 (I3 n) (I3 x) (I3 (tM g (ty g x))) 0 g1 = lp F_325_87B 1000000 (I3 n, I3 x, I3 (tM g (ty g x)), 0, g1) from rfl, e1, ← e2], e3⟩
          · obtain ⟨s1, s2, s3, s4, s5⟩ := s
            obtain ⟨p1, p2, p3, p4, p5⟩ := p1
            have p1 : s1 = I3 n := p1
            have p2 : s2 = I3 x := p2
            have p3 : s3 = I3 (tM g (ty g x)) := p3
            have p4 : s4 = I3 i := p4
            subst p1 p2 p3 p4
            obtain ⟨u2, v1, D2⟩ := E_add p5 (by rw [List.length_append, List.length_take, List.length_replicate]; omega) (I3 (k - 10))
            refine Or.inl ⟨(I3 n, I3 x, I3 (tM g (ty g x)), I3 (i + 1), u2), ?_, rfl, rfl, rfl, rfl, by rw [rep_succ, ← List.append_assoc]; exact D2⟩
            show F_325_87B (I3 n, I3 x, I3 (tM g (ty g x)), I3 i, s5) = _
            unfold F_325_87B
            rw [if_neg (by rw [I3_le (by omega) (by omega)]; omega), show I3 (tM g (ty g x)) - 1 = I3 (tM g (ty g x) - 1) from I3_sub (b := 1) (by omega), E_place p5 x1 (by omega), ke]; simp only [obs]
            rw [R_elem _ k1 k2]; simp only [obs]
            rw [v1]; simp only [obs]
            rw [I3_lit, I3_add]
          · obtain ⟨s1, s2, s3, s4, s5⟩ := s
            obtain ⟨p1, p2, p3, p4, p5⟩ := p1
            have p1 : s1 = I3 n := p1
            have p4 : s4 = I3 n := p4
            subst p1 p4
            refine ⟨(0, s5), ?_, rfl, p5⟩
            show F_325_87B (I3 n, s2, s3, I3 n, s5) = _
            unfold F_325_87B
            rw [if_pos (by rw [I3_le (by omega) (by omega)]; omega)]
        obtain ⟨u2, d3, D2⟩ := CL
        obtain ⟨g2, f3, E2⟩ := RL
        have n45' := C_mn D0.k x1
        have e12' : u.1 34 12 = I3 x := D0.s.f12
        rw [← e12'] at n45'
        refine ⟨.fin (hrs g x) ((hpl g x).take (tM g (ty g x) - 1) ++ List.replicate n (I3 (k - 10))) _ o p, tl_6 S.w c7 (B9_11 e7) n11 n14 (B26_11 e7) S.f7 S.f8 S.f9 S.f10 S.f11 ?_ D2.d D2.s.r op (Ssc_d D2.a), ⟨g2, ?_, E2.d, E2.r, prR_SRd P E2.a, agr_mono SRd_p E2.a⟩, ?_⟩
        · rw [B29_11 d1 D0.s.f7 n45', e12', C_ty D0.k x1]; simp only [obs]; rw [show I3 (tM g (ty g x)) - 1 = I3 (tM g (ty g x) - 1) from I3_sub (b := 1) (by omega), d2']; exact d3
        · rw [R, f1]; simp only [obs]; rw [f2']; simp only [obs]; rw [f3]; rfl
        · refine ⟨(Or.inr (Or.inr (Or.inr (Or.inr (Or.inr (Or.inr (Or.inr (Or.inr (Or.inr (Or.inr (Or.inr (Or.inl ⟨rfl, x, n, k, (hpl g x).take (tM g (ty g x) - 1), x1, rfl, by omega, rfl, k1, k2, ?_, rfl, rfl⟩)))))))))))), kR_h K x1, kL_app (kL_take (kL_h K x1)) (kL_rep (by omega) (by omega)), by rw [List.length_append, List.length_take, List.length_replicate]; omega⟩
          rw [← ke]; exact take_last (by omega) (by omega)
  · rw [show inR b (10 + 1) = false from j] at n11
    rw [j, if_neg (by decide)] at R
    exact ⟨.ref 2, tl_3 c7 (B9_11 e7) n11, ⟨g, R, agr_rfl⟩, ⟨by decide, by decide⟩⟩
