section
variable {n : Nat} {bt : Nat → Nat} {nd o T j k m p f f0 : Nat} {nm nm' : Nat → Int64} {kd kd' : List Int32} {pt : Nat → Nat} {h g : sm_H} {rec : sm_H → Option (Int32 × sm_H)}
theorem wp_wp (x : Option (Int32 × sm_H)) : wp (wp x) = wp x := by
  cases x with
  | none => rfl
  | some q =>
    unfold wp
    show (if q.1 = 0 ∨ q.1 = 1 then some (q.1, q.2) else none).bind _ = if q.1 = 0 ∨ q.1 = 1 then some (q.1, q.2) else none
    by_cases z : q.1 = 0 ∨ q.1 = 1
    · rw [if_pos z]
      show (if q.1 = 0 ∨ q.1 = 1 then some (q.1, q.2) else none) = _
      rw [if_pos z]
    · rw [if_neg z]; rfl
theorem TS_y {Q : sm_H → sm_H → Prop} {T' k' : Nat} (s : TG Q n bt T k h g) {h1 g1 : sm_H} (a : agr Scl h h1) (b : agr Srl g g1) (cq : CQ Q := by first | assumption | exact CQ_S _ _ | exact CQ_T) : TG Q n bt T k h1 g1 ∧ XT T' k' h g h1 g1 := by
  have X : XT T' k' h g h1 g1 := XT_x s.K (agr_mono (fun b j z => by
    rcases z with z | z
    · exact Or.inl z
    · exact Or.inr (Or.inr ⟨z.1, Or.inr z.2⟩)) a) (agr_mono (fun b j z => by
    rcases z with z | ⟨z1, z2⟩
    · exact Or.inl z
    · exact Or.inr (Or.inl ⟨z1, by omega⟩)) b)
  refine ⟨⟨X.k1, NF_agr s.nf a b (by unfold Scl S52; omega) (by unfold Srl SLx; omega), cq _ _ _ _ s.S a b, ⟨(a.1 55 12 (by unfold Scl S52; omega)).trans s.t.1, s.t.2⟩, (b.1 67 102 (by unfold Srl SLx; omega)).trans s.b, TXC_agr s.xc a (fun b j z => by unfold Scl S52 at z; omega), TXR_agr s.xr b (fun b j z => by unfold Srl SLx at z; omega)⟩, X⟩
theorem nx_gt (fn : f ≤ n) (w0 : wrd n bt f ≠ 0) (w6 : wrd n bt f ≠ 6) : f < nx n bt f := by
  have := (wen_n (n := n) (bt := bt) fn).2.2 w0 w6
  exact Nat.lt_of_lt_of_le this (far_ge _ _ _ _)
theorem fail_C {e : Nat} (nf : h.1 55 17 = 0) (e0 : Int32) (he : e0 = I3 e) : ∃ h2, F_169 e0 (I3 f) h = some (-1, h2) ∧ h2.1 55 17 = I3 e ∧ h2.1 55 18 = I3 f ∧ agr (fun b j => b = 55 ∧ (j = 17 ∨ j = 18)) h h2 := by
  subst he
  refine ⟨sm_wI (sm_wI h 55 17 (I3 e)) 55 18 (I3 f), ?_, rfl, rfl, agr_wI (agr_wI agr_rfl ⟨rfl, Or.inl rfl⟩) ⟨rfl, Or.inr rfl⟩⟩
  show F_169_0 (I3 e) (I3 f) h = _
  unfold F_169_0
  rw [if_pos nf]; rfl
theorem fail_R {e : Nat} (nf : g.1 67 77 = 0) (e0 : Int32) (he : e0 = I3 e) : ∃ g2, F_413 e0 (I3 f) g = some (0, g2) ∧ g2.1 67 77 = I3 e ∧ g2.1 67 78 = I3 f ∧ agr (fun b j => b = 67 ∧ (j = 77 ∨ j = 78)) g g2 := by
  subst he
  refine ⟨sm_wI (sm_wI g 67 77 (I3 e)) 67 78 (I3 f), ?_, rfl, rfl, agr_wI (agr_wI agr_rfl ⟨rfl, Or.inl rfl⟩) ⟨rfl, Or.inr rfl⟩⟩
  show F_413_0 (I3 e) (I3 f) g = _
  unfold F_413_0
  rw [if_pos nf]; rfl
theorem close_C (xc : TXC n bt h) (nf : h.1 55 17 = 0) (c : CB n bt f h) (p : h.1 55 16 = I3 (o + 1)) (fn : f ≤ n) : (wrd n bt f = 2 ∧ ∃ h1, F_175 h = some (1, h1) ∧ h1.1 55 16 = I3 o ∧ CB n bt (nx n bt f) h1 ∧ agr Scl h h1) ∨ (wrd n bt f ≠ 2 ∧ ∃ h1 h2, F_175 h = some (0, h2) ∧ F_169 (I3 (er n bt f)) (I3 f) h1 = some (-1, h2) ∧ agr Scl h h1) := by
  obtain ⟨q, q1, q2, q3⟩ := c
  have w6 := wrd_6 n bt f
  have a0 : agr (fun b j => b = 55 ∧ j = 16) h (sm_wI h 55 16 (I3 o)) := agr_wI agr_rfl ⟨rfl, rfl⟩
  obtain ⟨h1, c1, c2, c4⟩ := C_step (h := sm_wI h 55 16 (I3 o)) (TXC_agr xc a0 (fun b j z => by omega)) q1 q2
  rw [q3] at c1 c2
  have nf1 : h1.1 55 17 = 0 := (c4.1 55 17 (by unfold S52; omega)).trans nf
  have C0 : F_175 h = (F_172 2 (sm_wI h 55 16 (I3 o))).bind fun q2 => if q2.1 = 0 ∨ q2.1 = 1 then some (q2.1, q2.2) else none := by
    show F_175_0 h = _
    unfold F_175_0
    rw [p, I3_s1]; rfl
  have C1 : F_172 2 (sm_wI h 55 16 (I3 o)) = F_172_0 2 (sm_wI h 55 16 (I3 o)) := rfl
  unfold F_172_0 F_172_31 F_172_35 F_172_47 at C1
  rw [c1] at C1; simp only [obs] at C1
  have ah : agr Scl h h1 := agr_trans (agr_mono (fun b j z => Or.inr z) a0) (agr_mono (fun b j z => Or.inl z) c4)
  by_cases w : wrd n bt f = 2
  · left
    refine ⟨w, h1, ?_, (c4.1 55 16 (by unfold S52; omega)).trans rfl, CB_nx fn c2 (by omega), ah⟩
    rw [if_pos (by rw [w]; rfl), if_pos nf1, if_pos (by decide)] at C1
    rw [C0, C1]; rfl
  · right
    obtain ⟨h2, f1, f2, f3, f4⟩ := fail_C (h := h1) (f := f) nf1 (I3 (er n bt f)) rfl
    refine ⟨w, h1, h2, ?_, f1, ah⟩
    have e9 := er_9 n bt f
    have z35 : (if h2.1 55 17 = 0 then (if (1 : Int32) = 0 ∨ (1 : Int32) = 1 then some ((1 : Int32), h2) else none) else (if (0 : Int32) = 0 ∨ (0 : Int32) = 1 then some (0, h2) else none)) = some (0, h2) := by
      rw [if_neg, if_pos (Or.inl rfl)]
      rw [f2, I3_lit, I3_inj (by omega) (by decide)]; omega
    rw [if_neg (by rw [I3_lit, I3_inj (by omega) (by decide)]; exact w)] at C1
    have C2 : F_172 2 (sm_wI h 55 16 (I3 o)) = some (0, h2) := by
      unfold er at f1
      by_cases v : wrd n bt f = 6
      · rw [if_pos v] at f1
        rw [if_pos (by rw [v]; rfl), show F_244 h1 = some (h1.1 52 6, h1) from rfl, c2.2.2.1 v] at C1; simp only [obs] at C1
        rw [C_170 c2, f1] at C1; simp only [obs] at C1
        rw [C1]; exact z35
      · rw [if_neg v] at f1
        rw [if_neg (by rw [I3_lit, I3_inj (by omega) (by decide)]; exact v), C_170 c2, show F_169 4 (I3 f) h1 = some (-1, h2) from f1] at C1; simp only [obs] at C1
        rw [C1]; exact z35
    rw [C0, C2]; rfl
theorem close_R (xr : TXR n bt g) (nf : g.1 67 77 = 0) (r : RB n bt f g) (p : g.1 67 86 = I3 (o + 1)) : (wrd n bt f = 2 ∧ ∃ g1, F_427 g = some (1, g1) ∧ g1.1 67 86 = I3 o ∧ RB n bt (nx n bt f) g1 ∧ agr Srl g g1) ∨ (wrd n bt f ≠ 2 ∧ ∃ g1 g2, F_427 g = some (0, g2) ∧ F_413 (I3 (er n bt f)) (I3 f) g1 = some (0, g2) ∧ agr Srl g g1) := by
  have fn := RB_n r
  have w6 := wrd_6 n bt f
  obtain ⟨q, q1, q2, q3⟩ := r
  obtain ⟨g1, a, b, c, d⟩ := R_look xr q1 q2
  rw [q3] at b c d
  have nf1 : g1.1 67 77 = 0 := (a.1 67 77 (by unfold SLx; omega)).trans nf
  have R0 : F_427 g = (refE 4 (fun u => (F_420 u).bind fun q2 => some (1, q2)) g).bind fun q1 => if q1.1 = 0 then some (0, q1.2) else ((some (sm_wI q1.2 67 86 ((q1.2.1 67 86) - 1))).bind fun h2 => some (1, h2)) := rfl
  unfold refE at R0
  by_cases w : wrd n bt f = 2
  · left
    rw [if_neg (by omega)] at d
    rw [d.1] at R0; simp only [obs] at R0
    rw [if_neg (by decide), if_pos (by rw [d.2.2.2.1, w]; rfl)] at R0
    have F4 : F_420 g1 = some (sm_wI g1 67 79 (I3 (wen n bt f))) := by
      show F_420_0 g1 = _
      unfold F_420_0
      rw [d.2.2.2.2.1]; rfl
    rw [F4] at R0; simp only [obs] at R0
    rw [if_neg (by decide), show (sm_wI g1 67 79 (I3 (wen n bt f))).1 67 86 = I3 (o + 1) from (a.1 67 86 (by unfold SLx; omega)).trans p, I3_s1] at R0
    exact ⟨w, _, R0, rfl, ⟨wen n bt f, rfl, (wen_n fn).1, rfl⟩, agr_wI (agr_wI (agr_mono (fun b j z => Or.inl z) a) (Or.inl ⟨rfl, by omega, by omega⟩)) (Or.inr ⟨rfl, by omega⟩)⟩
  · right
    obtain ⟨g2, f1, f2, f3, f4⟩ := fail_R (g := g1) (f := f) nf1 (I3 (er n bt f)) rfl
    refine ⟨w, g1, g2, ?_, f1, agr_mono (fun b j z => Or.inl z) a⟩
    unfold er at f1
    by_cases v : wrd n bt f = 6
    · rw [if_pos v] at f1 d
      rw [d, f1] at R0; simp only [obs] at R0
      rw [R0]; rfl
    · rw [if_neg v] at f1 d
      rw [d.1] at R0; simp only [obs] at R0
      rw [if_neg (by decide), if_neg (by
          rw [d.2.2.2.1, show (4 : Int32) = I3 (rwd 2) from rfl, I3_inj (by have := rwd_5 (x := wrd n bt f) (by omega); omega) (by decide)]
          exact fun z => w (rwd_inj (by omega) (by omega) z)), f421 g1 c, show F_413 4 (I3 f) g1 = some (0, g2) from f1] at R0; simp only [obs] at R0
      rw [R0]; rfl
theorem close_f {g1 : sm_H} (xr : TXR n bt g) (nf : g.1 67 77 = 0) (r : RB n bt f g) (p : g.1 67 86 = I3 (o + 1)) (e : F_427 g = some (1, g1)) : agr (fun b j => SLx b j ∨ b = 67 ∧ j = 86) g g1 := by
  have w6 := wrd_6 n bt f
  rcases close_R xr nf r p with ⟨w, g2, a1, a2, a3, a4⟩ | ⟨w, g2, g3, a1, -⟩
  · obtain ⟨q, q1, q2, q3⟩ := r
    obtain ⟨g4, a, b, c, d⟩ := R_look xr q1 q2
    rw [q3, if_neg (by omega)] at d
    have R0 : F_427 g = (refE 4 (fun u => (F_420 u).bind fun q2 => some (1, q2)) g).bind fun q1 => if q1.1 = 0 then some (0, q1.2) else ((some (sm_wI q1.2 67 86 ((q1.2.1 67 86) - 1))).bind fun h2 => some (1, h2)) := rfl
    unfold refE at R0
    rw [d.1] at R0; simp only [obs] at R0
    rw [if_neg (by decide), if_pos (by rw [d.2.2.2.1, w]; rfl)] at R0
    have F4 : F_420 g4 = some (sm_wI g4 67 79 (I3 (wen n bt f))) := by
      show F_420_0 g4 = _
      unfold F_420_0
      rw [d.2.2.2.2.1]; rfl
    rw [F4] at R0; simp only [obs] at R0
    rw [if_neg (by decide), e] at R0
    injection R0 with R0
    have := congrArg Prod.snd R0
    rw [show g1 = _ from this]
    exact agr_wI (agr_wI (agr_mono (fun b j z => Or.inl z) a) (Or.inl ⟨rfl, by omega, by omega⟩)) (Or.inr ⟨rfl, rfl⟩)
  · rw [a1] at e
    injection e with e
    exact absurd (show (0 : Int32) = 1 from congrArg Prod.fst e) (by decide)
theorem close_108 {g1 : sm_H} (xr : TXR n bt g) (nf : g.1 67 77 = 0) (r : RB n bt f g) (p : g.1 67 86 = I3 (o + 1)) (e : F_427 g = some (1, g1)) : g1.2.1 67 108 = g.2.1 67 108 := (close_f xr nf r p e).2.1 67 108 (by unfold SLx; omega)
theorem closeE {Q : sm_H → sm_H → Prop} (s : TG Q n bt T k h g) (p : OP (o + 1) h g) (c : CB n bt f h) (r : RB n bt f g) (cq : CQ Q := by first | assumption | exact CQ_S _ _ | exact CQ_T) : (∃ h1 g1, F_175 h = some (1, h1) ∧ F_427 g = some (1, g1) ∧ TG Q n bt T k h1 g1 ∧ OP o h1 g1 ∧ CB n bt (nx n bt f) h1 ∧ RB n bt (nx n bt f) g1 ∧ f < nx n bt f ∧ agr Scl h h1 ∧ agr Srl g g1) ∨ ∃ e h2 g2, F_175 h = some (0, h2) ∧ F_427 g = some (0, g2) ∧ FT e f h2 g2 ∧ XT T k h g h2 g2 := by
  have fn := RB_n r
  rcases close_C s.xc s.nf.1 c p.1 fn with ⟨w, h1, a1, a2, a3, a4⟩ | ⟨w, h1, h2, a1, -, -⟩
  · rcases close_R s.xr s.nf.2.1 r p.2.1 with ⟨-, g1, b1, b2', b3, b4⟩ | ⟨w', -⟩
    · exact Or.inl ⟨h1, g1, a1, b1, (TS_y (T' := 0) (k' := 0) s a4 b4).1, ⟨a2, b2', by have := p.2.2; omega⟩, a3, b3, nx_gt fn (by omega) (by omega), a4, b4⟩
    · exact absurd w w'
  · right
    rcases closeB s p c r with ⟨h1, g1, c1, -⟩ | z
    · rw [a1] at c1
      injection c1 with c1
      exact absurd (show (0 : Int32) = 1 from congrArg Prod.fst c1) (by decide)
    · exact z
end
def nmN (ns : Nat → Int64) (nv : Nat) (nm : Nat → Int64) (i : Nat) : Int64 := if i < nv then ns i else nm (i - nv)
theorem nm1_N (x : Int64) (nm : Nat → Int64) : nm1 x nm = nmN (fun _ => x) 1 nm := by
  funext i
  unfold nm1 nmN
  by_cases q : i = 0
  · rw [if_pos q, if_pos (by omega)]
  · rw [if_neg q, if_neg (by omega)]
theorem kL_app2 {g : sm_H} {ks kd : List Int32} (a : kL g ks) (b : kL g kd) : kL g (ks ++ kd) := fun i hi => by
  rw [List.length_append] at hi
  by_cases q : i < ks.length
  · rw [at0_app1 q]; exact a i q
  · rw [at0_app2 (by omega)]; exact b _ (by omega)
theorem C_183 {i : Nat} (hi : i < 16) (x : Int64) (v : Int32) (u : sm_H) : F_183 (I3 i) x v u = some (sm_wI (sm_wJ u 58 i x) 59 i v) := by
  show F_183_0 (I3 i) x v u = _
  unfold F_183_0 F_183_25
  rw [if_neg (I3_nn (by omega)), if_neg (by rw [I3_lit, I3_le (by decide) (by omega)]; omega), stJ_I hi (by decide)]; simp only [obs]
  rw [stI_I hi (by decide)]; simp only [obs]
theorem C_208 {ns nm : Nat → Int64} {kd : List Int32} {pt : Nat → Nat} {nv T : Nat} {h g : sm_H} (K : K1 h g) (S : SCC nm kd h) (hn : kd.length + nv ≤ 16) (v3 : nv ≤ 3) (st : STK h T nv pt) (hp : ∀ i, i < nv → pt i < nH g) (h61 : ∀ i, i < nv → h.2.1 61 (T + i) = ns i) (pc : Int32) : ∃ h1, F_208 (I3 T) (I3 nv) pc h = some (1, h1) ∧ SCC (nmN ns nv nm) (lst (fun i => hrs g (pt i)) nv ++ kd) h1 ∧ agr Ssp h h1 := by
  obtain ⟨top, t1, t2, t3, t4⟩ := id st
  obtain ⟨h0, c1, c2, c3, c4⟩ := C_shift S (n := nv) hn pc
  have LP : ∀ r i fu u, i + r = nv → r < fu → agr Ssp h u → u.1 55 9 = I3 (kd.length + nv) → (∀ q, q < kd.length → u.2.1 58 (nv + q) = nm q ∧ u.1 59 (nv + q) = at0 kd q) → (∀ q, q < i → u.2.1 58 q = ns q ∧ u.1 59 q = hrs g (pt q)) → ∃ h1, lp F_208_32B fu (I3 T, I3 nv, I3 i, u) = some (1, h1) ∧ SCC (nmN ns nv nm) (lst (fun i => hrs g (pt i)) nv ++ kd) h1 ∧ agr Ssp h h1 := by
    intro r
    induction r with
    | zero =>
      intro i fu u hi hf au u9 ua ub
      have e : i = nv := by omega
      subst e
      refine ⟨u, lp_e (by omega) ?_, ⟨by rw [u9, List.length_append, lst_len, Nat.add_comm], fun q hq => ?_⟩, au⟩
      · unfold F_208_32B
        show (if I3 i ≤ I3 i then _ else _) = _
        rw [if_pos (by rw [I3_le (by omega) (by omega)]; omega)]; rfl
      · rw [List.length_append, lst_len] at hq
        unfold nmN
        by_cases w : q < i
        · rw [if_pos w, at0_app1 (by rw [lst_len]; exact w), at0_lst w]; exact ub q w
        · have z := ua (q - i) (by omega)
          rw [show i + (q - i) = q by omega] at z
          rw [if_neg w, at0_app2 (by rw [lst_len]; omega), lst_len]; exact z
    | succ r ih =>
      intro i fu u hi hf au u9 ua ub
      have K' : K1 u g := K1_h K (agr_mono Ssp_not au)
      have s' := STK_sc st au
      have C : F_208_32B (I3 T, I3 nv, I3 i, u) = some (.inl (I3 T, I3 nv, I3 (i + 1), sm_wI (sm_wJ u 58 i (ns i)) 59 i (hrs g (pt i)))) := by
        unfold F_208_32B
        show (if I3 nv ≤ I3 i then _ else if 200 ≤ I3 T + I3 i then _ else _) = _
        rw [if_neg (by rw [I3_le (by omega) (by omega)]; omega), show I3 T + I3 i = I3 (T + i) from I3_add T i, if_neg (by rw [I3_lit, I3_le (by decide) (by omega)]; omega)]
        simp only []
        rw [ldJ_I (by omega) (by decide), au.2.1 61 _ (by unfold Ssp; omega), h61 i (by omega)]; simp only [obs]
        rw [C_189 K' s' (i := i) (by omega) (hp i (by omega))]; simp only [obs]
        rw [C_183 (by omega)]; simp only [obs]
        rw [show I3 i + 1 = I3 (i + 1) from I3_add i 1]
      rw [lp_s (by omega) C]
      refine ih (i + 1) (fu - 1) _ (by omega) (by omega) (agr_trans au (agr_wI (agr_wJ agr_rfl (Or.inr (Or.inl rfl))) (Or.inr (Or.inr rfl)))) u9 (fun q hq => ?_) (fun q hq => ?_)
      · have z := ua q hq
        constructor
        · show (if nv + q = i then ns i else u.2.1 58 (nv + q)) = _
          rw [if_neg (by omega)]; exact z.1
        · show (if nv + q = i then hrs g (pt i) else u.1 59 (nv + q)) = _
          rw [if_neg (by omega)]; exact z.2
      · constructor
        · show (if q = i then ns i else u.2.1 58 q) = _
          by_cases w : q = i
          · rw [if_pos w, w]
          · rw [if_neg w]; exact (ub q (by omega)).1
        · show (if q = i then hrs g (pt i) else u.1 59 q) = _
          by_cases w : q = i
          · rw [if_pos w, w]
          · rw [if_neg w]; exact (ub q (by omega)).2
  have L := LP nv 0 1000000 h0 (by omega) (by omega) c4 c2 c3 (fun q hq => by omega)
  obtain ⟨h1, l1, l2, l3⟩ := L
  refine ⟨h1, ?_, l2, l3⟩
  show F_208_0 (I3 T) (I3 nv) pc h = _
  unfold F_208_0
  rw [if_neg (I3_nn (by omega)), if_neg (I3_nn (by omega)), t1, show I3 T + I3 nv = I3 (T + nv) from I3_add T nv, if_neg (by rw [I3_lt (by omega) (by omega)]; omega), c1]; simp only [obs]
  rw [if_neg (by decide)]
  exact l1
section
variable {n : Nat} {bt : Nat → Nat} {nd o T j k m p f f0 : Nat} {nm nm' : Nat → Int64} {kd kd' : List Int32} {pt : Nat → Nat} {h g : sm_H} {rec : sm_H → Option (Int32 × sm_H)}
theorem F451s {srt : Int32} (b : g.1 67 102 = I3 (j + 1)) (j4 : j < 24) (s : g.1 119 j = srt) (hs : srt = 3 ∨ srt = 6 ∨ srt = 5) : F_451 g = wp (if srt = 3 then F_453 (I3 j) g else if srt = 6 then F_454 (I3 j) g else F_455 (I3 j) g) := by
  show F_451_0 g = _
  unfold F_451_0
  rw [b, I3_s1]; simp only [obs]
  rw [ldI_I j4 (by decide), s]; simp only [obs]
  rcases hs with rfl | rfl | rfl
  · rw [show F_442 3 g = some (-1, g) from rfl]; simp only [obs]
    rw [if_pos trivial, ldI_I j4 (by decide), s]; simp only [obs]
    rw [if_neg (by decide)]
    simp only [if_true]; rfl
  · rw [show F_442 6 g = some (-1, g) from rfl]; simp only [obs]
    rw [if_pos trivial, ldI_I j4 (by decide), s]; simp only [obs]
    rw [if_neg (by decide), if_neg (by decide), if_pos trivial]
    simp only [if_true]
    rw [if_neg (by decide)]; rfl
  · rw [show F_442 5 g = some (-1, g) from rfl]; simp only [obs]
    rw [if_pos trivial, ldI_I j4 (by decide), s]; simp only [obs]
    rw [if_neg (by decide), if_neg (by decide), if_neg (by decide), if_neg (by decide), if_neg (by decide)]; rfl
theorem BO_f {e' pc : Nat} {h2 g2 : sm_H} {rc : Option (Int32 × sm_H)} (b : g.1 67 102 = I3 (k + 2)) (kk : k < 23) (fn : f ≤ n) (r : F_451 g = some (0, g2)) (c : rc = some (-1, h2)) (ft : FT e' pc h2 g2) (x : XT 0 0 h g h2 g2) : BO n bt o T k m f nm kd h g rc :=
  Or.inr ⟨e', pc, h2, g2, 1, c, ft, x, by omega, DieR_die (c := 0) (j := k + 1) b (by omega) (by omega) r (Or.inl rfl)⟩
theorem BO_d {e' pc c f1 : Nat} {h2 g2 : sm_H} {rc rr : Option (Int32 × sm_H)} (b : g.1 67 102 = I3 (k + 2)) (kk : k < 23) (ff : f ≤ f1) (r : F_451 g = wp rr) (d : DieR rr c g2) (cf : c + f1 ≤ n) (c0 : rc = some (-1, h2)) (ft : FT e' pc h2 g2) (x : XT 0 0 h g h2 g2) : BO n bt o T k m f nm kd h g rc :=
  Or.inr ⟨e', pc, h2, g2, c + 1, c0, ft, x, by omega, DieR_die (j := k + 1) b (by omega) (by omega) r (DieR_wp d)⟩
theorem TS_f {g1 : sm_H} (s : TS n bt T k nm kd h g) (a : agr (fun b _ => 119 ≤ b ∧ b ≤ 126) g g1) : TS n bt T k nm kd h g1 := by
  have X : XT 0 0 h g h g1 := XT_x s.K agr_rfl (agr_mono (fun b i z => by
    rcases (show b ≤ 124 ∨ b = 125 ∨ b = 126 by omega) with w | w | w
    · exact Or.inr (Or.inr (Or.inl ⟨z.1, w, Nat.zero_le _⟩))
    · exact Or.inr (Or.inr (Or.inr (Or.inl ⟨w, by omega⟩)))
    · exact Or.inr (Or.inr (Or.inr (Or.inr ⟨w, by omega⟩)))) a)
  exact ⟨X.k1, NF_agr (S := fun _ _ => False) s.nf agr_rfl a ⟨fun z => z, fun z => z⟩ (by omega), SCO_agr (P := fun _ _ => False) s.S agr_rfl a (Nat.le_of_eq (by show tn _ = tn _; rw [a.1 67 6 (by omega)])) (fun b j z => z.elim) (fun b j z => by omega), s.t, (a.1 67 102 (by omega)).trans s.b, s.xc, TXR_agr s.xr a (fun b j z => by omega)⟩
theorem PW_tr {b0 pc : Nat} {h1 g1 : sm_H} {rc rr : Option (Int32 × sm_H)} (t : TW b0 h g h1 g1) (p : PW b0 h1 g1 pc rc rr nm kd) : PW b0 h g pc rc rr nm kd := by
  rcases p with ⟨y, h2, g2, a1, a2, a3, a4, a5, a6, a7⟩ | ⟨e, h2, g2, a1, a2, a3, a4, a5⟩
  · exact Or.inl ⟨y, h2, g2, a1, a2, a3, a4, TW_trans t a5, a6, a7⟩
  · exact Or.inr ⟨e, h2, g2, a1, a2, TW_trans t a3, a4, a5⟩
theorem C_184f (l : NL h) : ∃ h1, F_184 1 h = some h1 ∧ agr Ssp h h1 ∧ NL h1 := by
  obtain ⟨q, q1, q2⟩ := l
  show ∃ h1, F_184_0 1 h = some h1 ∧ agr Ssp h h1 ∧ NL h1
  unfold F_184_0 F_184_12
  rw [if_neg (by decide), q2]
  by_cases w : 1 ≤ q
  · rw [if_pos (by rw [I3_lit, I3_le (by decide) (by omega)]; exact w), show I3 q - 1 = I3 (q - 1) from I3_sub (a := q) (b := 1) w]; simp only [obs]
    have e1 : ∀ u : sm_H, sm_cpJ G0 u 58 1 58 0 (I3 (q - 1)) = some (u.1, va_up u.2.1 58 (va_cpy (u.2.1 58) (u.2.1 58) 1 0 (q - 1)), u.2.2) := fun u => cp58 u (s := 1) (d := 0) (by omega) (by omega)
    have e2 : ∀ u : sm_H, sm_cpI G0 u 59 1 59 0 (I3 (q - 1)) = some (va_up u.1 59 (va_cpy (u.1 59) (u.1 59) 1 0 (q - 1)), u.2) := fun u => cp59 u (s := 1) (d := 0) (by omega) (by omega)
    rw [show (sm_wI h 55 9 (I3 (q - 1))).1 55 9 = I3 (q - 1) from rfl, e1]; simp only [obs]
    rw [show (sm_wI h 55 9 (I3 (q - 1))).1 55 9 = I3 (q - 1) from rfl, e2]; simp only [obs]
    refine ⟨_, rfl, agr_trans (agr_trans (agr_wI agr_rfl (Or.inl ⟨rfl, rfl⟩)) agr58) agr59, q - 1, by omega, ?_⟩
    rfl
  · rw [if_neg (by rw [I3_lit, I3_le (by decide) (by omega)]; exact w)]
    exact ⟨h, rfl, agr_rfl, q, q1, q2⟩
theorem hpl10 {x : Nat} (K : K1 h g) (hx : x < nH g) : (hpl g x).length ≤ 10 := by
  have := (K.2.2.1.2.1 (ty g x) (ty_lt K hx)).2.1.2
  show (lst _ (tM g (ty g x))).length ≤ 10
  rw [lst_len]; exact this
end
section
variable {n : Nat} {bt : Nat → Nat} {nd o T j k m p f f0 : Nat} {nm nm' : Nat → Int64} {kd kd' : List Int32} {pt : Nat → Nat} {h g : sm_H} {rec : sm_H → Option (Int32 × sm_H)}
theorem XT_y {T' k' : Nat} (K : K1 h g) {h1 g1 : sm_H} (a : agr Scl h h1) (b : agr Srl g g1) : XT T' k' h g h1 g1 := XT_x K (agr_mono (fun b j z => by
    rcases z with z | z
    · exact Or.inl z
    · exact Or.inr (Or.inr ⟨z.1, Or.inr z.2⟩)) a) (agr_mono (fun b j z => by
    rcases z with z | ⟨z1, z2⟩
    · exact Or.inl z
    · exact Or.inr (Or.inl ⟨z1, by omega⟩)) b)
theorem FC_r {f0 kl : Nat} {srt st ex : Int32} {g1 : sm_H} (F : FC g j f0 kl srt st ex) (a : agr Srl g g1) : FC g1 j f0 kl srt st ex := by
  have e : ∀ b, 119 ≤ b → b ≤ 123 → g1.1 b j = g.1 b j := fun b b1 b2 => a.1 b j (by unfold Srl SLx; omega)
  unfold FC
  rw [e 119 (by omega) (by omega), e 120 (by omega) (by omega), e 121 (by omega) (by omega), e 122 (by omega) (by omega), e 123 (by omega) (by omega)]
  exact F
theorem XRc_df (b i : Nat) (z : XRc k b i) : ¬ (b = 67 ∧ i = 91 ∨ 113 ≤ b ∧ b ≤ 116) := by unfold XRc SRa SRq SRb SRp SRh SRt Ssr SLx at z; omega
theorem DF_T {h1 g1 : sm_H} (K : K1 h g) (D : DF nd h g) (X : XT T k h g h1 g1) : DF nd h1 g1 := DF_x K D X.e X.r X.c X.a XCc_df XRc_df
theorem TS_sc {h1 g1 : sm_H} {T' k' : Nat} (s : TS n bt T k nm kd h g) (a : agr Ssp h h1) (b : agr Ssr g g1) (S : SCO nm' kd' h1 g1) : TS n bt T k nm' kd' h1 g1 ∧ XT T' k' h g h1 g1 := by
  have X : XT T' k' h g h1 g1 := XT_TW (TW_sc s.K a b) (fun _ => NL_S S)
  exact ⟨⟨X.k1, NF_sc s.nf a b, S, ⟨(a.1 55 12 (by unfold Ssp; omega)).trans s.t.1, s.t.2⟩, (b.1 67 102 (by unfold Ssr; omega)).trans s.b, TXC_agr s.xc a (fun b j z => by unfold Ssp at z; omega), TXR_agr s.xr b (fun b j z => by unfold Ssr at z; omega)⟩, X⟩
theorem R_449 {i : Nat} (b : g.1 67 102 = I3 (j + 1)) (hj : j < 24) (hi : i < 20) : F_449 (I3 i) g = some (g.1 125 (20 * j + i), g) := by
  show F_449_0 (I3 i) g = _
  unfold F_449_0
  rw [b, I3_s1, show (20 : Int32) * I3 j + I3 i = I3 (20 * j + i) by rw [I3_lit, I3_mul, I3_add], ldI_I (by omega) (by decide)]; rfl
theorem R_452n {y : Nat} (K : K1 h g) (hy : y < nH g) (nz : ¬ hrs g y = 0) (x : Int32) : F_452 x (I3 y) g = some (0, g) := by
  show F_452_0 x (I3 y) g = _
  unfold F_452_0
  rw [R_rs K hy]; simp only [obs]
  rw [if_neg nz]
theorem R_452z {y : Nat} {g2 : sm_H} (K : K1 h g) (hy : y < nH g) (z : hrs g y = 0) (hj : j < 24) (e : g.1 120 j = I3 f0) (f : F_413 7 (I3 f0) g = some (0, g2)) : F_452 (I3 j) (I3 y) g = some (1, g2) := by
  show F_452_0 (I3 j) (I3 y) g = _
  unfold F_452_0 F_452_30
  rw [R_rs K hy, z]; simp only [obs]
  rw [if_pos trivial, ldI_I hj (by decide), e]; simp only [obs]
  rw [f]; simp only [obs]
  rw [if_pos trivial, if_pos (by decide)]
theorem FT_sp {e pc : Nat} {h1 : sm_H} (F : FT e pc h g) (a : agr Ssp h h1) : FT e pc h1 g := ⟨(a.1 55 17 (by unfold Ssp; omega)).trans F.1, (a.1 55 18 (by unfold Ssp; omega)).trans F.2.1, F.2.2⟩
theorem SCO_94 {h1 g1 : sm_H} {w : Int32} {P : Nat → Nat → Prop} (S : SCO nm kd h (sm_wI g 67 94 (I3 (400 - kd.length)))) (a : agr P h h1) (b : agr Srl g g1) (p : ∀ b j, P b j → ¬ (b = 55 ∧ j = 9 ∨ b = 58 ∨ b = 59)) : SCO nm kd h1 (sm_wI (sm_wI g1 67 106 w) 67 94 (I3 (400 - kd.length))) := by
  obtain ⟨s1, s2, s3, s4, s5⟩ := S
  refine ⟨(a.1 55 9 (fun z => p _ _ z (by omega))).trans s1, s2, rfl, kL_grow (Nat.le_of_eq (by show tn _ = tn _; exact congrArg tn (b.1 67 6 (by unfold Srl SLx; omega)).symm)) s4, fun i hi => ?_⟩
  obtain ⟨t1, t2, t3, t4⟩ := s5 i hi
  exact ⟨(a.2.1 58 i (fun z => p _ _ z (by omega))).trans t1, (a.1 59 i (fun z => p _ _ z (by omega))).trans t2, (b.2.1 117 _ (by unfold Srl SLx; omega)).trans t3, (b.1 118 _ (by unfold Srl SLx; omega)).trans t4⟩
theorem letX {ex : Int32} (X : EX n bt nd rec (o + 1)) (B : BS n bt nd (o + 1) T (k + 1) 0 0 f nm kd pt h g) (F : FC g (k + 1) f0 kd.length 3 0 ex) (ko : k < o) (hT : T ≤ 8 * k) (m3 : m ≤ 4000) (e : g.1 124 k = I3 m) : BO n bt o T k m f nm kd h g (F_209 rec (I3 f0) h) := by
  have o20 := B.op.2.2
  have s0 := B.t
  have fn := RB_n B.r
  have C0 : F_209 rec (I3 f0) h = F_209_0 rec (I3 f0) h := rfl
  unfold F_209_0 F_209_30 F_209_54 at C0
  rw [show h.1 55 12 = I3 T from s0.t.1] at C0; simp only [obs] at C0
  have R0 : F_451 g = wp (F_453_0 (I3 (k + 1)) g) := by rw [F451s s0.b (by omega) F.1 (Or.inl rfl), if_pos rfl]
  unfold F_453_0 F_453_23 F_453_79 at R0
  rw [ldI_I (by omega) (by decide), F.2.2.1] at R0; simp only [obs] at R0
  rw [if_pos trivial] at R0
  rcases openB s0 B.op B.c B.r with ⟨h1, g1, -, a1, a2, a3, a4, a5, a6, a7, a8, a9, a10⟩ | ⟨e', h2, g2, a1, a2, a3, a4⟩
  rotate_left
  · rw [a1] at C0; simp only [obs] at C0; rw [if_pos trivial] at C0
    rw [a2] at R0; simp only [obs] at R0; rw [if_pos trivial] at R0
    exact BO_f s0.b (by omega) fn R0 C0 a3 (XT_mono (Nat.zero_le _) (Nat.zero_le _) a4)
  rw [a1] at C0; simp only [obs] at C0; rw [if_neg (by decide)] at C0
  rw [a2] at R0; simp only [obs] at R0; rw [if_neg (by decide)] at R0
  have C1 : F_207 rec (I3 f0) h1 = F_207_0 rec (I3 f0) h1 := rfl
  unfold F_207_0 F_207_75 F_207_76 at C1
  rcases nameB a3 a5 a6 with ⟨h2, g2, b1, b2', b3, b4, b5, b6, b7, b8, b9, b10, b11, b12⟩ | ⟨e', h3, g3, b1, b2', b3, b4⟩
  rotate_left
  · rw [b1] at C1; simp only [obs] at C1; rw [if_pos trivial] at C1
    rw [C1] at C0; simp only [obs] at C0; rw [if_pos trivial] at C0
    rw [b2'] at R0; simp only [obs] at R0; rw [if_pos trivial] at R0
    exact BO_f s0.b (by omega) fn R0 C0 b3 (XT_mono (Nat.zero_le _) (Nat.zero_le _) (XT_trans a8 b4))
  generalize hx : foldN bt (nx n bt f) (men n bt (nx n bt f) - nx n bt f) = x at b4 b5
  rw [b1] at C1; simp only [obs] at C1; rw [if_neg (by decide), show F_248 h2 = some (h2.2.1 52 10, h2) from rfl, b4] at C1; simp only [obs] at C1
  rw [b2'] at R0; simp only [obs] at R0; rw [if_neg (by decide), b5, show (3 : Int32) * I3 (k + 1) = I3 (3 * (k + 1)) from I3_mul 3 (k + 1), stJ_I (by omega) (by decide)] at R0; simp only [obs] at R0
  rw [stI_I (by omega) (by decide)] at R0; simp only [obs] at R0
  have v126 : (sm_wI (sm_wJ g2 126 (3 * (k + 1)) x) 121 (k + 1) 1).2.1 126 (3 * (k + 1)) = x := if_pos rfl
  have af : agr (fun b i => b = 126 ∧ i = 3 * (k + 1) ∨ b = 121 ∧ i = k + 1) g2 (sm_wI (sm_wJ g2 126 (3 * (k + 1)) x) 121 (k + 1) 1) := agr_wI (agr_wJ agr_rfl (Or.inl ⟨rfl, rfl⟩)) (Or.inr ⟨rfl, rfl⟩)
  have a02 : agr Srl g g2 := agr_trans (agr_mono (fun b j z => by
    rcases z with z | z
    · exact Or.inl z
    · exact Or.inr ⟨z.1, by omega⟩) a10) (agr_mono (fun b j z => by
    rcases z with z | z
    · exact Or.inl z
    · exact Or.inr ⟨z.1, by omega⟩) b12)
  have F2 := FC_r F a02
  have F3 : FC (sm_wI (sm_wJ g2 126 (3 * (k + 1)) x) 121 (k + 1) 1) (k + 1) f0 kd.length 3 1 ex := ⟨F2.1, F2.2.1, if_pos rfl, F2.2.2.2.1, F2.2.2.2.2⟩
  have r3 : RB n bt (nx n bt (nx n bt f)) (sm_wI (sm_wJ g2 126 (3 * (k + 1)) x) 121 (k + 1) 1) := b8
  have p3' : (sm_wI (sm_wJ g2 126 (3 * (k + 1)) x) 121 (k + 1) 1).1 124 (k + 1) = I3 0 := (a02.1 124 (k + 1) (by unfold Srl SLx; omega)).trans B.mm
  generalize hg3 : sm_wI (sm_wJ g2 126 (3 * (k + 1)) x) 121 (k + 1) 1 = g3 at *
  have R0' : F_451 g = wp (F_448 g3) := R0.trans (wp_wp _)
  have s3 : TS n bt (T + 0) (k + 1 + 1) nm kd h2 g3 := TS_f b3 (agr_mono (fun b i z => by omega) af)
  have X02 : XT T (k + 1) h g h2 g2 := XT_mono (by omega) (by omega) (XT_trans a8 b10)
  have X23 : XT T (k + 1) h2 g2 h2 g3 := XT_x b3.K agr_rfl (agr_mono (fun b i z => by
    rcases z with ⟨z1, z2⟩ | ⟨z1, z2⟩
    · exact Or.inr (Or.inr (Or.inr (Or.inr ⟨z1, by omega⟩)))
    · exact Or.inr (Or.inr (Or.inl ⟨by omega, by omega, by omega⟩))) af)
  have X03 := XT_trans X02 X23
  have Bp : BS n bt nd (o + 2) T (k + 1) 0 0 (nx n bt (nx n bt f)) nm kd pt h2 g3 := ⟨s3, OP_x a4 b11 (agr_trans (agr_mono (fun b i z => Or.inl z) b12) (agr_mono (fun b i z => Or.inr z) af)) (by unfold S52; omega) (by unfold SLx; omega), DF_T s0.K B.d X03, b7, r3, p3', fun i hi => by omega, fun i hi => by omega⟩
  have ff : f < nx n bt (nx n bt f) := Nat.lt_trans a7 b9
  rcases partE Bp (Nat.le_refl _) (X (o + 2) (T + 0) (k + 1) 0 _ nm kd h2 g3 (by omega) Bp.t Bp.op Bp.d Bp.c Bp.r (by omega) (by omega) (by omega) Bp.mm) with ⟨y, h4, g4, f3, c, e1, e2, e3, e4, e5, e6, e7⟩ | ⟨e', pc, h4, g4, c, e1, e2, e3, e4, e5⟩
  rotate_left
  · rw [e1] at C1; simp only [obs] at C1; rw [if_pos trivial] at C1
    rw [C1] at C0; simp only [obs] at C0; rw [if_pos trivial] at C0
    exact BO_d s0.b (by omega) (Nat.le_of_lt ff) R0' e5 e4 C0 e2 (XT_trans (XT_mono (Nat.zero_le _) (Nat.zero_le _) X03) e3)
  rw [e1] at C1; simp only [obs] at C1; rw [if_neg (h_m1 e4.t.K e5), C_rs e4.t.K e5] at C1; simp only [obs] at C1
  have Rn1 : Run g (c + 1) g4 := RunR_run s0.b (by omega) (by omega) R0' (RunR_wp e2)
  have X04 : XT T (k + 1) h g h4 g4 := XT_trans X03 (PT_XT e4.t.K e4.t.l (PT_s (by omega) e7))
  have F4 := FC_x F3 e7.2.2.2
  have y5 := lt500 e4.t.K e5
  have q125 : g4.1 125 (20 * (k + 1) + 0) = I3 y := e4.q 0 (by omega) (by omega)
  have R1 : F_451 g4 = wp (F_453_0 (I3 (k + 1)) g4) := by rw [F451s e4.t.b (by omega) F4.1 (Or.inl rfl), if_pos rfl]
  unfold F_453_0 F_453_23 F_453_79 at R1
  rw [ldI_I (by omega) (by decide), F4.2.2.1] at R1; simp only [obs] at R1
  rw [if_neg (by decide), if_pos trivial, show F_449 0 g4 = some (I3 y, g4) from (R_449 (i := 0) e4.t.b (by omega) (by omega)).trans (by rw [q125])] at R1; simp only [obs] at R1
  have fn3 := RB_n e4.r
  by_cases hz : hrs g4 y = 0
  · obtain ⟨h5, g5, d1, d2, d3, d4⟩ := XT_fail e4.t (T' := 0) (k' := 0) (e := 7) (f := f0) (by decide) (by decide)
    rw [if_pos hz, show F_169 7 (I3 f0) h4 = some (-1, h5) from d1] at C1; simp only [obs] at C1
    rw [C1] at C0; simp only [obs] at C0; rw [if_pos trivial] at C0
    rw [R_452z e4.t.K e5 hz (by omega) F4.2.1 d2] at R1; simp only [obs] at R1; rw [if_neg (by decide)] at R1
    exact BO_tr Rn1 (by omega) X04 (BO_f e4.t.b (by omega) fn3 R1 C0 d3 d4)
  rw [if_neg hz] at C1
  rw [R_452n e4.t.K e5 hz] at R1; simp only [obs] at R1; rw [if_pos trivial] at R1
  obtain ⟨h5, p1, p2, p3, p4, p5⟩ := pushP e4 (by omega) (by rw [up_s]; exact y5) x
  rw [up_s] at p1
  rw [p1] at C1; simp only [obs] at C1; rw [if_neg (by decide)] at C1
  have X45 : XT T (k + 1) h4 g4 h5 g4 := PT_XT p2.t.K p2.t.l (PT_s (by omega) p3)
  rcases closeE p2.t p2.op p2.c p2.r with ⟨h6, g6, q1, q2, q3, q4, q5, q6, q7, q8, q9⟩ | ⟨e', h6, g6, q1, q2, q3, q4⟩
  rotate_left
  · rw [q1] at C1; simp only [obs] at C1; rw [if_pos trivial, if_pos (by decide)] at C1
    rw [C1] at C0; simp only [obs] at C0; rw [if_pos trivial] at C0
    rw [q2] at R1; simp only [obs] at R1; rw [if_pos trivial] at R1
    exact BO_tr Rn1 (by omega) X04 (BO_f e4.t.b (by omega) fn3 R1 C0 q3 (XT_mono (Nat.zero_le _) (Nat.zero_le _) (XT_trans X45 (XT_mono (by omega) (by omega) q4))))
  rw [q1] at C1; simp only [obs] at C1; rw [if_neg (by decide), if_pos (by decide)] at C1
  rw [C1] at C0; simp only [obs] at C0; rw [if_neg (by decide)] at C0
  rw [q2] at R1; simp only [obs] at R1; rw [if_neg (by decide)] at R1
  have X56 : XT T (k + 1) h5 g4 h6 g6 := XT_y p2.t.K q8 q9
  have X46 := XT_trans X45 X56
  have y6 : y < nH g6 := X56.nH e5
  have hp6 : hpl g6 y = kd := (X56.hpl e4.t.K e5).trans e6
  have hr6 : hrs g6 y = hrs g4 y := X56.hrs e4.t.K e5
  have k10 : kd.length ≤ 10 := by rw [← hp6]; exact hpl10 q3.K y6
  have v6 : g6.2.1 126 (3 * (k + 1)) = x := (q9.2.1 126 _ (by unfold Srl SLx; omega)).trans ((e7.2.2.2.2.1 126 _ (by unfold XRp XRc SRa SRq SRb SRp SRh SRt Ssr SLx; omega)).trans v126)
  have q125' : g6.1 125 (20 * (k + 1) + 0) = I3 y := (q9.1 125 _ (by unfold Srl SLx; omega)).trans q125
  obtain ⟨h7, w1, w2, w3⟩ := C_208 (ns := fun _ => x) (nv := 1) (T := T) (pt := updN pt 0 y) q3.K (SCO_iff.mp q3.S).1 (by omega) (by omega) ⟨T + 1, q3.t.1, Nat.le_refl _, q3.t.2, fun i hi => (q8.1 60 _ (by unfold Scl S52; omega)).trans (p2.s i (by omega))⟩ (fun i hi => by
    rw [show i = 0 by omega, up_s]; exact y6) (fun i hi => (q8.2.1 61 _ (by unfold Scl S52; omega)).trans (by rw [show i = 0 by omega]; exact p4)) (I3 f0)
  rw [show F_208 (I3 T) 1 (I3 f0) h6 = some (1, h7) from w1] at C0; simp only [obs] at C0; rw [if_neg (by decide)] at C0
  rw [show (3 : Int32) * I3 (k + 1) = I3 (3 * (k + 1)) from I3_mul 3 (k + 1), ldJ_I (by omega) (by decide), v6] at R1; simp only [obs] at R1
  rw [show F_449 0 g6 = some (I3 y, g6) from (R_449 (i := 0) q3.b (by omega) (by omega)).trans (by rw [q125'])] at R1; simp only [obs] at R1
  rw [R_rs q3.K y6] at R1; simp only [obs] at R1
  obtain ⟨g7, d1, d2, d3⟩ := R_bind (SCO_iff.mp q3.S).2.1 (by omega) x (hrs g6 y)
  rw [d1] at R1; simp only [obs] at R1
  rw [stI_I (by omega) (by decide)] at R1; simp only [obs] at R1
  have R1' : F_451 g4 = wp (F_448 (sm_wI g7 121 (k + 1) 2)) := R1.trans (wp_wp _)
  have S7 : SCO (nm1 x nm) (hrs g6 y :: kd) h7 g7 := SCO_iff.mpr ⟨by rw [nm1_N]; exact w2, d2, by rw [List.length_cons]; omega, by
    have nc : nC g7 = nC g6 := by show tn _ = tn _; rw [d3.1 67 6 (by unfold Ssr; omega)]
    obtain ⟨q, u1, u2⟩ := rs_k q3.K y6
    exact kL_app2 (ks := [hrs g6 y]) (fun i hi => by
      have : i = 0 := by have : [hrs g6 y].length = 1 := rfl
                         omega
      subst this
      refine ⟨q, u1, Nat.pos_of_ne_zero (fun z => hz ?_), by omega⟩
      rw [← hr6, u1, z]; rfl) (kL_grow (Nat.le_of_eq nc.symm) q3.S.2.2.2.1)⟩
  have s7 := TS_sc (T' := T) (k' := k + 1) q3 w3 d3 S7
  have a78 : agr (fun b i => b = 121 ∧ i = k + 1) g7 (sm_wI g7 121 (k + 1) 2) := agr_wI agr_rfl ⟨rfl, rfl⟩
  have F7 : FC (sm_wI g7 121 (k + 1) 2) (k + 1) f0 kd.length 3 2 ex := by
    have F6 := FC_r F4 q9
    have e : ∀ b, 119 ≤ b → b ≤ 123 → g7.1 b (k + 1) = g6.1 b (k + 1) := fun b b1 b2 => d3.1 b (k + 1) (by unfold Ssr; omega)
    exact ⟨(e 119 (by omega) (by omega)).trans F6.1, (e 120 (by omega) (by omega)).trans F6.2.1, if_pos rfl, (e 122 (by omega) (by omega)).trans F6.2.2.2.1, (e 123 (by omega) (by omega)).trans F6.2.2.2.2⟩
  have m8 : (sm_wI g7 121 (k + 1) 2).1 124 (k + 1) = I3 1 := (d3.1 124 (k + 1) (by unfold Ssr; omega)).trans ((q9.1 124 (k + 1) (by unfold Srl SLx; omega)).trans p2.mm)
  have q8' : (sm_wI g7 121 (k + 1) 2).1 125 (20 * (k + 1) + 0) = I3 y := (d3.1 125 _ (by unfold Ssr; omega)).trans q125'
  have r8 : RB n bt (nx n bt f3) (sm_wI g7 121 (k + 1) 2) := by
    obtain ⟨q, u1, u2, u3⟩ := q6
    exact ⟨q, (d3.1 67 79 (by unfold Ssr; omega)).trans u1, u2, u3⟩
  generalize hg8 : sm_wI g7 121 (k + 1) 2 = g8 at *
  have s8 : TS n bt (T + 1) (k + 1 + 1) (nm1 x nm) (hrs g6 y :: kd) h7 g8 := TS_f s7.1 (agr_mono (fun b i z => by omega) a78)
  have X78 : XT T (k + 1) h7 g7 h7 g8 := XT_x s7.1.K agr_rfl (agr_mono (fun b i z => Or.inr (Or.inr (Or.inl ⟨by omega, by omega, by omega⟩))) a78)
  have X48 := XT_trans X46 (XT_trans s7.2 X78)
  have B8 : BS n bt nd (o + 1) T (k + 1) 1 1 (nx n bt f3) (nm1 x nm) (hrs g6 y :: kd) (updN pt 0 y) h7 g8 := ⟨s8, OP_x (OP_x q4 w3 d3 (by unfold Ssp; omega) (by unfold Ssr; omega)) (P := fun _ _ => False) agr_rfl a78 (fun z => z) (by omega), DF_T e4.t.K e4.d X48, by
      obtain ⟨q, u1, u2, u3⟩ := q5
      exact ⟨q, (w3.1 52 3 (by unfold Ssp; omega)).trans u1, u2, u3⟩, r8, m8, fun i hi _ => by
      rw [show i = 0 by omega, up_s]; exact q8', fun i hi => by
      rw [w3.1 60 _ (by unfold Ssp; omega), q8.1 60 _ (by unfold Scl S52; omega)]; exact p2.s i (by omega)⟩
  rcases partE B8 (Nat.le_refl _) (X (o + 1) (T + 1) (k + 1) 1 _ _ _ h7 g8 (by omega) B8.t B8.op B8.d B8.c B8.r (by omega) (by omega) (by omega) B8.mm) with ⟨y2, h9, g9, f5, c2, e1', e2', e3', e4', e5', e6', e7'⟩ | ⟨e', pc, h9, g9, c2, e1', e2', e3', e4', e5'⟩
  rotate_left
  · obtain ⟨h10, u1, u2, u3⟩ := C_184f (e3'.l s8.l)
    rw [e1'] at C0; simp only [obs] at C0; rw [u1] at C0; simp only [obs] at C0; rw [if_pos trivial] at C0
    exact BO_tr Rn1 (by omega) X04 (BO_d e4.t.b (by omega) (Nat.le_of_lt q7) R1' e5' e4' C0 (FT_sp e2' u2) (XT_trans (XT_mono (Nat.zero_le _) (Nat.zero_le _) X48) (XT_trans e3' (XT_TW (TW_sc e3'.k1 u2 agr_rfl) (fun _ => u3)))))
  have Rn2 : Run g4 (c2 + 1) g9 := RunR_run e4.t.b (by omega) (by omega) R1' (RunR_wp e2')
  have X49 : XT T (k + 1) h4 g4 h9 g9 := XT_trans X48 (PT_XT e4'.t.K e4'.t.l (PT_s (by omega) e7'))
  have X09 := XT_trans X04 X49
  have Rn := Run_trans Rn1 Rn2
  have F9 := FC_x F7 e7'.2.2.2
  obtain ⟨h10, u1, u2, u3, u4⟩ := SCO_drop (ks := [hrs g6 y]) (kd := kd) (nm := nm) e4'.t.S (nm1_s x nm)
  rw [e1'] at C0; simp only [obs] at C0; rw [show F_184 1 h9 = some h10 from u1] at C0; simp only [obs] at C0; rw [if_neg (h_m1 e4'.t.K e5')] at C0
  have R2 : F_451 g9 = wp (F_453_0 (I3 (k + 1)) g9) := by rw [F451s e4'.t.b (by omega) F9.1 (Or.inl rfl), if_pos rfl]
  unfold F_453_0 F_453_23 F_453_79 at R2
  rw [ldI_I (by omega) (by decide), F9.2.2.1] at R2; simp only [obs] at R2
  rw [if_neg (by decide), if_neg (by decide)] at R2
  have R2' : F_451 g9 = wp (F_457 g9) := R2.trans (wp_wp _)
  rw [F457e] at R2'
  have K10 : K1 h10 g9 := K1_h e4'.t.K (agr_mono Ssp_not u3)
  have xc10 : TXC n bt h10 := TXC_agr e4'.t.xc u3 (fun b j z => by unfold Ssp at z; omega)
  have c10 : CB n bt f5 h10 := by
    obtain ⟨q, u1, u2, u5⟩ := e4'.c
    exact ⟨q, (u3.1 52 3 (by unfold Ssp; omega)).trans u1, u2, u5⟩
  have nf10 : h10.1 55 17 = 0 := (u3.1 55 17 (by unfold Ssp; omega)).trans e4'.t.nf.1
  have o10 : h10.1 55 16 = I3 (o + 1) := (u3.1 55 16 (by unfold Ssp; omega)).trans e4'.op.1
  have fn5 := RB_n e4'.r
  have X910 : ∀ T' k', XT T' k' h9 g9 h10 g9 := fun T' k' => XT_TW (TW_sc e4'.t.K u3 agr_rfl) (fun _ => NL_S u2)
  rcases close_C xc10 nf10 c10 o10 fn5 with ⟨w, h11, v1, v2, v3, v4⟩ | ⟨w, h11, h12, v1, v2, v4⟩
  · rcases close_R e4'.t.xr e4'.t.nf.2.1 e4'.r e4'.op.2.1 with ⟨-, g11, z1, z2, z3, z4⟩ | ⟨w', -⟩
    rotate_left
    · exact absurd w w'
    rw [v1] at C0; simp only [obs] at C0; rw [if_neg (by decide)] at C0
    rw [z1] at R2'; simp only [obs] at R2'; rw [if_neg (by decide)] at R2'
    have X11 : ∀ T' k', XT T' k' h10 g9 h11 g11 := fun T' k' => XT_y K10 v4 z4
    have K11 := (X11 0 0).k1
    have F11 := FC_r F9 z4
    have t11 : h11.1 55 12 = I3 (T + 1) := (v4.1 55 12 (by unfold Scl S52; omega)).trans ((u3.1 55 12 (by unfold Ssp; omega)).trans e4'.t.t.1)
    have st11 : STK h11 T 1 (updN (updN pt 0 y) 1 y2) := ⟨T + 1, t11, Nat.le_refl _, e4'.t.t.2, fun i hi => (v4.1 60 _ (by unfold Scl S52; omega)).trans ((u3.1 60 _ (by unfold Ssp; omega)).trans (e4'.s i hi))⟩
    rw [show F_187 (I3 T) h11 = some (I3 y, h11) from STK_at st11 (i := 0) (by omega)] at C0; simp only [obs] at C0
    rw [bind_id] at C0
    rw [C0]
    refine BO_tr (f := f5) Rn (by omega) X09 ?_
    have S12 : SCO nm kd h11 (sm_wI (sm_wI g11 67 106 (I3 f0)) 67 94 (I3 (400 - kd.length))) := SCO_94 u2 v4 z4 (fun b j z => by unfold Scl S52 at z; omega)
    have a12 : agr (fun b j => b = 67 ∧ j = 106 ∨ b = 67 ∧ j = 94) g11 (sm_wI (sm_wI g11 67 106 (I3 f0)) 67 94 (I3 (400 - kd.length))) := agr_wI (agr_wI agr_rfl (Or.inl ⟨rfl, rfl⟩)) (Or.inr ⟨rfl, rfl⟩)
    have Xa : XT T (k + 1) h11 g11 h11 (sm_wI g11 67 106 (I3 f0)) := XT_x K11 agr_rfl (agr_wI agr_rfl (Or.inr (Or.inl ⟨rfl, by omega⟩)))
    have Wa : TW T h11 (sm_wI g11 67 106 (I3 f0)) h11 (sm_wI (sm_wI g11 67 106 (I3 f0)) 67 94 (I3 (400 - kd.length))) := TW_sc Xa.k1 agr_rfl (agr_wI agr_rfl (Or.inl ⟨rfl, rfl⟩))
    have nfA : NF h11 g11 := NF_agr (NF_agr (S' := fun _ _ => False) e4'.t.nf u3 agr_rfl (by unfold Ssp; omega) ⟨fun z => z, fun z => z⟩) v4 z4 (by unfold Scl S52; omega) (by unfold Srl SLx; omega)
    have nf12 : NF h11 (sm_wI (sm_wI g11 67 106 (I3 f0)) 67 94 (I3 (400 - kd.length))) := ⟨nfA.1, nfA.2.1, nfA.2.2.1, nfA.2.2.2⟩
    have ext12 : ext g9 (sm_wI (sm_wI g11 67 106 (I3 f0)) 67 94 (I3 (400 - kd.length))) := ext_trans (X11 0 0).e (ext_trans Xa.e Wa.e)
    have grow12 : grow g9 (sm_wI (sm_wI g11 67 106 (I3 f0)) 67 94 (I3 (400 - kd.length))) := grow_trans (X11 0 0).r (grow_trans Xa.r Wa.r)
    have fr : FRM (sm_wI g11 67 106 (I3 f0)) (k + 1) 3 ex 2 (updN (updN pt 0 y) 1 y2) := ⟨by omega, F11.1, F11.2.2.2.1, (z4.1 124 (k + 1) (by unfold Srl SLx; omega)).trans e4'.mm, by omega, fun i hi => (z4.1 125 _ (by unfold Srl SLx; omega)).trans (e4'.q i hi (by omega))⟩
    have P6 : F_460 (I3 (k + 1)) (sm_wI g11 67 106 (I3 f0)) = F_432 8 0 (I3 y2) (I3 y) (sm_wI (sm_wI g11 67 106 (I3 f0)) 67 94 (I3 (400 - kd.length))) := by
      rw [F460 fr]
      unfold F_460_74
      rw [ld122 fr, ld119 fr]; simp only [obs]
      rw [if_neg (by decide), if_neg (by decide), if_pos trivial, ldI_I (by omega) (by decide), show (sm_wI g11 67 106 (I3 f0)).1 123 (k + 1) = I3 (400 - kd.length) from F11.2.2.2.2]; simp only [obs]
      rw [bind_id]; rfl
    have y9 : y < nH g9 := X49.nH e5
    have M := folded1 Wa.k nf12 (pc := f0) rfl (x := y2) (y := y) (Nat.lt_of_lt_of_le e5' grow12.2.2.1) (Nat.lt_of_lt_of_le y9 grow12.2.2.1) (kd := kd) (by
      rw [ext_hpl e4'.t.K.2.2.2.2.1 ext12 e5', e6', ext_hrs e4'.t.K.2.2.2.2.1 ext12 y9, X49.hrs e4.t.K e5, hr6]) (by
      rw [ext_hpl e4'.t.K.2.2.2.2.1 ext12 y9, X49.hpl e4.t.K e5, e6]) (by
      rw [ext_hrs e4'.t.K.2.2.2.2.1 ext12 y9, X49.hrs e4.t.K e5]; exact hz)
    have P : PW T h11 (sm_wI g11 67 106 (I3 f0)) f0 (F_206 (I3 y2) (I3 y) (I3 f0) h11) (F_460 (I3 (k + 1)) (sm_wI g11 67 106 (I3 f0))) nm kd := by
      rw [P6]
      exact PW_tr Wa (PW_of S12 (PO_of M))
    have e9 : g9.1 124 k = I3 m := (X09.a.1 124 k (by unfold XRc SRa SRq SRb SRp SRh SRt Ssr SLx; omega)).trans e
    rcases finish (T := T) (k := k) (m := m) (n := n) (bt := bt) (o := o) (f' := nx n bt f5) (by have := e4'.t.t.2; omega) (by omega) m3 K11 ((z4.1 67 102 (by unfold Srl SLx; omega)).trans e4'.t.b) (TXC_agr xc10 v4 (fun b j z => by unfold Scl S52 at z; omega)) (TXR_agr e4'.t.xr z4 (fun b j z => by unfold Srl SLx at z; omega)) ⟨v2, z2, by omega⟩ v3 z3 F11.2.1 F11.2.2.2.2 ((z4.1 124 k (by unfold Srl SLx; omega)).trans e9) P with ⟨yy, h12, g12, i1, i2, i3, i4, i5, i6, i7, i8, i9, i10, i11, i12, i13, i14⟩ | ⟨e', h12, g12, i1, i2, i3, i4⟩
    · have Z := XT_trans (X910 T (k + 1)) (X11 T (k + 1))
      have nf5 := nx_gt (n := n) (bt := bt) fn5 (by omega) (by omega)
      exact Or.inl ⟨yy, h12, g12, nx n bt f5, 1, i1, RunR_run e4'.t.b (by omega) (by omega) R2' ⟨g12, by rw [i2, wp1], Run_rfl g12⟩, by omega, i3, i4, i5, i6, i7, i8, ext_trans Z.e i9, grow_trans Z.r i10, agr_trans Z.c i11, agr_trans (agr_mono (fun b i z => Or.inl z) Z.a) i12, i13, i14⟩
    · rw [i2] at R2'
      exact BO_f e4'.t.b (by omega) fn5 R2' i1 i3 (XT_trans (XT_trans (X910 0 0) (X11 0 0)) i4)
  · rcases close_R e4'.t.xr e4'.t.nf.2.1 e4'.r e4'.op.2.1 with ⟨w', -⟩ | ⟨-, g11, g12, z1, z2, z4⟩
    · exact absurd w' w
    rw [v1] at C0; simp only [obs] at C0; rw [if_pos trivial] at C0
    rw [z1] at R2'; simp only [obs] at R2'; rw [if_pos trivial] at R2'
    have e9 := er_9 n bt f5
    have X11 : XT 0 0 h10 g9 h11 g11 := XT_y K10 v4 z4
    obtain ⟨h13, g13, t1, t2, t3, t4⟩ := failB X11.k1 (NF_agr (NF_agr (S' := fun _ _ => False) e4'.t.nf u3 agr_rfl (by unfold Ssp; omega) ⟨fun z => z, fun z => z⟩) v4 z4 (by unfold Scl S52; omega) (by unfold Srl SLx; omega)) (e := er n bt f5) (pc := f5) e9.1 e9.2
    rw [v2] at t1
    rw [z2] at t2
    injection t1 with t1
    injection t2 with t2
    have q1 : h12 = h13 := congrArg Prod.snd t1
    have q2 : g12 = g13 := congrArg Prod.snd t2
    subst q1 q2
    exact BO_tr Rn (by omega) X09 (BO_f e4'.t.b (by omega) fn5 R2' C0 t4 (XT_trans (X910 0 0) (XT_trans X11 (XT_TK t3))))
end
section
variable {n : Nat} {bt : Nat → Nat} {nd o T j k m p f f0 : Nat} {nm nm' : Nat → Int64} {kd kd' : List Int32} {pt : Nat → Nat} {h g : sm_H} {rec : sm_H → Option (Int32 × sm_H)}
theorem partF {o0 N i : Nat} (X : EX n bt nd rec o0) (ho : o0 ≤ o) (jo : j < o) (hT : T + 8 ≤ 8 * j) (j4 : j < 24) (iN : i < N) (N8 : N ≤ 8) (m7 : m < 8) (B : BS n bt nd o T j m m f nm kd pt h g) :
    (∃ y h2 g2 f' c, (∀ fu, 0 < fu → lp (F_199_2B rec) fu (I3 N, I3 i, h) = lp (F_199_2B rec) (fu - 1) (I3 N, I3 (i + 1), h2)) ∧ RunR (F_448 g) c g2 ∧ c + f < f' ∧ BS n bt nd o T j (m + 1) (m + 1) f' nm kd (updN pt m y) h2 g2 ∧ y < nH g2 ∧ hpl g2 y = kd ∧ PT (T + m) j h g h2 g2) ∨ ∃ e pc h1 g1 c, (∀ fu, 0 < fu → lp (F_199_2B rec) fu (I3 N, I3 i, h) = some (0, h1)) ∧ FT e pc h1 g1 ∧ XT 0 0 h g h1 g1 ∧ c + f ≤ n ∧ DieR (F_448 g) c g1 := by
  have C0 : F_199_2B rec (I3 N, I3 i, h) = (F_193 rec h).bind fun q1 => (F_188 q1.1 0 q1.2).bind fun q2 => if q2.1 = 0 then (some (.inr (0, q2.2))) else ((some (I3 i + 1 : Int32)).bind fun v3 => some (.inl (I3 N, v3, q2.2))) := by
    unfold F_199_2B
    show (if I3 N ≤ I3 i then _ else _) = _
    rw [if_neg (by rw [I3_le (by omega) (by omega)]; omega)]
  rcases partE B (Nat.le_refl _) (X o (T + m) j m f nm kd h g ho B.t B.op B.d B.c B.r jo (by omega) (by omega) B.mm) with ⟨y, h1, g2, f', c, e1, e2, e3, e4, e5, e6, e7⟩ | ⟨e, pc, h1, g1, c, e1, e2, e3, e4, e5⟩
  · have y5 := lt500 e4.t.K e5
    obtain ⟨h2, p1, p2, p3, p4, p5⟩ := pushP e4 (by omega) (by rw [up_s]; exact y5) 0
    rw [up_s] at p1
    rw [e1] at C0; simp only [obs] at C0
    rw [p1] at C0; simp only [obs] at C0
    rw [if_neg (by decide), show I3 i + 1 = I3 (i + 1) from I3_add i 1] at C0
    exact Or.inl ⟨y, h2, g2, f', c, fun fu hf => lp_s (by omega) C0, e2, e3, p2, e5, e6, PT_trans e7 p3⟩
  · refine Or.inr ⟨e, pc, h1, g1, c, fun fu hf => lp_e (by omega) ?_, e2, e3, e4, e5⟩
    rw [C0, e1]; simp only [obs]
    rw [show F_188 (-1) 0 h1 = some (0, h1) from by
      show F_188_0 (-1) 0 h1 = _
      unfold F_188_0 F_188_15
      rw [if_pos rfl]]
    rfl
theorem F199_e {N fu : Nat} (N8 : N ≤ 8) (hf : 0 < fu) (rec : sm_H → Option (Int32 × sm_H)) (h : sm_H) : lp (F_199_2B rec) fu (I3 N, I3 N, h) = some (1, h) := by
  refine lp_e (by omega) ?_
  unfold F_199_2B
  show (if I3 N ≤ I3 N then _ else _) = _
  rw [if_pos (by rw [I3_le (by omega) (by omega)]; omega)]
def mkC (T f0 : Nat) (u : sm_H) : Option (Int32 × sm_H) := (F_189 (I3 T) u).bind fun q11 =>
  (F_190 (I3 T + 1) q11.1 (I3 f0) q11.2).bind fun q12 =>
  if q12.1 = 0 then some (-1, q12.2)
  else ((F_184 1 q12.2).bind fun q13 =>
  (F_187 (I3 T) q13).bind fun q14 =>
  (F_187 (I3 T + 1) q14.2).bind fun q15 =>
  (F_141 56 q14.1 q15.1 q15.2).bind fun q16 =>
  (F_5 15 19 0 0 q16.1 q16.2).bind fun q17 =>
  if 0 ≤ q17.1 then some (q17.1, q17.2)
  else ((F_169 8 (I3 f0) q17.2).bind fun q18 => some (q18.1, q18.2)))
theorem catchEnd {ex : Int32} {x : Int64} (K : K1 h g) (S : SCO (nm1 x nm) (19 :: kd) h g) (nf : NF h g) (wh : g.1 67 106 = I3 f0) (st : STK h T 2 pt) (p0 : pt 0 < nH g ∧ hpl g (pt 0) = kd) (p1 : pt 1 < nH g ∧ hpl g (pt 1) = 19 :: kd) (fr : FRM g j 6 ex 2 pt) (f123 : g.1 123 j = I3 (400 - kd.length)) : PW T h g f0 (mkC T f0 h) (F_460 (I3 j) g) nm kd := by
  obtain ⟨q, q1, q2⟩ := rs_k K p0.1
  have j4 := fr.1
  have R0 : F_460 (I3 j) g = (F_433 (I3 (pt 1)) (I3 q) g).bind fun q32 => (ldI q32.2 123 24 (I3 j)).bind fun v33 => (some (sm_wI q32.2 67 94 v33)).bind fun h34 => F_432 15 19 (I3 (pt 0)) q32.1 h34 := by
    rw [F460 fr]
    unfold F_460_74
    rw [ld122 fr, ld119 fr]; simp only [obs]
    rw [if_neg (by decide), if_neg (by decide), if_neg (by decide), if_neg (by decide), if_neg (by decide), if_pos trivial, show pO 2 pt 0 = I3 (pt 0) from rfl, show pO 2 pt 1 = I3 (pt 1) from rfl, R_rs K p0.1, q1]; simp only [obs]
    refine congrArg _ (funext fun a => congrArg _ (funext fun b => ?_))
    exact bind_id _
  have C0 : mkC T f0 h = mkC T f0 h := rfl
  conv at C0 => rhs; unfold mkC
  rw [show F_189 (I3 T) h = some (I3 q, h) from (C_189 K st (i := 0) (by omega) p0.1).trans (by rw [q1])] at C0; simp only [obs] at C0
  rw [show I3 T + 1 = I3 (T + 1) from I3_add T 1] at C0
  rcases pass1 K S nf (i := 1) wh st (by omega) p1.1 p1.2 (k := q) q2 with ⟨z, h1, g1, a1, a2, a3, a4, a5, a6, a7, a8⟩ | ⟨e, h1, g1, a1, a2, a3, a4⟩
  · rw [a1] at C0; simp only [obs] at C0; rw [if_neg (by decide)] at C0
    rw [a2] at R0; simp only [obs] at R0
    have w1 : g1.1 123 j = I3 (400 - kd.length) := (a7.a.1 123 j (by unfold SRa SRq SRb SRp SRh SRt; omega)).trans f123
    rw [ldI_I j4 (by decide), w1] at R0; simp only [obs] at R0
    obtain ⟨h2, b1, b2', b3, b4⟩ := SCO_drop (ks := [19]) (kd := kd) (nm := nm) (SCO_TB S a7) (nm1_s x nm)
    rw [show F_184 1 h1 = some h2 from b1] at C0; simp only [obs] at C0
    have s2 := STK_sc a6 b3
    have W : TW T h1 g1 h2 (sm_wI g1 67 94 (I3 (400 - kd.length))) := TW_sc a7.k b3 b4
    have W0 : TW T h g h2 (sm_wI g1 67 94 (I3 (400 - kd.length))) := TW_trans (TW_of (TB_mono (Nat.le_add_right T 1) a7)) W
    rw [show F_187 (I3 T) h2 = some (I3 (pt 0), h2) from STK_at s2 (i := 0) (by omega)] at C0; simp only [obs] at C0
    rw [show F_187 (I3 (T + 1)) h2 = some (I3 z, h2) from STK_at s2 (i := 1) (by omega)] at C0; simp only [obs] at C0
    have M := catchMk W.k (NF_sc a8 b3 b4) (pc := f0) (wh_TW wh W0) (x := pt 0) (y := z) (W0.nH p0.1) (W.nH a3) (kd := kd) ((W0.hpl K p0.1).trans p0.2) ((W.hpl a7.k a3).trans a5) (by rw [W.hrs a7.k a3, a4, W0.hrs K p0.1, q1])
    rw [R0, C0]
    exact PW_tr W0 (PW_of b2' (PO_of M))
  · rw [a1] at C0; simp only [obs] at C0; rw [if_pos trivial] at C0
    rw [a2] at R0; simp only [obs] at R0
    have w1 : g1.1 123 j = I3 (400 - kd.length) := (a3.a.1 123 j (by unfold SRq SRb SRp SRh SRt; omega)).trans f123
    rw [ldI_I j4 (by decide), w1] at R0; simp only [obs] at R0
    have h0 := h_m1 K p0.1
    have F4 : ∀ u, F_432 15 19 (I3 (pt 0)) (-1) u = some (-1, u) := fun u => by
      show F_432_0 15 19 (I3 (pt 0)) (-1) u = _
      unfold F_432_0 F_432_11
      rw [if_neg h0, if_pos rfl]
    rw [F4] at R0
    have W : TW T h1 g1 h1 (sm_wI g1 67 94 (I3 (400 - kd.length))) := TW_sc a3.k agr_rfl (agr_wI agr_rfl (Or.inl ⟨rfl, rfl⟩))
    rw [R0, C0]
    exact Or.inr ⟨e, h1, _, rfl, rfl, TW_trans (TW_of (TB_of a3)) W, ⟨a4.1, a4.2.1, a4.2.2.1, a4.2.2.2.1, a4.2.2.2.2.1, a4.2.2.2.2.2⟩, NL_S (SCO_TK S a3)⟩
theorem catchX {st ex : Int32} (X : EX n bt nd rec (o + 1)) (B : BS n bt nd (o + 1) T (k + 1) 0 0 f nm kd pt h g) (F : FC g (k + 1) f0 kd.length 6 st ex) (ko : k < o) (hT : T ≤ 8 * k) (m3 : m ≤ 4000) (e : g.1 124 k = I3 m) : BO n bt o T k m f nm kd h g (F_210 rec (I3 f0) h) := by
  have o20 := B.op.2.2
  have s0 := B.t
  have fn := RB_n B.r
  have C0 : F_210 rec (I3 f0) h = F_210_0 rec (I3 f0) h := rfl
  unfold F_210_0 F_210_28 F_210_54 F_210_95 F_210_153 at C0
  rw [show h.1 55 12 = I3 T from s0.t.1] at C0; simp only [obs] at C0
  have RR : ∀ g' i, agr (XRp (k + 1)) g g' → g'.1 67 102 = I3 (k + 1 + 1) → g'.1 124 (k + 1) = I3 i → i ≤ 2 → F_451 g' = if i = 0 then wp (F_448 g') else if i = 2 then wp (F_457 g') else wp ((F_426 g').bind fun q3 => if q3.1 = 0 then some (0, q3.2) else ((F_450 q3.2).bind fun q4 => if q4.1 = 0 then some (0, q4.2) else ((F_427 q4.2).bind fun q5 => if q5.1 = 0 then some (0, q5.2) else ((F_444 (q5.2.2.1 67 108) 19 q5.2).bind fun q6 => wp (F_448 q6))))) := fun g' i a b c i2 => by
    have F' := FC_x F a
    rw [F451s b (by omega) F'.1 (Or.inr (Or.inl rfl)), if_neg (by decide), if_pos rfl]
    have R1 : F_454 (I3 (k + 1)) g' = F_454_0 (I3 (k + 1)) g' := rfl
    unfold F_454_0 F_454_50 at R1
    rw [ldI_I (by omega) (by decide), c] at R1; simp only [obs] at R1
    rcases (show i = 0 ∨ i = 1 ∨ i = 2 by omega) with rfl | rfl | rfl
    · rw [if_pos (by decide)] at R1
      rw [R1, if_pos rfl]; exact wp_wp _
    · rw [if_neg (by decide), if_neg (by decide)] at R1
      rw [R1, if_neg (by decide), if_neg (by decide)]; rfl
    · rw [if_neg (by decide), if_pos (by decide)] at R1
      rw [R1, if_neg (by decide), if_pos rfl]; exact wp_wp _
  rcases parts (g0 := g) X (Nat.le_refl _) (show k + 1 < o + 1 by omega) (by omega) (by omega) (show T + 8 ≤ 8 * (k + 1) by omega) (show 1 ≤ 8 by omega) 1 0 1000000 0 f pt h g (by omega) (by omega) (by omega) B agr_rfl (fun i' g' h1 h2 a b c => by
      rw [RR g' i' a b c (by omega), if_pos (by omega)]) with ⟨h1, g1, f1, c1, pt1, a1, a2, a3, a4, a5, a6, a7⟩ | ⟨e, pc, h1, g1, c, a1, a2, a3, a4, a5⟩
  rotate_left
  · rw [show F_199 rec 1 h = some (0, h1) from a1] at C0; simp only [obs] at C0; rw [if_pos trivial] at C0
    exact Or.inr ⟨e, pc, h1, g1, c, C0, a2, a3, a4, a5⟩
  rw [Nat.zero_add] at a4 a6
  rw [show F_199 rec 1 h = some (1, h1) from a1] at C0; simp only [obs] at C0; rw [if_neg (by decide)] at C0
  have ok0 := a6 0 (by omega) (by omega)
  have k10 : kd.length ≤ 10 := by rw [← ok0.2]; exact hpl10 a4.t.K ok0.1
  have X01 : XT T (k + 1) h g h1 g1 := PT_XT a4.t.K a4.t.l (PT_s (by omega) a7)
  have R1 := RR g1 1 a7.2.2.2 a4.t.b a4.mm (by omega)
  rw [if_neg (by decide), if_neg (by decide)] at R1
  have fn1 := RB_n a4.r
  rcases openB a4.t a4.op a4.c a4.r with ⟨h2, g2, -, b1, b2', b3, b4, b5, b6, b7, b8, b9, b10⟩ | ⟨e', h2, g2, b1, b2', b3, b4⟩
  rotate_left
  · rw [b1] at C0; simp only [obs] at C0; rw [if_pos trivial] at C0
    rw [b2'] at R1; simp only [obs] at R1; rw [if_pos trivial] at R1
    exact BO_tr a2 a3 X01 (BO_f a4.t.b (by omega) fn1 R1 C0 b3 (XT_mono (Nat.zero_le _) (Nat.zero_le _) b4))
  rw [b1] at C0; simp only [obs] at C0; rw [if_neg (by decide)] at C0
  rw [b2'] at R1; simp only [obs] at R1; rw [if_neg (by decide)] at R1
  rcases nameB b3 b5 b6 with ⟨h3, g3, c1', c2, c3, c4, c5, c6, c7, c8, c9, c10, c11, c12⟩ | ⟨e', h3, g3, c1', c2, c3, c4⟩
  rotate_left
  · rw [c1'] at C0; simp only [obs] at C0; rw [if_pos trivial] at C0
    rw [c2] at R1; simp only [obs] at R1; rw [if_pos trivial] at R1
    exact BO_tr a2 a3 X01 (BO_f a4.t.b (by omega) fn1 R1 C0 c3 (XT_mono (Nat.zero_le _) (Nat.zero_le _) (XT_trans b8 c4)))
  generalize hx : foldN bt (nx n bt f1) (men n bt (nx n bt f1) - nx n bt f1) = x at c4 c5
  rw [c1'] at C0; simp only [obs] at C0; rw [if_neg (by decide), show F_248 h3 = some (h3.2.1 52 10, h3) from rfl, c4] at C0; simp only [obs] at C0
  rw [c2] at R1; simp only [obs] at R1; rw [if_neg (by decide)] at R1
  have p3 : OP (o + 1 + 1) h3 g3 := OP_x b4 c11 c12 (by unfold S52; omega) (by unfold SLx; omega)
  rcases closeE c3 p3 c7 c8 with ⟨h4, g4, d1, d2, d3, d4, d5, d6, d7, d8, d9⟩ | ⟨e', h4, g4, d1, d2, d3, d4⟩
  rotate_left
  · rw [d1] at C0; simp only [obs] at C0; rw [if_pos trivial] at C0
    rw [d2] at R1; simp only [obs] at R1; rw [if_pos trivial] at R1
    exact BO_tr a2 a3 X01 (BO_f a4.t.b (by omega) fn1 R1 C0 d3 (XT_mono (Nat.zero_le _) (Nat.zero_le _) (XT_trans b8 (XT_trans c10 d4))))
  rw [d1] at C0; simp only [obs] at C0; rw [if_neg (by decide)] at C0
  rw [d2] at R1; simp only [obs] at R1; rw [if_neg (by decide), show g4.2.1 67 108 = x from (close_108 c3.xr c3.nf.2.1 c8 p3.2.1 d2).trans c5] at R1
  have X14 : XT T (k + 1) h1 g1 h4 g4 := XT_mono (by omega) (by omega) (XT_trans b8 (XT_trans c10 (XT_y (T' := T + 1) (k' := k + 1 + 1) c3.K d8 d9)))
  have a14c : agr Scl h1 h4 := agr_trans (agr_trans b9 (agr_mono (fun b j z => Or.inl z) c11)) d8
  have a14r : agr Srl g1 g4 := agr_trans (agr_trans (agr_mono (fun b j z => by
    rcases z with z | z
    · exact Or.inl z
    · exact Or.inr ⟨z.1, by omega⟩) b10) (agr_mono (fun b j z => by
    rcases z with z | z
    · exact Or.inl z
    · exact Or.inr ⟨z.1, by omega⟩) c12)) d9
  obtain ⟨h5, h6, g6, e1, e2, e3, e4, e5, e6⟩ := SCO_bind d3.S k10 x (k := 19) (by decide) (by omega) (I3 f0)
  rw [e1] at C0; simp only [obs] at C0; rw [if_neg (by decide), show F_183 0 x 19 h5 = some h6 from e2] at C0; simp only [obs] at C0
  rw [show F_444 x 19 g4 = some g6 from e3] at R1; simp only [obs] at R1
  have R1' : F_451 g1 = wp (F_448 g6) := R1.trans (wp_wp _)
  obtain ⟨s6, X46⟩ := TS_sc (T' := T) (k' := k + 1) d3 e5 e6 e4
  have X16 := XT_trans X14 X46
  have B6 : BS n bt nd (o + 1) T (k + 1) 1 1 (nx n bt (nx n bt (nx n bt f1))) (nm1 x nm) (19 :: kd) pt1 h6 g6 := ⟨s6, OP_x d4 e5 e6 (by unfold Ssp; omega) (by unfold Ssr; omega), DF_T a4.t.K a4.d X16, by
      obtain ⟨q, u1, u2, u3⟩ := d5
      exact ⟨q, (e5.1 52 3 (by unfold Ssp; omega)).trans u1, u2, u3⟩, by
      obtain ⟨q, u1, u2, u3⟩ := d6
      exact ⟨q, (e6.1 67 79 (by unfold Ssr; omega)).trans u1, u2, u3⟩, (e6.1 124 _ (by unfold Ssr; omega)).trans ((a14r.1 124 _ (by unfold Srl SLx; omega)).trans a4.mm), fun i hi i2 => (e6.1 125 _ (by unfold Ssr; omega)).trans ((a14r.1 125 _ (by unfold Srl SLx; omega)).trans (a4.q i hi i2)), fun i hi => (e5.1 60 _ (by unfold Ssp; omega)).trans ((a14c.1 60 _ (by unfold Scl S52; omega)).trans (a4.s i hi))⟩
  rcases partF (N := 1) (i := 0) X (Nat.le_refl _) (show k + 1 < o + 1 by omega) (show T + 8 ≤ 8 * (k + 1) by omega) (by omega) (by omega) (by omega) (by omega) B6 with ⟨y, h8, g8, f8, c8', t1, t2, t3, t4, t5, t6, t7⟩ | ⟨e', pc, h8, g8, c8', t1, t2, t3, t4, t5⟩
  rotate_left
  · rw [show F_199 rec 1 h6 = some (0, h8) from t1 1000000 (by omega)] at C0; simp only [obs] at C0; rw [if_pos trivial] at C0
    exact BO_tr a2 a3 X01 (BO_d a4.t.b (by omega) (by omega) R1' t5 t4 C0 t2 (XT_trans (XT_mono (Nat.zero_le _) (Nat.zero_le _) X16) t3))
  rw [show F_199 rec 1 h6 = some (1, h8) from (t1 1000000 (by omega)).trans (F199_e (N := 1) (by omega) (by omega) rec h8)] at C0; simp only [obs] at C0; rw [if_neg (by decide)] at C0
  have Rn2 : Run g1 (c8' + 1) g8 := RunR_run a4.t.b (by omega) (by omega) R1' (RunR_wp t2)
  have X18 : XT T (k + 1) h1 g1 h8 g8 := XT_trans X16 (PT_XT t4.t.K t4.t.l (PT_s (by omega) t7))
  have X08 := XT_trans X01 X18
  have F6 : FC g6 (k + 1) f0 kd.length 6 st ex := by
    have F4 := FC_r (FC_x F a7.2.2.2) a14r
    have ee : ∀ b, 119 ≤ b → b ≤ 123 → g6.1 b (k + 1) = g4.1 b (k + 1) := fun b b1 b2 => e6.1 b (k + 1) (by unfold Ssr; omega)
    exact ⟨(ee 119 (by omega) (by omega)).trans F4.1, (ee 120 (by omega) (by omega)).trans F4.2.1, (ee 121 (by omega) (by omega)).trans F4.2.2.1, (ee 122 (by omega) (by omega)).trans F4.2.2.2.1, (ee 123 (by omega) (by omega)).trans F4.2.2.2.2⟩
  have F8 := FC_x F6 t7.2.2.2
  have R2 : F_451 g8 = wp (F_457 g8) := by
    rw [F451s t4.t.b (by omega) F8.1 (Or.inr (Or.inl rfl)), if_neg (by decide), if_pos rfl]
    have R1 : F_454 (I3 (k + 1)) g8 = F_454_0 (I3 (k + 1)) g8 := rfl
    unfold F_454_0 F_454_50 at R1
    rw [ldI_I (by omega) (by decide), t4.mm] at R1; simp only [obs] at R1
    rw [if_neg (by decide), if_pos (by decide)] at R1
    rw [R1]; exact wp_wp _
  rw [C0]
  refine BO_tr (f := f8) (Run_trans a2 Rn2) (by omega) X08 (closeFin (mk := mkC T f0) t4 (by omega) m3 F8.2.1 F8.2.2.2.2 ((X08.a.1 124 k (by unfold XRc SRa SRq SRb SRp SRh SRt Ssr SLx; omega)).trans e) R2 (fun h9 g9 s9 x9 => ?_))
  obtain ⟨s10, x10⟩ := TS_x (T' := T + 2) (k' := k + 2) s9 agr_rfl (agr_wI agr_rfl (Or.inr ⟨rfl, Or.inr (Or.inl rfl)⟩) : agr (fun b j => SLx b j ∨ (b = 67 ∧ (j = 105 ∨ j = 106 ∨ j = 108))) g9 (sm_wI g9 67 106 (I3 f0)))
  have x11 := XT_trans x9 x10
  have fe : ∀ b, 119 ≤ b → b ≤ 124 → (sm_wI g9 67 106 (I3 f0)).1 b (k + 1) = g8.1 b (k + 1) := fun b b1 b2 => x11.a.1 b (k + 1) (by unfold XRc SRa SRq SRb SRp SRh SRt Ssr SLx; omega)
  have y0 : pt1 0 < nH g8 ∧ hpl g8 (pt1 0) = kd := ⟨X18.nH ok0.1, (X18.hpl a4.t.K ok0.1).trans ok0.2⟩
  exact catchEnd (ex := ex) (x := x) (pt := updN pt1 1 y) s10.K s10.S s10.nf rfl ⟨T + 2, s9.t.1, Nat.le_refl _, s9.t.2, fun i hi => (x9.c.1 60 _ (by unfold XCc SCq SCb Ssc SCd SCh SCt Ssp S52; omega)).trans (t4.s i hi)⟩ ⟨x11.nH y0.1, (x11.hpl t4.t.K y0.1).trans y0.2⟩ ⟨x11.nH t5, (x11.hpl t4.t.K t5).trans t6⟩ ⟨by omega, (fe 119 (by omega) (by omega)).trans F8.1, (fe 122 (by omega) (by omega)).trans F8.2.2.2.1, (fe 124 (by omega) (by omega)).trans t4.mm, by omega, fun i hi => (x11.a.1 125 _ (by unfold XRc SRa SRq SRb SRp SRh SRt Ssr SLx; omega)).trans (t4.q i hi (by omega))⟩ ((fe 123 (by omega) (by omega)).trans F8.2.2.2.2)
end
theorem lst_cons (f : Nat → Int32) (n : Nat) : lst f (n + 1) = f 0 :: lst (fun i => f (i + 1)) n := by
  unfold lst
  rw [List.range_succ_eq_map, List.map_cons, List.map_map]
  rfl
def Z455 (j : Nat) (u : sm_H) : Option (Int32 × sm_H) := (stI u 121 24 (I3 j) 2).bind fun h4 => (F_426 h4).bind fun q5 => if q5.1 = 0 then some (0, q5.2) else wp (F_448 q5.2)
theorem Z455_b {j : Nat} {x : Int32} (hx : x < 0) (u : sm_H) : F_455_123B (I3 j, x, u) = (Z455 j u).map .inr := by
  unfold F_455_123B Z455 wp
  show (if x < 0 then _ else _) = _
  rw [if_pos hx]
  simp only []
  cases stI u 121 24 (I3 j) 2 with
  | none => rfl
  | some h4 =>
    simp only [Option.bind_some]
    cases F_426 h4 with
    | none => rfl
    | some q5 =>
      simp only [Option.bind_some]
      by_cases z : q5.1 = 0
      · rw [if_pos z, if_pos z]; rfl
      · rw [if_neg z, if_neg z]
        cases F_448 q5.2 with
        | none => rfl
        | some q6 =>
          simp only [Option.bind_some]
          by_cases w : q6.1 = 0 ∨ q6.1 = 1
          · rw [if_pos w, if_pos w]; rfl
          · rw [if_neg w, if_neg w]; rfl
section
variable {n : Nat} {bt : Nat → Nat} {nd o T j k m p f f0 nv : Nat} {nm nm' ns : Nat → Int64} {kd kd' : List Int32} {pt : Nat → Nat} {h g : sm_H} {rec : sm_H → Option (Int32 × sm_H)}
theorem R_bindN (K : K1 h g) (S : SCR nm kd g) (hl : kd.length + nv < 400) (v3 : nv ≤ 3) (b : g.1 67 102 = I3 (j + 1)) (hj : j < 24) (hn : ∀ i, i < nv → g.2.1 126 (3 * j + i) = ns i) (hq : ∀ i, i < nv → g.1 125 (20 * j + i) = I3 (pt i) ∧ pt i < nH g) : ∃ g1, SCR (nmN ns nv nm) (lst (fun i => hrs g (pt i)) nv ++ kd) g1 ∧ agr Ssr g g1 ∧ ∀ r, Z455 j g1 = some r → F_455_123 (I3 j) (I3 nv - 1) g = some r := by
  have LP : ∀ c u fu, c ≤ nv → c < fu → agr Ssr g u → SCR (fun i => if i < nv - c then ns (c + i) else nm (i - (nv - c))) (lst (fun i => hrs g (pt (c + i))) (nv - c) ++ kd) u → ∃ g1, SCR (nmN ns nv nm) (lst (fun i => hrs g (pt i)) nv ++ kd) g1 ∧ agr Ssr g g1 ∧ ∀ r, Z455 j g1 = some r → lp F_455_123B fu (I3 j, I3 c - 1, u) = some r := by
    intro c
    induction c with
    | zero =>
      intro u fu hc hf au Su
      refine ⟨u, ?_, au, fun r hr => lp_e (by omega) ?_⟩
      · have e1 : (fun i => if i < nv - 0 then ns (0 + i) else nm (i - (nv - 0))) = nmN ns nv nm := by
          funext i
          unfold nmN
          rw [Nat.sub_zero, Nat.zero_add]
        have e2 : lst (fun i => hrs g (pt (0 + i))) (nv - 0) = lst (fun i => hrs g (pt i)) nv := by
          rw [Nat.sub_zero]; exact lst_congr (fun i _ => by rw [Nat.zero_add])
        rw [e1, e2] at Su
        exact Su
      · rw [Z455_b (by decide), hr]; rfl
    | succ c ih =>
      intro u fu hc hf au Su
      have W : TW 0 h g h u := TW_sc K agr_rfl au
      have eq1 : u.1 125 (20 * j + c) = I3 (pt c) := (au.1 125 _ (by unfold Ssr; omega)).trans (hq c (by omega)).1
      have lp1 := (hq c (by omega)).2
      have ll : (lst (fun i => hrs g (pt (c + 1 + i))) (nv - (c + 1)) ++ kd).length < 400 := by rw [List.length_append, lst_len]; omega
      obtain ⟨u1, d1, d2, d3⟩ := R_bind Su ll (ns c) (hrs g (pt c))
      have B : F_455_123B (I3 j, I3 (c + 1) - 1, u) = some (.inl (I3 j, I3 c - 1, u1)) := by
        rw [I3_s1]
        unfold F_455_123B
        show (if I3 c < 0 then _ else _) = _
        rw [if_neg (I3_nn (by omega))]
        simp only []
        rw [show (3 : Int32) * I3 j + I3 c = I3 (3 * j + c) by rw [I3_lit, I3_mul, I3_add], ldJ_I (by omega) (by decide), au.2.1 126 _ (by unfold Ssr; omega), hn c (by omega)]; simp only [obs]
        rw [R_449 (i := c) ((au.1 67 102 (by unfold Ssr; omega)).trans b) hj (by omega), eq1]; simp only [obs]
        rw [R_rs W.k (W.nH lp1), W.hrs K lp1]; simp only [obs]
        rw [d1]; simp only [obs]
        rw [show I3 c + (-1) = I3 c - 1 from (Int32.sub_eq_add_neg _ _).symm]
      have en : nm1 (ns c) (fun i => if i < nv - (c + 1) then ns (c + 1 + i) else nm (i - (nv - (c + 1)))) = fun i => if i < nv - c then ns (c + i) else nm (i - (nv - c)) := by
        funext i
        unfold nm1
        by_cases q : i = 0
        · subst q
          rw [if_pos rfl, if_pos (by omega), Nat.add_zero]
        · rw [if_neg q]
          by_cases w : i < nv - c
          · show (if i - 1 < nv - (c + 1) then ns (c + 1 + (i - 1)) else nm (i - 1 - (nv - (c + 1)))) = _
            rw [if_pos w, if_pos (by omega), show c + 1 + (i - 1) = c + i by omega]
          · show (if i - 1 < nv - (c + 1) then ns (c + 1 + (i - 1)) else nm (i - 1 - (nv - (c + 1)))) = _
            rw [if_neg w, if_neg (by omega), show i - 1 - (nv - (c + 1)) = i - (nv - c) by omega]
      have ek : hrs g (pt c) :: (lst (fun i => hrs g (pt (c + 1 + i))) (nv - (c + 1)) ++ kd) = lst (fun i => hrs g (pt (c + i))) (nv - c) ++ kd := by
        rw [show nv - c = (nv - (c + 1)) + 1 by omega, lst_cons, Nat.add_zero]
        rw [lst_congr (f := fun i => hrs g (pt (c + (i + 1)))) (f1 := fun i => hrs g (pt (c + 1 + i))) (fun i _ => by rw [show c + (i + 1) = c + 1 + i by omega])]
        rfl
      rw [en, ek] at d2
      obtain ⟨g1, z1, z2, z3⟩ := ih u1 (fu - 1) (by omega) (by omega) (agr_trans au d3) d2
      exact ⟨g1, z1, z2, fun r hr => by rw [lp_s (by omega) B]; exact z3 r hr⟩
  have S0 : SCR (fun i => if i < nv - nv then ns (nv + i) else nm (i - (nv - nv))) (lst (fun i => hrs g (pt (nv + i))) (nv - nv) ++ kd) g := by
    rw [Nat.sub_self]
    have e1 : (fun i => if i < 0 then ns (nv + i) else nm (i - 0)) = nm := by
      funext i
      rw [if_neg (by omega), Nat.sub_zero]
    rw [e1]; exact S
  exact LP nv g 1000000 (Nat.le_refl _) (by omega) agr_rfl S0
theorem F455w {i kl : Nat} {st : Int32} (F : FC g j f0 kl 5 st (I3 nv)) (b : g.1 67 102 = I3 (j + 1)) (j4 : j < 24) (c : g.1 124 j = I3 i) (v3 : nv ≤ 3) (i8 : i ≤ 8) (hs : st = 2 ∨ st = 3) (ne : i = 2 * nv → st = 3) : F_451 g = if 2 * nv + 2 ≤ i then wp (F_457 g) else wp (F_448 g) := by
  rw [F451s b j4 F.1 (Or.inr (Or.inr rfl)), if_neg (by decide), if_neg (by decide)]
  have R1 : F_455 (I3 j) g = F_455_0 (I3 j) g := rfl
  unfold F_455_0 at R1
  rw [ldI_I j4 (by decide), F.2.2.1] at R1; simp only [obs] at R1
  rw [if_neg (by rcases hs with rfl | rfl <;> decide), if_neg (by rcases hs with rfl | rfl <;> decide), ldI_I j4 (by decide), F.2.2.2.1] at R1; simp only [obs] at R1
  rw [ldI_I j4 (by decide), c] at R1; simp only [obs] at R1
  have R2 : F_455_222 (I3 j) (I3 nv) g = if 2 * nv + 2 ≤ i then wp (F_457 g) else wp (F_448 g) := by
    unfold F_455_222
    rw [ldI_I j4 (by decide), c]; simp only [obs]
    rw [show (2 : Int32) * I3 nv + 2 = I3 (2 * nv + 2) by rw [show (2 : Int32) * I3 nv = I3 (2 * nv) from I3_mul 2 nv]; exact I3_add _ 2]
    by_cases q : 2 * nv + 2 ≤ i
    · rw [if_pos q, if_pos (by rw [I3_le (by omega) (by omega)]; exact q)]; rfl
    · rw [if_neg q, if_neg (by rw [I3_le (by omega) (by omega)]; exact q)]; rfl
  rw [show (2 : Int32) * I3 nv = I3 (2 * nv) from I3_mul 2 nv] at R1
  have R3 : F_455 (I3 j) g = F_455_222 (I3 j) (I3 nv) g := by
    by_cases q : i = 2 * nv
    · rw [if_pos (by rw [q]), if_neg (by rw [ne q]; decide)] at R1; exact R1
    · rw [if_neg (by rw [I3_inj (by omega) (by omega)]; exact q)] at R1; exact R1
  rw [R3, R2]
  by_cases q : 2 * nv + 2 ≤ i
  · rw [if_pos q]; exact wp_wp _
  · rw [if_neg q]; exact wp_wp _
theorem F455x {kl : Nat} (F : FC g j f0 kl 5 2 (I3 nv)) (b : g.1 67 102 = I3 (j + 1)) (j4 : j < 24) (c : g.1 124 j = I3 (2 * nv)) (v3 : nv ≤ 3) : F_451 g = wp ((F_427 g).bind fun q17 => if q17.1 = 0 then some (0, q17.2) else ((stI q17.2 121 24 (I3 j) 3).bind fun h18 => F_455_222 (I3 j) (I3 nv) h18)) := by
  rw [F451s b j4 F.1 (Or.inr (Or.inr rfl)), if_neg (by decide), if_neg (by decide)]
  have R1 : F_455 (I3 j) g = F_455_0 (I3 j) g := rfl
  unfold F_455_0 at R1
  rw [ldI_I j4 (by decide), F.2.2.1] at R1; simp only [obs] at R1
  rw [if_neg (by decide), if_neg (by decide), ldI_I j4 (by decide), F.2.2.2.1] at R1; simp only [obs] at R1
  rw [ldI_I j4 (by decide), c] at R1; simp only [obs] at R1
  rw [show (2 : Int32) * I3 nv = I3 (2 * nv) from I3_mul 2 nv, if_pos rfl] at R1
  rw [R1]
  simp only [if_true]
def K211 (rec : sm_H → Option (Int32 × sm_H)) (f0 T : Nat) (q12 : Int32 × sm_H) : Option (Int32 × sm_H) :=
  if q12.1 = 0 then some (-1, q12.2)
  else ((F_208 (I3 T) q12.1 (I3 f0) q12.2).bind fun q13 =>
  if q13.1 = 0 then some (-1, q13.2)
  else ((F_174 q13.2).bind fun q14 =>
  if q14.1 = 0 then some (-1, q14.2)
  else ((F_199 rec q12.1 q14.2).bind fun q15 =>
  if q15.1 = 0 then some (-1, q15.2)
  else ((F_175 q15.2).bind fun q16 =>
  if q16.1 = 0 then some (-1, q16.2)
  else ((F_199 rec 2 q16.2).bind fun q17 =>
  if q17.1 = 0 then some (-1, q17.2)
  else ((F_175 q17.2).bind fun q18 =>
  if q18.1 = 0 then some (-1, q18.2)
  else F_211_69 rec (I3 f0) (I3 T) q12.1 0 q18.2))))))
theorem loopQ {fb : Nat} {hb gb : sm_H} (X : EX n bt nd rec (o + 1)) (ko : k < o) (hT : T ≤ 8 * k) (m3 : m ≤ 4000) (v1 : 1 ≤ nv) (v3 : nv ≤ 3) (B : BS n bt nd (o + 1) T (k + 1) nv nv f nm kd pt h g) (F : FC g (k + 1) f0 kd.length 5 1 (I3 nv)) (hn : ∀ i, i < nv → g.2.1 126 (3 * (k + 1) + i) = ns i ∧ h.2.1 61 (T + i) = ns i) (ok : ∀ i, i < nv → pt i < nH g ∧ hpl g (pt i) = kd ∧ ¬ hrs g (pt i) = 0) (eb : ∀ r, F_455_123 (I3 (k + 1)) (I3 nv - 1) g = some r → F_451 gb = wp (some r)) (Xb : XT T (k + 1) hb gb h g) (bb : gb.1 67 102 = I3 (k + 2)) (ff : fb < f) (e : gb.1 124 k = I3 m) : BO n bt o T k m fb nm kd hb gb (K211 rec f0 T (I3 nv, h)) := by
  have o20 := B.op.2.2
  have fn := RB_n B.r
  have ok0 := ok 0 (by omega)
  have k10 : kd.length ≤ 10 := by rw [← ok0.2.1]; exact hpl10 B.t.K ok0.1
  have C0 : K211 rec f0 T (I3 nv, h) = K211 rec f0 T (I3 nv, h) := rfl
  conv at C0 => rhs; unfold K211
  simp only [] at C0
  rw [if_neg (show ¬ I3 nv = (0 : Int32) by rw [I3_lit, I3_inj (by omega) (by decide)]; omega)] at C0
  obtain ⟨h1, w1, w2, w3⟩ := C_208 (ns := ns) (nv := nv) (T := T) (pt := pt) B.t.K (SCO_iff.mp B.t.S).1 (by omega) v3 ⟨T + nv, B.t.t.1, Nat.le_refl _, B.t.t.2, B.s⟩ (fun i hi => (ok i hi).1) (fun i hi => (hn i hi).2) (I3 f0)
  rw [w1] at C0; simp only [obs] at C0; rw [if_neg (by decide)] at C0
  obtain ⟨g1, z1, z2, z3⟩ := R_bindN (ns := ns) (nv := nv) (pt := pt) B.t.K (SCO_iff.mp B.t.S).2.1 (by omega) v3 B.t.b (by omega) (fun i hi => (hn i hi).1) (fun i hi => ⟨B.q i hi (by omega), (ok i hi).1⟩)
  generalize hks : lst (fun i => hrs g (pt i)) nv = ks at w2 z1
  have lks : ks.length = nv := by rw [← hks, lst_len]
  have aks : ∀ i, i < nv → at0 ks i = hrs g (pt i) := fun i hi => by rw [← hks, at0_lst hi]
  have nc1 : nC g1 = nC g := by show tn _ = tn _; rw [z2.1 67 6 (by unfold Ssr; omega)]
  have S1 : SCO (nmN ns nv nm) (ks ++ kd) h1 g1 := SCO_iff.mpr ⟨w2, z1, by rw [List.length_append]; omega, kL_app2 (fun i hi => by
    obtain ⟨q, u1, u2⟩ := rs_k B.t.K (ok i (by omega)).1
    refine ⟨q, (aks i (by omega)).trans u1, Nat.pos_of_ne_zero (fun z => (ok i (by omega)).2.2 ?_), by omega⟩
    rw [u1, z]; rfl) (kL_grow (Nat.le_of_eq nc1.symm) B.t.S.2.2.2.1)⟩
  obtain ⟨s1, X1⟩ := TS_sc (T' := T) (k' := k + 1) B.t w3 z2 S1
  have a12 : agr (fun b i => b = 121 ∧ i = k + 1) g1 (sm_wI g1 121 (k + 1) 2) := agr_wI agr_rfl ⟨rfl, rfl⟩
  have s2 : TS n bt (T + nv) (k + 1 + 1) (nmN ns nv nm) (ks ++ kd) h1 (sm_wI g1 121 (k + 1) 2) := TS_f s1 (agr_mono (fun b i z => by omega) a12)
  have X2 : XT T (k + 1) h1 g1 h1 (sm_wI g1 121 (k + 1) 2) := XT_x s1.K agr_rfl (agr_mono (fun b i z => Or.inr (Or.inr (Or.inl ⟨by omega, by omega, by omega⟩))) a12)
  have F2 : FC (sm_wI g1 121 (k + 1) 2) (k + 1) f0 kd.length 5 2 (I3 nv) := by
    have ee : ∀ b, 119 ≤ b → b ≤ 123 → g1.1 b (k + 1) = g.1 b (k + 1) := fun b b1 b2 => z2.1 b (k + 1) (by unfold Ssr; omega)
    exact ⟨(ee 119 (by omega) (by omega)).trans F.1, (ee 120 (by omega) (by omega)).trans F.2.1, if_pos rfl, (ee 122 (by omega) (by omega)).trans F.2.2.2.1, (ee 123 (by omega) (by omega)).trans F.2.2.2.2⟩
  have m2 : (sm_wI g1 121 (k + 1) 2).1 124 (k + 1) = I3 nv := (z2.1 124 _ (by unfold Ssr; omega)).trans B.mm
  have q2 : ∀ i, i < nv → (sm_wI g1 121 (k + 1) 2).1 125 (20 * (k + 1) + i) = I3 (pt i) := fun i hi => (z2.1 125 _ (by unfold Ssr; omega)).trans (B.q i hi (by omega))
  have r2 : RB n bt f (sm_wI g1 121 (k + 1) 2) := by
    obtain ⟨q, u1, u2, u3⟩ := B.r
    exact ⟨q, (z2.1 67 79 (by unfold Ssr; omega)).trans u1, u2, u3⟩
  have Z2 : Z455 (k + 1) g1 = (F_426 (sm_wI g1 121 (k + 1) 2)).bind fun q5 => if q5.1 = 0 then some (0, q5.2) else wp (F_448 q5.2) := by
    unfold Z455
    rw [stI_I (by omega) (by decide)]; rfl
  have p2 : OP (o + 1) h1 (sm_wI g1 121 (k + 1) 2) := OP_x B.op w3 (agr_trans (agr_mono (fun b i z => Or.inl z) z2) (agr_mono (fun b i z => Or.inr z) a12)) (by unfold Ssp; omega) (by unfold Ssr; omega)
  have c2 : CB n bt f h1 := by
    obtain ⟨q, u1, u2, u3⟩ := B.c
    exact ⟨q, (w3.1 52 3 (by unfold Ssp; omega)).trans u1, u2, u3⟩
  generalize hg2 : sm_wI g1 121 (k + 1) 2 = g2 at *
  have Xb2 : XT T (k + 1) hb gb h1 g2 := XT_trans Xb (XT_trans X1 X2)
  have X02 : XT T (k + 1) h g h1 g2 := XT_trans X1 X2
  rcases openB s2 p2 c2 r2 with ⟨h3, g3, -, b1, b2', b3, b4, b5, b6, b7, b8, b9, b10⟩ | ⟨e', h3, g3, b1, b2', b3, b4⟩
  rotate_left
  · rw [b1] at C0; simp only [obs] at C0; rw [if_pos trivial] at C0
    rw [b2'] at Z2; simp only [obs] at Z2; rw [if_pos trivial] at Z2
    exact BO_f bb (by omega) (by omega) (eb _ (z3 _ Z2)) C0 b3 (XT_trans (XT_mono (Nat.zero_le _) (Nat.zero_le _) Xb2) (XT_mono (Nat.zero_le _) (Nat.zero_le _) b4))
  rw [b1] at C0; simp only [obs] at C0; rw [if_neg (by decide)] at C0
  rw [b2'] at Z2; simp only [obs] at Z2; rw [if_neg (by decide)] at Z2
  have a23r : agr Srl g2 g3 := agr_mono (fun b j z => by
    rcases z with z | z
    · exact Or.inl z
    · exact Or.inr ⟨z.1, by omega⟩) b10
  have X03 : XT T (k + 1) h g h3 g3 := XT_trans X02 (XT_mono (by omega) (by omega) b8)
  have Xb3 : XT T (k + 1) hb gb h3 g3 := XT_trans Xb X03
  have B3 : BS n bt nd (o + 2) T (k + 1) nv nv (nx n bt f) (nmN ns nv nm) (ks ++ kd) pt h3 g3 := ⟨b3, b4, DF_T B.t.K B.d X03, b5, b6, (a23r.1 124 _ (by unfold Srl SLx; omega)).trans m2, fun i hi _ => (a23r.1 125 _ (by unfold Srl SLx; omega)).trans (q2 i hi), fun i hi => (b9.1 60 _ (by unfold S52; omega)).trans ((w3.1 60 _ (by unfold Ssp; omega)).trans (B.s i hi))⟩
  have F3 := FC_r F2 a23r
  have fE : ∀ rr c g', RunR rr c g' → F_448 g3 = rr → Run gb (c + 1) g' := fun rr c g' r er => by
    obtain ⟨g5, r1, r2⟩ := r
    rw [er, r1, wp1] at Z2
    exact RunR_run (j := k + 1) bb (by omega) (by omega) (eb _ (z3 _ Z2)) ⟨g5, rfl, r2⟩
  have fD : ∀ rr c g', DieR rr c g' → F_448 g3 = rr → Die gb (c + 1) g' := fun rr c g' r er => by
    rcases r with r | ⟨g5, r1, r2⟩
    · rw [er, r, wp0] at Z2
      exact DieR_die (j := k + 1) bb (by omega) (by omega) (eb _ (z3 _ Z2)) (Or.inl rfl)
    · rw [er, r1, wp1] at Z2
      exact DieR_die (j := k + 1) bb (by omega) (by omega) (eb _ (z3 _ Z2)) (Or.inr ⟨g5, rfl, r2⟩)
  rcases partF (N := nv) (i := 0) X (show o + 1 ≤ o + 2 by omega) (show k + 1 < o + 2 by omega) (show T + 8 ≤ 8 * (k + 1) by omega) (by omega) (by omega) (by omega) (by omega) B3 with ⟨y, h4, g4, f4, c4, t1, t2, t3, t4, t5, t6, t7⟩ | ⟨e', pc, h4, g4, c4, t1, t2, t3, t4, t5⟩
  rotate_left
  · rw [show F_199 rec (I3 nv) h3 = some (0, h4) from t1 1000000 (by omega)] at C0; simp only [obs] at C0; rw [if_pos trivial] at C0
    exact Or.inr ⟨e', pc, h4, g4, c4 + 1, C0, t2, XT_trans (XT_mono (Nat.zero_le _) (Nat.zero_le _) Xb3) t3, by omega, fD _ _ _ t5 rfl⟩
  have F4 := FC_x F3 t7.2.2.2
  have Rb4 := fE _ _ _ t2 rfl
  have X34 : XT T (k + 1) h3 g3 h4 g4 := PT_XT t4.t.K t4.t.l (PT_s (by omega) t7)
  rcases parts (g0 := g4) X (show o + 1 ≤ o + 2 by omega) (show k + 1 < o + 2 by omega) (by omega) (by omega) (show T + 8 ≤ 8 * (k + 1) by omega) (show nv ≤ 8 by omega) (nv - 1) 1 999999 (nv + 1) f4 (updN pt nv y) h4 g4 (by omega) (by omega) (by omega) t4 agr_rfl (fun i' g' i1 i2 a b c => by
      rw [F455w (FC_x F4 a) b (by omega) c v3 (by omega) (Or.inl rfl) (fun z => by omega), if_neg (by omega)]) with ⟨h5, g5, f5, c5, pt5, a1, a2, a3, a4, a5, a6, a7⟩ | ⟨e', pc, h5, g5, c5, a1, a2, a3, a4, a5⟩
  rotate_left
  · rw [show F_199 rec (I3 nv) h3 = some (0, h5) from (t1 1000000 (by omega)).trans a1] at C0; simp only [obs] at C0; rw [if_pos trivial] at C0
    exact Or.inr ⟨e', pc, h5, g5, (c4 + 1) + c5, C0, a2, XT_trans (XT_mono (Nat.zero_le _) (Nat.zero_le _) (XT_trans Xb3 X34)) a3, by omega, Run_die Rb4 a5⟩
  rw [show F_199 rec (I3 nv) h3 = some (1, h5) from (t1 1000000 (by omega)).trans a1] at C0; simp only [obs] at C0; rw [if_neg (by decide)] at C0
  rw [show nv + 1 + (nv - 1) = 2 * nv by omega] at a4 a6
  have F5 := FC_x F4 a7.2.2.2
  have X45 : XT T (k + 1) h4 g4 h5 g5 := PT_XT a4.t.K a4.t.l (PT_s (by omega) a7)
  have Rb5 := Run_trans Rb4 a2
  have Xb5 := XT_trans Xb3 (XT_trans X34 X45)
  have X05 := XT_trans X03 (XT_trans X34 X45)
  have R5 := F455x F5 a4.t.b (by omega) a4.mm v3
  have fn5 := RB_n a4.r
  rcases closeE a4.t a4.op a4.c a4.r with ⟨h6, g6, d1, d2, d3, d4, d5, d6, d7, d8, d9⟩ | ⟨e', h6, g6, d1, d2, d3, d4⟩
  rotate_left
  · rw [d1] at C0; simp only [obs] at C0; rw [if_pos trivial] at C0
    rw [d2] at R5; simp only [obs] at R5; rw [if_pos trivial] at R5
    exact BO_tr (f := f5) Rb5 (by omega) Xb5 (BO_f a4.t.b (by omega) fn5 R5 C0 d3 (XT_mono (Nat.zero_le _) (Nat.zero_le _) d4))
  rw [d1] at C0; simp only [obs] at C0; rw [if_neg (by decide)] at C0
  rw [d2] at R5; simp only [obs] at R5; rw [if_neg (by decide), stI_I (by omega) (by decide)] at R5; simp only [obs] at R5
  have a67 : agr (fun b i => b = 121 ∧ i = k + 1) g6 (sm_wI g6 121 (k + 1) 3) := agr_wI agr_rfl ⟨rfl, rfl⟩
  have F7 : FC (sm_wI g6 121 (k + 1) 3) (k + 1) f0 kd.length 5 3 (I3 nv) := by
    have F6 := FC_r F5 d9
    exact ⟨F6.1, F6.2.1, if_pos rfl, F6.2.2.2.1, F6.2.2.2.2⟩
  have m7 : (sm_wI g6 121 (k + 1) 3).1 124 (k + 1) = I3 (2 * nv) := (d9.1 124 _ (by unfold Srl SLx; omega)).trans a4.mm
  have q7 : ∀ i, i < 2 * nv → (sm_wI g6 121 (k + 1) 3).1 125 (20 * (k + 1) + i) = I3 (pt5 i) := fun i hi => (d9.1 125 _ (by unfold Srl SLx; omega)).trans (a4.q i hi (by omega))
  have r7 : RB n bt (nx n bt f5) (sm_wI g6 121 (k + 1) 3) := d6
  generalize hg7 : sm_wI g6 121 (k + 1) 3 = g7 at *
  have R7 : F_451 g5 = wp (F_448 g7) := by
    rw [R5]
    have R2 : F_455_222 (I3 (k + 1)) (I3 nv) g7 = wp (F_448 g7) := by
      unfold F_455_222
      rw [ldI_I (by omega) (by decide), m7]; simp only [obs]
      rw [show (2 : Int32) * I3 nv + 2 = I3 (2 * nv + 2) by rw [show (2 : Int32) * I3 nv = I3 (2 * nv) from I3_mul 2 nv]; exact I3_add _ 2, if_neg (by rw [I3_le (by omega) (by omega)]; omega)]; rfl
    rw [R2]; exact wp_wp _
  have s7 : TS n bt (T + 2 * nv) (k + 1 + 1) (nmN ns nv nm) (ks ++ kd) h6 g7 := TS_f d3 (agr_mono (fun b i z => by omega) a67)
  have X57 : XT T (k + 1) h5 g5 h6 g7 := XT_trans (XT_y a4.t.K d8 d9) (XT_x d3.K agr_rfl (agr_mono (fun b i z => Or.inr (Or.inr (Or.inl ⟨by omega, by omega, by omega⟩))) a67))
  have B7 : BS n bt nd (o + 1) T (k + 1) (2 * nv) (2 * nv) (nx n bt f5) (nmN ns nv nm) (ks ++ kd) pt5 h6 g7 := ⟨s7, OP_x d4 (P := fun _ _ => False) agr_rfl a67 (fun z => z) (by omega), DF_T a4.t.K a4.d X57, d5, r7, m7, fun i hi _ => q7 i hi, fun i hi => (d8.1 60 _ (by unfold Scl S52; omega)).trans (a4.s i hi)⟩
  rcases partF (N := 2) (i := 0) X (Nat.le_refl _) (show k + 1 < o + 1 by omega) (show T + 8 ≤ 8 * (k + 1) by omega) (by omega) (by omega) (by omega) (by omega) B7 with ⟨y8, h8, g8, f8, c8, t1', t2', t3', t4', t5', t6', t7'⟩ | ⟨e', pc, h8, g8, c8, t1', t2', t3', t4', t5'⟩
  rotate_left
  · rw [show F_199 rec 2 h6 = some (0, h8) from t1' 1000000 (by omega)] at C0; simp only [obs] at C0; rw [if_pos trivial] at C0
    exact BO_tr (f := f5) Rb5 (by omega) Xb5 (BO_d a4.t.b (by omega) (Nat.le_of_lt d7) R7 t5' t4' C0 t2' (XT_trans (XT_mono (Nat.zero_le _) (Nat.zero_le _) X57) t3'))
  have F8 := FC_x F7 t7'.2.2.2
  have Rb8 := Run_trans Rb5 (RunR_run (j := k + 1) a4.t.b (by omega) (by omega) R7 (RunR_wp t2'))
  have X78 : XT T (k + 1) h6 g7 h8 g8 := PT_XT t4'.t.K t4'.t.l (PT_s (by omega) t7')
  rcases parts (g0 := g8) X (Nat.le_refl _) (show k + 1 < o + 1 by omega) (by omega) (by omega) (show T + 8 ≤ 8 * (k + 1) by omega) (show 2 ≤ 8 by omega) 1 1 999999 (2 * nv + 1) f8 (updN pt5 (2 * nv) y8) h8 g8 (by omega) (by omega) (by omega) t4' agr_rfl (fun i' g' i1 i2 a b c => by
      rw [F455w (FC_x F8 a) b (by omega) c v3 (by omega) (Or.inr rfl) (fun _ => rfl), if_neg (by omega)]) with ⟨h9, g9, f9, c9, pt9, a1', a2', a3', a4', a5', a6', a7'⟩ | ⟨e', pc, h9, g9, c9, a1', a2', a3', a4', a5'⟩
  rotate_left
  · rw [show F_199 rec 2 h6 = some (0, h9) from (t1' 1000000 (by omega)).trans a1'] at C0; simp only [obs] at C0; rw [if_pos trivial] at C0
    exact Or.inr ⟨e', pc, h9, g9, _, C0, a2', XT_trans (XT_mono (Nat.zero_le _) (Nat.zero_le _) (XT_trans Xb5 (XT_trans X57 X78))) a3', by omega, Run_die Rb8 a5'⟩
  rw [show F_199 rec 2 h6 = some (1, h9) from (t1' 1000000 (by omega)).trans a1'] at C0; simp only [obs] at C0; rw [if_neg (by decide)] at C0
  rw [show 2 * nv + 1 + 1 = 2 * nv + 2 by omega] at a4' a6'
  have F9 := FC_x F8 a7'.2.2.2
  have X89 : XT T (k + 1) h8 g8 h9 g9 := PT_XT a4'.t.K a4'.t.l (PT_s (by omega) a7')
  have X79 := XT_trans X78 X89
  have Xb9 := XT_trans Xb5 (XT_trans X57 X79)
  rw [C0]
  refine BO_tr (f := f9) (Run_trans Rb8 a2') (by omega) Xb9 (closeFin (mk := F_211_69 rec (I3 f0) (I3 T) (I3 nv) 0) a4' (by omega) m3 F9.2.1 F9.2.2.2.2 ((Xb9.a.1 124 k (by unfold XRc SRa SRq SRb SRp SRh SRt Ssr SLx; omega)).trans e) (by
    rw [F455w F9 a4'.t.b (by omega) a4'.mm v3 (by omega) (Or.inr rfl) (fun _ => rfl), if_pos (by omega)]) (fun h10 g10 s10 x10 => ?_))
  obtain ⟨s11, x11'⟩ := TS_x (T' := T + (2 * nv + 2)) (k' := k + 2) s10 agr_rfl (agr_wI agr_rfl (Or.inr ⟨rfl, Or.inr (Or.inl rfl)⟩) : agr (fun b j => SLx b j ∨ (b = 67 ∧ (j = 105 ∨ j = 106 ∨ j = 108))) g10 (sm_wI g10 67 106 (I3 f0)))
  have x11 := XT_trans x10 x11'
  have fe : ∀ b, 119 ≤ b → b ≤ 124 → (sm_wI g10 67 106 (I3 f0)).1 b (k + 1) = g9.1 b (k + 1) := fun b b1 b2 => x11.a.1 b (k + 1) (by unfold XRc SRa SRq SRb SRp SRh SRt Ssr SLx; omega)
  have X09 := XT_trans X05 (XT_trans X57 X79)
  have pe : ∀ i, i < nv → pt9 i = pt i := fun i hi => by rw [a5' i (by omega), up_o _ _ (by omega), a5 i (by omega), up_o _ _ (by omega)]
  have XF := XT_trans (XT_mono (Nat.zero_le _) (Nat.zero_le _) X09) (XT_mono (Nat.zero_le _) (Nat.zero_le _) x11)
  have X5F := XT_trans (XT_mono (Nat.zero_le _) (Nat.zero_le _) (XT_trans X57 X79)) (XT_mono (Nat.zero_le _) (Nat.zero_le _) x11)
  have X8F := XT_trans (XT_mono (Nat.zero_le _) (Nat.zero_le _) X89) (XT_mono (Nat.zero_le _) (Nat.zero_le _) x11)
  have X4F := XT_trans (XT_mono (Nat.zero_le _) (Nat.zero_le _) X45) X5F
  have fr : FRM (sm_wI g10 67 106 (I3 f0)) (k + 1) 5 (I3 nv) (2 * nv + 2) pt9 := ⟨by omega, (fe 119 (by omega) (by omega)).trans F9.1, (fe 122 (by omega) (by omega)).trans F9.2.2.2.1, (fe 124 (by omega) (by omega)).trans a4'.mm, by omega, fun i hi => (x11.a.1 125 _ (by unfold XRc SRa SRq SRb SRp SRh SRt Ssr SLx; omega)).trans (a4'.q i hi (by omega))⟩
  rw [show F_460 (I3 (k + 1)) (sm_wI g10 67 106 (I3 f0)) = F_462 (I3 (k + 1)) (sm_wI g10 67 106 (I3 f0)) from by
    rw [F460 fr]
    unfold F_460_74
    rw [ld122 fr, ld119 fr]; simp only [obs]
    rw [if_neg (by decide), if_neg (by decide), if_neg (by decide), if_neg (by decide), if_pos trivial, bind_id]]
  refine loopEnd (nm' := nmN ns nv nm) (ks := ks) (kd := kd) (pt := pt9) s11.K s11.S (fun i => by unfold nmN; rw [lks, if_neg (by omega), Nat.add_sub_cancel_left]) s11.nf rfl v1 v3 lks ⟨T + (2 * nv + 2), s10.t.1, Nat.le_refl _, s10.t.2, fun i hi => (x10.c.1 60 _ (by unfold XCc SCq SCb Ssc SCd SCh SCt Ssp S52; omega)).trans (a4'.s i hi)⟩ (by omega) (fun i hi => by rw [aks i hi]; exact (ok i hi).2.2) (fun i hi => ?_) (fun i i1 i2 => ?_) (fun i hi => (x11.a.1 125 _ (by unfold XRc SRa SRq SRb SRp SRh SRt Ssr SLx; omega)).trans (a4'.q i hi (by omega))) ((fe 122 (by omega) (by omega)).trans F9.2.2.2.1) ((fe 123 (by omega) (by omega)).trans F9.2.2.2.2) rec
  · rw [pe i hi, aks i hi]
    exact ⟨XF.nH (ok i hi).1, (XF.hpl B.t.K (ok i hi).1).trans (ok i hi).2.1, XF.hrs B.t.K (ok i hi).1⟩
  · by_cases c1 : i < 2 * nv
    · rw [a5' i (by omega), up_o _ _ (by omega)]
      by_cases c2 : i = nv
      · subst c2
        rw [a5 i (by omega), up_s]
        exact ⟨X4F.nH t5, (X4F.hpl t4.t.K t5).trans t6⟩
      · have z := a6 i (by omega) (by omega)
        exact ⟨X5F.nH z.1, (X5F.hpl a4.t.K z.1).trans z.2⟩
    · by_cases c2 : i = 2 * nv
      · subst c2
        rw [a5' _ (by omega), up_s]
        exact ⟨X8F.nH t5', (X8F.hpl t4'.t.K t5').trans t6'⟩
      · have z := a6' i (by omega) (by omega)
        have XX := XT_mono (Nat.zero_le _) (Nat.zero_le _) x11 (T' := 0) (k' := 0)
        exact ⟨XX.nH z.1, (XX.hpl a4'.t.K z.1).trans z.2⟩
end
section
variable {n : Nat} {bt : Nat → Nat} {nd o T j k m p f f0 nv : Nat} {nm nm' ns : Nat → Int64} {kd kd' : List Int32} {pt : Nat → Nat} {h g : sm_H} {rec : sm_H → Option (Int32 × sm_H)}
theorem SLx_Srl {g1 : sm_H} (a : agr SLx g g1) : agr Srl g g1 := agr_mono (fun b j z => Or.inl z) a
theorem S52_Scl {h1 : sm_H} (a : agr S52 h h1) : agr Scl h h1 := agr_mono (fun b j z => Or.inl z) a
theorem CB_x {h1 : sm_H} (c : CB n bt f h) (e : h1.1 52 3 = h.1 52 3) : CB n bt f h1 := by
  obtain ⟨q, u1, u2, u3⟩ := c
  exact ⟨q, e.trans u1, u2, u3⟩
theorem RB_x {g1 : sm_H} (c : RB n bt f g) (e : g1.1 67 79 = g.1 67 79) : RB n bt f g1 := by
  obtain ⟨q, u1, u2, u3⟩ := c
  exact ⟨q, e.trans u1, u2, u3⟩
theorem C_171 {h1 : sm_H} (c1 : F_249 h = some (I3 (wrd n bt f), h1)) (w : wrd n bt f ≠ 6) : F_171 h = some (I3 (wrd n bt f), h1) := by
  have w6 := wrd_6 n bt f
  show F_171_0 h = _
  unfold F_171_0 F_171_26
  rw [c1]; simp only [obs]
  rw [if_neg (by rw [I3_lit, I3_inj (by omega) (by decide)]; exact w)]
theorem C_171b {h1 h2 : sm_H} (c1 : F_249 h = some (I3 (wrd n bt f), h1)) (w : wrd n bt f = 6) (b : F_170 (h1.1 52 6) h1 = some (-1, h2)) : F_171 h = some (6, h2) := by
  show F_171_0 h = _
  unfold F_171_0 F_171_26
  rw [c1, w]; simp only [obs]
  rw [if_pos (by decide), show F_244 h1 = some (h1.1 52 6, h1) from rfl]; simp only [obs]
  rw [b]; rfl
theorem C_170f {e pc : Nat} (ft : FT e pc h g) (x : Int32) : F_170 x h = some (-1, h) := by
  show F_170_0 x h = _
  unfold F_170_0
  rw [show F_243 h = some (h.1 52 5, h) from rfl]; simp only [obs]
  rw [C_169f ft]; rfl
theorem FT_nz {e pc : Nat} (ft : FT e pc h g) : ¬ h.1 55 17 = 0 := by
  obtain ⟨f1, -, -, -, f5, f6⟩ := ft
  rw [f1, I3_lit, I3_inj (by omega) (by decide)]; omega
theorem loopN (X : EX n bt nd rec (o + 1)) (ko : k < o) (hT : T ≤ 8 * k) (m3 : m ≤ 4000) : ∀ r i, i + r = 3 → ∀ (fu f fb : Nat) (ns : Nat → Int64) (pt : Nat → Nat) (h g hb gb : sm_H), r + 2 < fu → BS n bt nd (o + 2) T (k + 1) i i f nm kd pt h g → FC g (k + 1) f0 kd.length 5 1 (I3 i) → (∀ q, q < i → g.2.1 126 (3 * (k + 1) + q) = ns q ∧ h.2.1 61 (T + q) = ns q) → (∀ q, q < i → pt q < nH g ∧ hpl g (pt q) = kd ∧ ¬ hrs g (pt q) = 0) → (i = 0 ∨ wrd n bt f ≠ 2) → F_451 gb = wp (F_456 (I3 (k + 1)) g) → XT T (k + 1) hb gb h g → gb.1 67 102 = I3 (k + 2) → fb < f → gb.1 124 k = I3 m → BO n bt o T k m fb nm kd hb gb ((lp (F_212_11B rec) fu (I3 f0, I3 i, h)).bind (K211 rec f0 T)) := by
  intro r
  induction r with
  | zero =>
    intro i hi fu f fb ns pt h g hb gb hf B F hn ok cl eb Xb bb ff e
    have o20 := B.op.2.2
    have fn := RB_n B.r
    have w6 := wrd_6 n bt f
    obtain ⟨h1, c1, c2, c3, c4⟩ := step_C B.t B.c
    obtain ⟨g1, d1, d2, d3, d4, d5⟩ := look_R c3 B.r
    have X1 : ∀ T' k', XT T' k' h g h1 g1 := fun T' k' => XT_y B.t.K (S52_Scl c4) (SLx_Srl d2)
    have C0 : F_212_11B rec (I3 f0, I3 i, h) = (F_171 h).bind fun q5 => if q5.1 = 2 then (if I3 i ≤ 0 then (F_212_42 rec (I3 f0) (I3 i) q5.1 q5.2) else ((some (sm_wI q5.2 55 16 ((q5.2.1 55 16) - 1))).bind fun h6 => some (.inr (I3 i, h6)))) else (F_212_42 rec (I3 f0) (I3 i) q5.1 q5.2) := by
      unfold F_212_11B
      show (if 3 < I3 i then _ else _) = _
      rw [if_neg (by rw [I3_lit, I3_lt (by decide) (by omega)]; omega)]
    have R0 : F_456 (I3 (k + 1)) g = F_456_0 (I3 (k + 1)) g := rfl
    unfold F_456_0 F_456_46 F_456_27 at R0
    have K0 : ∀ u : sm_H, K211 rec f0 T (0, u) = some (-1, u) := fun u => by
      unfold K211
      rw [if_pos rfl]
    by_cases w : wrd n bt f = 6
    · obtain ⟨h2, g2, b1, b2', b3, b4, b5⟩ := badWord c3 c2 B.r w
      rw [b2'] at R0; simp only [obs] at R0; rw [if_pos trivial] at R0
      rw [C_171b c1 w b1] at C0; simp only [obs] at C0
      rw [if_neg (by decide)] at C0
      unfold F_212_42 F_212_52 F_212_58 F_212_80 at C0
      rw [if_neg (by decide), C_170f b3] at C0; simp only [obs] at C0
      rw [if_neg (FT_nz b3)] at C0
      rw [R0] at eb
      refine BO_f bb (by omega) (by omega) eb ?_ b3 (XT_trans (XT_mono (Nat.zero_le _) (Nat.zero_le _) Xb) (XT_trans (XT_y B.t.K (S52_Scl c4) agr_rfl) b4))
      rw [lp_e (by omega) C0]; exact K0 h2
    rw [if_neg w] at d5
    obtain ⟨d5, lr⟩ := d5
    rw [C_171 c1 w] at C0; simp only [obs] at C0
    rw [d5] at R0; simp only [obs] at R0; rw [if_neg (by decide)] at R0
    have bad : F_212_11B rec (I3 f0, I3 i, h) = F_212_52 rec (I3 f0) (I3 i) h1 → F_456 (I3 (k + 1)) g = ((F_421 g1).bind fun q1 => if q1.1 = 0 ∨ q1.1 = 1 then some (q1.1, q1.2) else none) → BO n bt o T k m fb nm kd hb gb ((lp (F_212_11B rec) fu (I3 f0, I3 i, h)).bind (K211 rec f0 T)) := fun x1 x2 => by
      obtain ⟨h2, g2, f1, f2, f3, f4⟩ := XT_fail d1 (T' := 0) (k' := 0) (e := 4) (f := f) (by decide) (by decide)
      rw [f421 g1 d4, show F_413 4 (I3 f) g1 = some (0, g2) from f2] at x2
      rw [x2] at eb
      unfold F_212_52 F_212_58 F_212_80 at x1
      rw [C_170 c2, show F_169 4 (I3 f) h1 = some (-1, h2) from f1] at x1; simp only [obs] at x1
      rw [if_neg (FT_nz f3)] at x1
      refine BO_f bb (by omega) (by omega) eb ?_ f3 (XT_trans (XT_mono (Nat.zero_le _) (Nat.zero_le _) Xb) (XT_trans (X1 0 0) f4))
      rw [lp_e (by omega) x1]; exact K0 h2
    have nr : wrd n bt f ≠ 1 → ¬ g1.1 67 80 = 3 := fun z => by
      rw [lr.2.2.1, show (3 : Int32) = I3 (rwd 1) from rfl, I3_inj (by have := rwd_5 (x := wrd n bt f) (by omega); omega) (by decide)]
      exact fun y => z (rwd_inj (by omega) (by omega) y)
    have nw : ∀ x : Nat, x < 6 → wrd n bt f ≠ x → ¬ I3 (wrd n bt f) = I3 x := fun x hx z => by rw [I3_inj (by omega) (by omega)]; exact z
    by_cases w1 : wrd n bt f = 1
    rotate_left
    · refine bad ?_ ?_
      · rw [C0]
        unfold F_212_42
        have e1 : ¬ I3 (wrd n bt f) = (1 : Int32) := nw 1 (by decide) w1
        rw [if_neg e1]
        by_cases w2 : wrd n bt f = 2
        · have i0 : i = 0 := by
            rcases cl with z | z
            · exact z
            · exact absurd w2 z
          rw [if_pos (by rw [w2]; rfl), if_pos (by rw [i0]; decide)]
        · rw [if_neg (show ¬ I3 (wrd n bt f) = (2 : Int32) from nw 2 (by decide) w2)]
      · rw [R0, if_neg (nr w1)]
    have e80 : g1.1 67 80 = 3 := by rw [lr.2.2.1, w1]; rfl
    have l122 : ldI g1 122 24 (I3 (k + 1)) = some (I3 i) := by rw [ldI_I (by omega) (by decide), d2.1 122 _ (by unfold SLx; omega), F.2.2.2.1]
    rw [w1, if_neg (by decide)] at C0
    rw [if_pos e80, l122] at R0; simp only [obs] at R0
    have e3 : i = 3 := by omega
    refine bad ?_ ?_
    · rw [C0]
      unfold F_212_42
      rw [if_pos (by decide), if_pos (by rw [e3]; rfl)]
    · rw [R0, if_pos (by rw [e3]; rfl)]
  | succ r ih =>
    intro i hi fu f fb ns pt h g hb gb hf B F hn ok cl eb Xb bb ff e
    have o20 := B.op.2.2
    have fn := RB_n B.r
    have w6 := wrd_6 n bt f
    obtain ⟨h1, c1, c2, c3, c4⟩ := step_C B.t B.c
    obtain ⟨g1, d1, d2, d3, d4, d5⟩ := look_R c3 B.r
    have X1 : ∀ T' k', XT T' k' h g h1 g1 := fun T' k' => XT_y B.t.K (S52_Scl c4) (SLx_Srl d2)
    have C0 : F_212_11B rec (I3 f0, I3 i, h) = (F_171 h).bind fun q5 => if q5.1 = 2 then (if I3 i ≤ 0 then (F_212_42 rec (I3 f0) (I3 i) q5.1 q5.2) else ((some (sm_wI q5.2 55 16 ((q5.2.1 55 16) - 1))).bind fun h6 => some (.inr (I3 i, h6)))) else (F_212_42 rec (I3 f0) (I3 i) q5.1 q5.2) := by
      unfold F_212_11B
      show (if 3 < I3 i then _ else _) = _
      rw [if_neg (by rw [I3_lit, I3_lt (by decide) (by omega)]; omega)]
    have R0 : F_456 (I3 (k + 1)) g = F_456_0 (I3 (k + 1)) g := rfl
    unfold F_456_0 F_456_46 F_456_27 at R0
    have K0 : ∀ u : sm_H, K211 rec f0 T (0, u) = some (-1, u) := fun u => by
      unfold K211
      rw [if_pos rfl]
    by_cases w : wrd n bt f = 6
    · obtain ⟨h2, g2, b1, b2', b3, b4, b5⟩ := badWord c3 c2 B.r w
      rw [b2'] at R0; simp only [obs] at R0; rw [if_pos trivial] at R0
      rw [C_171b c1 w b1] at C0; simp only [obs] at C0
      rw [if_neg (by decide)] at C0
      unfold F_212_42 F_212_52 F_212_58 F_212_80 at C0
      rw [if_neg (by decide), C_170f b3] at C0; simp only [obs] at C0
      rw [if_neg (FT_nz b3)] at C0
      rw [R0] at eb
      refine BO_f bb (by omega) (by omega) eb ?_ b3 (XT_trans (XT_mono (Nat.zero_le _) (Nat.zero_le _) Xb) (XT_trans (XT_y B.t.K (S52_Scl c4) agr_rfl) b4))
      rw [lp_e (by omega) C0]; exact K0 h2
    rw [if_neg w] at d5
    obtain ⟨d5, lr⟩ := d5
    rw [C_171 c1 w] at C0; simp only [obs] at C0
    rw [d5] at R0; simp only [obs] at R0; rw [if_neg (by decide)] at R0
    have bad : F_212_11B rec (I3 f0, I3 i, h) = F_212_52 rec (I3 f0) (I3 i) h1 → F_456 (I3 (k + 1)) g = ((F_421 g1).bind fun q1 => if q1.1 = 0 ∨ q1.1 = 1 then some (q1.1, q1.2) else none) → BO n bt o T k m fb nm kd hb gb ((lp (F_212_11B rec) fu (I3 f0, I3 i, h)).bind (K211 rec f0 T)) := fun x1 x2 => by
      obtain ⟨h2, g2, f1, f2, f3, f4⟩ := XT_fail d1 (T' := 0) (k' := 0) (e := 4) (f := f) (by decide) (by decide)
      rw [f421 g1 d4, show F_413 4 (I3 f) g1 = some (0, g2) from f2] at x2
      rw [x2] at eb
      unfold F_212_52 F_212_58 F_212_80 at x1
      rw [C_170 c2, show F_169 4 (I3 f) h1 = some (-1, h2) from f1] at x1; simp only [obs] at x1
      rw [if_neg (FT_nz f3)] at x1
      refine BO_f bb (by omega) (by omega) eb ?_ f3 (XT_trans (XT_mono (Nat.zero_le _) (Nat.zero_le _) Xb) (XT_trans (X1 0 0) f4))
      rw [lp_e (by omega) x1]; exact K0 h2
    have nr : wrd n bt f ≠ 1 → ¬ g1.1 67 80 = 3 := fun z => by
      rw [lr.2.2.1, show (3 : Int32) = I3 (rwd 1) from rfl, I3_inj (by have := rwd_5 (x := wrd n bt f) (by omega); omega) (by decide)]
      exact fun y => z (rwd_inj (by omega) (by omega) y)
    have nw : ∀ x : Nat, x < 6 → wrd n bt f ≠ x → ¬ I3 (wrd n bt f) = I3 x := fun x hx z => by rw [I3_inj (by omega) (by omega)]; exact z
    by_cases w1 : wrd n bt f = 1
    rotate_left
    · refine bad ?_ ?_
      · rw [C0]
        unfold F_212_42
        have e1 : ¬ I3 (wrd n bt f) = (1 : Int32) := nw 1 (by decide) w1
        rw [if_neg e1]
        by_cases w2 : wrd n bt f = 2
        · have i0 : i = 0 := by
            rcases cl with z | z
            · exact z
            · exact absurd w2 z
          rw [if_pos (by rw [w2]; rfl), if_pos (by rw [i0]; decide)]
        · rw [if_neg (show ¬ I3 (wrd n bt f) = (2 : Int32) from nw 2 (by decide) w2)]
      · rw [R0, if_neg (nr w1)]
    have e80 : g1.1 67 80 = 3 := by rw [lr.2.2.1, w1]; rfl
    have l122 : ldI g1 122 24 (I3 (k + 1)) = some (I3 i) := by rw [ldI_I (by omega) (by decide), d2.1 122 _ (by unfold SLx; omega), F.2.2.2.1]
    rw [w1, if_neg (by decide)] at C0
    rw [if_pos e80, l122] at R0; simp only [obs] at R0
    have i3 : i < 3 := by omega
    have ni3 : ¬ I3 i = (3 : Int32) := by rw [I3_lit, I3_inj (by omega) (by decide)]; omega
    unfold F_212_42 F_212_58 F_212_80 at C0
    rw [if_pos (by decide), if_neg ni3, if_pos c3.nf.1] at C0
    rw [if_neg ni3] at R0
    have p1 : OP (o + 2) h1 g1 := OP_x B.op c4 d2 (by unfold S52; omega) (by unfold SLx; omega)
    rcases openS d1 p1 fn c2 lr w1 with ⟨h2, g2, -, a1, a2, a3, a4, a5, a6, a7, a8, a9, a10⟩ | ⟨e', h2, g2, a1, a2, a3, a4⟩
    rotate_left
    · rw [a1] at C0; simp only [obs] at C0; rw [if_pos trivial] at C0
      rw [a2] at R0; simp only [obs] at R0; rw [if_pos trivial] at R0
      rw [R0] at eb
      refine BO_f bb (by omega) (by omega) eb ?_ a3 (XT_trans (XT_mono (Nat.zero_le _) (Nat.zero_le _) Xb) (XT_trans (X1 0 0) (XT_mono (Nat.zero_le _) (Nat.zero_le _) a4)))
      rw [lp_e (by omega) C0]; exact K0 h2
    rw [a1] at C0; simp only [obs] at C0; rw [if_neg (by decide)] at C0
    rw [a2] at R0; simp only [obs] at R0; rw [if_neg (by decide)] at R0
    have C1 : F_207 rec (I3 f0) h2 = F_207_0 rec (I3 f0) h2 := rfl
    unfold F_207_0 F_207_75 F_207_76 at C1
    rcases nameB a3 a5 a6 with ⟨h3, g3, b1, b2', b3, b4, b5, b6, b7, b8, b9, b10, b11, b12⟩ | ⟨e', h3, g3, b1, b2', b3, b4⟩
    rotate_left
    · rw [b1] at C1; simp only [obs] at C1; rw [if_pos trivial] at C1
      rw [C1] at C0; simp only [obs] at C0; rw [if_pos trivial] at C0
      rw [b2'] at R0; simp only [obs] at R0; rw [if_pos trivial] at R0
      rw [R0] at eb
      refine BO_f bb (by omega) (by omega) eb ?_ b3 (XT_trans (XT_mono (Nat.zero_le _) (Nat.zero_le _) Xb) (XT_trans (X1 0 0) (XT_mono (Nat.zero_le _) (Nat.zero_le _) (XT_trans a8 b4))))
      rw [lp_e (by omega) C0]; exact K0 h3
    generalize hx : foldN bt (nx n bt f) (men n bt (nx n bt f) - nx n bt f) = x at b4 b5
    rw [b1] at C1; simp only [obs] at C1; rw [if_neg (by decide), show F_248 h3 = some (h3.2.1 52 10, h3) from rfl, b4] at C1; simp only [obs] at C1
    rw [b2'] at R0; simp only [obs] at R0; rw [if_neg (by decide)] at R0
    have a03r : agr Srl g g3 := agr_trans (agr_trans (SLx_Srl d2) (agr_mono (fun b j z => by
      rcases z with ⟨z1, z2 | z2⟩
      · exact Or.inr ⟨z1, Or.inl z2⟩
      · exact Or.inl ⟨z1, by omega, by omega⟩) a10)) (agr_mono (fun b j z => by
      rcases z with z | z
      · exact Or.inl z
      · exact Or.inr ⟨z.1, by omega⟩) b12)
    have a03c : agr Scl h h3 := agr_trans (agr_trans (S52_Scl c4) (agr_mono (fun b j z => Or.inr z) a9)) (S52_Scl b11)
    have F3 := FC_r F a03r
    have l3 : ldI g3 122 24 (I3 (k + 1)) = some (I3 i) := by rw [ldI_I (by omega) (by decide), F3.2.2.2.1]
    rw [l3, b5] at R0; simp only [obs] at R0
    rw [show (3 : Int32) * I3 (k + 1) + I3 i = I3 (3 * (k + 1) + i) by rw [I3_lit, I3_mul, I3_add], stJ_I (by omega) (by decide)] at R0; simp only [obs] at R0
    rw [ldI_I (by omega) (by decide), show (sm_wJ g3 126 (3 * (k + 1) + i) x).1 122 (k + 1) = I3 i from F3.2.2.2.1] at R0; simp only [obs] at R0
    rw [show I3 i + 1 = I3 (i + 1) from I3_add i 1, stI_I (by omega) (by decide)] at R0; simp only [obs] at R0
    have v4 : ∀ q, (sm_wI (sm_wJ g3 126 (3 * (k + 1) + i) x) 122 (k + 1) (I3 (i + 1))).2.1 126 q = if q = 3 * (k + 1) + i then x else g3.2.1 126 q := fun q => rfl
    have a34 : agr (fun b q => b = 126 ∧ q = 3 * (k + 1) + i ∨ b = 122 ∧ q = k + 1) g3 (sm_wI (sm_wJ g3 126 (3 * (k + 1) + i) x) 122 (k + 1) (I3 (i + 1))) := agr_wI (agr_wJ agr_rfl (Or.inl ⟨rfl, rfl⟩)) (Or.inr ⟨rfl, rfl⟩)
    have F4 : FC (sm_wI (sm_wJ g3 126 (3 * (k + 1) + i) x) 122 (k + 1) (I3 (i + 1))) (k + 1) f0 kd.length 5 1 (I3 (i + 1)) := ⟨F3.1, F3.2.1, F3.2.2.1, if_pos rfl, F3.2.2.2.2⟩
    have r4 : RB n bt (nx n bt (nx n bt f)) (sm_wI (sm_wJ g3 126 (3 * (k + 1) + i) x) 122 (k + 1) (I3 (i + 1))) := b8
    have m4 : (sm_wI (sm_wJ g3 126 (3 * (k + 1) + i) x) 122 (k + 1) (I3 (i + 1))).1 124 (k + 1) = I3 i := (a03r.1 124 _ (by unfold Srl SLx; omega)).trans B.mm
    have q4 : ∀ q, q < i → (sm_wI (sm_wJ g3 126 (3 * (k + 1) + i) x) 122 (k + 1) (I3 (i + 1))).1 125 (20 * (k + 1) + q) = I3 (pt q) := fun q hq => (a03r.1 125 _ (by unfold Srl SLx; omega)).trans (B.q q hq (by omega))
    generalize hg4 : sm_wI (sm_wJ g3 126 (3 * (k + 1) + i) x) 122 (k + 1) (I3 (i + 1)) = g4 at *
    have eb' : F_451 gb = wp (F_448 g4) := by rw [eb, R0]; exact wp_wp _
    have s4 : TS n bt (T + i) (k + 1 + 1) nm kd h3 g4 := TS_f b3 (agr_mono (fun b q z => by omega) a34)
    have X03 : XT T (k + 1) h g h3 g3 := XT_trans (X1 T (k + 1)) (XT_mono (by omega) (by omega) (XT_trans a8 b10))
    have X34 : XT T (k + 1) h3 g3 h3 g4 := XT_x b3.K agr_rfl (agr_mono (fun b q z => by
      rcases z with ⟨z1, z2⟩ | ⟨z1, z2⟩
      · exact Or.inr (Or.inr (Or.inr (Or.inr ⟨z1, by omega⟩)))
      · exact Or.inr (Or.inr (Or.inl ⟨by omega, by omega, by omega⟩))) a34)
    have X04 := XT_trans X03 X34
    have Xb4 := XT_trans Xb X04
    have B4 : BS n bt nd (o + 3) T (k + 1) i i (nx n bt (nx n bt f)) nm kd pt h3 g4 := ⟨s4, OP_x a4 b11 (agr_trans (agr_mono (fun b i z => Or.inl z) b12) (agr_mono (fun b i z => Or.inr z) a34)) (by unfold S52; omega) (by unfold SLx; omega), DF_T B.t.K B.d X04, b7, r4, m4, fun q hq _ => q4 q hq, fun q hq => (a03c.1 60 _ (by unfold Scl S52; omega)).trans (B.s q hq)⟩
    have ff4 : f < nx n bt (nx n bt f) := Nat.lt_trans a7 b9
    rcases partE B4 (Nat.le_refl _) (X (o + 3) (T + i) (k + 1) i _ nm kd h3 g4 (by omega) B4.t B4.op B4.d B4.c B4.r (by omega) (by omega) (by omega) B4.mm) with ⟨y, h5, g5, f5, c, e1, e2, e3, e4, e5, e6, e7⟩ | ⟨e', pc, h5, g5, c, e1, e2, e3, e4, e5⟩
    rotate_left
    · rw [e1] at C1; simp only [obs] at C1; rw [if_pos trivial] at C1
      rw [C1] at C0; simp only [obs] at C0; rw [if_pos trivial] at C0
      refine BO_d bb (by omega) (f1 := nx n bt (nx n bt f)) (by omega) eb' e5 e4 ?_ e2 (XT_trans (XT_mono (Nat.zero_le _) (Nat.zero_le _) Xb4) e3)
      rw [lp_e (by omega) C0]; exact K0 h5
    rw [e1] at C1; simp only [obs] at C1; rw [if_neg (h_m1 e4.t.K e5), C_rs e4.t.K e5] at C1; simp only [obs] at C1
    have Rn1 : Run gb (c + 1) g5 := RunR_run (j := k + 1) bb (by omega) (by omega) eb' (RunR_wp e2)
    have X45 : XT T (k + 1) h3 g4 h5 g5 := PT_XT e4.t.K e4.t.l (PT_s (by omega) e7)
    have Xb5 := XT_trans Xb4 X45
    have X05 := XT_trans X04 X45
    have F5 := FC_x F4 e7.2.2.2
    have y5 := lt500 e4.t.K e5
    have q5 : ∀ q, q < i + 1 → g5.1 125 (20 * (k + 1) + q) = I3 (updN pt i y q) := fun q hq => e4.q q hq (by omega)
    have v5 : ∀ q, q < i + 1 → g5.2.1 126 (3 * (k + 1) + q) = if q = i then x else ns q := fun q hq => by
      rw [e7.2.2.2.2.1 126 _ (by unfold XRp XRc SRa SRq SRb SRp SRh SRt Ssr SLx; omega), v4]
      by_cases z : q = i
      · rw [if_pos z, if_pos (by omega)]
      · rw [if_neg z, if_neg (by omega), a03r.2.1 126 _ (by unfold Srl SLx; omega)]; exact (hn q (by omega)).1
    have R1 : F_451 g5 = wp (F_455_0 (I3 (k + 1)) g5) := by rw [F451s e4.t.b (by omega) F5.1 (Or.inr (Or.inr rfl)), if_neg (by decide), if_neg (by decide)]
    unfold F_455_0 F_455_75 at R1
    rw [ldI_I (by omega) (by decide), F5.2.2.1] at R1; simp only [obs] at R1
    rw [if_neg (by decide), if_pos trivial, ldI_I (by omega) (by decide), e4.mm] at R1; simp only [obs] at R1
    rw [I3_s1, R_449 (i := i) e4.t.b (by omega) (by omega), q5 i (by omega), up_s] at R1; simp only [obs] at R1
    have fn5 := RB_n e4.r
    have eb124 : g5.1 124 k = I3 m := (Xb5.a.1 124 k (by unfold XRc SRa SRq SRb SRp SRh SRt Ssr SLx; omega)).trans e
    refine BO_tr (f := f5) Rn1 (by omega) Xb5 ?_
    by_cases hz : hrs g5 y = 0
    · obtain ⟨h6, g6, t1, t2, t3, t4⟩ := XT_fail e4.t (T' := 0) (k' := 0) (e := 7) (f := f0) (by decide) (by decide)
      rw [if_pos hz, show F_169 7 (I3 f0) h5 = some (-1, h6) from t1] at C1; simp only [obs] at C1
      rw [C1] at C0; simp only [obs] at C0; rw [if_pos trivial] at C0
      rw [R_452z e4.t.K e5 hz (by omega) F5.2.1 t2] at R1; simp only [obs] at R1; rw [if_neg (by decide)] at R1
      refine BO_f e4.t.b (by omega) fn5 R1 ?_ t3 t4
      rw [lp_e (by omega) C0]; exact K0 h6
    rw [if_neg hz] at C1
    rw [R_452n e4.t.K e5 hz] at R1; simp only [obs] at R1; rw [if_pos trivial] at R1
    obtain ⟨h6, p1', p2, p3, p4, p5⟩ := pushP e4 (by omega) (by rw [up_s]; exact y5) x
    rw [up_s] at p1'
    rw [p1'] at C1; simp only [obs] at C1; rw [if_neg (by decide)] at C1
    have X56 : XT T (k + 1) h5 g5 h6 g5 := PT_XT p2.t.K p2.t.l (PT_s (by omega) p3)
    rcases closeE p2.t p2.op p2.c p2.r with ⟨h7, g7, q1', q2', q3', q4', q5', q6', q7', q8', q9'⟩ | ⟨e', h7, g7, q1', q2', q3', q4'⟩
    rotate_left
    · rw [q1'] at C1; simp only [obs] at C1; rw [if_pos trivial, if_pos (by decide)] at C1
      rw [C1] at C0; simp only [obs] at C0; rw [if_pos trivial] at C0
      rw [q2'] at R1; simp only [obs] at R1; rw [if_pos trivial] at R1
      refine BO_f e4.t.b (by omega) fn5 R1 ?_ q3' (XT_mono (Nat.zero_le _) (Nat.zero_le _) (XT_trans X56 (XT_mono (by omega) (by omega) q4')))
      rw [lp_e (by omega) C0]; exact K0 h7
    rw [q1'] at C1; simp only [obs] at C1; rw [if_neg (by decide), if_pos (by decide)] at C1
    rw [C1] at C0; simp only [obs] at C0; rw [if_neg (by decide), show I3 i + 1 = I3 (i + 1) from I3_add i 1] at C0
    rw [q2'] at R1; simp only [obs] at R1; rw [if_neg (by decide)] at R1
    rw [lp_s (by omega) C0]
    have X67 : XT T (k + 1) h6 g5 h7 g7 := XT_y p2.t.K q8' q9'
    have X57 := XT_trans X56 X67
    have F7 := FC_r F5 q9'
    have n7 : ∀ q, q < i + 1 → h7.2.1 61 (T + q) = if q = i then x else ns q := fun q hq => by
      rw [q8'.2.1 61 _ (by unfold Scl S52; omega)]
      by_cases z : q = i
      · rw [if_pos z, z]; exact p4
      · rw [if_neg z, p5.2.1 61 _ (by omega), e7.2.2.1.2.1 61 _ (by unfold XCc SCq SCb Ssc SCd SCh SCt Ssp S52; omega), a03c.2.1 61 _ (by unfold Scl S52; omega)]
        exact (hn q (by omega)).2
    have ok7 : ∀ q, q < i + 1 → updN pt i y q < nH g7 ∧ hpl g7 (updN pt i y q) = kd ∧ ¬ hrs g7 (updN pt i y q) = 0 := fun q hq => by
      by_cases z : q = i
      · subst z
        rw [up_s, X57.hrs e4.t.K e5]
        exact ⟨X57.nH e5, (X57.hpl e4.t.K e5).trans e6, hz⟩
      · have XX := XT_trans X05 X57
        have zz := ok q (by omega)
        rw [up_o _ _ z, XX.hrs B.t.K zz.1]
        exact ⟨XX.nH zz.1, (XX.hpl B.t.K zz.1).trans zz.2.1, zz.2.2⟩
    have B7 : BS n bt nd (o + 2) T (k + 1) (i + 1) (i + 1) (nx n bt f5) nm kd (updN pt i y) h7 g7 := ⟨q3', q4', DF_T e4.t.K e4.d X57, q5', q6', (q9'.1 124 _ (by unfold Srl SLx; omega)).trans e4.mm, fun q hq _ => (q9'.1 125 _ (by unfold Srl SLx; omega)).trans (q5 q hq), fun q hq => (q8'.1 60 _ (by unfold Scl S52; omega)).trans (p2.s q hq)⟩
    have w6' := wrd_6 n bt (nx n bt f5)
    obtain ⟨g8, l1, l2, l3', l4, l5⟩ := look_R q3' q6'
    have a78 := SLx_Srl l2
    have X78 : ∀ T' k', XT T' k' h7 g7 h7 g8 := fun T' k' => XT_y q3'.K agr_rfl a78
    have F8 := FC_r F7 a78
    have B8 : BS n bt nd (o + 2) T (k + 1) (i + 1) (i + 1) (nx n bt f5) nm kd (updN pt i y) h7 g8 := ⟨l1, OP_x (P := fun _ _ => False) q4' agr_rfl l2 (fun z => z) (by unfold SLx; omega), DF_T q3'.K B7.d (X78 T (k + 1)), q5', l3', (l2.1 124 _ (by unfold SLx; omega)).trans B7.mm, fun q hq i2 => (l2.1 125 _ (by unfold SLx; omega)).trans (B7.q q hq i2), B7.s⟩
    have n8 : ∀ u, agr Srl g5 u → ∀ q, q < i + 1 → u.2.1 126 (3 * (k + 1) + q) = (fun q => if q = i then x else ns q) q ∧ h7.2.1 61 (T + q) = (fun q => if q = i then x else ns q) q := fun u au q hq => ⟨(au.2.1 126 _ (by unfold Srl SLx; omega)).trans (v5 q hq), n7 q hq⟩
    by_cases w7 : wrd n bt (nx n bt f5) = 6
    · rw [if_pos w7] at l5
      have nfl := fail_R (g := g8) (f := nx n bt f5) l1.nf.2.1 (I3 (wtr n bt (nx n bt f5))) rfl
      obtain ⟨g9, u1, -⟩ := nfl
      rw [l5, u1] at R1; simp only [obs] at R1; rw [if_pos trivial] at R1
      refine ih (i + 1) (by omega) (fu - 1) (nx n bt f5) f5 (fun q => if q = i then x else ns q) (updN pt i y) h7 g7 h5 g5 (by omega) B7 F7 (n8 g7 q9') ok7 (Or.inr (by omega)) ?_ X57 e4.t.b q7' eb124
      rw [R1]
      have R2 : F_456 (I3 (k + 1)) g7 = F_456_0 (I3 (k + 1)) g7 := rfl
      unfold F_456_0 at R2
      rw [l5, u1] at R2; simp only [obs] at R2; rw [if_pos trivial] at R2
      rw [R2]
    rw [if_neg w7] at l5
    obtain ⟨l5, lr8⟩ := l5
    rw [l5] at R1; simp only [obs] at R1; rw [if_neg (by decide)] at R1
    by_cases w2 : wrd n bt (nx n bt f5) = 2
    · rw [if_pos (by rw [lr8.2.2.1, w2]; rfl)] at R1
      obtain ⟨g9, t1, t2, t3, t4⟩ := take_R l1 (RB_n q6') lr8
      rw [t1] at R1; simp only [obs] at R1
      have o9 : g9.1 67 86 = I3 (o + 1 + 1) := (t4.1 67 86 (by omega)).trans B8.op.2.1
      have F9 : FC g9 (k + 1) f0 kd.length 5 1 (I3 (i + 1)) := FC_r F8 (agr_mono (fun b j z => Or.inl ⟨z.1, by omega, by omega⟩) t4)
      rw [o9, I3_s1, ldI_I (by omega) (by decide), show (sm_wI g9 67 86 (I3 (o + 1))).1 122 (k + 1) = I3 (i + 1) from F9.2.2.2.1] at R1; simp only [obs] at R1
      obtain ⟨h8, k1, k2, k3, k4⟩ := step_C q3' q5'
      have C7 : F_212_11B rec (I3 f0, I3 (i + 1), h7) = some (.inr (I3 (i + 1), sm_wI h8 55 16 (I3 (o + 1)))) := by
        unfold F_212_11B
        show (if 3 < I3 (i + 1) then _ else _) = _
        rw [if_neg (by rw [I3_lit, I3_lt (by decide) (by omega)]; omega)]
        simp only []
        rw [C_171 k1 w7, w2]; simp only [obs]
        rw [if_pos (by decide), if_neg (by rw [I3_lit, I3_le (by omega) (by decide)]; omega), show h8.1 55 16 = I3 (o + 1 + 1) from (k4.1 55 16 (by unfold S52; omega)).trans q4'.1, I3_s1]
      rw [lp_e (by omega) C7]
      have a7c : agr Scl h7 (sm_wI h8 55 16 (I3 (o + 1))) := agr_wI (S52_Scl k4) (Or.inr ⟨rfl, rfl⟩)
      have a7r : agr Srl g7 (sm_wI g9 67 86 (I3 (o + 1))) := agr_wI (agr_trans a78 (agr_mono (fun b j z => Or.inl ⟨z.1, by omega, by omega⟩) t4)) (Or.inr ⟨rfl, by omega⟩)
      obtain ⟨s9, X9⟩ := TS_y (T' := T) (k' := k + 1) q3' a7c a7r
      have F10 := FC_r F7 a7r
      have B9 : BS n bt nd (o + 1) T (k + 1) (i + 1) (i + 1) (nx n bt (nx n bt f5)) nm kd (updN pt i y) (sm_wI h8 55 16 (I3 (o + 1))) (sm_wI g9 67 86 (I3 (o + 1))) := ⟨s9, ⟨rfl, rfl, by omega⟩, DF_T q3'.K B7.d X9, CB_nx (RB_n q6') k2 w7, t2, (a7r.1 124 _ (by unfold Srl SLx; omega)).trans B7.mm, fun q hq i2 => (a7r.1 125 _ (by unfold Srl SLx; omega)).trans (B7.q q hq i2), fun q hq => (a7c.1 60 _ (by unfold Scl S52; omega)).trans (B7.s q hq)⟩
      have nx7 := nx_gt (n := n) (bt := bt) (RB_n q6') (by omega) w7
      refine loopQ (ns := fun q => if q = i then x else ns q) X ko hT m3 (by omega) (by omega) B9 F10 (fun q hq => ?_) (fun q hq => ?_) (fun r hr => by rw [R1, hr]) (XT_trans X57 X9) e4.t.b (by omega) eb124
      · exact ⟨(n8 _ (agr_trans q9' a7r) q hq).1, (a7c.2.1 61 _ (by unfold Scl S52; omega)).trans (n7 q hq)⟩
      · have zz := ok7 q hq
        rw [X9.hrs q3'.K zz.1]
        exact ⟨X9.nH zz.1, (X9.hpl q3'.K zz.1).trans zz.2.1, zz.2.2⟩
    · rw [if_neg (by
        rw [lr8.2.2.1, show (4 : Int32) = I3 (rwd 2) from rfl, I3_inj (by have := rwd_5 (x := wrd n bt (nx n bt f5)) (by omega); omega) (by decide)]
        exact fun y => w2 (rwd_inj (by omega) (by omega) y))] at R1
      exact ih (i + 1) (by omega) (fu - 1) (nx n bt f5) f5 (fun q => if q = i then x else ns q) (updN pt i y) h7 g8 h5 g5 (by omega) B8 F8 (n8 g8 (agr_trans q9' a78)) (fun q hq => by
        have zz := ok7 q hq
        have XX := X78 T (k + 1)
        rw [XX.hrs q3'.K zz.1]
        exact ⟨XX.nH zz.1, (XX.hpl q3'.K zz.1).trans zz.2.1, zz.2.2⟩) (Or.inr w2) (R1.trans (wp_wp _)) (XT_trans X57 (X78 T (k + 1))) e4.t.b q7' eb124
theorem loopX {ex : Int32} (X : EX n bt nd rec (o + 1)) (B : BS n bt nd (o + 1) T (k + 1) 0 0 f nm kd pt h g) (F : FC g (k + 1) f0 kd.length 5 0 ex) (ko : k < o) (hT : T ≤ 8 * k) (m3 : m ≤ 4000) (e : g.1 124 k = I3 m) : BO n bt o T k m f nm kd h g (F_211 rec (I3 f0) h) := by
  have o20 := B.op.2.2
  have s0 := B.t
  have fn := RB_n B.r
  have C0 : F_211 rec (I3 f0) h = (F_212 rec (I3 f0) h).bind (K211 rec f0 T) := by
    show F_211_0 rec (I3 f0) h = _
    unfold F_211_0
    rw [show h.1 55 12 = I3 T from s0.t.1]
    rfl
  have C1 : F_212 rec (I3 f0) h = F_212_0 rec (I3 f0) h := rfl
  unfold F_212_0 at C1
  have R0 : F_451 g = wp (F_455_0 (I3 (k + 1)) g) := by rw [F451s s0.b (by omega) F.1 (Or.inr (Or.inr rfl)), if_neg (by decide), if_neg (by decide)]
  unfold F_455_0 at R0
  rw [ldI_I (by omega) (by decide), F.2.2.1] at R0; simp only [obs] at R0
  rw [if_pos trivial] at R0
  rcases openB s0 B.op B.c B.r with ⟨h1, g1, -, a1, a2, a3, a4, a5, a6, a7, a8, a9, a10⟩ | ⟨e', h2, g2, a1, a2, a3, a4⟩
  rotate_left
  · rw [a1] at C1; simp only [obs] at C1; rw [if_pos trivial] at C1
    rw [a2] at R0; simp only [obs] at R0; rw [if_pos trivial] at R0
    refine BO_f s0.b (by omega) fn R0 ?_ a3 (XT_mono (Nat.zero_le _) (Nat.zero_le _) a4)
    rw [C0, C1]
    show K211 rec f0 T (0, h2) = _
    unfold K211
    rw [if_pos rfl]
  rw [a1] at C1; simp only [obs] at C1; rw [if_neg (by decide)] at C1
  rw [a2] at R0; simp only [obs] at R0; rw [if_neg (by decide), stI_I (by omega) (by decide)] at R0; simp only [obs] at R0
  rw [stI_I (by omega) (by decide)] at R0; simp only [obs] at R0
  have R1 := R0.trans (wp_wp _)
  have a01r : agr Srl g g1 := agr_mono (fun b j z => by
    rcases z with z | z
    · exact Or.inl z
    · exact Or.inr ⟨z.1, by omega⟩) a10
  have F1 := FC_r F a01r
  have F2 : FC (sm_wI (sm_wI g1 122 (k + 1) 0) 121 (k + 1) 1) (k + 1) f0 kd.length 5 1 (I3 0) := ⟨F1.1, F1.2.1, if_pos rfl, if_pos rfl, F1.2.2.2.2⟩
  have a12 : agr (fun b q => (b = 122 ∨ b = 121) ∧ q = k + 1) g1 (sm_wI (sm_wI g1 122 (k + 1) 0) 121 (k + 1) 1) := agr_wI (agr_wI agr_rfl ⟨Or.inl rfl, rfl⟩) ⟨Or.inr rfl, rfl⟩
  have s2 := TS_f a3 (agr_mono (fun b q z => by omega) a12)
  have X2 : XT T (k + 1) h1 g1 h1 (sm_wI (sm_wI g1 122 (k + 1) 0) 121 (k + 1) 1) := XT_x a3.K agr_rfl (agr_mono (fun b i z => Or.inr (Or.inr (Or.inl ⟨by omega, by omega, by omega⟩))) a12)
  have X02 := XT_trans (XT_mono (T' := T) (k' := k + 1) (by omega) (by omega) a8) X2
  rw [C0, C1]
  exact loopN X ko hT m3 3 0 (by omega) 1000000 (nx n bt f) f (fun _ => 0) pt h1 _ h g (by omega) ⟨s2, OP_x (P := fun _ _ => False) a4 agr_rfl a12 (fun z => z) (by omega), DF_T s0.K B.d X02, a5, a6, (a01r.1 124 _ (by unfold Srl SLx; omega)).trans B.mm, fun q hq => by omega, fun q hq => by omega⟩ F2 (fun q hq => by omega) (fun q hq => by omega) (Or.inl rfl) R1 X02 s0.b a7 e
end
