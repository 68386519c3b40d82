section
variable {n : Nat} {bt : Nat → Nat} {nd o T j k m p f f0 nv : Nat} {nm nm' ns : Nat → Int64} {kd kd' : List Int32} {pt : Nat → Nat} {h g : sm_H} {rec rec2 : sm_H → Option (Int32 × sm_H)}
theorem XT_12 {T' k' : Nat} (K : K1 h g) (x : Int32) : XT T' k' h g (sm_wI h 55 12 x) g := XT_x K (agr_wI agr_rfl (Or.inr (Or.inr ⟨rfl, Or.inl rfl⟩))) agr_rfl
theorem EO_bad {e pc : Nat} {h1 g1 : sm_H} {rc rr : Option (Int32 × sm_H)} (c : rc = some (-1, sm_wI h1 55 12 (I3 T))) (r : rr = some (0, g1)) (ft : FT e pc h1 g1) (x : XT 0 0 h g h1 g1) : EO n bt o T k m f nm kd h g rc rr := Or.inr ⟨e, pc, _, g1, c, ⟨ft.1, ft.2.1, ft.2.2⟩, XT_trans x (XT_12 x.k1 _), Or.inl r⟩
theorem EO_BO {f2 : Nat} {h4 g7 : sm_H} {rc rr : Option (Int32 × sm_H)} {q : Option (Int32 × sm_H)} (b : BO n bt o T k m f2 nm kd h4 g7 rc) (ff : f + 2 ≤ f2) (X : XT T (k + 1) h g h4 g7) (eq : ∀ y u, rc = some (y, u) → q = some (y, sm_wI u 55 12 (I3 T))) (er : rr = some (1, g7)) : EO n bt o T k m f nm kd h g q rr := by
  rcases b with ⟨y, h1, g2, f', c, e1, e2, e3, e4, e5, e6, e7, e8, e9, e10, e11, e12, e13, e14⟩ | ⟨e, pc, h1, g1, c, e1, e2, e3, e4, e5⟩
  · exact Or.inl ⟨y, _, g7, g2, f', c, eq _ _ e1, er, e2, by omega, e4, e5, e6, e7, e8, e9, ext_trans X.e e10, grow_trans X.r e11, agr_trans X.c e12, agr_trans (agr_mono (fun b j z => Or.inl z) X.a) e13, e14⟩
  · exact Or.inr ⟨e, pc, _, g1, eq _ _ e1, ⟨e2.1, e2.2.1, e2.2.2⟩, XT_trans (XT_mono (Nat.zero_le _) (Nat.zero_le _) X) (XT_trans e3 (XT_12 e3.k1 _)), Or.inr ⟨g7, c, er, by omega, e5⟩⟩
theorem pushX (s : TS n bt T (k + 1) nm kd h g) (k1 : k + 1 < 24) (srt ex : Int32) (f0 : Nat) : ∃ g1, F_445 srt (I3 f0) g = some g1 ∧ g1.1 67 102 - 1 = I3 (k + 1) ∧ stI g1 122 24 (I3 (k + 1)) ex = some (sm_wI g1 122 (k + 1) ex) ∧ FC (sm_wI g1 122 (k + 1) ex) (k + 1) f0 kd.length srt 0 ex ∧ (sm_wI g1 122 (k + 1) ex).1 124 (k + 1) = I3 0 ∧ TS n bt T (k + 2) nm kd h (sm_wI g1 122 (k + 1) ex) ∧ agr (fun b i => (119 ≤ b ∧ b ≤ 124 ∧ i = k + 1) ∨ b = 67 ∧ i = 102) g (sm_wI g1 122 (k + 1) ex) ∧ XT T (k + 1) h g h (sm_wI g1 122 (k + 1) ex) := by
  obtain ⟨g1, a1, a2, a3, a4, a5, a6, a7, a8, a9⟩ := pushR k1 s.b srt (I3 f0)
  have ag : agr (fun b i => (119 ≤ b ∧ b ≤ 124 ∧ i = k + 1) ∨ b = 67 ∧ i = 102) g (sm_wI g1 122 (k + 1) ex) := agr_wI a9 (Or.inl ⟨by decide, by decide, rfl⟩)
  have X : XT T (k + 1) h g h (sm_wI g1 122 (k + 1) ex) := XT_x s.K agr_rfl (agr_mono (fun b i z => by
    rcases z with ⟨z1, z2, z3⟩ | z
    · exact Or.inr (Or.inr (Or.inl ⟨z1, z2, by omega⟩))
    · exact Or.inr (Or.inl ⟨z.1, by omega⟩)) ag)
  refine ⟨g1, a1, by rw [a8]; exact I3_s1 (k + 1), stI_I k1 (by decide), ⟨a2, a3, a4, if_pos rfl, a6.trans s.S.2.2.1⟩, a7, ⟨X.k1, NF_agr (S := fun _ _ => False) s.nf agr_rfl ag (fun z => z) (by omega), SCO_agr (P := fun _ _ => False) s.S agr_rfl ag (Nat.le_of_eq (by show tn _ = tn _; rw [ag.1 67 6 (by omega)])) (fun b j z => z.elim) (fun b j z => by omega), s.t, a8, s.xc, TXR_agr s.xr ag (fun b j z => by omega)⟩, ag, X⟩
theorem C_69 (rec : sm_H → Option (Int32 × sm_H)) (y v : Int32) (u : sm_H) : F_196_69 rec v y u = some (y, sm_wI u 55 12 v) := rfl
theorem kch {α : Type} {x : Nat} (hx : x < 16) (A B : α) : (if I3 (x + 2) = 7 then A else if I3 (x + 2) = 8 then A else if I3 (x + 2) = 9 then A else if I3 (x + 2) = 10 then A else if I3 (x + 2) = 14 then A else if I3 (x + 2) = 16 then A else B) = if x = 5 ∨ x = 6 ∨ x = 7 ∨ x = 8 ∨ x = 12 ∨ x = 14 then A else B := by
  have e : ∀ y : Nat, y < 20 → (I3 (x + 2) = I3 y ↔ x + 2 = y) := fun y hy => I3_inj (by omega) (by omega)
  by_cases a : x = 5
  · rw [if_pos (show I3 (x + 2) = 7 from (e 7 (by decide)).mpr (by omega)), if_pos (by omega)]
  rw [if_neg (show ¬ I3 (x + 2) = 7 from fun z => a (by have := (e 7 (by decide)).mp z; omega))]
  by_cases b : x = 6
  · rw [if_pos (show I3 (x + 2) = 8 from (e 8 (by decide)).mpr (by omega)), if_pos (by omega)]
  rw [if_neg (show ¬ I3 (x + 2) = 8 from fun z => b (by have := (e 8 (by decide)).mp z; omega))]
  by_cases c : x = 7
  · rw [if_pos (show I3 (x + 2) = 9 from (e 9 (by decide)).mpr (by omega)), if_pos (by omega)]
  rw [if_neg (show ¬ I3 (x + 2) = 9 from fun z => c (by have := (e 9 (by decide)).mp z; omega))]
  by_cases d : x = 8
  · rw [if_pos (show I3 (x + 2) = 10 from (e 10 (by decide)).mpr (by omega)), if_pos (by omega)]
  rw [if_neg (show ¬ I3 (x + 2) = 10 from fun z => d (by have := (e 10 (by decide)).mp z; omega))]
  by_cases f : x = 12
  · rw [if_pos (show I3 (x + 2) = 14 from (e 14 (by decide)).mpr (by omega)), if_pos (by omega)]
  rw [if_neg (show ¬ I3 (x + 2) = 14 from fun z => f (by have := (e 14 (by decide)).mp z; omega))]
  by_cases g : x = 14
  · rw [if_pos (show I3 (x + 2) = 16 from (e 16 (by decide)).mpr (by omega)), if_pos (by omega)]
  rw [if_neg (show ¬ I3 (x + 2) = 16 from fun z => g (by have := (e 16 (by decide)).mp z; omega)), if_neg (by omega)]
theorem C_200 {x : Nat} (hx : x < 16) (t : h.1 55 12 = I3 T) : F_200 rec (I3 x) 0 (I3 f) h = if x = 5 ∨ x = 6 ∨ x = 7 ∨ x = 8 ∨ x = 12 ∨ x = 14 then F_200_29 rec (I3 x) (I3 f) (I3 T) (b2 (decide (x = 14))) h else F_200_34 rec (I3 x) (I3 f) (I3 T) 0 h := by
  have e : ∀ y : Nat, y < 20 → (I3 x = I3 y ↔ x = y) := fun y hy => I3_inj (by omega) (by omega)
  have n : ∀ y : Nat, y < 20 → x ≠ y → ¬ I3 x = I3 y := fun y hy z w => z ((e y hy).mp w)
  show F_200_0 rec (I3 x) 0 (I3 f) h = _
  unfold F_200_0
  rw [t]; simp only [obs]
  have C1 : F_201 (I3 x) h = F_201_0 (I3 x) h := rfl
  unfold F_201_0 F_201_56 F_201_58 at C1
  by_cases q : x = 5 ∨ x = 6 ∨ x = 7 ∨ x = 8 ∨ x = 12 ∨ x = 14
  · have C2 : F_201 (I3 x) h = some (1, h) := by
      rw [C1]
      rcases q with rfl | rfl | rfl | rfl | rfl | rfl <;> rfl
    rw [if_pos q, C2]; simp only [obs]
    rw [if_neg (by decide)]
    by_cases z : x = 14
    · rw [if_pos (show I3 x = 14 by rw [z]; rfl), decide_eq_true z]; rfl
    · rw [if_neg (show ¬ I3 x = 14 from n 14 (by decide) z), decide_eq_false z]; rfl
  · rw [if_neg (show ¬ I3 x = 5 from n 5 (by decide) (by omega)), if_neg (show ¬ I3 x = 6 from n 6 (by decide) (by omega)), if_neg (show ¬ I3 x = 7 from n 7 (by decide) (by omega)), if_neg (show ¬ I3 x = 8 from n 8 (by decide) (by omega)), if_neg (show ¬ I3 x = 12 from n 12 (by decide) (by omega)), if_neg (show ¬ I3 x = 14 from n 14 (by decide) (by omega))] at C1
    rw [if_neg q, C1]; simp only [obs]
    rw [if_pos trivial]
theorem R_182 {x : Nat} (hx : x < 16) (v : Int32) (u : sm_H) : F_446_182 (I3 (x + 2)) v u = F_446_194 v (b2 (decide (x = 14))) u := by
  unfold F_446_182
  by_cases z : x = 14
  · rw [if_pos (show I3 (x + 2) = 16 by rw [z]; rfl), decide_eq_true z]; rfl
  · rw [if_neg (show ¬ I3 (x + 2) = (16 : Int32) by rw [I3_lit, I3_inj (by omega) (by decide)]; omega), decide_eq_false z]; rfl
theorem openX {rc2 : sm_H → Option (Int32 × sm_H)} (S : o < 20 → (∀ u, rec u = F_194R rc2 u) ∧ ES n bt nd rec (o + 1)) (s : TS n bt T (k + 1) nm kd h g) (p : OP o h g) (D : DF nd h g) (lc : LXC n bt f h) (r : RB n bt f g) (w : wrd n bt f = 1) (ko : k < o) (hT : T ≤ 8 * k) (m3 : m ≤ 4000) (e : g.1 124 k = I3 m) : EO n bt o T k m f nm kd h g (F_194R rec h) (F_448 g) := by
  have o20 := p.2.2
  have fn := RB_n r
  obtain ⟨g1, d1, d2, d3, d4, d5⟩ := look_R s r
  rw [if_neg (by omega)] at d5
  obtain ⟨d5, lr⟩ := d5
  have a12 : agr Srl g1 (sm_wI g1 67 106 (I3 f)) := agr_wI agr_rfl (Or.inr ⟨rfl, by omega⟩)
  have a02 : agr Srl g (sm_wI g1 67 106 (I3 f)) := agr_trans (SLx_Srl d2) a12
  obtain ⟨s2, X2⟩ := TS_y (T' := T) (k' := k + 1) s agr_rfl a02
  have lr2 : LXR n bt f (sm_wI g1 67 106 (I3 f)) := lr
  have R0 : F_448 g = wp (F_446 (sm_wI g1 67 106 (I3 f))) := by
    show F_448_0 g = _
    unfold F_448_0
    rw [d5]; simp only [obs]
    rw [if_neg (by decide), d4, show (sm_wI g1 67 106 (I3 f)).1 67 80 = 3 from lr.2.2.1.trans (by rw [w]; rfl), if_neg (by decide), if_pos (by decide)]; rfl
  have e81 : (sm_wI g1 67 106 (I3 f)).1 67 81 = I3 f := d4
  have p2 : OP o h (sm_wI g1 67 106 (I3 f)) := ⟨p.1, (d2.1 67 86 (by unfold SLx; omega)).trans p.2.1, p.2.2⟩
  have C0 : F_194R rec h = F_194_0 rec h := rfl
  unfold F_194_0 F_194_108 at C0
  rw [show F_243 h = some (h.1 52 5, h) from rfl, lc.1] at C0; simp only [obs] at C0
  rw [show F_242 h = some (h.1 52 4, h) from rfl, lc.2.1, w] at C0; simp only [obs] at C0
  rw [if_pos (by decide)] at C0
  have R1 : F_446 (sm_wI g1 67 106 (I3 f)) = F_446_0 (sm_wI g1 67 106 (I3 f)) := rfl
  unfold F_446_0 F_446_19 at R1
  rw [e81] at R1; simp only [obs] at R1
  generalize hg2 : sm_wI g1 67 106 (I3 f) = g2 at *
  rcases openS s2 p2 fn lc lr2 w with ⟨h3, g3, o19, b1, b2', b3, b4, b5, b6, b7, b8, b9, b10⟩ | ⟨e', h3, g3, b1, b2', b3, b4⟩
  rotate_left
  · rw [b1] at C0; simp only [obs] at C0; rw [if_pos trivial] at C0
    rw [b2'] at R1; simp only [obs] at R1; rw [if_pos trivial] at R1
    exact Or.inr ⟨e', _, h3, g3, C0, b3, XT_trans (XT_mono (Nat.zero_le _) (Nat.zero_le _) X2) (XT_mono (Nat.zero_le _) (Nat.zero_le _) b4), Or.inl (by rw [R0, R1, wp0])⟩
  obtain ⟨hr, S⟩ := S o19
  have EXr : EX n bt nd rec (o + 1) := EX_of hr S
  rw [b1] at C0; simp only [obs] at C0; rw [if_neg (by decide), bind_id] at C0
  rw [b2'] at R1; simp only [obs] at R1; rw [if_neg (by decide)] at R1
  have C1 : F_196 rec (I3 f) h3 = F_196_0 rec (I3 f) h3 := rfl
  unfold F_196_0 at C1
  rw [show h3.1 55 12 = I3 T from b3.t.1] at C1; simp only [obs] at C1
  have X03 : XT T (k + 1) h g h3 g3 := XT_trans X2 b8
  have fn1 := RB_n b6
  have w6 := wrd_6 n bt (nx n bt f)
  obtain ⟨h4, c1, c2, c3, c4⟩ := step_C b3 b5
  obtain ⟨g4, q1, q2, q3, q4, q5⟩ := look_R c3 b6
  have X34 : ∀ T' k', XT T' k' h3 g3 h4 g4 := fun T' k' => XT_y b3.K (S52_Scl c4) (SLx_Srl q2)
  have X04 := XT_trans X03 (X34 T (k + 1))
  by_cases w1 : wrd n bt (nx n bt f) = 6
  · obtain ⟨h5, g5, v1, v2, v3, v4, v5⟩ := badWord c3 c2 b6 w1
    rw [v2] at R1; simp only [obs] at R1; rw [if_pos trivial] at R1
    rw [C_171b c1 w1 v1] at C1; simp only [obs] at C1
    rw [if_neg (by decide), if_neg (by decide), C_170f v3] at C1; simp only [obs] at C1
    exact EO_bad (C0.trans C1) (by rw [R0, R1, wp0]) v3 (XT_trans (XT_mono (Nat.zero_le _) (Nat.zero_le _) X03) (XT_trans (XT_y b3.K (S52_Scl c4) agr_rfl) v4))
  rw [if_neg w1] at q5
  obtain ⟨q5, lr4⟩ := q5
  rw [q5] at R1; simp only [obs] at R1; rw [if_neg (by decide)] at R1
  rw [C_171 c1 w1] at C1; simp only [obs] at C1
  have nw : ∀ x : Nat, x < 6 → wrd n bt (nx n bt f) ≠ x → ¬ I3 (wrd n bt (nx n bt f)) = I3 x := fun x hx z => by rw [I3_inj (by omega) (by omega)]; exact z
  have nr : ∀ x : Nat, x < 6 → wrd n bt (nx n bt f) ≠ x → ¬ g4.1 67 80 = I3 (rwd x) := fun x hx z => by
    rw [lr4.2.2.1, I3_inj (by have := rwd_5 (x := wrd n bt (nx n bt f)) (by omega); omega) (by have := rwd_5 (x := x) (by omega); omega)]
    exact fun y => z (rwd_inj (by omega) (by omega) y)
  by_cases w45 : wrd n bt (nx n bt f) ≠ 4 ∧ wrd n bt (nx n bt f) ≠ 5
  · obtain ⟨h5, g5, f1, f2, f3, f4⟩ := XT_fail q1 (T' := 0) (k' := 0) (e := 4) (f := nx n bt f) (by decide) (by decide)
    rw [if_neg (show ¬ g4.1 67 80 = 1 from nr 4 (by decide) w45.1), if_neg (show ¬ g4.1 67 80 = 5 from nr 5 (by decide) w45.2), f421 g4 q4, show F_413 4 (I3 (nx n bt f)) g4 = some (0, g5) from f2] at R1
    rw [if_neg (show ¬ I3 (wrd n bt (nx n bt f)) = (5 : Int32) from nw 5 (by decide) w45.2), if_neg (show ¬ I3 (wrd n bt (nx n bt f)) = (4 : Int32) from nw 4 (by decide) w45.1), C_170 c2, show F_169 4 (I3 (nx n bt f)) h4 = some (-1, h5) from f1] at C1; simp only [obs] at C1
    exact EO_bad (C0.trans C1) (by rw [R0, R1, wp0]) f3 (XT_trans (XT_mono (Nat.zero_le _) (Nat.zero_le _) X04) f4)
  have R2 : F_446 g2 = F_446_42 (I3 f) g4 := by
    rw [R1]
    by_cases z : wrd n bt (nx n bt f) = 4
    · rw [if_pos (show g4.1 67 80 = 1 from lr4.2.2.1.trans (by rw [z]; rfl))]
    · rw [if_neg (show ¬ g4.1 67 80 = 1 from nr 4 (by decide) z), if_pos (show g4.1 67 80 = 5 from lr4.2.2.1.trans (by rw [show wrd n bt (nx n bt f) = 5 by omega]; rfl))]
  have D4 : DF nd h4 g4 := DF_T s.K D X04
  have ff2 : nx n bt f < nx n bt (nx n bt f) := nx_gt fn1 (by omega) w1
  obtain ⟨g5, t1, t2, t3, t4⟩ := take_R q1 fn1 lr4
  have X45 : ∀ T' k', XT T' k' h4 g4 h4 g5 := fun T' k' => XT_y q1.K agr_rfl (agr_mono (fun b j z => Or.inl ⟨z.1, by omega, by omega⟩) t4)
  have X05 := XT_trans X04 (X45 T (k + 1))
  have p4 : OP (o + 1) h4 g4 := OP_x b4 c4 q2 (by unfold S52; omega) (by unfold SLx; omega)
  have p5 : OP (o + 1) h4 g5 := OP_x (P := fun _ _ => False) p4 agr_rfl t4 (fun z => z) (by omega)
  have e5 : g5.1 124 k = I3 m := (X05.a.1 124 k (by unfold XRc SRa SRq SRb SRp SRh SRt Ssr SLx; omega)).trans e
  have c5 : CB n bt (nx n bt (nx n bt f)) h4 := CB_nx fn1 c2 w1
  have PU : ∀ srt ex : Int32, ∃ g6, F_445 srt (I3 f) g5 = some g6 ∧ g6.1 67 102 - 1 = I3 (k + 1) ∧ stI g6 122 24 (I3 (k + 1)) ex = some (sm_wI g6 122 (k + 1) ex) ∧ FC (sm_wI g6 122 (k + 1) ex) (k + 1) f kd.length srt 0 ex ∧ BS n bt nd (o + 1) T (k + 1) 0 0 (nx n bt (nx n bt f)) nm kd (fun _ => 0) h4 (sm_wI g6 122 (k + 1) ex) ∧ XT T (k + 1) h g h4 (sm_wI g6 122 (k + 1) ex) ∧ (sm_wI g6 122 (k + 1) ex).1 124 k = I3 m := fun srt ex => by
    obtain ⟨g6, z1, z2, z3, z4, z5, z6, z7, z8⟩ := pushX t3 (by omega) srt ex f
    have X6 := XT_trans X05 z8
    exact ⟨g6, z1, z2, z3, z4, ⟨z6, OP_x (P := fun _ _ => False) p5 agr_rfl z7 (fun z => z) (by omega), DF_T s.K D X6, c5, RB_x t2 (z7.1 67 79 (by omega)), z5, fun i hi => by omega, fun i hi => by omega⟩, X6, (z7.1 124 k (by omega)).trans e5⟩
  have GL : ∀ {rc : Option (Int32 × sm_H)} {g7 : sm_H}, F_196 rec (I3 f) h3 = (rc.bind fun q => F_196_69 rec (I3 T) q.1 q.2) → ∀ y u, rc = some (y, u) → F_194R rec h = some (y, sm_wI u 55 12 (I3 T)) := fun {rc g7} hc y u z => by
    rw [C0, hc, z]; rfl
  by_cases w5 : wrd n bt (nx n bt f) = 5
  · obtain ⟨sg, sg1, sg2⟩ := c2.2.2.2.2.2.2 w5
    rw [if_pos (by rw [w5]; rfl), show F_245 h4 = some (h4.1 52 7, h4) from rfl, sg2] at C1; simp only [obs] at C1
    have s12 := sgn_12 sg1
    have e83 : g4.2.1 67 83 = Int32.toInt64 (I3 (bt (nx n bt f))) := lr4.2.2.2.2.2.2 w5
    have RS := R_441s (g := g4) sg1
    have C2 : F_200 rec 16 (I3 sg) (I3 f) h4 = F_200_34 rec 16 (I3 f) (I3 T) (I3 sg) h4 := by
      show F_200_0 rec 16 (I3 sg) (I3 f) h4 = _
      unfold F_200_0
      rw [show h4.1 55 12 = I3 T from c3.t.1]; simp only [obs]
      rw [show F_201 16 h4 = some (0, h4) from rfl]; simp only [obs]
      rw [if_pos trivial]
    rw [C2] at C1
    obtain ⟨g6, z1, z2, z3, z4, z5, z6, z7⟩ := PU 1 (I3 sg)
    have R3 : F_446 g2 = some (1, sm_wI g6 122 (k + 1) (I3 sg)) := by
      rw [R2]
      unfold F_446_42 F_446_67 F_446_89 F_446_114 F_446_143
      rw [e83, RS.2]; simp only [obs]
      rw [if_neg (by decide), if_neg (by decide), e83, RS.1]; simp only [obs]
      rw [t1]; simp only [obs]
      rw [if_neg (by decide), z1]; simp only [obs]
      rw [z2]
      rw [if_neg (by decide), z3]; simp only [obs]
      rw [if_neg (by decide), if_neg (by decide), if_neg (by decide), if_neg (by decide), if_neg (by decide), if_neg (by decide)]
    exact EO_BO (opS s12 EXr z5 z4 ko hT m3 z7) (by omega) z6 (GL (g7 := g6) C1) (by rw [R0, R3, wp1])
  have w4 : wrd n bt (nx n bt f) = 4 := by omega
  rw [if_neg (show ¬ I3 (wrd n bt (nx n bt f)) = (5 : Int32) from nw 5 (by decide) w5), if_pos (by rw [w4]; rfl), show F_248 h4 = some (h4.2.1 52 10, h4) from rfl, c2.2.2.2.2.2.1 w4] at C1; simp only [obs] at C1
  have e83 : g4.2.1 67 83 = foldN bt (nx n bt f) (men n bt (nx n bt f) - nx n bt f) := lr4.2.2.2.2.2.1 w4
  obtain ⟨xm, x1, x2, x3⟩ := name_ns w4
  rw [x2] at C1 e83
  rw [C_197] at C1; simp only [obs] at C1
  have R44 := R_440 (g := g4) x1 x3
  have R41 := R_441n (g := g4) x1 x3
  have C2 : F_198 rec (I3 f) (if kw (I6 xm) < 16 then I3 (kw (I6 xm)) else -1) h4 = F_198_0 rec (I3 f) (if kw (I6 xm) < 16 then I3 (kw (I6 xm)) else -1) h4 := rfl
  unfold F_198_0 F_198_75 at C2
  by_cases kq : kw (I6 xm) < 16
  rotate_left
  · rw [if_neg kq] at C1 C2 R44
    rw [if_pos rfl, show F_248 h4 = some (h4.2.1 52 10, h4) from rfl, c2.2.2.2.2.2.1 w4, x2] at C2; simp only [obs] at C2
    rw [C_166 D4] at C2; simp only [obs] at C2
    rw [bind_id] at C2
    have R43 := R_443 D4 (I6 xm)
    have R2' : F_446 g2 = F_446_67 (I3 f) (-1) (if wd nd (I6 xm) g4 < nd then I3 (wd nd (I6 xm) g4) else -1) g4 := by
      rw [R2]
      unfold F_446_42
      rw [e83, R44]; simp only [obs]
      rw [if_pos trivial, e83, R43]; simp only [obs]
    by_cases dq : wd nd (I6 xm) g4 < nd
    rotate_left
    · rw [if_neg dq] at C2 R2'
      obtain ⟨h6, g6, f1, f2, f3, f4⟩ := XT_fail q1 (T' := 0) (k' := 0) (e := 6) (f := nx n bt f) (by decide) (by decide)
      have C3 : F_214 rec (-1) (I3 f) h4 = some (-1, h6) := by
        show F_214_0 rec (-1) (I3 f) h4 = _
        unfold F_214_0 F_214_12
        rw [if_pos (by decide), C_170 c2, show F_169 6 (I3 (nx n bt f)) h4 = some (-1, h6) from f1]; rfl
      rw [C3] at C2
      rw [C2] at C1; simp only [obs] at C1
      have R3 : F_446 g2 = some (0, g6) := by
        rw [R2']
        unfold F_446_67
        rw [if_pos rfl, if_pos rfl, q4, show F_413 6 (I3 (nx n bt f)) g4 = some (0, g6) from f2]; rfl
      exact EO_bad (C0.trans C1) (by rw [R0, R3, wp0]) f3 (XT_trans (XT_mono (Nat.zero_le _) (Nat.zero_le _) X04) f4)
    rw [if_pos dq] at C2 R2'
    rw [C2] at C1
    have nd6 := D.2.2.1
    obtain ⟨g6, z1, z2, z3, z4, z5, z6, z7⟩ := PU 18 (I3 (wd nd (I6 xm) g4))
    have R3 : F_446 g2 = some (1, sm_wI g6 122 (k + 1) (I3 (wd nd (I6 xm) g4))) := by
      rw [R2']
      unfold F_446_67 F_446_89 F_446_114 F_446_143
      rw [if_pos rfl, if_neg (I3_m1 (by omega)), e83, R41]; simp only [obs]
      rw [t1]; simp only [obs]
      rw [if_pos trivial, z1]; simp only [obs]
      rw [z2]
      rw [if_pos trivial, z3]; simp only [obs]
      rw [if_neg (by decide), if_neg (by decide), if_neg (by decide), if_neg (by decide), if_neg (by decide), if_neg (by decide)]
    exact EO_BO (callX hr S z5 z4 ko hT m3 z7 dq (by omega)) (by omega) z6 (GL (g7 := g6) C1) (by rw [R0, R3, wp1])
  rw [if_pos kq] at C1 C2 R44
  generalize hkw : kw (I6 xm) = x at C1 C2 R44 kq
  rw [if_neg (I3_m1 (by omega))] at C2
  have Rp : ∀ ex' : Int32, ex' = -1 → F_446 g2 = F_446_114 (I3 f) (I3 (x + 2)) (-1) (-1) (I3 (x + 2)) g5 := fun ex' _ => by
    rw [R2]
    unfold F_446_42 F_446_67 F_446_89
    rw [e83, R44]; simp only [obs]
    rw [if_neg (I3_m1 (by omega)), if_neg (I3_m1 (by omega)), e83, R41]; simp only [obs]
    rw [t1]; simp only [obs]
    rw [if_neg (I3_m1 (by omega))]
  obtain ⟨g6, z1, z2, z3, z4, z5, z6, z7⟩ := PU (I3 (x + 2)) (-1)
  have R3 : F_446 g2 = if x = 5 ∨ x = 6 ∨ x = 7 ∨ x = 8 ∨ x = 12 ∨ x = 14 then F_446_182 (I3 (x + 2)) (I3 (k + 1)) (sm_wI g6 122 (k + 1) (-1)) else some (1, sm_wI g6 122 (k + 1) (-1)) := by
    rw [Rp (-1) rfl]
    unfold F_446_114 F_446_143
    rw [z1]; simp only [obs]
    rw [z2]
    rw [if_neg (I3_m1 (by omega)), z3]; simp only [obs]
    exact kch kq _ _
  by_cases kk : x = 5 ∨ x = 6 ∨ x = 7 ∨ x = 8 ∨ x = 12 ∨ x = 14
  · rw [if_pos kk] at R3
    have C4 : F_198 rec (I3 f) (I3 x) h4 = F_200_29 rec (I3 x) (I3 f) (I3 T) (b2 (decide (x = 14))) h4 := by
      rw [C2]
      have z := C_200 (rec := rec) (f := f) kq c3.t.1
      rw [if_pos kk] at z
      rw [if_neg (by rw [I3_lit, I3_inj (by omega) (by decide)]; omega), if_neg (by rw [I3_lit, I3_inj (by omega) (by decide)]; omega), if_neg (by rw [I3_lit, I3_inj (by omega) (by decide)]; omega), z]
      exact bind_id _
    have R4 : F_446 g2 = F_446_194 (I3 (k + 1)) (b2 (decide (x = 14))) (sm_wI g6 122 (k + 1) (-1)) := by
      rw [R3]; exact R_182 kq _ _
    rw [C4] at C1
    unfold F_200_29 at C1
    unfold F_446_194 at R4
    rcases kindB (decide (x = 14)) z5.t z5.c z5.r with ⟨i, h8, g8, y1, y2, y3, y4, y5, y6, y7, y8, y9, y10, y11, y12⟩ | ⟨e', h8, g8, y1, y2, y3, y4⟩
    · rw [y1] at C1; simp only [obs] at C1
      rw [y2] at R4; simp only [obs] at R4
      rw [if_neg (by decide), y3, stI_I (by omega) (by decide)] at R4; simp only [obs] at R4
      have a89 : agr (fun b q => b = 122 ∧ q = k + 1) g8 (sm_wI g8 122 (k + 1) (I3 i)) := agr_wI agr_rfl ⟨rfl, rfl⟩
      have s9 := TS_f y6 (agr_mono (fun b q z => by omega) a89)
      have X89 : XT T (k + 1) h8 g8 h8 (sm_wI g8 122 (k + 1) (I3 i)) := XT_x y6.K agr_rfl (agr_mono (fun b q z => Or.inr (Or.inr (Or.inl ⟨by omega, by omega, by omega⟩))) a89)
      have X69 := XT_trans (XT_mono (T' := T) (k' := k + 1) (by omega) (by omega) y10) X89
      have a68 : agr Srl (sm_wI g6 122 (k + 1) (-1)) g8 := agr_mono (fun b j z => by
        rcases z with z | z
        · exact Or.inl z
        · exact Or.inr ⟨z.1, by omega⟩) y12
      have F8 := FC_r z4 a68
      have F9 : FC (sm_wI g8 122 (k + 1) (I3 i)) (k + 1) f kd.length (I3 (x + 2)) 0 (I3 i) := ⟨F8.1, F8.2.1, F8.2.2.1, if_pos rfl, F8.2.2.2.2⟩
      have B9 : BS n bt nd (o + 1) T (k + 1) 0 0 (nx n bt (nx n bt (nx n bt f))) nm kd (fun _ => 0) h8 (sm_wI g8 122 (k + 1) (I3 i)) := ⟨s9, OP_x z5.op y11 (agr_trans (agr_mono (fun b q z => Or.inl z) y12) (agr_mono (fun b q z => Or.inr z) a89)) (by unfold S52; omega) (by unfold SLx; omega), DF_T z5.t.K z5.d X69, y7, y8, (a68.1 124 _ (by unfold Srl SLx; omega)).trans z5.mm, fun q hq => by omega, fun q hq => by omega⟩
      have X09 := XT_trans z6 X69
      have nc9 : nC (sm_wI g8 122 (k + 1) (I3 i)) = nC (sm_wI g6 122 (k + 1) (-1)) := nC_XR X69.a
      exact EO_BO (opK kk EXr B9 F9 ko hT m3 ((X09.a.1 124 k (by unfold XRc SRa SRq SRb SRp SRh SRt Ssr SLx; omega)).trans e) (by rw [nc9]; exact y4)) (by omega) X09 (GL (g7 := g6) C1) (by rw [R0, R4, wp1])
    · rw [y1] at C1; simp only [obs] at C1
      rw [y2] at R4; simp only [obs] at R4
      rw [if_pos trivial] at R4
      unfold F_200_34 F_200_52 at C1
      rw [if_pos rfl] at C1; simp only [obs] at C1
      exact EO_bad (C0.trans C1) (by rw [R0, R4, wp0]) y3 (XT_trans (XT_mono (Nat.zero_le _) (Nat.zero_le _) z6) (XT_mono (Nat.zero_le _) (Nat.zero_le _) y4))
  rw [if_neg kk] at R3
  have RR : F_448 g = some (1, sm_wI g6 122 (k + 1) (-1)) := by rw [R0, R3, wp1]
  by_cases k1 : x = 1
  · subst k1
    rw [if_pos (by decide), bind_id] at C2
    rw [C2] at C1
    exact EO_BO (letX EXr z5 z4 ko hT m3 z7) (by omega) z6 (GL (g7 := g6) C1) RR
  by_cases k3 : x = 3
  · subst k3
    rw [if_neg (by decide), if_pos (by decide), bind_id] at C2
    rw [C2] at C1
    exact EO_BO (loopX EXr z5 z4 ko hT m3 z7) (by omega) z6 (GL (g7 := g6) C1) RR
  by_cases k4 : x = 4
  · subst k4
    rw [if_neg (by decide), if_neg (by decide), if_pos (by decide), bind_id] at C2
    rw [C2] at C1
    exact EO_BO (catchX EXr z5 z4 ko hT m3 z7) (by omega) z6 (GL (g7 := g6) C1) RR
  have kn : x = 0 ∨ x = 2 ∨ x = 9 ∨ x = 10 ∨ x = 11 ∨ x = 13 ∨ x = 15 := by omega
  have C5 := C_200 (rec := rec) (f := f) kq c3.t.1
  rw [if_neg kk] at C5
  rw [if_neg (by rw [I3_lit, I3_inj (by omega) (by decide)]; omega), if_neg (by rw [I3_lit, I3_inj (by omega) (by decide)]; omega), if_neg (by rw [I3_lit, I3_inj (by omega) (by decide)]; omega), C5, bind_id] at C2
  rw [C2] at C1
  exact EO_BO (opN kn EXr z5 z4 ko hT m3 z7) (by omega) z6 (GL (g7 := g6) C1) RR
theorem exprS (n : Nat) (bt : Nat → Nat) (nd : Nat) : ∀ N o0, 21 ≤ N + o0 → ES n bt nd (K_194 N) o0 := by
  intro N
  induction N with
  | zero =>
    intro o0 h0 o T k m f nm kd h g ho s p
    have := p.2.2
    omega
  | succ N ih =>
    intro o0 h0 o T k m f nm kd h g ho s p D lc r w ko hT m3 e
    have o20 := p.2.2
    have w6 := wrd_6 n bt f
    show EO n bt o T k m f nm kd h g (F_194R (K_194 N) h) (F_448 g)
    rcases (show wrd n bt f = 1 ∨ wrd n bt f = 3 ∨ wrd n bt f = 4 ∨ (wrd n bt f = 0 ∨ wrd n bt f = 2 ∨ wrd n bt f = 5) by omega) with z | z | z | z
    · refine openX (rc2 := K_194 (N - 1)) (fun o19 => ⟨fun u => ?_, ih (o + 1) (by omega)⟩) s p D lc r z ko hT m3 e
      have : N = (N - 1) + 1 := by omega
      rw [this]; rfl
    · exact numLeaf s p lc r z (by omega) m3 e _
    · exact nameLeaf s p lc r z (by omega) m3 e _
    · exact badLeaf s lc r z _
end
