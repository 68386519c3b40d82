def F457t (g : sm_H) : Option (Int32 × sm_H) :=
  (some (((g.1 67 102) - 1) : Int32)).bind fun v2 =>
  (ldI g 120 24 v2).bind fun v3 =>
  (some (sm_wI g 67 106 v3)).bind fun h4 =>
  (F_460 v2 h4).bind fun q5 =>
  if q5.1 = (-1) then (F_457_44 q5.2)
  else (if (q5.2.1 67 77) = 0 then ((some (sm_wI q5.2 67 102 ((q5.2.1 67 102) - 1))).bind fun h6 =>
  (ldI h6 123 24 v2).bind fun v7 =>
  (some (sm_wI h6 67 94 v7)).bind fun h8 =>
  (F_447 q5.1 h8).bind fun q9 =>
  if q9.1 = 0 ∨ q9.1 = 1 then some (q9.1, q9.2) else none)
  else (F_457_44 q5.2))
theorem F457e (g : sm_H) : F_457 g = (F_427 g).bind fun q1 => if q1.1 = 0 then some (0, q1.2) else F457t q1.2 := rfl
section
variable {n : Nat} {bt : Nat → Nat} {nd o T j k m p f : Nat} {nm nm' : Nat → Int64} {kd kd' : List Int32} {pt : Nat → Nat} {h g : sm_H}
theorem PW_of {b0 pc : Nat} {rc rr : Option (Int32 × sm_H)} (S : SCO nm kd h g) (po : PO b0 h g pc rc rr kd) : PW b0 h g pc rc rr nm kd := by
  rcases po with ⟨y, h1, g1, a1, a2, a3, a4, a5, a6⟩ | ⟨e', h1, g1, a1, a2, a3, a4⟩
  · exact Or.inl ⟨y, h1, g1, a1, a2, a3, a4, TW_of a5, a6, SCO_TB S a5⟩
  · exact Or.inr ⟨e', h1, g1, a1, a2, TW_of a3, a4, NL_S (SCO_TB S a3)⟩
abbrev Sfi (k m b j : Nat) : Prop := (b = 67 ∧ (j = 102 ∨ j = 94)) ∨ SDv k m b j
theorem Sfi_not (b j : Nat) (z : Sfi k m b j) : notR b j := by
  rcases z with ⟨rfl, rfl | rfl⟩ | z
  · rfl
  · rfl
  · exact SDv_not m b j z
theorem finish {f' f0 : Nat} {rc : Option (Int32 × sm_H)} (hT : T ≤ 200) (k1 : k < 23) (m3 : m ≤ 4000) (K : K1 h g) (b : g.1 67 102 = I3 (k + 2)) (xc : TXC n bt h) (xr : TXR n bt g) (p : OP o h g) (c : CB n bt f' h) (r : RB n bt f' g) (f120 : g.1 120 (k + 1) = I3 f0) (f123 : g.1 123 (k + 1) = I3 (400 - kd.length)) (e : g.1 124 k = I3 m) (po : PW T h (sm_wI g 67 106 (I3 f0)) f0 rc (F_460 (I3 (k + 1)) (sm_wI g 67 106 (I3 f0))) nm kd) :
    (∃ y h1 g2, rc = some (I3 y, h1) ∧ F457t g = some (1, g2) ∧ TS n bt T (k + 1) nm kd (sm_wI h1 55 12 (I3 T)) g2 ∧ OP o (sm_wI h1 55 12 (I3 T)) g2 ∧ CB n bt f' (sm_wI h1 55 12 (I3 T)) ∧ RB n bt f' g2 ∧ y < nH g2 ∧ hpl g2 y = kd ∧ ext g g2 ∧ grow g g2 ∧ agr (XCc T) h (sm_wI h1 55 12 (I3 T)) ∧ agr (fun b j => XRc (k + 1) b j ∨ SDv k m b j) g g2 ∧ g2.1 124 k = I3 (m + 1) ∧ (m < 20 → g2.1 125 (20 * k + m) = I3 y)) ∨ ∃ e h1 g2, rc = some (-1, h1) ∧ F457t g = some (0, g2) ∧ FT e f0 h1 g2 ∧ XT 0 0 h g h1 g2 := by
  have a6 : agr (fun b j => b = 67 ∧ j = 106) g (sm_wI g 67 106 (I3 f0)) := agr_wI agr_rfl ⟨rfl, rfl⟩
  have X0 : XT T (k + 1) h g h (sm_wI g 67 106 (I3 f0)) := XT_x K agr_rfl (agr_mono (fun b j z => Or.inr (Or.inl ⟨z.1, by omega⟩)) a6)
  have R0 : F457t g = (F_460 (I3 (k + 1)) (sm_wI g 67 106 (I3 f0))).bind fun q5 =>
      if q5.1 = (-1) then (F_457_44 q5.2)
      else (if (q5.2.1 67 77) = 0 then ((some (sm_wI q5.2 67 102 ((q5.2.1 67 102) - 1))).bind fun h6 =>
      (ldI h6 123 24 (I3 (k + 1))).bind fun v7 =>
      (some (sm_wI h6 67 94 v7)).bind fun h8 =>
      (F_447 q5.1 h8).bind fun q9 =>
      if q9.1 = 0 ∨ q9.1 = 1 then some (q9.1, q9.2) else none)
      else (F_457_44 q5.2)) := by
    unfold F457t
    rw [b, show I3 (k + 2) - 1 = I3 (k + 1) from I3_s1 (k + 1)]; simp only [obs]
    rw [ldI_I (by omega) (by decide), f120]; simp only [obs]
  rcases po with ⟨y, h1, g1, a1, a2, a3, a4, a5, a7, a8⟩ | ⟨e', h1, g1, a1, a2, a3, a4, a5⟩
  · left
    have b1 : g1.1 67 102 = I3 (k + 2) := (a5.a.1 67 102 (by unfold SRa SRq SRb SRp SRh SRt Ssr; omega)).trans b
    have w1 : g1.1 123 (k + 1) = I3 (400 - kd.length) := (a5.a.1 123 (k + 1) (by unfold SRa SRq SRb SRp SRh SRt Ssr; omega)).trans f123
    have e1 : g1.1 124 k = I3 m := (a5.a.1 124 k (by unfold SRa SRq SRb SRp SRh SRt Ssr; omega)).trans e
    have y5 := lt500 a5.k a3
    obtain ⟨g2, d1, d2, d3, d4⟩ := deliver (g := sm_wI (sm_wI g1 67 102 (I3 (k + 1))) 67 94 (I3 (400 - kd.length))) y5 (show k < 24 by omega) rfl e1 m3
    have af : agr (Sfi k m) g1 g2 := agr_trans (agr_wI (agr_wI agr_rfl (Or.inl ⟨rfl, Or.inl rfl⟩)) (Or.inl ⟨rfl, Or.inr rfl⟩)) (agr_mono (fun b j z => Or.inr z) d2)
    have a12 : agr (fun b j => b = 55 ∧ j = 12) h1 (sm_wI h1 55 12 (I3 T)) := agr_wI agr_rfl ⟨rfl, rfl⟩
    have E := ext_eq (ok_of_not Sfi_not af)
    have K2 : K1 (sm_wI h1 55 12 (I3 T)) g2 := K1_g (K1_55 a5.k 12 (I3 T)) (agr_mono Sfi_not af)
    have nc : nC g2 = nC g1 := by show tn _ = tn _; rw [af.1 67 6 (by unfold Sfi SDv; omega)]
    have S2 : SCO nm kd (sm_wI h1 55 12 (I3 T)) g2 := SCO_agr (h := h1) (g := sm_wI (sm_wI g1 67 102 (I3 (k + 1))) 67 94 (I3 (400 - kd.length))) ⟨a8.1, a8.2.1, rfl, a8.2.2.2.1, a8.2.2.2.2⟩ a12 d2 (Nat.le_of_eq nc.symm) (fun b j z => by omega) (fun b j z => by unfold SDv at z; omega)
    have ac : agr (XCc T) h (sm_wI h1 55 12 (I3 T)) := agr_trans (XT_TW (k := k) a5 (fun _ => NL_S a8)).c (agr_mono (fun b j z => Or.inr (Or.inr (Or.inr (Or.inr ⟨z.1, Or.inl z.2⟩)))) a12)
    have ar : agr (fun b j => XRc (k + 1) b j ∨ SDv k m b j) g g2 := agr_trans (agr_mono (fun b j z => Or.inl z) (agr_trans X0.a (XT_TW (T := T) (k := k + 1) a5 (fun _ => NL_S a8)).a)) (agr_mono (fun b j z => by
      rcases z with ⟨rfl, rfl | rfl⟩ | z
      · exact Or.inl (Or.inr (Or.inr (Or.inr (Or.inl ⟨rfl, Or.inr (Or.inl rfl)⟩))))
      · exact Or.inl (Or.inr (Or.inl (Or.inl ⟨rfl, rfl⟩)))
      · exact Or.inr z) af)
    refine ⟨y, h1, g2, a1, ?_, ⟨K2, NF_agr a7 a12 af (by omega) (by unfold Sfi SDv; omega), S2, ⟨rfl, hT⟩, (d2.1 67 102 (by unfold SDv; omega)).trans rfl, TXC_agr (TXC_agr xc a5.c (fun b j z => by unfold SCq SCb Ssc SCd SCh SCt Ssp at z; omega)) a12 (fun b j z => by omega), TXR_agr (TXR_agr xr (agr_trans (agr_mono (fun b j z => Or.inl z) a6) (agr_mono (fun b j z => Or.inr z) a5.a)) (fun b j z => by unfold SRa SRq SRb SRp SRh SRt Ssr at z; omega)) af (fun b j z => by unfold Sfi SDv at z; omega)⟩, ⟨(a5.c.1 55 16 (by unfold SCq SCb Ssc SCd SCh SCt Ssp; omega)).trans p.1, ((af.1 67 86 (by unfold Sfi SDv; omega)).trans (a5.a.1 67 86 (by unfold SRa SRq SRb SRp SRh SRt Ssr; omega))).trans p.2.1, p.2.2⟩, ?_, ?_, Nat.lt_of_lt_of_le a3 E.2.1.2.2.1, (ext_hpl a5.k.2.2.2.2.1 E.1 a3).trans a4, ext_trans X0.e (ext_trans a5.e E.1), grow_trans X0.r (grow_trans a5.r E.2.1), ac, ar, d3, d4⟩
    · rw [R0, a2]; simp only [obs]
      rw [if_neg (h_m1 a5.k a3), if_pos a7.2.1, b1, show I3 (k + 2) - 1 = I3 (k + 1) from I3_s1 (k + 1)]
      rw [ldI_I (by omega) (by decide), show (sm_wI g1 67 102 (I3 (k + 1))).1 123 (k + 1) = I3 (400 - kd.length) from w1]; simp only [obs]
      rw [d1]; simp only [obs]
      rw [if_pos (Or.inr trivial)]
    · obtain ⟨q, q1, q2, q3⟩ := c
      exact ⟨q, (a5.c.1 52 3 (by unfold SCq SCb Ssc SCd SCh SCt Ssp; omega)).trans q1, q2, q3⟩
    · obtain ⟨q, q1, q2, q3⟩ := r
      exact ⟨q, ((af.1 67 79 (by unfold Sfi SDv; omega)).trans (a5.a.1 67 79 (by unfold SRa SRq SRb SRp SRh SRt Ssr; omega))).trans q1, q2, q3⟩
  · right
    refine ⟨e', h1, g1, a1, ?_, a4, XT_mono (Nat.zero_le _) (Nat.zero_le _) (XT_trans X0 (XT_TW a3 (fun _ => a5)))⟩
    rw [R0, a2]; simp only [obs]
    rw [if_pos trivial]; rfl
def BO (n : Nat) (bt : Nat → Nat) (o T k m f : Nat) (nm : Nat → Int64) (kd : List Int32) (h g : sm_H) (rc : Option (Int32 × sm_H)) : Prop :=
  (∃ y h1 g2 f' c, rc = some (I3 y, h1) ∧ Run g c g2 ∧ c + f ≤ f' ∧ TS n bt T (k + 1) nm kd (sm_wI h1 55 12 (I3 T)) g2 ∧ OP o (sm_wI h1 55 12 (I3 T)) g2 ∧ CB n bt f' (sm_wI h1 55 12 (I3 T)) ∧ RB n bt f' g2 ∧ y < nH g2 ∧ hpl g2 y = kd ∧ ext g g2 ∧ grow g g2 ∧ agr (XCc T) h (sm_wI h1 55 12 (I3 T)) ∧ agr (fun b j => XRc (k + 1) b j ∨ SDv k m b j) g g2 ∧ g2.1 124 k = I3 (m + 1) ∧ (m < 20 → g2.1 125 (20 * k + m) = I3 y)) ∨ ∃ e pc h1 g1 c, rc = some (-1, h1) ∧ FT e pc h1 g1 ∧ XT 0 0 h g h1 g1 ∧ c + f ≤ n + 1 ∧ Die g c g1
theorem BO_tr {f0 c0 : Nat} {h0 g0 : sm_H} {rc : Option (Int32 × sm_H)} (R : Run g0 c0 g) (cf : c0 + f0 ≤ f) (P : XT T (k + 1) h0 g0 h g) (b : BO n bt o T k m f nm kd h g rc) : BO n bt o T k m f0 nm kd h0 g0 rc := by
  rcases b with ⟨y, h1, g2, f', c, e1, e2, e3, e4, e5, e6, e7, e8, e9, e10, e11, e12, e13, e14⟩ | ⟨e, pc, h1, g1, c, e1, e2, e3, e4, e5⟩
  · exact Or.inl ⟨y, h1, g2, f', c0 + c, e1, Run_trans R e2, by omega, e4, e5, e6, e7, e8, e9, ext_trans P.e e10, grow_trans P.r e11, agr_trans P.c e12, agr_trans (agr_mono (fun b j z => Or.inl z) P.a) e13, e14⟩
  · exact Or.inr ⟨e, pc, h1, g1, c0 + c, e1, e2, XT_trans (XT_mono (Nat.zero_le _) (Nat.zero_le _) P) e3, by omega, Run_die R e5⟩
theorem PT_of {T' k' : Nat} {h1 g1 : sm_H} (hT : T ≤ T') (hk : j + 1 ≤ k') (X : XT T' k' h g h1 g1) : PT T j h g h1 g1 := ⟨X.e, X.r, agr_mono (XCc_s hT) X.c, agr_mono (fun b i z => Or.inl (XRc_s hk b i z)) X.a⟩
theorem closeFin {M f0 : Nat} (B : BS n bt nd (o + 1) T (k + 1) M p f nm' kd' pt h g) (k1 : k < 23) (m3 : m ≤ 4000) (f120 : g.1 120 (k + 1) = I3 f0) (f123 : g.1 123 (k + 1) = I3 (400 - kd.length)) (e : g.1 124 k = I3 m) (eF : F_451 g = wp (F_457 g)) {mk : sm_H → Option (Int32 × sm_H)}
    (hmk : ∀ h1 g1, TS n bt (T + p) (k + 2) nm' kd' h1 g1 → XT (T + p) (k + 2) h g h1 g1 → PW T h1 (sm_wI g1 67 106 (I3 f0)) f0 (mk h1) (F_460 (I3 (k + 1)) (sm_wI g1 67 106 (I3 f0))) nm kd) :
    BO n bt o T k m f nm kd h g ((F_175 h).bind fun q => if q.1 = 0 then some (-1, q.2) else mk q.2) := by
  have hT := B.t.t.2
  have fn := RB_n B.r
  rcases closeB B.t B.op B.c B.r with ⟨h1, g1, a1, a2, a3, a4, a5, a6, a7, a8⟩ | ⟨e', h2, g2, a1, a2, a3, a4⟩
  · have P := hmk h1 g1 a3 a8
    have ne : g1.1 124 k = I3 m := (a8.a.1 124 k (by unfold XRc SRa SRq SRb SRp SRh SRt Ssr SLx; omega)).trans e
    have n0 : g1.1 120 (k + 1) = I3 f0 := (a8.a.1 120 (k + 1) (by unfold XRc SRa SRq SRb SRp SRh SRt Ssr SLx; omega)).trans f120
    have n3 : g1.1 123 (k + 1) = I3 (400 - kd.length) := (a8.a.1 123 (k + 1) (by unfold XRc SRa SRq SRb SRp SRh SRt Ssr SLx; omega)).trans f123
    rw [a1]; simp only [obs]
    rw [if_neg (by decide)]
    have R0 : F_457 g = F457t g1 := by rw [F457e, a2]; simp only [obs]; rw [if_neg (by decide)]
    rcases finish (by omega) k1 m3 a3.K a3.b a3.xc a3.xr a4 a5 a6 n0 n3 ne P with ⟨y, h2, g2, c1, c2, c3, c4, c5, c6, c7, c8, c9, c10, c11, c12, c13, c14⟩ | ⟨e', h2, g2, c1, c2, c3, c4⟩
    · refine Or.inl ⟨y, h2, g2, _, 1, c1, RunR_run B.t.b (by omega) (by omega) (eF.trans (by rw [R0, c2])) (RunR_wp ⟨g2, rfl, Run_rfl g2⟩), by omega, c3, c4, c5, c6, c7, c8, ext_trans a8.e c9, grow_trans a8.r c10, agr_trans (agr_mono (XCc_s (by omega)) a8.c) c11, agr_trans (agr_mono (fun b i z => Or.inl (XRc_s (by omega) b i z)) a8.a) c12, c13, c14⟩
    · exact Or.inr ⟨e', _, h2, g2, 1, c1, c3, XT_trans (XT_mono (Nat.zero_le _) (Nat.zero_le _) a8) c4, by omega, DieR_die (c := 0) B.t.b (by omega) (by omega) (eF.trans (by rw [R0, c2])) (DieR_wp (Or.inl rfl))⟩
  · rw [a1]; simp only [obs]
    rw [if_pos trivial]
    exact Or.inr ⟨e', _, h2, g2, 1, rfl, a3, XT_mono (Nat.zero_le _) (Nat.zero_le _) a4, by omega, DieR_die (c := 0) B.t.b (by omega) (by omega) (eF.trans (by rw [F457e, a2]; simp only [obs]; rw [if_pos trivial])) (DieR_wp (Or.inl rfl))⟩
theorem F200e {x f0 : Nat} (hx : x < 17) {y5 : Int32} (h5 : ¬ y5 = -1) (rec : sm_H → Option (Int32 × sm_H)) {N : Nat} (hN : P_KP.getD x 0 = I3 N) (h : sm_H) : F_200_34 rec (I3 x) (I3 f0) (I3 T) y5 h = (F_199 rec (I3 N) h).bind fun q3 => if q3.1 = 0 then some (-1, q3.2) else ((F_175 q3.2).bind fun q4 => if q4.1 = 0 then some (-1, q4.2) else CP (I3 x) y5 (I3 T) (I3 f0) q4.2) := by
  have ld : sm_ldI G0 h 1000003 (I3 x) = some (P_KP.getD x 0) := by
    rcases (show x = 0 ∨ x = 1 ∨ x = 2 ∨ x = 3 ∨ x = 4 ∨ x = 5 ∨ x = 6 ∨ x = 7 ∨ x = 8 ∨ x = 9 ∨ x = 10 ∨ x = 11 ∨ x = 12 ∨ x = 13 ∨ x = 14 ∨ x = 15 ∨ x = 16 by omega) with rfl | rfl | rfl | rfl | rfl | rfl | rfl | rfl | rfl | rfl | rfl | rfl | rfl | rfl | rfl | rfl | rfl <;> rfl
  unfold F_200_34 F_200_52 F_200_73
  rw [if_neg h5, if_neg (I3_nn (by omega)), show sm_al G0 h 1000003 = some 17 from rfl]; simp only [obs]
  rw [if_pos (by rw [I3_lit, I3_lt (by omega) (by decide)]; exact hx), ld, hN]; simp only [obs]
  rfl
end
section
variable {n : Nat} {bt : Nat → Nat} {nd o T j k m p f f0 : Nat} {nm nm' : Nat → Int64} {kd kd' : List Int32} {pt : Nat → Nat} {h g : sm_H} {rec : sm_H → Option (Int32 × sm_H)}
theorem nC_XR {g1 : sm_H} (a : agr (XRc k) g g1) : nC g1 = nC g := by
  show tn _ = tn _
  rw [a.1 67 6 (by unfold XRc SRa SRq SRb SRp SRh SRt Ssr SLx; omega)]
theorem F451a {srt N i : Nat} (b : g.1 67 102 = I3 (j + 1)) (j4 : j < 24) (s : g.1 119 j = I3 srt) (hS : F_442 (I3 srt) g = some (I3 N, g)) (N9 : N ≤ 3) (e : g.1 124 j = I3 i) (i4 : i ≤ 4000) : F_451 g = if N ≤ i then wp (F_457 g) else wp (F_448 g) := by
  show F_451_0 g = _
  unfold F_451_0
  rw [b, I3_s1]; simp only [obs]
  rw [ldI_I j4 (by decide), s]; simp only [obs]
  rw [hS]; simp only [obs]
  rw [if_neg (I3_m1 (by omega)), ldI_I j4 (by decide), e]; simp only [obs]
  by_cases q : N ≤ i
  · rw [if_pos q, if_pos (by rw [I3_le (by omega) (by omega)]; exact q)]; rfl
  · rw [if_neg q, if_neg (by rw [I3_le (by omega) (by omega)]; exact q)]; rfl
def FC (g : sm_H) (j f0 kl : Nat) (srt st ex : Int32) : Prop := g.1 119 j = srt ∧ g.1 120 j = I3 f0 ∧ g.1 121 j = st ∧ g.1 122 j = ex ∧ g.1 123 j = I3 (400 - kl)
theorem FC_x {f0 kl : Nat} {srt st ex : Int32} {g1 : sm_H} (F : FC g j f0 kl srt st ex) (a : agr (XRp j) g g1) : FC g1 j f0 kl srt st ex := by
  have e : ∀ b, 119 ≤ b → b ≤ 123 → g1.1 b j = g.1 b j := fun b b1 b2 => a.1 b j (by unfold XRp XRc SRa SRq SRb SRp SRh SRt Ssr SLx; omega)
  unfold FC
  rw [e 119 (by omega) (by omega), e 120 (by omega) (by omega), e 121 (by omega) (by omega), e 122 (by omega) (by omega), e 123 (by omega) (by omega)]
  exact F
theorem k_124 {g1 : sm_H} (a : agr (XRp (k + 1)) g g1) : g1.1 124 k = g.1 124 k := a.1 124 k (by unfold XRp XRc SRa SRq SRb SRp SRh SRt Ssr SLx; omega)
theorem fixedX {x srt N : Nat} {y5 st ex : Int32} (X : EX n bt nd rec (o + 1)) (B : BS n bt nd (o + 1) T (k + 1) 0 0 f nm kd pt h g) (F : FC g (k + 1) f0 kd.length (I3 srt) st ex) (ko : k < o) (hT : T ≤ 8 * k) (m3 : m ≤ 4000) (e : g.1 124 k = I3 m) (hx : x < 17) (h5 : ¬ y5 = -1) (hN : P_KP.getD x 0 = I3 N) (N3 : N ≤ 3) (hS : ∀ g', F_442 (I3 srt) g' = some (I3 N, g'))
    (hdo : ∀ h1 g1 pt', K1 h1 g1 → SCO nm kd h1 g1 → NF h1 g1 → g1.1 67 106 = I3 f0 → STK h1 T N pt' → (∀ i, i < N → pt' i < nH g1 ∧ hpl g1 (pt' i) = kd) → FRM g1 (k + 1) (I3 srt) ex N pt' → nC g1 = nC g → PO T h1 g1 f0 (CP (I3 x) y5 (I3 T) (I3 f0) h1) (F_460 (I3 (k + 1)) g1) kd) :
    BO n bt o T k m f nm kd h g (F_200_34 rec (I3 x) (I3 f0) (I3 T) y5 h) := by
  have o20 := B.op.2.2
  rw [F200e hx h5 rec hN]
  rcases parts (g0 := g) X (Nat.le_refl _) (show k + 1 < o + 1 by omega) (by omega) (by omega) (show T + 8 ≤ 8 * (k + 1) by omega) (show N ≤ 8 by omega) N 0 1000000 0 f pt h g (by omega) (by omega) (by omega) B agr_rfl (fun i' g' h1 h2 a b e => by
      rw [F451a b (by omega) (FC_x F a).1 (hS g') N3 e (by omega), if_neg (by omega)]) with ⟨h1, g1, f', c, pt', a1, a2, a3, a4, a5, a6, a7⟩ | ⟨e, pc, h1, g1, c, a1, a2, a3, a4, a5⟩
  · rw [show F_199 rec (I3 N) h = some (1, h1) from a1]; simp only [obs]
    rw [if_neg (by decide)]
    rw [Nat.zero_add] at a4 a6
    have F1 := FC_x F a7.2.2.2
    have P7 : PT T (k + 1) h g h1 g1 := PT_s (by omega) a7
    refine BO_tr a2 a3 (PT_XT a4.t.K a4.t.l P7) (closeFin a4 (by omega) m3 F1.2.1 F1.2.2.2.2 ((k_124 a7.2.2.2).trans e) (by rw [F451a a4.t.b (by omega) F1.1 (hS g1) N3 a4.mm (by omega), if_pos (Nat.le_refl _)]) (fun h2 g2 s2 x2 => ?_))
    have s3 := TS_x (T' := T + N) (k' := k + 2) s2 agr_rfl (agr_wI agr_rfl (Or.inr ⟨rfl, Or.inr (Or.inl rfl)⟩) : agr (fun b j => SLx b j ∨ (b = 67 ∧ (j = 105 ∨ j = 106 ∨ j = 108))) g2 (sm_wI g2 67 106 (I3 f0)))
    have x3 := XT_trans x2 s3.2
    have fe : ∀ b, 119 ≤ b → b ≤ 124 → (sm_wI g2 67 106 (I3 f0)).1 b (k + 1) = g1.1 b (k + 1) := fun b b1 b2 => x3.a.1 b (k + 1) (by unfold XRc SRa SRq SRb SRp SRh SRt Ssr SLx; omega)
    refine PW_of s3.1.S (hdo h2 _ pt' s3.1.K s3.1.S s3.1.nf rfl ⟨T + N, s2.t.1, Nat.le_refl _, s2.t.2, fun i hi => ?_⟩ (fun i hi => ⟨x3.nH (a6 i (by omega) hi).1, (x3.hpl a4.t.K (a6 i (by omega) hi).1).trans (a6 i (by omega) hi).2⟩) ⟨by omega, ?_, ?_, ?_, by omega, fun i hi => ?_⟩ ((nC_XR x3.a).trans (nC_XR (agr_mono XRp_c a7.2.2.2))))
    · rw [x2.c.1 60 _ (by unfold XCc SCq SCb Ssc SCd SCh SCt Ssp S52; omega)]; exact a4.s i hi
    · rw [fe 119 (by omega) (by omega)]; exact F1.1
    · rw [fe 122 (by omega) (by omega)]; exact F1.2.2.2.1
    · rw [fe 124 (by omega) (by omega)]; exact a4.mm
    · rw [x3.a.1 125 _ (by unfold XRc SRa SRq SRb SRp SRh SRt Ssr SLx; omega)]; exact a4.q i hi (by omega)
  · rw [show F_199 rec (I3 N) h = some (0, h1) from a1]; simp only [obs]
    rw [if_pos trivial]
    exact Or.inr ⟨e, pc, h1, g1, c, rfl, a2, a3, a4, a5⟩
theorem CP_ex {x1 : Int32} (hx : x1 = 0 ∨ x1 = 2 ∨ x1 = 9 ∨ x1 = 10 ∨ x1 = 11 ∨ x1 = 13 ∨ x1 = 15) (a b x3 x4 : Int32) (h : sm_H) : CP x1 a x3 x4 h = CP x1 b x3 x4 h := by
  unfold CP
  rcases hx with rfl | rfl | rfl | rfl | rfl | rfl | rfl
  · unfold F_203 F_203_0
    simp only [eq_false (show ¬ ((0 : Int32) = 2) by decide), eq_false (show ¬ ((0 : Int32) = 5) by decide), eq_false (show ¬ ((0 : Int32) = 6) by decide), eq_false (show ¬ ((0 : Int32) = 7) by decide), eq_false (show ¬ ((0 : Int32) = 8) by decide), eq_false (show ¬ ((0 : Int32) = 9) by decide), eq_false (show ¬ ((0 : Int32) = 10) by decide), eq_false (show ¬ ((0 : Int32) = 11) by decide), eq_false (show ¬ ((0 : Int32) = 12) by decide), eq_false (show ¬ ((0 : Int32) = 13) by decide), eq_false (show ¬ ((0 : Int32) = 14) by decide), eq_false (show ¬ ((0 : Int32) = 15) by decide), if_false, if_true]
  · unfold F_203 F_203_0 F_202 F_202_0
    simp only [eq_false (show ¬ ((2 : Int32) = 0) by decide), eq_false (show ¬ ((2 : Int32) = 5) by decide), eq_false (show ¬ ((2 : Int32) = 6) by decide), eq_false (show ¬ ((2 : Int32) = 7) by decide), eq_false (show ¬ ((2 : Int32) = 8) by decide), eq_false (show ¬ ((2 : Int32) = 9) by decide), eq_false (show ¬ ((2 : Int32) = 10) by decide), eq_false (show ¬ ((2 : Int32) = 11) by decide), eq_false (show ¬ ((2 : Int32) = 12) by decide), eq_false (show ¬ ((2 : Int32) = 13) by decide), eq_false (show ¬ ((2 : Int32) = 14) by decide), eq_false (show ¬ ((2 : Int32) = 15) by decide), if_false, if_true]
  · unfold F_203 F_203_0 F_202 F_202_0
    simp only [eq_false (show ¬ ((9 : Int32) = 0) by decide), eq_false (show ¬ ((9 : Int32) = 2) by decide), eq_false (show ¬ ((9 : Int32) = 5) by decide), eq_false (show ¬ ((9 : Int32) = 6) by decide), eq_false (show ¬ ((9 : Int32) = 7) by decide), eq_false (show ¬ ((9 : Int32) = 8) by decide), eq_false (show ¬ ((9 : Int32) = 10) by decide), eq_false (show ¬ ((9 : Int32) = 11) by decide), eq_false (show ¬ ((9 : Int32) = 12) by decide), eq_false (show ¬ ((9 : Int32) = 13) by decide), eq_false (show ¬ ((9 : Int32) = 14) by decide), eq_false (show ¬ ((9 : Int32) = 15) by decide), if_false, if_true]
  · unfold F_203 F_203_0 F_202 F_202_0
    simp only [eq_false (show ¬ ((10 : Int32) = 0) by decide), eq_false (show ¬ ((10 : Int32) = 2) by decide), eq_false (show ¬ ((10 : Int32) = 5) by decide), eq_false (show ¬ ((10 : Int32) = 6) by decide), eq_false (show ¬ ((10 : Int32) = 7) by decide), eq_false (show ¬ ((10 : Int32) = 8) by decide), eq_false (show ¬ ((10 : Int32) = 9) by decide), eq_false (show ¬ ((10 : Int32) = 11) by decide), eq_false (show ¬ ((10 : Int32) = 12) by decide), eq_false (show ¬ ((10 : Int32) = 13) by decide), eq_false (show ¬ ((10 : Int32) = 14) by decide), eq_false (show ¬ ((10 : Int32) = 15) by decide), if_false, if_true]
  · unfold F_203 F_203_0 F_202 F_202_0
    simp only [eq_false (show ¬ ((11 : Int32) = 0) by decide), eq_false (show ¬ ((11 : Int32) = 2) by decide), eq_false (show ¬ ((11 : Int32) = 5) by decide), eq_false (show ¬ ((11 : Int32) = 6) by decide), eq_false (show ¬ ((11 : Int32) = 7) by decide), eq_false (show ¬ ((11 : Int32) = 8) by decide), eq_false (show ¬ ((11 : Int32) = 9) by decide), eq_false (show ¬ ((11 : Int32) = 10) by decide), eq_false (show ¬ ((11 : Int32) = 12) by decide), eq_false (show ¬ ((11 : Int32) = 13) by decide), eq_false (show ¬ ((11 : Int32) = 14) by decide), eq_false (show ¬ ((11 : Int32) = 15) by decide), if_false, if_true]
  · unfold F_203 F_203_0 F_202 F_202_0
    simp only [eq_false (show ¬ ((13 : Int32) = 0) by decide), eq_false (show ¬ ((13 : Int32) = 2) by decide), eq_false (show ¬ ((13 : Int32) = 5) by decide), eq_false (show ¬ ((13 : Int32) = 6) by decide), eq_false (show ¬ ((13 : Int32) = 7) by decide), eq_false (show ¬ ((13 : Int32) = 8) by decide), eq_false (show ¬ ((13 : Int32) = 9) by decide), eq_false (show ¬ ((13 : Int32) = 10) by decide), eq_false (show ¬ ((13 : Int32) = 11) by decide), eq_false (show ¬ ((13 : Int32) = 12) by decide), eq_false (show ¬ ((13 : Int32) = 14) by decide), eq_false (show ¬ ((13 : Int32) = 15) by decide), if_false, if_true]
  · unfold F_203 F_203_0 F_202 F_202_0
    simp only [eq_false (show ¬ ((15 : Int32) = 0) by decide), eq_false (show ¬ ((15 : Int32) = 2) by decide), eq_false (show ¬ ((15 : Int32) = 5) by decide), eq_false (show ¬ ((15 : Int32) = 6) by decide), eq_false (show ¬ ((15 : Int32) = 7) by decide), eq_false (show ¬ ((15 : Int32) = 8) by decide), eq_false (show ¬ ((15 : Int32) = 9) by decide), eq_false (show ¬ ((15 : Int32) = 10) by decide), eq_false (show ¬ ((15 : Int32) = 11) by decide), eq_false (show ¬ ((15 : Int32) = 12) by decide), eq_false (show ¬ ((15 : Int32) = 13) by decide), eq_false (show ¬ ((15 : Int32) = 14) by decide), if_false, if_true]
theorem opN {x : Nat} {st : Int32} (hx : x = 0 ∨ x = 2 ∨ x = 9 ∨ x = 10 ∨ x = 11 ∨ x = 13 ∨ x = 15) (X : EX n bt nd rec (o + 1)) (B : BS n bt nd (o + 1) T (k + 1) 0 0 f nm kd pt h g) (F : FC g (k + 1) f0 kd.length (I3 (x + 2)) st (-1)) (ko : k < o) (hT : T ≤ 8 * k) (m3 : m ≤ 4000) (e : g.1 124 k = I3 m) : BO n bt o T k m f nm kd h g (F_200_34 rec (I3 x) (I3 f0) (I3 T) 0 h) := by
  rcases hx with rfl | rfl | rfl | rfl | rfl | rfl | rfl
  · exact fixedX (N := 3) X B F ko hT m3 e (by decide) (by decide) rfl (by decide) (fun _ => rfl) (fun h1 g1 pt' K S nf wh st ok fr _ => by rw [CP_ex (by decide) 0 (-1)]; exact do_0 K S nf wh st ok fr)
  · exact fixedX (N := 2) X B F ko hT m3 e (by decide) (by decide) rfl (by decide) (fun _ => rfl) (fun h1 g1 pt' K S nf wh st ok fr _ => by rw [CP_ex (by decide) 0 (-1)]; exact do_2 K S nf wh st ok fr)
  · exact fixedX (N := 1) X B F ko hT m3 e (by decide) (by decide) rfl (by decide) (fun _ => rfl) (fun h1 g1 pt' K S nf wh st ok fr _ => by rw [CP_ex (by decide) 0 (-1)]; exact do_9 K S nf wh st ok fr)
  · exact fixedX (N := 2) X B F ko hT m3 e (by decide) (by decide) rfl (by decide) (fun _ => rfl) (fun h1 g1 pt' K S nf wh st ok fr _ => by rw [CP_ex (by decide) 0 (-1)]; exact do_10 K S nf wh st ok fr)
  · exact fixedX (N := 3) X B F ko hT m3 e (by decide) (by decide) rfl (by decide) (fun _ => rfl) (fun h1 g1 pt' K S nf wh st ok fr _ => by rw [CP_ex (by decide) 0 (-1)]; exact do_11 K S nf wh st ok fr)
  · exact fixedX (N := 2) X B F ko hT m3 e (by decide) (by decide) rfl (by decide) (fun _ => rfl) (fun h1 g1 pt' K S nf wh st ok fr _ => by rw [CP_ex (by decide) 0 (-1)]; exact do_13 K S nf wh st ok fr)
  · exact fixedX (N := 1) X B F ko hT m3 e (by decide) (by decide) rfl (by decide) (fun _ => rfl) (fun h1 g1 pt' K S nf wh st ok fr _ => by rw [CP_ex (by decide) 0 (-1)]; exact do_15 K S nf wh st ok fr)
theorem opK {x i : Nat} {st : Int32} (hx : x = 5 ∨ x = 6 ∨ x = 7 ∨ x = 8 ∨ x = 12 ∨ x = 14) (X : EX n bt nd rec (o + 1)) (B : BS n bt nd (o + 1) T (k + 1) 0 0 f nm kd pt h g) (F : FC g (k + 1) f0 kd.length (I3 (x + 2)) st (I3 i)) (ko : k < o) (hT : T ≤ 8 * k) (m3 : m ≤ 4000) (e : g.1 124 k = I3 m) (hi : i < 20 + nC g) : BO n bt o T k m f nm kd h g (F_200_34 rec (I3 x) (I3 f0) (I3 T) (I3 i) h) := by
  have h5 : ¬ I3 i = (-1 : Int32) := I3_m1 (by have := B.t.K.1.2.1; omega)
  rcases hx with rfl | rfl | rfl | rfl | rfl | rfl
  · exact fixedX (N := 1) X B F ko hT m3 e (by decide) h5 rfl (by decide) (fun _ => rfl) (fun h1 g1 pt' K S nf wh st ok fr nc => do_5 K S nf wh st ok (by omega) fr)
  · exact fixedX (N := 1) X B F ko hT m3 e (by decide) h5 rfl (by decide) (fun _ => rfl) (fun h1 g1 pt' K S nf wh st ok fr nc => do_6 K S nf wh st ok (by omega) fr)
  · exact fixedX (N := 0) X B F ko hT m3 e (by decide) h5 rfl (by decide) (fun _ => rfl) (fun h1 g1 pt' K S nf wh st ok fr nc => do_7 K S nf wh st (by omega) fr)
  · exact fixedX (N := 1) X B F ko hT m3 e (by decide) h5 rfl (by decide) (fun _ => rfl) (fun h1 g1 pt' K S nf wh st ok fr nc => do_8 K S nf wh st ok (by omega) fr)
  · exact fixedX (N := 1) X B F ko hT m3 e (by decide) h5 rfl (by decide) (fun _ => rfl) (fun h1 g1 pt' K S nf wh st ok fr nc => do_12 K S nf wh st ok (by omega) fr)
  · exact fixedX (N := 1) X B F ko hT m3 e (by decide) h5 rfl (by decide) (fun _ => rfl) (fun h1 g1 pt' K S nf wh st ok fr nc => do_14 K S nf wh st ok (by omega) fr)
theorem opS {s : Nat} {st : Int32} (hs : s ≤ 12) (X : EX n bt nd rec (o + 1)) (B : BS n bt nd (o + 1) T (k + 1) 0 0 f nm kd pt h g) (F : FC g (k + 1) f0 kd.length 1 st (I3 s)) (ko : k < o) (hT : T ≤ 8 * k) (m3 : m ≤ 4000) (e : g.1 124 k = I3 m) : BO n bt o T k m f nm kd h g (F_200_34 rec 16 (I3 f0) (I3 T) (I3 s) h) :=
  fixedX (N := 2) (x := 16) (srt := 1) X B F ko hT m3 e (by decide) (I3_m1 (by omega)) rfl (by decide) (fun _ => rfl) (fun h1 g1 pt' K S nf wh st ok fr nc => do_16 K S nf wh st ok hs fr)
end
