section
variable {n : Nat} {bt : Nat → Nat} {nd o T j k m p f f0 : Nat} {nm nm' : Nat → Int64} {kd kd' : List Int32} {pt : Nat → Nat} {h g : sm_H} {rec : sm_H → Option (Int32 × sm_H)}
theorem nC_XR {g1 : sm_H} (a : agr (XRc k) g g1) : nC g1 = nC g := by
  show tn _ = tn _
  rw [a.1 67 6 (by unfold XRc SRa SRq SRb SRp SRh SRt Ssr SLx; omega)]
theorem F451a {srt N i : Nat} (b : g.1 67 102 = I3 (j + 1)) (j4 : j < 24) (s : g.1 119 j = I3 srt) (hS : F_442 (I3 srt) g = some (I3 N, g)) (N9 : N ≤ 3) (e : g.1 124 j = I3 i) (i4 : i ≤ 4000) : F_451 g = if N ≤ i then wp (F_457 g) else wp (F_448 g) := by
  show F_451_0 g = _
  unfold F_451_0
  rw [b, I3_s1]; simp only [obs]
  rw [ldI_I j4 (by decide), s]; simp only [obs]
  rw [hS]; simp only [obs]
  rw [if_neg (I3_m1 (by omega)), ldI_I j4 (by decide), e]; simp only [obs]
  by_cases q : N ≤ i
  · rw [if_pos q, if_pos (by rw [I3_le (by omega) (by omega)]; exact q)]; rfl
  · rw [if_neg q, if_neg (by rw [I3_le (by omega) (by omega)]; exact q)]; rfl
def FC (g : sm_H) (j f0 kl : Nat) (srt st ex : Int32) : Prop := g.1 119 j = srt ∧ g.1 120 j = I3 f0 ∧ g.1 121 j = st ∧ g.1 122 j = ex ∧ g.1 123 j = I3 (400 - kl)
theorem FC_x {f0 kl : Nat} {srt st ex : Int32} {g1 : sm_H} (F : FC g j f0 kl srt st ex) (a : agr (XRp j) g g1) : FC g1 j f0 kl srt st ex := by
  have e : ∀ b, 119 ≤ b → b ≤ 123 → g1.1 b j = g.1 b j := fun b b1 b2 => a.1 b j (by unfold XRp XRc SRa SRq SRb SRp SRh SRt Ssr SLx; omega)
  unfold FC
  rw [e 119 (by omega) (by omega), e 120 (by omega) (by omega), e 121 (by omega) (by omega), e 122 (by omega) (by omega), e 123 (by omega) (by omega)]
  exact F
theorem k_124 {g1 : sm_H} (a : agr (XRp (k + 1)) g g1) : g1.1 124 k = g.1 124 k := a.1 124 k (by unfold XRp XRc SRa SRq SRb SRp SRh SRt Ssr SLx; omega)
theorem fixedX {x srt N : Nat} {y5 st ex : Int32} (X : EX n bt nd rec (o + 1)) (B : BS n bt nd (o + 1) T (k + 1) 0 0 f nm kd pt h g) (F : FC g (k + 1) f0 kd.length (I3 srt) st ex) (ko : k < o) (hT : T ≤ 8 * k) (m3 : m ≤ 4000) (e : g.1 124 k = I3 m) (hx : x < 17) (h5 : ¬ y5 = -1) (hN : P_KP.getD x 0 = I3 N) (N3 : N ≤ 3) (hS : ∀ g', F_442 (I3 srt) g' = some (I3 N, g'))
    (hdo : ∀ h1 g1 pt', K1 h1 g1 → SCO nm kd h1 g1 → NF h1 g1 → g1.1 67 106 = I3 f0 → STK h1 T N pt' → (∀ i, i < N → pt' i < nH g1 ∧ hpl g1 (pt' i) = kd) → FRM g1 (k + 1) (I3 srt) ex N pt' → nC g1 = nC g → PO T h1 g1 f0 (CP (I3 x) y5 (I3 T) (I3 f0) h1) (F_460 (I3 (k + 1)) g1) kd) :
    BO n bt o T k m f nm kd h g (F_200_34 rec (I3 x) (I3 f0) (I3 T) y5 h) := by
  have o20 := B.op.2.2
  rw [F200e hx h5 rec hN]
  rcases parts (g0 := g) X (Nat.le_refl _) (show k + 1 < o + 1 by omega) (by omega) (by omega) (show T + 8 ≤ 8 * (k + 1) by omega) (show N ≤ 8 by omega) N 0 1000000 0 f pt h g (by omega) (by omega) (by omega) B agr_rfl (fun i' g' h1 h2 a b e => by
      rw [F451a b (by omega) (FC_x F a).1 (hS g') N3 e (by omega), if_neg (by omega)]) with ⟨h1, g1, f', c, pt', a1, a2, a3, a4, a5, a6, a7⟩ | ⟨e, pc, h1, g1, c, a1, a2, a3, a4, a5⟩
  · rw [show F_199 rec (I3 N) h = some (1, h1) from a1]; simp only [obs]
    rw [if_neg (by decide)]
    rw [Nat.zero_add] at a4 a6
    have F1 := FC_x F a7.2.2.2
    have P7 : PT T (k + 1) h g h1 g1 := PT_s (by omega) a7
    refine BO_tr a2 a3 (PT_XT a4.t.K a4.t.l P7) (closeFin a4 (by omega) m3 F1.2.1 F1.2.2.2.2 ((k_124 a7.2.2.2).trans e) (by rw [F451a a4.t.b (by omega) F1.1 (hS g1) N3 a4.mm (by omega), if_pos (Nat.le_refl _)]) (fun h2 g2 s2 x2 => ?_))
    have s3 := TS_x (T' := T + N) (k' := k + 2) s2 agr_rfl (agr_wI agr_rfl (Or.inr ⟨rfl, Or.inr (Or.inl rfl)⟩) : agr (fun b j => SLx b j ∨ (b = 67 ∧ (j = 105 ∨ j = 106 ∨ j = 108))) g2 (sm_wI g2 67 106 (I3 f0)))
    have x3 := XT_trans x2 s3.2
    have fe : ∀ b, 119 ≤ b → b ≤ 124 → (sm_wI g2 67 106 (I3 f0)).1 b (k + 1) = g1.1 b (k + 1) := fun b b1 b2 => x3.a.1 b (k + 1) (by unfold XRc SRa SRq SRb SRp SRh SRt Ssr SLx; omega)
    refine PW_of s3.1.S (hdo h2 _ pt' s3.1.K s3.1.S s3.1.nf rfl ⟨T + N, s2.t.1, Nat.le_refl _, s2.t.2, fun i hi => ?_⟩ (fun i hi => ⟨x3.nH (a6 i (by omega) hi).1, (x3.hpl a4.t.K (a6 i (by omega) hi).1).trans (a6 i (by omega) hi).2⟩) ⟨by omega, ?_, ?_, ?_, by omega, fun i hi => ?_⟩ ((nC_XR x3.a).trans (nC_XR (agr_mono XRp_c a7.2.2.2))))
    · rw [x2.c.1 60 _ (by unfold XCc SCq SCb Ssc SCd SCh SCt Ssp S52; omega)]; exact a4.s i hi
    · rw [fe 119 (by omega) (by omega)]; exact F1.1
    · rw [fe 122 (by omega) (by omega)]; exact F1.2.2.2.1
    · rw [fe 124 (by omega) (by omega)]; exact a4.mm
    · rw [x3.a.1 125 _ (by unfold XRc SRa SRq SRb SRp SRh SRt Ssr SLx; omega)]; exact a4.q i hi (by omega)
  · rw [show F_199 rec (I3 N) h = some (0, h1) from a1]; simp only [obs]
    rw [if_pos trivial]
    exact Or.inr ⟨e, pc, h1, g1, c, rfl, a2, a3, a4, a5⟩
theorem CP_ex {x1 : Int32} (hx : x1 = 0 ∨ x1 = 2 ∨ x1 = 9 ∨ x1 = 10 ∨ x1 = 11 ∨ x1 = 13 ∨ x1 = 15) (a b x3 x4 : Int32) (h : sm_H) : CP x1 a x3 x4 h = CP x1 b x3 x4 h := by
  unfold CP
  rcases hx with rfl | rfl | rfl | rfl | rfl | rfl | rfl
  · unfold F_203 F_203_0
    simp only [eq_false (show ¬ ((0 : Int32) = 2) by decide), eq_false (show ¬ ((0 : Int32) = 5) by decide), eq_false (show ¬ ((0 : Int32) = 6) by decide), eq_false (show ¬ ((0 : Int32) = 7) by decide), eq_false (show ¬ ((0 : Int32) = 8) by decide), eq_false (show ¬ ((0 : Int32) = 9) by decide), eq_false (show ¬ ((0 : Int32) = 10) by decide), eq_false (show ¬ ((0 : Int32) = 11) by decide), eq_false (show ¬ ((0 : Int32) = 12) by decide), eq_false (show ¬ ((0 : Int32) = 13) by decide), eq_false (show ¬ ((0 : Int32) = 14) by decide), eq_false (show ¬ ((0 : Int32) = 15) by decide), if_false, if_true]
  · unfold F_203 F_203_0 F_202 F_202_0
    simp only [eq_false (show ¬ ((2 : Int32) = 0) by decide), eq_false (show ¬ ((2 : Int32) = 5) by decide), eq_false (show ¬ ((2 : Int32) = 6) by decide), eq_false (show ¬ ((2 : Int32) = 7) by decide), eq_false (show ¬ ((2 : Int32) = 8) by decide), eq_false (show ¬ ((2 : Int32) = 9) by decide), eq_false (show ¬ ((2 : Int32) = 10) by decide), eq_false (show ¬ ((2 : Int32) = 11) by decide), eq_false (show ¬ ((2 : Int32) = 12) by decide), eq_false (show ¬ ((2 : Int32) = 13) by decide), eq_false (show ¬ ((2 : Int32) = 14) by decide), eq_false (show ¬ ((2 : Int32) = 15) by decide), if_false, if_true]
  · unfold F_203 F_203_0 F_202 F_202_0
    simp only [eq_false (show ¬ ((9 : Int32) = 0) by decide), eq_false (show ¬ ((9 : Int32) = 2) by decide), eq_false (show ¬ ((9 : Int32) = 5) by decide), eq_false (show ¬ ((9 : Int32) = 6) by decide), eq_false (show ¬ ((9 : Int32) = 7) by decide), eq_false (show ¬ ((9 : Int32) = 8) by decide), eq_false (show ¬ ((9 : Int32) = 10) by decide), eq_false (show ¬ ((9 : Int32) = 11) by decide), eq_false (show ¬ ((9 : Int32) = 12) by decide), eq_false (show ¬ ((9 : Int32) = 13) by decide), eq_false (show ¬ ((9 : Int32) = 14) by decide), eq_false (show ¬ ((9 : Int32) = 15) by decide), if_false, if_true]
  · unfold F_203 F_203_0 F_202 F_202_0
    simp only [eq_false (show ¬ ((10 : Int32) = 0) by decide), eq_false (show ¬ ((10 : Int32) = 2) by decide), eq_false (show ¬ ((10 : Int32) = 5) by decide), eq_false (show ¬ ((10 : Int32) = 6) by decide), eq_false (show ¬ ((10 : Int32) = 7) by decide), eq_false (show ¬ ((10 : Int32) = 8) by decide), eq_false (show ¬ ((10 : Int32) = 9) by decide), eq_false (show ¬ ((10 : Int32) = 11) by decide), eq_false (show ¬ ((10 : Int32) = 12) by decide), eq_false (show ¬ ((10 : Int32) = 13) by decide), eq_false (show ¬ ((10 : Int32) = 14) by decide), eq_false (show ¬ ((10 : Int32) = 15) by decide), if_false, if_true]
  · unfold F_203 F_203_0 F_202 F_202_0
    simp only [eq_false (show ¬ ((11 : Int32) = 0) by decide), eq_false (show ¬ ((11 : Int32) = 2) by decide), eq_false (show ¬ ((11 : Int32) = 5) by decide), eq_false (show ¬ ((11 : Int32) = 6) by decide), eq_false (show ¬ ((11 : Int32) = 7) by decide), eq_false (show ¬ ((11 : Int32) = 8) by decide), eq_false (show ¬ ((11 : Int32) = 9) by decide), eq_false (show ¬ ((11 : Int32) = 10) by decide), eq_false (show ¬ ((11 : Int32) = 12) by decide), eq_false (show ¬ ((11 : Int32) = 13) by decide), eq_false (show ¬ ((11 : Int32) = 14) by decide), eq_false (show ¬ ((11 : Int32) = 15) by decide), if_false, if_true]
  · unfold F_203 F_203_0 F_202 F_202_0
    simp only [eq_false (show ¬ ((13 : Int32) = 0) by decide), eq_false (show ¬ ((13 : Int32) = 2) by decide), eq_false (show ¬ ((13 : Int32) = 5) by decide), eq_false (show ¬ ((13 : Int32) = 6) by decide), eq_false (show ¬ ((13 : Int32) = 7) by decide), eq_false (show ¬ ((13 : Int32) = 8) by decide), eq_false (show ¬ ((13 : Int32) = 9) by decide), eq_false (show ¬ ((13 : Int32) = 10) by decide), eq_false (show ¬ ((13 : Int32) = 11) by decide), eq_false (show ¬ ((13 : Int32) = 12) by decide), eq_false (show ¬ ((13 : Int32) = 14) by decide), eq_false (show ¬ ((13 : Int32) = 15) by decide), if_false, if_true]
  · unfold F_203 F_203_0 F_202 F_202_0
    simp only [eq_false (show ¬ ((15 : Int32) = 0) by decide), eq_false (show ¬ ((15 : Int32) = 2) by decide), eq_false (show ¬ ((15 : Int32) = 5) by decide), eq_false (show ¬ ((15 : Int32) = 6) by decide), eq_false (show ¬ ((15 : Int32) = 7) by decide), eq_false (show ¬ ((15 : Int32) = 8) by decide), eq_false (show ¬ ((15 : Int32) = 9) by decide), eq_false (show ¬ ((15 : Int32) = 10) by decide), eq_false (show ¬ ((15 : Int32) = 11) by decide), eq_false (show ¬ ((15 : Int32) = 12) by decide), eq_false (show ¬ ((15 : Int32) = 13) by decide), eq_false (show ¬ ((15 : Int32) = 14) by decide), if_false, if_true]
theorem opN {x : Nat} {st : Int32} (hx : x = 0 ∨ x = 2 ∨ x = 9 ∨ x = 10 ∨ x = 11 ∨ x = 13 ∨ x = 15) (X : EX n bt nd rec (o + 1)) (B : BS n bt nd (o + 1) T (k + 1) 0 0 f nm kd pt h g) (F : FC g (k + 1) f0 kd.length (I3 (x + 2)) st (-1)) (ko : k < o) (hT : T ≤ 8 * k) (m3 : m ≤ 4000) (e : g.1 124 k = I3 m) : BO n bt o T k m f nm kd h g (F_200_34 rec (I3 x) (I3 f0) (I3 T) 0 h) := by
  rcases hx with rfl | rfl | rfl | rfl | rfl | rfl | rfl
  · exact fixedX (N := 3) X B F ko hT m3 e (by decide) (by decide) rfl (by decide) (fun _ => rfl) (fun h1 g1 pt' K S nf wh st ok fr _ => by rw [CP_ex (by decide) 0 (-1)]; exact do_0 K S nf wh st ok fr)
  · exact fixedX (N := 2) X B F ko hT m3 e (by decide) (by decide) rfl (by decide) (fun _ => rfl) (fun h1 g1 pt' K S nf wh st ok fr _ => by rw [CP_ex (by decide) 0 (-1)]; exact do_2 K S nf wh st ok fr)
  · exact fixedX (N := 1) X B F ko hT m3 e (by decide) (by decide) rfl (by decide) (fun _ => rfl) (fun h1 g1 pt' K S nf wh st ok fr _ => by rw [CP_ex (by decide) 0 (-1)]; exact do_9 K S nf wh st ok fr)
  · exact fixedX (N := 2) X B F ko hT m3 e (by decide) (by decide) rfl (by decide) (fun _ => rfl) (fun h1 g1 pt' K S nf wh st ok fr _ => by rw [CP_ex (by decide) 0 (-1)]; exact do_10 K S nf wh st ok fr)
  · exact fixedX (N := 3) X B F ko hT m3 e (by decide) (by decide) rfl (by decide) (fun _ => rfl) (fun h1 g1 pt' K S nf wh st ok fr _ => by rw [CP_ex (by decide) 0 (-1)]; exact do_11 K S nf wh st ok fr)
  · exact fixedX (N := 2) X B F ko hT m3 e (by decide) (by decide) rfl (by decide) (fun _ => rfl) (fun h1 g1 pt' K S nf wh st ok fr _ => by rw [CP_ex (by decide) 0 (-1)]; exact do_13 K S nf wh st ok fr)
  · exact fixedX (N := 1) X B F ko hT m3 e (by decide) (by decide) rfl (by decide) (fun _ => rfl) (fun h1 g1 pt' K S nf wh st ok fr _ => by rw [CP_ex (by decide) 0 (-1)]; exact do_15 K S nf wh st ok fr)
theorem opK {x i : Nat} {st : Int32} (hx : x = 5 ∨ x = 6 ∨ x = 7 ∨ x = 8 ∨ x = 12 ∨ x = 14) (X : EX n bt nd rec (o + 1)) (B : BS n bt nd (o + 1) T (k + 1) 0 0 f nm kd pt h g) (F : FC g (k + 1) f0 kd.length (I3 (x + 2)) st (I3 i)) (ko : k < o) (hT : T ≤ 8 * k) (m3 : m ≤ 4000) (e : g.1 124 k = I3 m) (hi : i < 20 + nC g) : BO n bt o T k m f nm kd h g (F_200_34 rec (I3 x) (I3 f0) (I3 T) (I3 i) h) := by
  have h5 : ¬ I3 i = (-1 : Int32) := I3_m1 (by have := B.t.K.1.2.1; omega)
  rcases hx with rfl | rfl | rfl | rfl | rfl | rfl
  · exact fixedX (N := 1) X B F ko hT m3 e (by decide) h5 rfl (by decide) (fun _ => rfl) (fun h1 g1 pt' K S nf wh st ok fr nc => do_5 K S nf wh st ok (by omega) fr)
  · exact fixedX (N := 1) X B F ko hT m3 e (by decide) h5 rfl (by decide) (fun _ => rfl) (fun h1 g1 pt' K S nf wh st ok fr nc => do_6 K S nf wh st ok (by omega) fr)
  · exact fixedX (N := 0) X B F ko hT m3 e (by decide) h5 rfl (by decide) (fun _ => rfl) (fun h1 g1 pt' K S nf wh st ok fr nc => do_7 K S nf wh st (by omega) fr)
  · exact fixedX (N := 1) X B F ko hT m3 e (by decide) h5 rfl (by decide) (fun _ => rfl) (fun h1 g1 pt' K S nf wh st ok fr nc => do_8 K S nf wh st ok (by omega) fr)
  · exact fixedX (N := 1) X B F ko hT m3 e (by decide) h5 rfl (by decide) (fun _ => rfl) (fun h1 g1 pt' K S nf wh st ok fr nc => do_12 K S nf wh st ok (by omega) fr)
  · exact fixedX (N := 1) X B F ko hT m3 e (by decide) h5 rfl (by decide) (fun _ => rfl) (fun h1 g1 pt' K S nf wh st ok fr nc => do_14 K S nf wh st ok (by omega) fr)
theorem opS {s : Nat} {st : Int32} (hs : s ≤ 12) (X : EX n bt nd rec (o + 1)) (B : BS n bt nd (o + 1) T (k + 1) 0 0 f nm kd pt h g) (F : FC g (k + 1) f0 kd.length 1 st (I3 s)) (ko : k < o) (hT : T ≤ 8 * k) (m3 : m ≤ 4000) (e : g.1 124 k = I3 m) : BO n bt o T k m f nm kd h g (F_200_34 rec 16 (I3 f0) (I3 T) (I3 s) h) :=
  fixedX (N := 2) (x := 16) (srt := 1) X B F ko hT m3 e (by decide) (I3_m1 (by omega)) rfl (by decide) (fun _ => rfl) (fun h1 g1 pt' K S nf wh st ok fr nc => do_16 K S nf wh st ok hs fr)
end
