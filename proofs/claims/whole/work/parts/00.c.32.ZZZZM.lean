def Run (g : sm_H) (c : Nat) (g2 : sm_H) : Prop := ∀ (a b d : Int32) (fu : Nat), c < fu → lp F_465_386B fu (a, b, d, g) = lp F_465_386B (fu - c) (a, b, d, g2)
def Die (g : sm_H) (c : Nat) (g2 : sm_H) : Prop := ∀ (a b d : Int32) (fu : Nat), c < fu → lp F_465_386B fu (a, b, d, g) = some (0, g2)
def RunR (rr : Option (Int32 × sm_H)) (c : Nat) (g2 : sm_H) : Prop := ∃ g1, rr = some (1, g1) ∧ Run g1 c g2
def DieR (rr : Option (Int32 × sm_H)) (c : Nat) (g2 : sm_H) : Prop := rr = some (0, g2) ∨ ∃ g0, rr = some (1, g0) ∧ Die g0 c g2
theorem Run_rfl (g : sm_H) : Run g 0 g := fun a b d fu _ => rfl
theorem Run_trans {g g1 g2 : sm_H} {c c' : Nat} (x : Run g c g1) (y : Run g1 c' g2) : Run g (c + c') g2 := fun a b d fu hf => by
  rw [x a b d fu (by omega), y a b d (fu - c) (by omega), Nat.sub_sub]
theorem Run_die {g g1 g2 : sm_H} {c c' : Nat} (x : Run g c g1) (y : Die g1 c' g2) : Die g (c + c') g2 := fun a b d fu hf => by
  rw [x a b d fu (by omega), y a b d (fu - c) (by omega)]
theorem rd_B {g : sm_H} {j : Nat} (hb : g.1 67 102 = I3 (j + 1)) (j1 : 1 ≤ j) (j4 : j < 24) {v : Int32} {g1 : sm_H} (e : F_451 g = some (v, g1)) (a b d : Int32) : F_465_386B (a, b, d, g) = if v = 0 then some (.inr (0, g1)) else some (.inl (a, b, d, g1)) := by
  unfold F_465_386B F_465_403
  show (if 1 < g.1 67 102 then _ else _) = _
  rw [if_pos (by rw [hb, I3_lit, I3_lt (by decide) (by omega)]; omega)]
  show ((F_451 g).bind _) = _
  rw [e]; simp only [obs]
theorem RunR_run {g g2 : sm_H} {j c : Nat} {rr : Option (Int32 × sm_H)} (hb : g.1 67 102 = I3 (j + 1)) (j1 : 1 ≤ j) (j4 : j < 24) (e : F_451 g = rr) (r : RunR rr c g2) : Run g (c + 1) g2 := fun a b d fu hf => by
  obtain ⟨g1, r1, r2⟩ := r
  have B := rd_B hb j1 j4 (e.trans r1) a b d
  rw [if_neg (by decide)] at B
  rw [lp_s (by omega) B, r2 a b d (fu - 1) (by omega), Nat.sub_sub, Nat.add_comm 1 c]
theorem DieR_die {g g2 : sm_H} {j c : Nat} {rr : Option (Int32 × sm_H)} (hb : g.1 67 102 = I3 (j + 1)) (j1 : 1 ≤ j) (j4 : j < 24) (e : F_451 g = rr) (r : DieR rr c g2) : Die g (c + 1) g2 := fun a b d fu hf => by
  rcases r with r | ⟨g1, r1, r2⟩
  · have B := rd_B hb j1 j4 (e.trans r) a b d
    rw [if_pos rfl] at B
    exact lp_e (by omega) B
  · have B := rd_B hb j1 j4 (e.trans r1) a b d
    rw [if_neg (by decide)] at B
    rw [lp_s (by omega) B, r2 a b d (fu - 1) (by omega)]
def wp (rr : Option (Int32 × sm_H)) : Option (Int32 × sm_H) := rr.bind fun q => if q.1 = 0 ∨ q.1 = 1 then some (q.1, q.2) else none
theorem wp0 (g : sm_H) : wp (some (0, g)) = some (0, g) := rfl
theorem wp1 (g : sm_H) : wp (some (1, g)) = some (1, g) := rfl
theorem RunR_wp {rr : Option (Int32 × sm_H)} {c : Nat} {g2 : sm_H} (r : RunR rr c g2) : RunR (wp rr) c g2 := by
  obtain ⟨g1, r1, r2⟩ := r
  exact ⟨g1, by rw [r1, wp1], r2⟩
theorem DieR_wp {rr : Option (Int32 × sm_H)} {c : Nat} {g2 : sm_H} (r : DieR rr c g2) : DieR (wp rr) c g2 := by
  rcases r with r | ⟨g1, r1, r2⟩
  · exact Or.inl (by rw [r, wp0])
  · exact Or.inr ⟨g1, by rw [r1, wp1], r2⟩
section
variable {n : Nat} {bt : Nat → Nat} {nd o T j k m p f : Nat} {nm : Nat → Int64} {kd : List Int32} {pt : Nat → Nat} {h g : sm_H}
theorem EO_v {rc rr : Option (Int32 × sm_H)} (fn : f ≤ n) (E : EO n bt o T k m f nm kd h g rc rr) : (∃ y h1 g2 f' c, rc = some (I3 y, h1) ∧ RunR rr c g2 ∧ c + f < f' ∧ TS n bt T (k + 1) nm kd h1 g2 ∧ OP o h1 g2 ∧ CB n bt f' h1 ∧ RB n bt f' g2 ∧ y < nH g2 ∧ hpl g2 y = kd ∧ ext g g2 ∧ grow g g2 ∧ agr (XCc T) h h1 ∧ agr (fun b j => XRc (k + 1) b j ∨ SDv k m b j) g g2 ∧ g2.1 124 k = I3 (m + 1) ∧ (m < 20 → g2.1 125 (20 * k + m) = I3 y)) ∨ ∃ e pc h1 g1 c, rc = some (-1, h1) ∧ FT e pc h1 g1 ∧ XT 0 0 h g h1 g1 ∧ c + f ≤ n ∧ DieR rr c g1 := by
  rcases E with ⟨y, h1, g1, g2, f', c, e1, e2, e3, e4, e5⟩ | ⟨e, pc, h1, g1, e1, e2, e3, e4 | ⟨g0, c, e4, e5, e6⟩⟩
  · exact Or.inl ⟨y, h1, g2, f', c, e1, ⟨g1, e2, e3⟩, e4, e5⟩
  · exact Or.inr ⟨e, pc, h1, g1, 0, e1, e2, e3, by omega, Or.inl e4⟩
  · exact Or.inr ⟨e, pc, h1, g1, c, e1, e2, e3, e5, Or.inr ⟨g0, e4, e6⟩⟩
def BS (n : Nat) (bt : Nat → Nat) (nd o T j m p f : Nat) (nm : Nat → Int64) (kd : List Int32) (pt : Nat → Nat) (h g : sm_H) : Prop := TS n bt (T + p) (j + 1) nm kd h g ∧ OP o h g ∧ DF nd h g ∧ CB n bt f h ∧ RB n bt f g ∧ g.1 124 j = I3 m ∧ (∀ i, i < m → i < 20 → g.1 125 (20 * j + i) = I3 (pt i)) ∧ ∀ i, i < p → h.1 60 (T + i) = I3 (pt i)
abbrev XRp (j b i : Nat) : Prop := XRc (j + 1) b i ∨ (b = 124 ∧ i = j) ∨ (b = 125 ∧ 20 * j ≤ i)
def PT (T j : Nat) (h g h1 g1 : sm_H) : Prop := ext g g1 ∧ grow g g1 ∧ agr (XCc T) h h1 ∧ agr (XRp j) g g1
theorem XRc_s {k' : Nat} (hk : k' ≤ k) (b i : Nat) (z : XRc k b i) : XRc k' b i := by
  rcases z with z | z | z | z | z | z | z
  · exact Or.inl z
  · exact Or.inr (Or.inl z)
  · exact Or.inr (Or.inr (Or.inl z))
  · exact Or.inr (Or.inr (Or.inr (Or.inl z)))
  · exact Or.inr (Or.inr (Or.inr (Or.inr (Or.inl ⟨z.1, z.2.1, Nat.le_trans hk z.2.2⟩))))
  · exact Or.inr (Or.inr (Or.inr (Or.inr (Or.inr (Or.inl ⟨z.1, by omega⟩)))))
  · exact Or.inr (Or.inr (Or.inr (Or.inr (Or.inr (Or.inr ⟨z.1, by omega⟩)))))
theorem XCc_s {T' : Nat} (hT : T' ≤ T) (b i : Nat) (z : XCc T b i) : XCc T' b i := by
  rcases z with z | z | z | z | z
  · exact Or.inl z
  · exact Or.inr (Or.inl z)
  · exact Or.inr (Or.inr (Or.inl z))
  · exact Or.inr (Or.inr (Or.inr (Or.inl ⟨z.1, Nat.le_trans hT z.2⟩)))
  · exact Or.inr (Or.inr (Or.inr (Or.inr z)))
theorem XRp_c (b i : Nat) (z : XRp j b i) : XRc j b i := by
  rcases z with z | z | z
  · exact XRc_s (Nat.le_succ j) b i z
  · exact Or.inr (Or.inr (Or.inr (Or.inr (Or.inl (by omega)))))
  · exact Or.inr (Or.inr (Or.inr (Or.inr (Or.inr (Or.inl z)))))
theorem PT_rfl : PT T j h g h g := ⟨ext_rfl, grow_rfl, agr_rfl, agr_rfl⟩
theorem PT_trans {h1 g1 h2 g2 : sm_H} (a : PT T j h g h1 g1) (b : PT T j h1 g1 h2 g2) : PT T j h g h2 g2 := ⟨ext_trans a.1 b.1, grow_trans a.2.1 b.2.1, agr_trans a.2.2.1 b.2.2.1, agr_trans a.2.2.2 b.2.2.2⟩
theorem PT_s {T' : Nat} {h1 g1 : sm_H} (hT : T' ≤ T) (a : PT T j h g h1 g1) : PT T' j h g h1 g1 := ⟨a.1, a.2.1, agr_mono (XCc_s hT) a.2.2.1, a.2.2.2⟩
theorem PT_XT {h1 g1 : sm_H} (K : K1 h1 g1) (l : NL h1) (a : PT T j h g h1 g1) : XT T j h g h1 g1 := ⟨K, a.1, a.2.1, a.2.2.1, agr_mono XRp_c a.2.2.2, fun _ => l⟩
theorem BS.t (B : BS n bt nd o T j m p f nm kd pt h g) : TS n bt (T + p) (j + 1) nm kd h g := B.1
theorem BS.op (B : BS n bt nd o T j m p f nm kd pt h g) : OP o h g := B.2.1
theorem BS.d (B : BS n bt nd o T j m p f nm kd pt h g) : DF nd h g := B.2.2.1
theorem BS.c (B : BS n bt nd o T j m p f nm kd pt h g) : CB n bt f h := B.2.2.2.1
theorem BS.r (B : BS n bt nd o T j m p f nm kd pt h g) : RB n bt f g := B.2.2.2.2.1
theorem BS.mm (B : BS n bt nd o T j m p f nm kd pt h g) : g.1 124 j = I3 m := B.2.2.2.2.2.1
theorem BS.q (B : BS n bt nd o T j m p f nm kd pt h g) : ∀ i, i < m → i < 20 → g.1 125 (20 * j + i) = I3 (pt i) := B.2.2.2.2.2.2.1
theorem BS.s (B : BS n bt nd o T j m p f nm kd pt h g) : ∀ i, i < p → h.1 60 (T + i) = I3 (pt i) := B.2.2.2.2.2.2.2
theorem TS.l (s : TS n bt T k nm kd h g) : NL h := NL_S s.S
theorem XCc_df (b i : Nat) (z : XCc T b i) : ¬ (b = 55 ∧ i = 15 ∨ b = 62 ∨ b = 63) := by unfold XCc SCq SCb Ssc SCd SCh SCt Ssp S52 at z; omega
theorem XRp_df (b i : Nat) (z : XRp j b i) : ¬ (b = 67 ∧ i = 91 ∨ 113 ≤ b ∧ b ≤ 116) := by unfold XRp XRc SRa SRq SRb SRp SRh SRt Ssr SLx at z; omega
theorem partE {rc rr : Option (Int32 × sm_H)} (B : BS n bt nd o T j m p f nm kd pt h g) (pm : p ≤ m) (E : EO n bt o (T + p) j m f nm kd h g rc rr) : (∃ y h1 g2 f' c, rc = some (I3 y, h1) ∧ RunR rr c g2 ∧ c + f < f' ∧ BS n bt nd o T j (m + 1) p f' nm kd (updN pt m y) h1 g2 ∧ y < nH g2 ∧ hpl g2 y = kd ∧ PT (T + p) j h g h1 g2) ∨ ∃ e pc h1 g1 c, rc = some (-1, h1) ∧ FT e pc h1 g1 ∧ XT 0 0 h g h1 g1 ∧ c + f ≤ n ∧ DieR rr c g1 := by
  rcases EO_v (RB_n B.r) E with ⟨y, h1, g2, f', c, e1, e2, e3, e4, e5, e6, e7, e8, e9, e10, e11, e12, e13, e14, e15⟩ | z
  · have a2 : agr (XRp j) g g2 := agr_mono (fun b i z => by
      rcases z with z | ⟨z1, z2⟩ | ⟨z1, z2, z3⟩
      · exact Or.inl z
      · exact Or.inr (Or.inl ⟨z1, z2⟩)
      · exact Or.inr (Or.inr ⟨z1, by omega⟩)) e13
    refine Or.inl ⟨y, h1, g2, f', c, e1, e2, e3, ⟨e4, e5, DF_x B.t.K B.d e10 e11 e12 a2 XCc_df XRp_df, e6, e7, e14, fun i hi i2 => ?_, fun i hi => ?_⟩, e8, e9, e10, e11, e12, a2⟩
    · by_cases w : i = m
      · subst w
        rw [up_s]; exact e15 i2
      · rw [up_o _ _ w, e13.1 125 _ (by unfold XRc SRa SRq SRb SRp SRh SRt Ssr SLx SDv; omega)]
        exact B.q i (by omega) i2
    · rw [up_o _ _ (by omega), e12.1 60 _ (by unfold XCc SCq SCb Ssc SCd SCh SCt Ssp S52; omega)]
      exact B.s i hi
  · exact Or.inr z
theorem pushP (B : BS n bt nd o T j (m + 1) m f nm kd pt h g) (hT : T + m < 200) (y5 : pt m < 500) (x : Int64) : ∃ h2, F_188 (I3 (pt m)) x h = some (1, h2) ∧ BS n bt nd o T j (m + 1) (m + 1) f nm kd pt h2 g ∧ PT (T + m) j h g h2 g ∧ h2.2.1 61 (T + m) = x ∧ agr (fun b j => (b = 60 ∨ b = 61) ∧ j = T + m ∨ b = 55 ∧ j = 12) h h2 := by
  obtain ⟨h2, a1, a2, a3, a4, a5⟩ := C_188 B.t.t.1 hT y5 x
  have X : XT (T + m) (j + 1) h g h2 g := XT_x B.t.K (agr_mono (fun b i z => by
    rcases z with ⟨z1, z2⟩ | z
    · exact Or.inr (Or.inl ⟨z1, by omega⟩)
    · exact Or.inr (Or.inr ⟨z.1, Or.inl z.2⟩)) a5) agr_rfl
  have s := B.t
  refine ⟨h2, a1, ⟨⟨X.k1, NF_agr (S' := fun _ _ => False) s.nf a5 agr_rfl (by omega) (fun z => z), SCO_agr (Q := fun _ _ => False) s.S a5 agr_rfl (Nat.le_refl _) (fun b j z => by omega) (fun b j z => z.elim), ⟨a2, by omega⟩, s.b, TXC_agr s.xc a5 (fun b j z => by omega), s.xr⟩, OP_x (Q := fun _ _ => False) B.op a5 agr_rfl (by omega) (fun z => z), DF_x (Q := fun _ _ => False) s.K B.d ext_rfl grow_rfl a5 agr_rfl (fun b j z => by omega) (fun b j z => z.elim), ?_, B.r, B.mm, B.q, fun i hi => ?_⟩, ⟨ext_rfl, grow_rfl, X.c, agr_rfl⟩, a4, a5⟩
  · obtain ⟨q, q1, q2, q3⟩ := B.c
    exact ⟨q, (a5.1 52 3 (by omega)).trans q1, q2, q3⟩
  · by_cases w : i = m
    · subst w; exact a3
    · rw [a5.1 60 _ (by omega)]; exact B.s i (by omega)
def EX (n : Nat) (bt : Nat → Nat) (nd : Nat) (rec : sm_H → Option (Int32 × sm_H)) (o0 : Nat) : Prop := ∀ (o T k m f : Nat) (nm : Nat → Int64) (kd : List Int32) (h g : sm_H), o0 ≤ o → TS n bt T (k + 1) nm kd h g → OP o h g → DF nd h g → CB n bt f h → RB n bt f g → k < o → T ≤ 8 * k → m ≤ 4000 → g.1 124 k = I3 m → EO n bt o T k m f nm kd h g (F_193 rec h) (F_448 g)
theorem parts {rec : sm_H → Option (Int32 × sm_H)} {o0 N : Nat} {g0 : sm_H} (X : EX n bt nd rec o0) (ho : o0 ≤ o) (jo : j < o) (j1 : 1 ≤ j) (j4 : j < 24) (hT : T + 8 ≤ 8 * j) (N8 : N ≤ 8) : ∀ (r i fu m f : Nat) (pt : Nat → Nat) (h g : sm_H), i + r = N → r < fu → m + r ≤ 8 → BS n bt nd o T j m m f nm kd pt h g → agr (XRp j) g0 g → (∀ i' g', m ≤ i' → i' < m + r → agr (XRp j) g0 g' → g'.1 67 102 = I3 (j + 1) → g'.1 124 j = I3 i' → F_451 g' = wp (F_448 g')) →
    (∃ h1 g1 f' c pt', lp (F_199_2B rec) fu (I3 N, I3 i, h) = some (1, h1) ∧ Run g c g1 ∧ c + f ≤ f' ∧ BS n bt nd o T j (m + r) (m + r) f' nm kd pt' h1 g1 ∧ (∀ i, i < m → pt' i = pt i) ∧ (∀ i, m ≤ i → i < m + r → pt' i < nH g1 ∧ hpl g1 (pt' i) = kd) ∧ PT (T + m) j h g h1 g1) ∨ ∃ e pc h1 g1 c, lp (F_199_2B rec) fu (I3 N, I3 i, h) = some (0, h1) ∧ FT e pc h1 g1 ∧ XT 0 0 h g h1 g1 ∧ c + f ≤ n + 1 ∧ Die g c g1 := by
  intro r
  induction r with
  | zero =>
    intro i fu m f pt h g hi hf hm B ag hF
    refine Or.inl ⟨h, g, f, 0, pt, lp_e (by omega) ?_, Run_rfl g, by omega, B, fun _ _ => rfl, fun i h1 h2 => by omega, PT_rfl⟩
    unfold F_199_2B
    show (if I3 N ≤ I3 i then _ else _) = _
    rw [if_pos (by rw [I3_le (by omega) (by omega)]; omega)]
  | succ r ih =>
    intro i fu m f pt h g hi hf hm B ag hF
    have C0 : F_199_2B rec (I3 N, I3 i, h) = (F_193 rec h).bind fun q1 => (F_188 q1.1 0 q1.2).bind fun q2 => if q2.1 = 0 then (some (.inr (0, q2.2))) else ((some (I3 i + 1 : Int32)).bind fun v3 => some (.inl (I3 N, v3, q2.2))) := by
      unfold F_199_2B
      show (if I3 N ≤ I3 i then _ else _) = _
      rw [if_neg (by rw [I3_le (by omega) (by omega)]; omega)]
    have E := X o (T + m) j m f nm kd h g ho B.t B.op B.d B.c B.r jo (by omega) (by omega) B.mm
    have eF := hF m g (Nat.le_refl _) (by omega) ag B.t.b B.mm
    rcases partE B (Nat.le_refl _) E with ⟨y, h1, g2, f', c, e1, e2, e3, e4, e5, e6, e7⟩ | ⟨e, pc, h1, g1, c, e1, e2, e3, e4, e5⟩
    · have y5 := lt500 e4.t.K e5
      obtain ⟨h2, p1, p2, p3, p4, p5⟩ := pushP e4 (by omega) (by rw [up_s]; exact y5) 0
      rw [up_s] at p1
      rw [e1] at C0; simp only [obs] at C0
      rw [p1] at C0; simp only [obs] at C0
      rw [if_neg (by decide), show I3 i + 1 = I3 (i + 1) from I3_add i 1] at C0
      have P1 : PT (T + m) j h g h2 g2 := PT_trans e7 p3
      have R1 := RunR_run B.t.b j1 j4 eF (RunR_wp e2)
      rw [lp_s (by omega) C0]
      rcases ih (i + 1) (fu - 1) (m + 1) f' (updN pt m y) h2 g2 (by omega) (by omega) (by omega) p2 (agr_trans ag e7.2.2.2) (fun i' g' h1 h2 => hF i' g' (by omega) (by omega)) with ⟨h3, g3, f3, c3, pt3, a1, a2, a3, a4, a5, a6, a7⟩ | ⟨e, pc, h3, g3, c3, a1, a2, a3, a4, a5⟩
      · refine Or.inl ⟨h3, g3, f3, (c + 1) + c3, pt3, a1, Run_trans R1 a2, by omega, by rw [show m + (r + 1) = m + 1 + r by omega]; exact a4, fun i hi => ?_, fun i h1 h2 => ?_, PT_trans P1 (PT_s (by omega) a7)⟩
        · rw [a5 i (by omega), up_o _ _ (by omega)]
        · by_cases w : i = m
          · subst w
            rw [a5 i (by omega), up_s]
            exact ⟨Nat.lt_of_lt_of_le e5 a7.2.1.2.2.1, (ext_hpl e4.t.K.2.2.2.2.1 a7.1 e5).trans e6⟩
          · exact a6 i (by omega) (by omega)
      · exact Or.inr ⟨e, pc, h3, g3, (c + 1) + c3, a1, a2, XT_trans (XT_mono (Nat.zero_le _) (Nat.zero_le _) (PT_XT p2.t.K p2.t.l P1)) a3, by omega, Run_die R1 a5⟩
    · refine Or.inr ⟨e, pc, h1, g1, c + 1, lp_e (by omega) ?_, e2, e3, by omega, DieR_die B.t.b j1 j4 eF (DieR_wp e5)⟩
      rw [C0, e1]; simp only [obs]
      rw [show F_188 (-1) 0 h1 = some (0, h1) from by
        show F_188_0 (-1) 0 h1 = _
        unfold F_188_0 F_188_15
        rw [if_pos rfl]]
      rfl
end
