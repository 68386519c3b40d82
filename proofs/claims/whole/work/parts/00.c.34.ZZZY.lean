abbrev Ssp (b j : Nat) : Prop := b = 55 ∧ j = 9 ∨ b = 58 ∨ b = 59
abbrev Ssr (b j : Nat) : Prop := b = 67 ∧ j = 94 ∨ b = 117 ∨ b = 118
theorem Ssp_not (b j : Nat) (z : Ssp b j) : notC b j := by
  rcases z with ⟨rfl, rfl⟩ | rfl | rfl <;> rfl
theorem Ssr_not (b j : Nat) (z : Ssr b j) : notR b j := by
  rcases z with ⟨rfl, rfl⟩ | rfl | rfl <;> rfl
def TW (b0 : Nat) (h g h1 g1 : sm_H) : Prop := K1 h1 g1 ∧ ext g g1 ∧ grow g g1 ∧ agr (fun b j => (SCq b j ∨ b = 60 ∧ b0 ≤ j) ∨ Ssp b j) h h1 ∧ agr (fun b j => SRa b j ∨ Ssr b j) g g1
theorem TW_of {b0 : Nat} {h g h1 g1 : sm_H} (t : TB b0 h g h1 g1) : TW b0 h g h1 g1 := ⟨t.1, t.2.1, t.2.2.1, agr_mono (fun _ _ z => Or.inl z) t.2.2.2.1, agr_mono (fun _ _ z => Or.inl z) t.2.2.2.2⟩
theorem TW.k {b0 : Nat} {h g h1 g1 : sm_H} (t : TW b0 h g h1 g1) : K1 h1 g1 := t.1
theorem TW.e {b0 : Nat} {h g h1 g1 : sm_H} (t : TW b0 h g h1 g1) : ext g g1 := t.2.1
theorem TW.r {b0 : Nat} {h g h1 g1 : sm_H} (t : TW b0 h g h1 g1) : grow g g1 := t.2.2.1
theorem TW.c {b0 : Nat} {h g h1 g1 : sm_H} (t : TW b0 h g h1 g1) : agr (fun b j => (SCq b j ∨ b = 60 ∧ b0 ≤ j) ∨ Ssp b j) h h1 := t.2.2.2.1
theorem TW.a {b0 : Nat} {h g h1 g1 : sm_H} (t : TW b0 h g h1 g1) : agr (fun b j => SRa b j ∨ Ssr b j) g g1 := t.2.2.2.2
theorem TW_trans {b0 : Nat} {h g h1 g1 h2 g2 : sm_H} (a : TW b0 h g h1 g1) (b : TW b0 h1 g1 h2 g2) : TW b0 h g h2 g2 := ⟨b.1, ext_trans a.2.1 b.2.1, grow_trans a.2.2.1 b.2.2.1, agr_trans a.2.2.2.1 b.2.2.2.1, agr_trans a.2.2.2.2 b.2.2.2.2⟩
theorem TW.hrs {b0 : Nat} {h g h1 g1 : sm_H} (t : TW b0 h g h1 g1) {h' : sm_H} (K : K1 h' g) {x : Nat} (hx : x < nH g) : hrs g1 x = hrs g x := ext_hrs K.2.2.2.2.1 t.e hx
theorem TW.hpl {b0 : Nat} {h g h1 g1 : sm_H} (t : TW b0 h g h1 g1) {h' : sm_H} (K : K1 h' g) {x : Nat} (hx : x < nH g) : hpl g1 x = hpl g x := ext_hpl K.2.2.2.2.1 t.e hx
theorem TW.nH {b0 : Nat} {h g h1 g1 : sm_H} (t : TW b0 h g h1 g1) {x : Nat} (hx : x < nH g) : x < nH g1 := Nat.lt_of_lt_of_le hx t.r.2.2.1
theorem TW_sc {b0 : Nat} {h g h1 g1 : sm_H} (K : K1 h g) (a : agr Ssp h h1) (b : agr Ssr g g1) : TW b0 h g h1 g1 := by
  have E := ext_eq (ok_of_not Ssr_not b)
  exact ⟨K1_g (K1_h K (agr_mono Ssp_not a)) (agr_mono Ssr_not b), E.1, E.2.1, agr_mono (fun _ _ z => Or.inr z) a, agr_mono (fun _ _ z => Or.inr z) b⟩
theorem NF_sc {h g h1 g1 : sm_H} (n : NF h g) (a : agr Ssp h h1) (b : agr Ssr g g1) : NF h1 g1 := NF_agr n a b (by unfold Ssp; omega) (by unfold Ssr; omega)
theorem STK_sc {h h1 : sm_H} {base m : Nat} {pt : Nat → Nat} (s : STK h base m pt) (a : agr Ssp h h1) : STK h1 base m pt := STK_agr s a (fun b j z => by unfold Ssp at z; omega)
def SCC (nm : Nat → Int64) (kd : List Int32) (h : sm_H) : Prop := h.1 55 9 = I3 kd.length ∧ ∀ i, i < kd.length → h.2.1 58 i = nm i ∧ h.1 59 i = at0 kd i
def SCR (nm : Nat → Int64) (kd : List Int32) (g : sm_H) : Prop := g.1 67 94 = I3 (400 - kd.length) ∧ ∀ i, i < kd.length → g.2.1 117 (400 - kd.length + i) = nm i ∧ g.1 118 (400 - kd.length + i) = at0 kd i
theorem SCO_iff {nm : Nat → Int64} {kd : List Int32} {h g : sm_H} : SCO nm kd h g ↔ SCC nm kd h ∧ SCR nm kd g ∧ kd.length ≤ 13 ∧ kL g kd := by
  constructor
  · rintro ⟨a, b, c, d, e⟩
    exact ⟨⟨a, fun i hi => ⟨(e i hi).1, (e i hi).2.1⟩⟩, ⟨c, fun i hi => (e i hi).2.2⟩, b, d⟩
  · rintro ⟨⟨a, b⟩, ⟨c, d⟩, e, f⟩
    exact ⟨a, e, c, f, fun i hi => ⟨(b i hi).1, (b i hi).2, d i hi⟩⟩
theorem cp58 (h : sm_H) {s d n : Nat} (h1 : s + n ≤ 16) (h2 : d + n ≤ 16) : sm_cpJ G0 h 58 (I3 s) 58 (I3 d) (I3 n) = some (h.1, va_up h.2.1 58 (va_cpy (h.2.1 58) (h.2.1 58) s d n), h.2.2) := by
  unfold sm_cpJ
  have i1 : sm_is G0 h 58 101 = true := rfl
  have i3 : sm_ln G0 h 58 = 16 := rfl
  rw [i1, i3, I3_clamp (by omega), I3_clamp (by omega), I3_clamp (by omega), if_pos ⟨I3_nn (by omega), I3_nn (by omega), I3_nn (by omega), by omega, by omega⟩]
  rfl
theorem cp59 (h : sm_H) {s d n : Nat} (h1 : s + n ≤ 16) (h2 : d + n ≤ 16) : sm_cpI G0 h 59 (I3 s) 59 (I3 d) (I3 n) = some (va_up h.1 59 (va_cpy (h.1 59) (h.1 59) s d n), h.2) := by
  unfold sm_cpI
  have i1 : sm_is G0 h 59 100 = true := rfl
  have i3 : sm_ln G0 h 59 = 16 := rfl
  rw [i1, i3, I3_clamp (by omega), I3_clamp (by omega), I3_clamp (by omega), if_pos ⟨I3_nn (by omega), I3_nn (by omega), I3_nn (by omega), by omega, by omega⟩]
  rfl
theorem agr58 {h : sm_H} {f : Nat → Int64} : agr Ssp h (h.1, va_up h.2.1 58 f, h.2.2) := by
  refine ⟨fun _ _ _ => rfl, fun b j n => ?_, fun _ _ _ => rfl, rfl⟩
  show va_up h.2.1 58 f b j = _
  unfold va_up
  rw [if_neg]; unfold Ssp at n; omega
theorem agr59 {h : sm_H} {f : Nat → Int32} : agr Ssp h (va_up h.1 59 f, h.2) := by
  refine ⟨fun b j n => ?_, fun _ _ _ => rfl, fun _ _ _ => rfl, rfl⟩
  show va_up h.1 59 f b j = _
  unfold va_up
  rw [if_neg]; unfold Ssp at n; omega
theorem C_shift {h : sm_H} {nm : Nat → Int64} {kd : List Int32} (S : SCC nm kd h) {n : Nat} (hn : kd.length + n ≤ 16) (pc : Int32) : ∃ h1, F_182 (I3 n) pc h = some (1, h1) ∧ h1.1 55 9 = I3 (kd.length + n) ∧ (∀ i, i < kd.length → h1.2.1 58 (n + i) = nm i ∧ h1.1 59 (n + i) = at0 kd i) ∧ agr Ssp h h1 := by
  refine ⟨_, ?_, ?_, fun i hi => ?_, agr_trans (agr_trans (agr58 (f := va_cpy (h.2.1 58) (h.2.1 58) 0 n kd.length)) (agr59 (f := va_cpy (h.1 59) (h.1 59) 0 n kd.length))) (agr_wI agr_rfl (Or.inl ⟨rfl, rfl⟩) (x := I3 (kd.length + n)))⟩
  · show F_182_0 (I3 n) pc h = _
    unfold F_182_0
    rw [if_neg (I3_nn (by omega)), S.1, I3_add, if_pos (by rw [I3_lit, I3_le (by omega) (by decide)]; exact hn), show sm_cpJ G0 h 58 0 58 (I3 n) (I3 kd.length) = _ from cp58 h (s := 0) (d := n) (n := kd.length) (by omega) (by omega)]; simp only [obs]
    rw [S.1, show sm_cpI G0 (h.1, va_up h.2.1 58 (va_cpy (h.2.1 58) (h.2.1 58) 0 n kd.length), h.2.2) 59 0 59 (I3 n) (I3 kd.length) = _ from cp59 _ (s := 0) (d := n) (n := kd.length) (by omega) (by omega)]; simp only [obs]
    rw [show (va_up h.1 59 (va_cpy (h.1 59) (h.1 59) 0 n kd.length) 55 9 : Int32) = I3 kd.length from S.1, I3_add]
  · rfl
  · have z := S.2 i hi
    constructor
    · show va_cpy (h.2.1 58) (h.2.1 58) 0 n kd.length (n + i) = _
      unfold va_cpy
      rw [if_pos (by omega), show 0 + (n + i - n) = i by omega]; exact z.1
    · show va_cpy (h.1 59) (h.1 59) 0 n kd.length (n + i) = _
      unfold va_cpy
      rw [if_pos (by omega), show 0 + (n + i - n) = i by omega]; exact z.2
theorem C_drop {h : sm_H} {nm nm' : Nat → Int64} {ks kd : List Int32} (S : SCC nm' (ks ++ kd) h) (l16 : (ks ++ kd).length ≤ 16) (e : ∀ i, nm' (ks.length + i) = nm i) : ∃ h1, F_184 (I3 ks.length) h = some h1 ∧ SCC nm kd h1 ∧ agr Ssp h h1 := by
  rw [List.length_append] at l16
  have s1 := S.1
  rw [List.length_append] at s1
  refine ⟨_, ?_, ⟨?_, fun i hi => ?_⟩, agr_trans (agr_trans (agr_wI agr_rfl (Or.inl ⟨rfl, rfl⟩) (x := I3 kd.length)) (agr58 (f := va_cpy (h.2.1 58) (h.2.1 58) ks.length 0 kd.length))) (agr59 (f := va_cpy (h.1 59) (h.1 59) ks.length 0 kd.length))⟩
  · show F_184_0 (I3 ks.length) h = _
    unfold F_184_0
    rw [if_neg (I3_nn (by omega)), s1, if_pos (by rw [I3_le (by omega) (by omega)]; omega), I3_sub (by omega), show ks.length + kd.length - ks.length = kd.length by omega]; simp only [obs]
    rw [show (sm_wI h 55 9 (I3 kd.length)).1 55 9 = I3 kd.length from rfl, show sm_cpJ G0 (sm_wI h 55 9 (I3 kd.length)) 58 (I3 ks.length) 58 0 (I3 kd.length) = _ from cp58 _ (s := ks.length) (d := 0) (n := kd.length) (by omega) (by omega)]; simp only [obs]
    rw [show ((sm_wI h 55 9 (I3 kd.length)).1 55 9 : Int32) = I3 kd.length from rfl, show sm_cpI G0 ((sm_wI h 55 9 (I3 kd.length)).1, va_up (sm_wI h 55 9 (I3 kd.length)).2.1 58 (va_cpy ((sm_wI h 55 9 (I3 kd.length)).2.1 58) ((sm_wI h 55 9 (I3 kd.length)).2.1 58) ks.length 0 kd.length), (sm_wI h 55 9 (I3 kd.length)).2.2) 59 (I3 ks.length) 59 0 (I3 kd.length) = _ from cp59 _ (s := ks.length) (d := 0) (n := kd.length) (by omega) (by omega)]
    rfl
  · rfl
  · have z := S.2 (ks.length + i) (by rw [List.length_append]; omega)
    rw [at0_app2 (by omega), show ks.length + i - ks.length = i by omega, e i] at z
    constructor
    · show va_cpy (h.2.1 58) (h.2.1 58) ks.length 0 kd.length i = _
      unfold va_cpy
      rw [if_pos (by omega), show ks.length + (i - 0) = ks.length + i by omega]; exact z.1
    · show va_cpy (h.1 59) (h.1 59) ks.length 0 kd.length i = _
      unfold va_cpy
      rw [if_pos (by omega), show ks.length + (i - 0) = ks.length + i by omega]; exact z.2
theorem kL_tail {g : sm_H} {ks kd : List Int32} (k : kL g (ks ++ kd)) : kL g kd := fun i hi => by
  have := k (ks.length + i) (by rw [List.length_append]; omega)
  rw [at0_app2 (by omega), show ks.length + i - ks.length = i by omega] at this; exact this
theorem SCO_drop {h g : sm_H} {nm nm' : Nat → Int64} {ks kd : List Int32} (S : SCO nm' (ks ++ kd) h g) (e : ∀ i, nm' (ks.length + i) = nm i) : ∃ h1, F_184 (I3 ks.length) h = some h1 ∧ SCO nm kd h1 (sm_wI g 67 94 (I3 (400 - kd.length))) ∧ agr Ssp h h1 ∧ agr Ssr g (sm_wI g 67 94 (I3 (400 - kd.length))) := by
  obtain ⟨a, b, c, d⟩ := SCO_iff.mp S
  have la := c
  rw [List.length_append] at la
  obtain ⟨h1, c1, c2, c3⟩ := C_drop a (by rw [List.length_append]; omega) e
  refine ⟨h1, c1, SCO_iff.mpr ⟨c2, ⟨rfl, fun i hi => ?_⟩, by omega, kL_tail d⟩, c3, agr_wI agr_rfl (Or.inl ⟨rfl, rfl⟩)⟩
  have z := b.2 (ks.length + i) (by rw [List.length_append]; omega)
  rw [List.length_append, at0_app2 (by omega), show ks.length + i - ks.length = i by omega, e i, show 400 - (ks.length + kd.length) + (ks.length + i) = 400 - kd.length + i by omega] at z
  exact z
def nm1 (n : Int64) (nm : Nat → Int64) (i : Nat) : Int64 := if i = 0 then n else nm (i - 1)
theorem nm1_s (n : Int64) (nm : Nat → Int64) (i : Nat) : nm1 n nm (1 + i) = nm i := by
  unfold nm1; rw [if_neg (by omega), show 1 + i - 1 = i by omega]
theorem R_bind {g : sm_H} {nm : Nat → Int64} {kd : List Int32} (S : SCR nm kd g) (l : kd.length < 400) (n : Int64) (k : Int32) : ∃ g1, F_444 n k g = some g1 ∧ SCR (nm1 n nm) (k :: kd) g1 ∧ agr Ssr g g1 := by
  have e : I3 (400 - kd.length) - 1 = I3 (400 - (kd.length + 1)) := by
    rw [show (1 : Int32) = I3 1 from rfl, I3_sub (by omega)]; congr 1
  refine ⟨sm_wI (sm_wJ (sm_wI g 67 94 (I3 (400 - (kd.length + 1)))) 117 (400 - (kd.length + 1)) n) 118 (400 - (kd.length + 1)) k, ?_, ⟨rfl, fun i hi => ?_⟩, agr_wI (agr_wJ (agr_wI agr_rfl (Or.inl ⟨rfl, rfl⟩)) (Or.inr (Or.inl rfl))) (Or.inr (Or.inr rfl))⟩
  · show F_444_0 n k g = _
    unfold F_444_0
    rw [S.1, e]; simp only [obs]
    rw [show (sm_wI g 67 94 (I3 (400 - (kd.length + 1)))).1 67 94 = I3 (400 - (kd.length + 1)) from rfl, stJ_I (by omega) (by decide)]; simp only [obs]
    rw [show (sm_wJ (sm_wI g 67 94 (I3 (400 - (kd.length + 1)))) 117 (400 - (kd.length + 1)) n).1 67 94 = I3 (400 - (kd.length + 1)) from rfl, stI_I (by omega) (by decide)]; simp only [obs]
  · rw [List.length_cons] at hi ⊢
    unfold nm1
    cases i with
    | zero =>
      exact ⟨if_pos rfl, if_pos rfl⟩
    | succ i =>
      have z := S.2 i (by omega)
      rw [show 400 - (kd.length + 1) + (i + 1) = 400 - kd.length + i by omega]
      constructor
      · show (if 400 - kd.length + i = 400 - (kd.length + 1) then n else g.2.1 117 (400 - kd.length + i)) = if i + 1 = 0 then n else nm (i + 1 - 1)
        rw [if_neg (by omega), if_neg (by omega), show i + 1 - 1 = i by omega]; exact z.1
      · show (if 400 - kd.length + i = 400 - (kd.length + 1) then k else g.1 118 (400 - kd.length + i)) = at0 (k :: kd) (i + 1)
        rw [if_neg (by omega)]; exact z.2
theorem SCO_bind {h g : sm_H} {nm : Nat → Int64} {kd : List Int32} (S : SCO nm kd h g) (l : kd.length ≤ 10) (n : Int64) {k : Nat} (k0 : 0 < k) (hk : k < 20 + nC g) (pc : Int32) : ∃ h1 h2 g1, F_182 1 pc h = some (1, h1) ∧ F_183 0 n (I3 k) h1 = some h2 ∧ F_444 n (I3 k) g = some g1 ∧ SCO (nm1 n nm) (I3 k :: kd) h2 g1 ∧ agr Ssp h h2 ∧ agr Ssr g g1 := by
  obtain ⟨a, b, c, d⟩ := SCO_iff.mp S
  obtain ⟨h1, c1, c2, c3, c4⟩ := C_shift a (n := 1) (by omega) pc
  obtain ⟨g1, d1, d2, d3⟩ := R_bind b (by omega) n (I3 k)
  refine ⟨h1, sm_wI (sm_wJ h1 58 0 n) 59 0 (I3 k), g1, c1, ?_, d1, SCO_iff.mpr ⟨⟨c2, fun i hi => ?_⟩, d2, by rw [List.length_cons]; omega, fun i hi => ?_⟩, agr_trans c4 (agr_wI (agr_wJ agr_rfl (Or.inr (Or.inl rfl))) (Or.inr (Or.inr rfl))), d3⟩
  · show F_183_0 0 n (I3 k) h1 = _
    unfold F_183_0 F_183_25
    rw [if_neg (by decide), if_neg (by decide), show stJ h1 58 16 0 n = some (sm_wJ h1 58 0 n) from stJ_I (k := 0) (by decide) (by decide)]; simp only [obs]
    rw [show stI (sm_wJ h1 58 0 n) 59 16 0 (I3 k) = some (sm_wI (sm_wJ h1 58 0 n) 59 0 (I3 k)) from stI_I (k := 0) (by decide) (by decide)]; simp only [obs]
  · rw [List.length_cons] at hi
    unfold nm1
    cases i with
    | zero => exact ⟨rfl, rfl⟩
    | succ i =>
      have z := c3 i (by omega)
      rw [show 1 + i = i + 1 by omega] at z
      constructor
      · show (if i + 1 = 0 then n else h1.2.1 58 (i + 1)) = if i + 1 = 0 then n else nm (i + 1 - 1)
        rw [if_neg (by omega), if_neg (by omega), show i + 1 - 1 = i by omega]; exact z.1
      · show (if i + 1 = 0 then I3 k else h1.1 59 (i + 1)) = at0 (I3 k :: kd) (i + 1)
        rw [if_neg (by omega)]; exact z.2
  · have nc : nC g1 = nC g := by show tn _ = tn _; rw [d3.1 67 6 (by unfold Ssr; omega)]
    cases i with
    | zero => exact ⟨k, rfl, k0, by rw [nc]; exact hk⟩
    | succ i =>
      rw [List.length_cons] at hi
      obtain ⟨q, q1, q2, q3⟩ := d i (by omega)
      exact ⟨q, q1, q2, by rw [nc]; exact q3⟩
theorem loopCk {h g : sm_H} (K : K1 h g) {ps : List Int32} (P : prR g ps) {n t c r : Nat} {a b : Nat → Nat} {kd ks : List Int32} (n1 : 1 ≤ n) (n3 : n ≤ 3) (t1 : t < nT g) (pl1 : pl g t = kd) (rs1 : rs g t = hrs g r) (lk : ks.length = n) (ll : ps.length = 4 * n + 4) (pa : ∀ i, i < n → at0 ps (4 * i) = I3 (a i) ∧ at0 ps (4 * i + 1) = I3 (b i) ∧ at0 ps (4 * i + 2) = -1 ∧ at0 ps (4 * i + 3) = -1) (p0 : at0 ps (4 * n) = -1) (p1 : at0 ps (4 * n + 1) = -1) (p2 : at0 ps (4 * n + 2) = I3 c) (p3 : at0 ps (4 * n + 3) = I3 r)
    (ha : ∀ i, i < n → a i < nH g ∧ hpl g (a i) = kd ∧ hrs g (a i) = at0 ks i) (hb : ∀ i, i < n → b i < nH g ∧ hpl g (b i) = ks ++ kd ∧ hrs g (b i) = at0 ks i) (hc : c < nH g ∧ hpl g c = ks ++ kd ∧ hrs g c = 1) (hr : r < nH g ∧ hpl g r = ks ++ kd) (k0 : ∀ i, i < n → ¬ at0 ks i = 0) (x : Int32) (y : Int64) : Ck g 18 x (I3 t) y (rs g t) (pl g t) := by
  have w5 := w500 K
  have tna : ∀ {z : Nat}, z < nH g → tn (I3 z) = z := fun h => tnI (by omega)
  have m1 : ∀ {z : Nat}, z < nH g → ¬ I3 z = (-1 : Int32) := fun h => h_m1 K h
  have ok : okP g ps = true := by
    unfold okP
    rw [all1_iff]
    intro k hk
    rw [ll] at hk
    have H : ∀ z, z < nH g → (inR (I3 z) (nH g) || (true && decide (I3 z = -1))) = true := fun z hz => by rw [inR_I (by omega), decide_eq_true hz]; rfl
    have M : ∀ x : Int32, x = -1 → (inR x (nH g) || (true && decide (x = -1))) = true := fun x e => by rw [decide_eq_true e]; cases inR x (nH g) <;> rfl
    by_cases q : k < 4 * n
    · have z := pa (k / 4) (by omega)
      rcases (show k = 4 * (k / 4) ∨ k = 4 * (k / 4) + 1 ∨ k = 4 * (k / 4) + 2 ∨ k = 4 * (k / 4) + 3 by omega) with e | e | e | e <;> rw [e]
      · rw [z.1]; exact H _ (ha _ (by omega)).1
      · rw [z.2.1]; exact H _ (hb _ (by omega)).1
      · exact M _ z.2.2.1
      · exact M _ z.2.2.2
    · rcases (show k = 4 * n ∨ k = 4 * n + 1 ∨ k = 4 * n + 2 ∨ k = 4 * n + 3 by omega) with e | e | e | e <;> rw [e]
      · exact M _ p0
      · exact M _ p1
      · rw [p2]; exact H _ hc.1
      · rw [p3]; exact H _ hr.1
  have vb : ∀ i, i < n → vk g ps i = at0 ks i := fun i hi => by
    unfold vk
    have z := hb i hi
    rw [(pa i hi).2.1, if_pos (m1 z.1), tna z.1]; exact z.2.2
  have vn : vk g ps n = 0 := by
    unfold vk
    rw [p1, p0, if_neg (not_not_intro rfl), if_neg (not_not_intro rfl)]
  have vt : ∀ i, i ≤ n → vrs g ps i = ks.take i := fun i => by
    induction i with
    | zero => intro _; rfl
    | succ i ih =>
      intro hi
      rw [vrs_s, ih (by omega), vb i (by omega), if_neg (k0 i (by omega)), List.take_succ_eq_append_getElem (by omega), ← at0_get (by omega)]
  have vr : vrs g ps (n + 1) = ks := by rw [vrs_s, vn, if_pos rfl, List.append_nil, vt n (Nat.le_refl _), List.take_of_length_le (by omega)]
  have ft : ∀ l : List Int32, fitB l l 0 0 = true := fun l => fitB_ok (pre_rfl _)
  have lb : lpB g ps t (ps.length / 4) = true := by
    rw [show ps.length / 4 = n + 1 by omega]
    unfold lpB
    rw [vr, pl1, Bool.and_eq_true, all1_iff]
    refine ⟨fun i hi => ?_, ?_⟩
    · unfold P1 P2 cA cB cC cD cE cFz
      show ((decide (at0 ps (4 * i + 0) = -1) || (decide (at0 ps (4 * i + 1) = -1) || decide (hrs g (tn (at0 ps (4 * i + 0))) = hrs g (tn (at0 ps (4 * i + 1)))))) && ((decide (at0 ps (4 * i + 3) = -1) || !decide (at0 ps (4 * i + 2) = -1)) && ((decide (at0 ps (4 * i + 2) = -1) || decide (hrs g (tn (at0 ps (4 * i + 2))) = 1)) && (decide (at0 ps (4 * i + 3) = -1) || decide (hrs g (tn (at0 ps (4 * i + 3))) = rs g t)))) && ((decide (at0 ps (4 * i + 0) = -1) || fitB (hpl g (tn (at0 ps (4 * i + 0)))) (pl g t) 0 0) && ((decide (at0 ps (4 * i + 1) = -1) || fitB (hpl g (tn (at0 ps (4 * i + 1)))) (ks ++ kd) 0 0) && ((decide (at0 ps (4 * i + 2) = -1) || fitB (hpl g (tn (at0 ps (4 * i + 2)))) (ks ++ kd) 0 0) && (decide (at0 ps (4 * i + 3) = -1) || fitB (hpl g (tn (at0 ps (4 * i + 3)))) (ks ++ kd) 0 0))))) = true
      rw [Nat.add_zero]
      by_cases q : i < n
      · obtain ⟨z0, z1, z2, z3⟩ := pa i q
        obtain ⟨a1, a2, a3⟩ := ha i q
        obtain ⟨b1, b2', b3⟩ := hb i q
        rw [z0, z1, z2, z3, tna a1, tna b1, a2, b2', pl1, ft, ft, a3, b3, decide_eq_false (m1 a1), decide_eq_false (m1 b1), decide_eq_true (rfl : at0 ks i = at0 ks i), decide_eq_true (rfl : (-1 : Int32) = -1)]; rfl
      · have e : i = n := by omega
        subst e
        rw [p0, p1, p2, p3, tna hc.1, tna hr.1, hc.2.1, hr.2, ft, hc.2.2, rs1, decide_eq_false (m1 hc.1), decide_eq_false (m1 hr.1), decide_eq_true (rfl : hrs g r = hrs g r), decide_eq_true (rfl : (-1 : Int32) = -1), decide_eq_true (rfl : (1 : Int32) = 1)]; rfl
    · rw [hasK_s]
      show (hasK ps n || !decide (at0 ps (4 * n + 2) = -1)) = true
      rw [p2, decide_eq_false (m1 hc.1)]; cases hasK ps n <;> rfl
  exact ck_18 K P t1 (by omega) (by omega) (by omega) ok lb x y
