def tl (h : sm_H) : Option (Int32 × sm_H) :=
  (F_7 h).bind fun q12 =>
  if q12.1 = 0 then ((F_9 q12.2).bind fun q13 =>
  if q13.1 = 0 then ((F_11 q13.2).bind fun q14 =>
  if q14.1 = 0 then ((F_14 q14.2).bind fun q15 =>
  if q15.1 = 0 then ((F_26 q15.2).bind fun q16 =>
  if q16.1 = (-1) then ((sm_rr G0 q16.2 34 11).bind fun b17 =>
  (F_29 q16.2).bind fun q18 =>
  (F_6 (q16.2.1 34 7) (q16.2.1 34 8) (q16.2.1 34 9) (q16.2.2.1 34 10) b17 q18.1 q18.2).bind fun q19 =>
  some (q19.1, q19.2))
  else (some (q16.1, q16.2)))
  else (some ((-3), q15.2)))
  else (some ((-2), q14.2)))
  else (F_5_135 q13.2))
  else (F_5_135 q12.2)
abbrev Ssc (b j : Nat) : Prop := SCd b j ∨ (34 ≤ b ∧ b ≤ 37)
theorem Ssc_not (b j : Nat) (s : Ssc b j) : notC b j := by
  rcases s with s | ⟨s1, s2⟩
  · exact SCd_not b j s
  · rcases (show b = 34 ∨ b = 35 ∨ b = 36 ∨ b = 37 by omega) with rfl | rfl | rfl | rfl <;> rfl
abbrev at1 (l : List Int32) (i : Nat) : Int32 := l.getD i (-1)
abbrev fS (h : sm_H) (f : Int32) (a b : Int32) (c : Int64) (o p : Nat) (ps : List Int32) : Prop := (h.1 34 7 = f) ∧ (h.1 34 8 = a) ∧ (h.1 34 9 = b) ∧ (h.2.1 34 10 = c) ∧ (sm_rr G0 h 34 11 = some o) ∧ (h.1 34 12 = at1 ps 0) ∧ (h.1 34 13 = at1 ps 1) ∧ (h.1 34 14 = at1 ps 2) ∧ (isRw o p) ∧ (hasL h o p ps)
theorem fS.f7 {h : sm_H} {f : Int32} {a b : Int32} {c : Int64} {o p : Nat} {ps : List Int32} (F_ : fS h f a b c o p ps) : h.1 34 7 = f := F_.1
theorem fS.f8 {h : sm_H} {f : Int32} {a b : Int32} {c : Int64} {o p : Nat} {ps : List Int32} (F_ : fS h f a b c o p ps) : h.1 34 8 = a := F_.2.1
theorem fS.f9 {h : sm_H} {f : Int32} {a b : Int32} {c : Int64} {o p : Nat} {ps : List Int32} (F_ : fS h f a b c o p ps) : h.1 34 9 = b := F_.2.2.1
theorem fS.f10 {h : sm_H} {f : Int32} {a b : Int32} {c : Int64} {o p : Nat} {ps : List Int32} (F_ : fS h f a b c o p ps) : h.2.1 34 10 = c := F_.2.2.2.1
theorem fS.f11 {h : sm_H} {f : Int32} {a b : Int32} {c : Int64} {o p : Nat} {ps : List Int32} (F_ : fS h f a b c o p ps) : sm_rr G0 h 34 11 = some o := F_.2.2.2.2.1
theorem fS.f12 {h : sm_H} {f : Int32} {a b : Int32} {c : Int64} {o p : Nat} {ps : List Int32} (F_ : fS h f a b c o p ps) : h.1 34 12 = at1 ps 0 := F_.2.2.2.2.2.1
theorem fS.f13 {h : sm_H} {f : Int32} {a b : Int32} {c : Int64} {o p : Nat} {ps : List Int32} (F_ : fS h f a b c o p ps) : h.1 34 13 = at1 ps 1 := F_.2.2.2.2.2.2.1
theorem fS.f14 {h : sm_H} {f : Int32} {a b : Int32} {c : Int64} {o p : Nat} {ps : List Int32} (F_ : fS h f a b c o p ps) : h.1 34 14 = at1 ps 2 := F_.2.2.2.2.2.2.2.1
theorem fS.w {h : sm_H} {f : Int32} {a b : Int32} {c : Int64} {o p : Nat} {ps : List Int32} (F_ : fS h f a b c o p ps) : isRw o p := F_.2.2.2.2.2.2.2.2.1
theorem fS.r {h : sm_H} {f : Int32} {a b : Int32} {c : Int64} {o p : Nat} {ps : List Int32} (F_ : fS h f a b c o p ps) : hasL h o p ps := F_.2.2.2.2.2.2.2.2.2
abbrev Out : Type := Nat ⊕ (Nat ⊕ (Int32 × List Int32 × List Int32 × Nat × Nat))
abbrev Out.ref (e : Nat) : Out := Sum.inl e
abbrev Out.smp (y : Nat) : Out := Sum.inr (Sum.inl y)
abbrev Out.fin (r : Int32) (l ps : List Int32) (o p : Nat) : Out := Sum.inr (Sum.inr (r, l, ps, o, p))
def OC (h : sm_H) (f a b : Int32) (c : Int64) : Out → Prop
  | .inl e => ∃ h1, tl h = some (-I3 e, h1) ∧ agr Ssc h h1
  | .inr (.inl y) => ∃ h1, tl h = some (I3 y, h1) ∧ agr Ssc h h1
  | .inr (.inr (r, l, ps, o, p)) => ∃ h1, tl h = ((F_6 f a b c o r h1).bind fun q => some (q.1, q.2)) ∧ dC h1 l ∧ hasL h1 o p ps ∧ isRw o p ∧ (o = 35 ∧ p = 36 ∨ o = 56 ∧ p = 57 ∨ o = 64 ∧ p = 65) ∧ agr Ssc h h1
def OR (g : sm_H) (f a b : Int32) (c : Int64) : Out → Prop
  | .inl e => ∃ g1, F_336 f a b c g = some (I3 e, g1) ∧ agr SRp g g1
  | .inr (.inl y) => ∃ g1, F_336 f a b c g = some (-1 - I3 y, g1) ∧ agr SRp g g1
  | .inr (.inr (r, l, ps, _, _)) => ∃ g1, F_336 f a b c g = some (0, g1) ∧ dR g1 l ∧ g1.1 67 20 = r ∧ prR g1 ps ∧ agr SRp g g1
def OK (g : sm_H) (f : Nat) (a b : Int32) (c : Int64) : Out → Prop
  | .inl e => 1 ≤ e ∧ e ≤ 3
  | .inr (.inl y) => y < nH g
  | .inr (.inr (r, l, ps, _, _)) => FS g f a b c ps r l ∧ kR1 g r ∧ kL g l ∧ l.length ≤ 64
theorem tl_1 {h : sm_H} {f a b : Int32} {c : Int64} (e1 : F_7 h = some (1, h)) : OC h f a b c (.ref 1) := by
  refine ⟨h, ?_, agr_rfl⟩
  unfold tl
  rw [e1]; simp only [Option.bind_some]
  rw [if_neg (by decide)]; rfl
theorem tl_2 {h : sm_H} {f a b : Int32} {c : Int64} (e1 : F_7 h = some (0, h)) (e2 : F_9 h = some (1, h)) : OC h f a b c (.ref 1) := by
  refine ⟨h, ?_, agr_rfl⟩
  unfold tl
  rw [e1]; simp only [Option.bind_some]
  rw [if_pos trivial, e2]; simp only [Option.bind_some]
  rw [if_neg (by decide)]; rfl
theorem tl_3 {h : sm_H} {f a b : Int32} {c : Int64} (e1 : F_7 h = some (0, h)) (e2 : F_9 h = some (0, h)) (e3 : F_11 h = some (1, h)) : OC h f a b c (.ref 2) := by
  refine ⟨h, ?_, agr_rfl⟩
  unfold tl
  rw [e1]; simp only [Option.bind_some]
  rw [if_pos trivial, e2]; simp only [Option.bind_some]
  rw [if_pos trivial, e3]; simp only [Option.bind_some]
  rw [if_neg (by decide)]; rfl
theorem tl_4 {h h1 : sm_H} {f a b : Int32} {c : Int64} (e1 : F_7 h = some (0, h)) (e2 : F_9 h = some (0, h)) (e3 : F_11 h = some (0, h)) (e4 : F_14 h = some (1, h1)) (ag : agr Ssc h h1) : OC h f a b c (.ref 3) := by
  refine ⟨h1, ?_, ag⟩
  unfold tl
  rw [e1]; simp only [Option.bind_some]
  rw [if_pos trivial, e2]; simp only [Option.bind_some]
  rw [if_pos trivial, e3]; simp only [Option.bind_some]
  rw [if_pos trivial, e4]; simp only [Option.bind_some]
  rw [if_neg (by decide)]; rfl
theorem tl_5 {h h1 h2 : sm_H} {f a b : Int32} {c : Int64} {y : Nat} (hy : y < 2147483648) (e1 : F_7 h = some (0, h)) (e2 : F_9 h = some (0, h)) (e3 : F_11 h = some (0, h)) (e4 : F_14 h = some (0, h1)) (e5 : F_26 h1 = some (I3 y, h2)) (ag : agr Ssc h h2) : OC h f a b c (.smp y) := by
  refine ⟨h2, ?_, ag⟩
  unfold tl
  rw [e1]; simp only [Option.bind_some]
  rw [if_pos trivial, e2]; simp only [Option.bind_some]
  rw [if_pos trivial, e3]; simp only [Option.bind_some]
  rw [if_pos trivial, e4]; simp only [Option.bind_some]
  rw [if_pos trivial, e5]; simp only [Option.bind_some]
  rw [if_neg (I3_m1 hy)]
theorem tl_6 {h h1 h2 h3 : sm_H} {f a b : Int32} {c : Int64} {o p : Nat} {r : Int32} {l ps : List Int32} (w : isRw o p) (e1 : F_7 h = some (0, h)) (e2 : F_9 h = some (0, h)) (e3 : F_11 h = some (0, h)) (e4 : F_14 h = some (0, h1)) (e5 : F_26 h1 = some (-1, h2)) (f7 : h2.1 34 7 = f) (f8 : h2.1 34 8 = a) (f9 : h2.1 34 9 = b) (f10 : h2.2.1 34 10 = c) (f11 : sm_rr G0 h2 34 11 = some o) (e6 : F_29 h2 = some (r, h3)) (d : dC h3 l) (hp : hasL h3 o p ps) (op : o = 35 ∧ p = 36 ∨ o = 56 ∧ p = 57 ∨ o = 64 ∧ p = 65) (ag : agr Ssc h h3) : OC h f a b c (.fin r l ps o p) := by
  refine ⟨h3, ?_, d, hp, w, op, ag⟩
  unfold tl
  rw [e1]; simp only [Option.bind_some]
  rw [if_pos trivial, e2]; simp only [Option.bind_some]
  rw [if_pos trivial, e3]; simp only [Option.bind_some]
  rw [if_pos trivial, e4]; simp only [Option.bind_some]
  rw [if_pos trivial, e5]; simp only [Option.bind_some]
  rw [if_pos trivial, f11]; simp only [Option.bind_some]
  rw [e6]; simp only [Option.bind_some]
  rw [f7, f8, f9, f10]
theorem at1_in {l : List Int32} {i : Nat} (h : i < l.length) : at1 l i = at0 l i := by
  unfold at1 at0; rw [List.getD_eq_getElem?_getD, List.getD_eq_getElem?_getD, List.getElem?_eq_getElem h]; rfl
theorem at1_out {l : List Int32} {i : Nat} (h : l.length ≤ i) : at1 l i = -1 := by
  unfold at1; rw [List.getD_eq_getElem?_getD, List.getElem?_eq_none h]; rfl
theorem inR_m1 (n : Nat) : inR (-1) n = false := by
  unfold inR
  have : (-1 : Int32).toInt = -1 := rfl
  rw [this]; simp
def aH (g : sm_H) (ps : List Int32) (n : Nat) : Bool := all1 (fun k => inR (at0 ps k) (nH g)) n
theorem C_lacksH {h g : sm_H} (K : K1 h g) {f : Int32} {a b : Int32} {c : Int64} {o p : Nat} {ps : List Int32} (S : fS h f a b c o p ps) (q : Bool) : F_8 (b2 q) h = some (b2 (!all1 (fun k => inR (at0 ps k) (nH g) || (q && decide (at0 ps k = -1))) ps.length), h) := by
  have wH := K.2.2.2.2.1
  have cH := K.2.2.2.2.2.1
  have l20 := S.r.2.1
  have L := lp_all (body := F_8_2B) (fun k => inR (at0 ps k) (nH g) || (q && decide (at0 ps k = -1))) ps.length (fun k => (b2 q, I3 k, h)) (1, h) (0, h) (f := 1000000) (by omega) (fun k hk e => ?_) (fun k hk e => ?_) ?_
  · refine Eq.trans (show F_8 (b2 q) h = lp F_8_2B 1000000 (b2 q, I3 0, h) from rfl) (L.trans ?_)
    cases all1 (fun k => inR (at0 ps k) (nH g) || (q && decide (at0 ps k = -1))) ps.length <;> rfl
  · have A := C_rat S.w S.r hk
    have Z := C_rsize S.w S.r
    have H := C_hasHg wH cH (at0 ps k)
    show F_8_2B (b2 q, I3 k, h) = _
    unfold F_8_2B F_8_49
    rw [S.f11]; simp only [Option.bind_some]
    rw [if_neg (not_not_intro (S.w.i h)), Z]; simp only [Option.bind_some]
    rw [if_neg (by rw [I3_le (by omega) (by omega)]; omega), S.f11]; simp only [Option.bind_some]
    rw [if_neg (not_not_intro (S.w.i h)), A]; simp only [Option.bind_some]
    rw [H]; simp only [Option.bind_some]
    cases i : inR (at0 ps k) (nH g) with
    | true => rw [if_neg (by decide), I3_lit, I3_add]
    | false =>
      rw [i, Bool.false_or, Bool.and_eq_true, decide_eq_true_eq] at e
      obtain ⟨e1, e2⟩ := e
      subst e1
      rw [if_pos (by decide), if_neg (by decide), S.f11]; simp only [Option.bind_some]
      rw [if_neg (not_not_intro (S.w.i h)), A]; simp only [Option.bind_some]
      rw [if_pos e2, I3_lit, I3_add]
  · have A := C_rat S.w S.r hk
    have Z := C_rsize S.w S.r
    have H := C_hasHg wH cH (at0 ps k)
    rw [Bool.or_eq_false_iff] at e
    show F_8_2B (b2 q, I3 k, h) = _
    unfold F_8_2B F_8_47
    rw [S.f11]; simp only [Option.bind_some]
    rw [if_neg (not_not_intro (S.w.i h)), Z]; simp only [Option.bind_some]
    rw [if_neg (by rw [I3_le (by omega) (by omega)]; omega), S.f11]; simp only [Option.bind_some]
    rw [if_neg (not_not_intro (S.w.i h)), A]; simp only [Option.bind_some]
    rw [H, e.1]; simp only [Option.bind_some]
    rw [if_pos (by decide)]
    cases q with
    | false => rw [if_pos (by decide)]; rfl
    | true =>
      have e2 := e.2
      rw [Bool.true_and, decide_eq_false_iff_not] at e2
      rw [if_neg (by decide), S.f11]; simp only [Option.bind_some]
      rw [if_neg (not_not_intro (S.w.i h)), A]; simp only [Option.bind_some]
      rw [if_neg e2]; rfl
  · have Z := C_rsize S.w S.r
    show F_8_2B (b2 q, I3 ps.length, h) = _
    unfold F_8_2B
    rw [S.f11]; simp only [Option.bind_some]
    rw [if_neg (not_not_intro (S.w.i h)), Z]; simp only [Option.bind_some]
    rw [if_pos (by rw [I3_le (by omega) (by omega)]; omega)]
theorem C_lacksH0 {h g : sm_H} (K : K1 h g) {f : Int32} {a b : Int32} {c : Int64} {o p : Nat} {ps : List Int32} (S : fS h f a b c o p ps) : F_8 0 h = some (b2 (!aH g ps ps.length), h) := by
  have := C_lacksH K S false
  simp only [Bool.false_and, Bool.or_false] at this
  exact this
theorem C_lacksP {h g : sm_H} (K : K1 h g) {f : Int32} {a b : Int32} {c : Int64} {o p : Nat} {ps : List Int32} (S : fS h f a b c o p ps) {n : Nat} (n3 : n ≤ 3) (f5 : f ≠ 5) (f18 : f ≠ 18) (f17 : f ≠ 17) (pn : sm_ldI G0 h 1000001 f = some (I3 n)) : F_7 h = some (b2 (!(decide (ps.length = n) && aH g ps n)), h) := by
  have l20 := S.r.2.1
  have Z := C_rsize S.w S.r
  have H := C_lacksH0 K S
  have z0 : F_7_172 0 h = some (0, h) := if_pos (Or.inl rfl)
  have z1 : F_7_167 h = some (1, h) := by show (if (1 : Int32) = 0 ∨ (1 : Int32) = 1 then some ((1 : Int32), h) else none) = _; exact if_pos (Or.inr rfl)
  show F_7_0 h = _
  unfold F_7_0
  rw [S.f7, if_neg f5, if_neg f18, if_neg f17, S.f11]; simp only [Option.bind_some]
  rw [if_neg (not_not_intro (S.w.i h)), Z]; simp only [Option.bind_some]
  rw [S.f7, pn]; simp only [Option.bind_some]
  by_cases q : ps.length = n
  · subst q
    rw [if_pos rfl, H]; simp only [Option.bind_some, decide_true, Bool.true_and]
    cases aH g ps ps.length with
    | true => rw [if_pos (by decide), z0]; rfl
    | false => rw [if_neg (by decide), z1]; rfl
  · rw [if_neg (by rw [I3_inj (by omega) (by omega)]; exact q), decide_eq_false q, z1]; rfl
theorem R_areH {g : sm_H} (wH : wfH0 g) {ps : List Int32} (P : prR g ps) {n : Nat} (hn : n ≤ ps.length) : F_314 0 (I3 n) g = some (b2 (aH g ps n), g) := by
  have l20 := P.2.1
  have L := lp_all (body := F_314_2B) (fun k => inR (at0 ps k) (nH g)) n (fun k => (I3 n, I3 k, g)) (0, g) (1, g) (f := 1000000) (by omega) (fun k hk e => ?_) (fun k hk e => ?_) ?_
  · refine Eq.trans (show F_314 0 (I3 n) g = lp F_314_2B 1000000 (I3 n, I3 0, g) from rfl) (L.trans ?_)
    show _ = some (b2 (all1 (fun k => inR (at0 ps k) (nH g)) n), g)
    cases all1 (fun k => inR (at0 ps k) (nH g)) n <;> rfl
  · have H := R_isHg wH (at0 ps k)
    rw [e] at H
    have z := P.2.2 k (by omega)
    show F_314_2B (I3 n, I3 k, g) = _
    unfold F_314_2B
    rw [if_neg (by rw [I3_le (by omega) (by omega)]; omega), ldI_I (by omega) (by omega), z]; simp only [Option.bind_some]
    rw [H]; simp only [Option.bind_some]
    rw [if_neg (by decide), I3_lit, I3_add]
  · have H := R_isHg wH (at0 ps k)
    rw [e] at H
    have z := P.2.2 k (by omega)
    show F_314_2B (I3 n, I3 k, g) = _
    unfold F_314_2B
    rw [if_neg (by rw [I3_le (by omega) (by omega)]; omega), ldI_I (by omega) (by omega), z]; simp only [Option.bind_some]
    rw [H]; simp only [Option.bind_some]
    rw [if_pos (by decide)]
  · show F_314_2B (I3 n, I3 n, g) = _
    unfold F_314_2B
    rw [if_pos (by rw [I3_le (by omega) (by omega)]; omega)]
