theorem obs {α β : Type} (a : α) (f : α → Option β) : (some a).bind f = f a := Eq.trans (Option.bind_some a f) (Eq.refl _)
theorem tnI {n : Nat} (h : n < 2147483648) : tn (I3 n) = n := I3_clamp h
abbrev E (h g u : sm_H) (r : Int32) (l : List Int32) : Prop := (K1 h u) ∧ (dR u l) ∧ (agr SRd g u) ∧ (u.1 67 20 = r)
theorem E.k {h g u : sm_H} {r : Int32} {l : List Int32} (F_ : E h g u r l) : K1 h u := F_.1
theorem E.d {h g u : sm_H} {r : Int32} {l : List Int32} (F_ : E h g u r l) : dR u l := F_.2.1
theorem E.a {h g u : sm_H} {r : Int32} {l : List Int32} (F_ : E h g u r l) : agr SRd g u := F_.2.2.1
theorem E.r {h g u : sm_H} {r : Int32} {l : List Int32} (F_ : E h g u r l) : u.1 67 20 = r := F_.2.2.2
section
variable {h g u : sm_H} {r : Int32} {l : List Int32}
theorem E.nH (e : E h g u r l) : nH u = nH g := by show tn _ = tn _; rw [e.a.1 67 18 (by unfold SRd; omega)]
theorem E.nT (e : E h g u r l) : nT u = nT g := by show tn _ = tn _; rw [e.a.1 67 10 (by unfold SRd; omega)]
theorem E.ty (e : E h g u r l) (x : Nat) : ty u x = ty g x := by show tn _ = tn _; rw [e.a.1 76 x (by unfold SRd; omega)]
theorem E.tM (e : E h g u r l) (t : Nat) : tM u t = tM g t := by show tn _ = tn _; rw [e.a.1 73 t (by unfold SRd; omega)]
theorem E.rs (e : E h g u r l) (t : Nat) : rs u t = rs g t := e.a.1 72 t (by unfold SRd; omega)
theorem E.pl (e : E h g u r l) (t : Nat) : pl u t = pl g t := by
  show lst _ (CHandleHouseLaw_law_r9294_ac1f8b.tM u t) = lst _ (CHandleHouseLaw_law_r9294_ac1f8b.tM g t)
  rw [e.tM]; exact lst_congr (fun k _ => e.a.1 74 _ (by unfold SRd; omega))
theorem E.hpl (e : E h g u r l) (x : Nat) : hpl u x = hpl g x := by show CHandleHouseLaw_law_r9294_ac1f8b.pl u (CHandleHouseLaw_law_r9294_ac1f8b.ty u x) = _; rw [e.ty, e.pl]
theorem E.hrs (e : E h g u r l) (x : Nat) : hrs u x = hrs g x := by show CHandleHouseLaw_law_r9294_ac1f8b.rs u (CHandleHouseLaw_law_r9294_ac1f8b.ty u x) = _; rw [e.ty, e.rs]
theorem E.ld (e : E h g u r l) (k : Nat) : u.1 69 k = g.1 69 k := e.a.1 69 k (by unfold SRd; omega)
end
theorem E_clear {h g : sm_H} (K : K1 h g) (r : Int32) : ∃ u, F_308 r g = some u ∧ E h g u r [] := by
  obtain ⟨u, f1, f2, f3, f4⟩ := R_clear g r
  exact ⟨u, f1, K1_g K (agr_mono SRd_not f3), f2, f3, f4⟩
theorem E_add {h g u : sm_H} {r : Int32} {l : List Int32} (e : E h g u r l) (hl : l.length < 64) (x : Int32) : ∃ u1, F_309 x u = some u1 ∧ E h g u1 r (l ++ [x]) := by
  obtain ⟨u1, r1, r2, r3, r4⟩ := R_addNew e.d hl x
  exact ⟨u1, r1, K1_g e.k (agr_mono SRd_not r3), r2, agr_trans e.a r3, r4.trans e.r⟩
theorem E_type {h g u : sm_H} {r : Int32} {l : List Int32} (e : E h g u r l) {t : Nat} (ht : t < nT g) (hl : l.length ≤ 54) : ∃ u1, F_311 (I3 t) u = some u1 ∧ E h g u1 r (l ++ pl g t) := by
  have m10 : tM u t ≤ 10 := (e.k.2.2.1.2.1 t (by rw [e.nT]; exact ht)).2.1.2
  obtain ⟨u1, r1, r2, r3, r4⟩ := R_addType e.k e.d (t := t) (by rw [e.nT]; exact ht) (by omega)
  rw [e.pl] at r2
  exact ⟨u1, r1, K1_g e.k (agr_mono SRd_not r3), r2, agr_trans e.a r3, r4.trans e.r⟩
theorem E_places {h g u : sm_H} {r : Int32} {l : List Int32} (e : E h g u r l) {x i j : Nat} (hx : x < nH g) (hj : j ≤ tM g (ty g x)) (hl : l.length ≤ 54) (hi : i ≤ 1000) : ∃ u1, F_310 (I3 x) (I3 i) (I3 j) u = some u1 ∧ E h g u1 r (l ++ seg (hpl g x) i (j - i)) := by
  have hx' : x < nH u := by rw [e.nH]; exact hx
  have m10 : tM u (ty u x) ≤ 10 := (e.k.2.2.1.2.1 _ (e.k.2.2.2.2.1.2 x hx').2.2.1).2.1.2
  have em : tM u (ty u x) = tM g (ty g x) := by rw [e.ty, e.tM]
  obtain ⟨u1, r1, r2, r3, r4⟩ := R_addPlaces e.k e.d (x := x) (a := i) (b := j) hx' (by omega) (by omega) hi
  rw [e.hpl] at r2
  exact ⟨u1, r1, K1_g e.k (agr_mono SRd_not r3), r2, agr_trans e.a r3, r4.trans e.r⟩
theorem E_many {h g u : sm_H} {r : Int32} {l : List Int32} (e : E h g u r l) {x : Nat} (hx : x < nH g) : F_305 (I3 x) u = some (I3 (tM g (ty g x)), u) := by
  have := R_many e.k.2.2.1 e.k.2.2.2.2.1 (x := x) (by rw [e.nH]; exact hx)
  rw [e.ty, e.tM] at this; exact this
theorem E_result {h g u : sm_H} {r : Int32} {l : List Int32} (e : E h g u r l) {x : Nat} (hx : x < nH g) : F_307 (I3 x) u = some (hrs g x, u) := by
  have := R_result e.k.2.2.1 e.k.2.2.2.2.1 (x := x) (by rw [e.nH]; exact hx)
  rw [e.hrs] at this; exact this
theorem hpl_len (g : sm_H) (x : Nat) : (hpl g x).length = tM g (ty g x) := lst_len _ _
theorem pl_len (g : sm_H) (t : Nat) : (pl g t).length = tM g t := lst_len _ _
theorem E_place {h g u : sm_H} {r : Int32} {l : List Int32} (e : E h g u r l) {x k : Nat} (hx : x < nH g) (hk : k < (hpl g x).length) : F_306 (I3 x) (I3 k) u = some (at0 (hpl g x) k, u) := by
  rw [hpl_len] at hk
  have := R_place e.k.2.2.1 e.k.2.2.2.2.1 (x := x) (k := k) (by rw [e.nH]; exact hx) (by rw [e.ty, e.tM]; exact hk)
  rw [e.ty, e.a.1 74 _ (by unfold SRd; omega)] at this
  rw [this, at0_lst hk]
theorem E_all {h g u : sm_H} {r : Int32} {l : List Int32} (e : E h g u r l) {x : Nat} (hx : x < nH g) (hl : l.length ≤ 54) : ∃ u1, F_310 (I3 x) 0 (I3 (tM g (ty g x))) u = some u1 ∧ E h g u1 r (l ++ hpl g x) := by
  obtain ⟨u1, c1, c2⟩ := E_places e (i := 0) hx (Nat.le_refl _) hl (by omega)
  rw [Nat.sub_zero, ← hpl_len, seg_all] at c2
  exact ⟨u1, c1, c2⟩
theorem C_ty {h g : sm_H} (K : K1 h g) {p : Nat} (hp : p < nH g) : F_41 (I3 p) h = some (I3 (ty g p), h) := by
  have := C_typeOf K.2.2.2.2.1 K.2.2.2.2.2.1 hp
  rw [(K.2.2.2.2.1.2 p hp).2.1] at this; exact this
theorem C_rs {h g : sm_H} (K : K1 h g) {p : Nat} (hp : p < nH g) : F_44 (I3 p) h = some (hrs g p, h) := C_resultOf K.2.2.2.2.1 K.2.2.2.2.2.1 hp
theorem C_mn {h g : sm_H} (K : K1 h g) {p : Nat} (hp : p < nH g) : F_45 (I3 p) h = some (I3 (tM g (ty g p)), h) := by
  have := C_placesOf K.2.2.2.2.1 K.2.2.2.2.2.1 hp
  rw [(K.2.2.1.2.1 _ (K.2.2.2.2.1.2 p hp).2.2.1).2.1.1] at this; exact this
theorem C_fm {h g : sm_H} (K : K1 h g) {p : Nat} (hp : p < nH g) : F_37 (I3 p) h = some (I3 (fm g p), h) := by
  have := C_form K.2.2.2.2.1 K.2.2.2.2.2.1 hp
  rw [(K.2.2.2.2.1.2 p hp).1.1] at this; exact this
theorem C_pc {h g : sm_H} (K : K1 h g) {p : Nat} (hp : p < nH g) {k : Nat} (hk : k < (hpl g p).length) : F_46 (I3 p) (I3 k) h = some (at0 (hpl g p) k, h) := by
  rw [hpl_len] at hk
  have := C_place K.2.2.1 K.2.2.2.2.1 K.2.2.2.2.2.1 hp hk
  rw [this, at0_lst hk]
theorem C_pc_o {h g : sm_H} (K : K1 h g) {p : Nat} (hp : p < nH g) {x : Int32} (hx : inR x (hpl g p).length = false) : F_46 (I3 p) x h = some (-1, h) := by
  rw [hpl_len] at hx
  exact C_place_o K.2.2.1 K.2.2.2.2.1 K.2.2.2.2.2.1 hp hx
theorem R_mn {h g : sm_H} (K : K1 h g) {p : Nat} (hp : p < nH g) : F_305 (I3 p) g = some (I3 (tM g (ty g p)), g) := R_many K.2.2.1 K.2.2.2.2.1 hp
theorem R_rs {h g : sm_H} (K : K1 h g) {p : Nat} (hp : p < nH g) : F_307 (I3 p) g = some (hrs g p, g) := R_result K.2.2.1 K.2.2.2.2.1 hp
theorem R_pc {h g : sm_H} (K : K1 h g) {p : Nat} (hp : p < nH g) {k : Nat} (hk : k < (hpl g p).length) : F_306 (I3 p) (I3 k) g = some (at0 (hpl g p) k, g) := by
  rw [hpl_len] at hk
  rw [R_place K.2.2.1 K.2.2.2.2.1 hp hk, at0_lst hk]
theorem R_ty {h g : sm_H} (K : K1 h g) {p : Nat} (hp : p < nH g) : ldI g 76 500 (I3 p) = some (I3 (ty g p)) := by
  have w500 : nH g ≤ 500 := K.2.2.2.2.1.1.2
  rw [ldI_I (by omega) (by omega), (K.2.2.2.2.1.2 p hp).2.1]
theorem R_fm {h g : sm_H} (K : K1 h g) {p : Nat} (hp : p < nH g) : ldI g 75 500 (I3 p) = some (I3 (fm g p)) := by
  have w500 : nH g ≤ 500 := K.2.2.2.2.1.1.2
  rw [ldI_I (by omega) (by omega), (K.2.2.2.2.1.2 p hp).1.1]
theorem ty_lt {h g : sm_H} (K : K1 h g) {p : Nat} (hp : p < nH g) : ty g p < nT g := (K.2.2.2.2.1.2 p hp).2.2.1
theorem mn_10 {h g : sm_H} (K : K1 h g) {p : Nat} (hp : p < nH g) : (hpl g p).length ≤ 10 := by rw [hpl_len]; exact (K.2.2.1.2.1 _ (ty_lt K hp)).2.1.2
theorem rs_k {h g : sm_H} (K : K1 h g) {p : Nat} (hp : p < nH g) : ∃ q, hrs g p = I3 q ∧ q < 20 + nC g := by
  have := (K.2.2.1.2.1 _ (ty_lt K hp)).1
  exact ⟨tR g (ty g p), this.1, by have := this.2; show tn _ < _; omega⟩
theorem kL_h {h g : sm_H} (K : K1 h g) {p : Nat} (hp : p < nH g) : kL g (hpl g p) := kL_pl K.2.2.1 (ty_lt K hp)
theorem kR_h {h g : sm_H} (K : K1 h g) {p : Nat} (hp : p < nH g) : kR1 g (hrs g p) := kR1_rs K.2.2.1 (ty_lt K hp)
theorem genB {h g : sm_H} (K : K1 h g) {n fn : Nat} {f a b a' b' nn : Int32} {c c' : Int64} {o p : Nat} {ps : List Int32} (S : fS h f a' b' c' o p ps) (P : prR g ps) (n3 : n ≤ 3) (f5 : f ≠ 5) (f18 : f ≠ 18) (f17 : f ≠ 17) (pn : sm_ldI G0 h 1000001 f = some (I3 n)) (en : nn = I3 n) {Z : Int32 × sm_H → Option (Int32 × sm_H)} {X : Option (Int32 × sm_H)}
    (hF : F_336 f a b c g = (if g.1 67 3 = nn then (F_314 0 nn g).bind Z else X).bind fun q => some (q.1, q.2)) (zX : X = some (1, g)) (zZ : Z (0, g) = some (1, g))
    (good : ps.length = n → (∀ k, k < n → ∃ q, q < nH g ∧ at0 ps k = I3 q) → F_7 h = some (0, h) → F_336 f a b c g = (Z (1, g)).bind (fun q => some (q.1, q.2)) → ∃ out, OC h f a' b' c' out ∧ OR g f a b c out ∧ OK g fn a' b' c' out) : ∃ out, OC h f a' b' c' out ∧ OR g f a b c out ∧ OK g fn a' b' c' out := by
  have l20 := P.2.1
  have w500 : nH g ≤ 500 := K.2.2.2.2.1.1.2
  have L := C_lacksP K S n3 f5 f18 f17 pn
  subst en zX
  by_cases q : ps.length = n
  · rw [decide_eq_true q, Bool.true_and] at L
    rw [if_pos (by rw [P.1, q]), R_areH K.2.2.2.2.1 P (by omega)] at hF; simp only [Option.bind_some] at hF
    cases i : aH g ps n with
    | false =>
      rw [i] at L hF
      refine ⟨.ref 1, tl_1 L, ⟨g, ?_, agr_rfl⟩, ⟨by decide, by decide⟩⟩
      rw [hF, show (b2 false, g) = ((0 : Int32), g) from rfl, zZ]; rfl
    | true =>
      rw [i] at L hF
      refine good q (fun k hk => ?_) L hF
      obtain ⟨q, q1, q2⟩ := inR_x (by omega) (all1_iff.mp i k hk)
      exact ⟨q, q1, q2⟩
  · rw [decide_eq_false q, Bool.false_and] at L
    refine ⟨.ref 1, tl_1 L, ⟨g, ?_, agr_rfl⟩, ⟨by decide, by decide⟩⟩
    rw [hF, if_neg (by rw [P.1, I3_inj (by omega) (by omega)]; exact q)]; rfl
theorem list1 {ps : List Int32} {x : Int32} (h : ps.length = 1) (e : at0 ps 0 = x) : ps = [x] := by
  match ps, h with
  | [a], _ => rw [show at0 [a] 0 = a from rfl] at e; rw [e]
theorem list2 {ps : List Int32} {x y : Int32} (h : ps.length = 2) (e : at0 ps 0 = x) (e' : at0 ps 1 = y) : ps = [x, y] := by
  match ps, h with
  | [a, b], _ => rw [show at0 [a, b] 0 = a from rfl] at e; rw [show at0 [a, b] 1 = b from rfl] at e'; rw [e, e']
theorem list3 {ps : List Int32} {x y z : Int32} (h : ps.length = 3) (e : at0 ps 0 = x) (e' : at0 ps 1 = y) (e'' : at0 ps 2 = z) : ps = [x, y, z] := by
  match ps, h with
  | [a, b, c], _ => rw [show at0 [a, b, c] 0 = a from rfl] at e; rw [show at0 [a, b, c] 1 = b from rfl] at e'; rw [show at0 [a, b, c] 2 = c from rfl] at e''; rw [e, e', e'']
theorem prR_ld {g : sm_H} {ps : List Int32} (P : prR g ps) {k : Nat} (hk : k < ps.length) : ldI g 69 24 (I3 k) = some (at0 ps k) := by
  have := P.2.1
  rw [ldI_I (by omega) (by omega), P.2.2 k hk]
theorem gen1 {h g : sm_H} (K : K1 h g) {fn : Nat} {f a b a' b' : Int32} {c c' : Int64} {o p : Nat} {ps : List Int32} (S : fS h f a' b' c' o p ps) (P : prR g ps) (f5 : f ≠ 5) (f18 : f ≠ 18) (f17 : f ≠ 17) (pn : sm_ldI G0 h 1000001 f = some (I3 1)) {Z : Int32 × sm_H → Option (Int32 × sm_H)} {X : Option (Int32 × sm_H)}
    (hF : F_336 f a b c g = (if g.1 67 3 = 1 then (F_314 0 1 g).bind Z else X).bind fun q => some (q.1, q.2)) (zX : X = some (1, g)) (zZ : Z (0, g) = some (1, g))
    (good : ∀ x, x < nH g → ps = [I3 x] → h.1 34 12 = I3 x → ldI g 69 24 0 = some (I3 x) → F_7 h = some (0, h) → F_336 f a b c g = (Z (1, g)).bind (fun q => some (q.1, q.2)) → ∃ out, OC h f a' b' c' out ∧ OR g f a b c out ∧ OK g fn a' b' c' out) : ∃ out, OC h f a' b' c' out ∧ OR g f a b c out ∧ OK g fn a' b' c' out := by
  refine genB K S P (by decide) f5 f18 f17 pn rfl hF zX zZ (fun l e c7 r => ?_)
  obtain ⟨x, x1, x2⟩ := e 0 (by decide)
  have ep := list1 l x2
  have ld := prR_ld P (k := 0) (by omega)
  rw [x2] at ld
  refine good x x1 ep ?_ ld c7 r
  rw [S.f12, ep]; rfl
theorem gen2 {h g : sm_H} (K : K1 h g) {fn : Nat} {f a b a' b' : Int32} {c c' : Int64} {o p : Nat} {ps : List Int32} (S : fS h f a' b' c' o p ps) (P : prR g ps) (f5 : f ≠ 5) (f18 : f ≠ 18) (f17 : f ≠ 17) (pn : sm_ldI G0 h 1000001 f = some (I3 2)) {Z : Int32 × sm_H → Option (Int32 × sm_H)} {X : Option (Int32 × sm_H)}
    (hF : F_336 f a b c g = (if g.1 67 3 = 2 then (F_314 0 2 g).bind Z else X).bind fun q => some (q.1, q.2)) (zX : X = some (1, g)) (zZ : Z (0, g) = some (1, g))
    (good : ∀ x y, x < nH g → y < nH g → ps = [I3 x, I3 y] → h.1 34 12 = I3 x → h.1 34 13 = I3 y → ldI g 69 24 0 = some (I3 x) → ldI g 69 24 1 = some (I3 y) → F_7 h = some (0, h) → F_336 f a b c g = (Z (1, g)).bind (fun q => some (q.1, q.2)) → ∃ out, OC h f a' b' c' out ∧ OR g f a b c out ∧ OK g fn a' b' c' out) : ∃ out, OC h f a' b' c' out ∧ OR g f a b c out ∧ OK g fn a' b' c' out := by
  refine genB K S P (by decide) f5 f18 f17 pn rfl hF zX zZ (fun l e c7 r => ?_)
  obtain ⟨x, x1, x2⟩ := e 0 (by decide)
  obtain ⟨y, y1, y2⟩ := e 1 (by decide)
  have ep := list2 l x2 y2
  have ld := prR_ld P (k := 0) (by omega)
  have ld' := prR_ld P (k := 1) (by omega)
  rw [x2] at ld
  rw [y2] at ld'
  refine good x y x1 y1 ep ?_ ?_ ld ld' c7 r
  · rw [S.f12, ep]; rfl
  · rw [S.f13, ep]; rfl
theorem prR_SRd {g u : sm_H} {ps : List Int32} (P : prR g ps) (a : agr SRd g u) : prR u ps :=
  ⟨by rw [a.1 67 3 (by unfold SRd; omega)]; exact P.1, P.2.1, fun k hk => by rw [a.1 69 k (by unfold SRd; omega)]; exact P.2.2 k hk⟩
theorem at0_take {l : List Int32} {n i : Nat} (h : i < n) : at0 (l.take n) i = at0 l i := by
  unfold at0; rw [List.getD_eq_getElem?_getD, List.getD_eq_getElem?_getD, List.getElem?_take_of_lt h]
theorem at0_drop {l : List Int32} {n i : Nat} : at0 (l.drop n) i = at0 l (n + i) := by
  unfold at0; rw [List.getD_eq_getElem?_getD, List.getD_eq_getElem?_getD, List.getElem?_drop]
theorem kL_take {g : sm_H} {l : List Int32} {n : Nat} (h : kL g l) : kL g (l.take n) := fun i hi => by
  rw [List.length_take] at hi
  rw [at0_take (by omega)]; exact h i (by omega)
theorem kL_drop {g : sm_H} {l : List Int32} {n : Nat} (h : kL g l) : kL g (l.drop n) := fun i hi => by
  rw [List.length_drop] at hi
  rw [at0_drop]; exact h (n + i) (by omega)
