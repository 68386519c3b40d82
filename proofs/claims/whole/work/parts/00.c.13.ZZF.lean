def z49 (h : sm_H) : sm_H := (fun b j => if b = 49 then 0 else h.1 b j, fun b j => if b = 49 then 0 else h.2.1 b j, h.2.2)
theorem z49_hi (h : sm_H) : hiEq h (z49 h) := ⟨fun b hb => ⟨by funext j; show (if b = 49 then 0 else h.1 b j) = _; rw [if_neg (by omega)], by funext j; show (if b = 49 then 0 else h.2.1 b j) = _; rw [if_neg (by omega)]⟩, rfl⟩
theorem z49_hi' (h : sm_H) : hiEq (z49 h) h := ⟨fun b hb => ⟨((z49_hi h).1 b hb).1.symm, ((z49_hi h).1 b hb).2.symm⟩, rfl⟩
theorem K1_z {h g : sm_H} : K1 (z49 h) g ↔ K1 h g := by
  constructor
  · rintro ⟨wK, cK, wT, cT, wH, cH, wM, cM, cG, cO, cV, wX, cX, cXh, wF⟩
    exact ⟨wK, cK, wT, cT, wH, cH, wM, cM, cG, cO, cV, wX, cX, cXh_fr (z49_hi' h) cXh, wF⟩
  · rintro ⟨wK, cK, wT, cT, wH, cH, wM, cM, cG, cO, cV, wX, cX, cXh, wF⟩
    exact ⟨wK, cK, wT, cT, wH, cH, wM, cM, cG, cO, cV, wX, cX, cXh_fr (z49_hi h) cXh, wF⟩
abbrev SM (b _j : Nat) : Prop := b = 49 ∨ b = 50 ∨ b = 51
theorem K1_mach {h h1 g : sm_H} (K : K1 h g) (a : agr SM h h1) (r : h1.2.2 = h.2.2) : K1 h1 g := by
  have rr : ∀ b j, h1.2.2.1 b j = h.2.2.1 b j := fun b j => by rw [r]
  refine K1_z.mp (K1_h (K1_z.mpr K) ⟨fun b j n => ?_, fun b j n => ?_, fun b j n => rr b j, a.2.2.2⟩)
  · show (if b = 49 then 0 else h1.1 b j) = (if b = 49 then 0 else h.1 b j)
    by_cases q : b = 49
    · rw [if_pos q, if_pos q]
    · rw [if_neg q, if_neg q]
      by_cases q1 : b = 50 ∨ b = 51
      · exact absurd (by rcases q1 with rfl | rfl <;> rfl) n
      · exact a.1 b j (by unfold SM; omega)
  · show (if b = 49 then 0 else h1.2.1 b j) = (if b = 49 then 0 else h.2.1 b j)
    by_cases q : b = 49
    · rw [if_pos q, if_pos q]
    · rw [if_neg q, if_neg q]
      by_cases q1 : b = 50 ∨ b = 51
      · exact absurd (by rcases q1 with rfl | rfl <;> rfl) n
      · exact a.2.1 b j (by unfold SM; omega)
abbrev SN (b j : Nat) : Prop := (b = 67 ∧ (j = 48 ∨ j = 49 ∨ j = 56 ∨ j = 59 ∨ (60 ≤ j ∧ j ≤ 64) ∨ j = 66)) ∨ (103 ≤ b ∧ b ≤ 109)
theorem SN_not (b j : Nat) (s : SN b j) : notR b j := by
  unfold SN at s
  rcases s with ⟨rfl, s⟩ | s
  · rcases (show j = 48 ∨ j = 49 ∨ j = 56 ∨ j = 59 ∨ j = 60 ∨ j = 61 ∨ j = 62 ∨ j = 63 ∨ j = 64 ∨ j = 66 by omega) with rfl | rfl | rfl | rfl | rfl | rfl | rfl | rfl | rfl | rfl <;> rfl
  · rcases (show b = 103 ∨ b = 104 ∨ b = 105 ∨ b = 106 ∨ b = 107 ∨ b = 108 ∨ b = 109 by omega) with rfl | rfl | rfl | rfl | rfl | rfl | rfl <;> rfl
theorem ok_of_not {S : Nat → Nat → Prop} {g g1 : sm_H} (m : ∀ b j, S b j → notR b j) (a : agr S g g1) : ∀ b j, okR b j = true → g1.1 b j = g.1 b j ∧ g1.2.1 b j = g.2.1 b j := fun b j ok => by
  have n : ¬ S b j := fun z => by rw [show okR b j = false from m b j z] at ok; cases ok
  exact ⟨a.1 b j n, a.2.1 b j n⟩
theorem grow_N {g g1 : sm_H} (a : agr SN g g1) : grow g g1 := (ext_eq (ok_of_not SN_not a)).2.1
theorem K1_N {h g g1 : sm_H} (K : K1 h g) (a : agr SN g g1) : K1 h g1 := K1_g K (agr_mono SN_not a)
abbrev SCm (b j : Nat) : Prop := (b = 49 ∧ (j = 8 ∨ j = 9 ∨ j = 10)) ∨ b = 50 ∨ b = 51 ∨ (b = 21 ∧ j = 2) ∨ b = 22 ∨ b = 24 ∨ b = 25 ∨ 131 ≤ b
def agr3 (S : Nat → Nat → Prop) (h h1 : sm_H) : Prop := (∀ b j, ¬ S b j → h1.1 b j = h.1 b j) ∧ (∀ b j, ¬ S b j → h1.2.1 b j = h.2.1 b j) ∧ ∀ b j, ¬ S b j → h1.2.2.1 b j = h.2.2.1 b j
theorem agr3_of {S : Nat → Nat → Prop} {h h1 : sm_H} (a : agr S h h1) : agr3 S h h1 := ⟨a.1, a.2.1, a.2.2.1⟩
theorem agr3_rfl {S : Nat → Nat → Prop} {h : sm_H} : agr3 S h h := agr3_of agr_rfl
theorem agr3_trans {S : Nat → Nat → Prop} {h h1 h2 : sm_H} (a : agr3 S h h1) (b : agr3 S h1 h2) : agr3 S h h2 := ⟨fun x j n => (b.1 x j n).trans (a.1 x j n), fun x j n => (b.2.1 x j n).trans (a.2.1 x j n), fun x j n => (b.2.2 x j n).trans (a.2.2 x j n)⟩
theorem agr3_mono {S S' : Nat → Nat → Prop} {h h1 : sm_H} (m : ∀ b j, S b j → S' b j) (a : agr3 S h h1) : agr3 S' h h1 := ⟨fun x j n => a.1 x j (fun z => n (m x j z)), fun x j n => a.2.1 x j (fun z => n (m x j z)), fun x j n => a.2.2 x j (fun z => n (m x j z))⟩
abbrev SRm (b j : Nat) : Prop := SN b j ∨ (b = 67 ∧ j = 45) ∨ (96 ≤ b ∧ b ≤ 101)
abbrev Mm (h g : sm_H) (fuel s : Nat) : Prop := (K1 h g) ∧ (h.1 49 7 = I3 fuel) ∧ (g.1 67 65 = I3 fuel) ∧ (h.1 49 8 = I3 s) ∧ (g.1 67 66 = I3 s) ∧ (s ≤ fuel) ∧ (fuel ≤ 10000)
theorem Mm.k {h g : sm_H} {fuel s : Nat} (F_ : Mm h g fuel s) : K1 h g := F_.1
theorem Mm.hf {h g : sm_H} {fuel s : Nat} (F_ : Mm h g fuel s) : h.1 49 7 = I3 fuel := F_.2.1
theorem Mm.gf {h g : sm_H} {fuel s : Nat} (F_ : Mm h g fuel s) : g.1 67 65 = I3 fuel := F_.2.2.1
theorem Mm.hs {h g : sm_H} {fuel s : Nat} (F_ : Mm h g fuel s) : h.1 49 8 = I3 s := F_.2.2.2.1
theorem Mm.gs {h g : sm_H} {fuel s : Nat} (F_ : Mm h g fuel s) : g.1 67 66 = I3 s := F_.2.2.2.2.1
theorem Mm.le {h g : sm_H} {fuel s : Nat} (F_ : Mm h g fuel s) : s ≤ fuel := F_.2.2.2.2.2.1
theorem Mm.fm {h g : sm_H} {fuel s : Nat} (F_ : Mm h g fuel s) : fuel ≤ 10000 := F_.2.2.2.2.2.2
def keepC (d : Nat) (h h1 : sm_H) : Prop := ∀ k, k < 16 * d + 10 → h1.2.1 50 k = h.2.1 50 k ∧ h1.1 51 k = h.1 51 k
def keepR (d vp : Nat) (g g1 : sm_H) : Prop := (∀ b i, 103 ≤ b → b ≤ 107 → i < d → g1.1 b i = g.1 b i) ∧ ∀ i, i < vp → g1.1 108 i = g.1 108 i ∧ g1.2.1 109 i = g.2.1 109 i
theorem keepC_rfl {d : Nat} {h : sm_H} : keepC d h h := fun _ _ => ⟨rfl, rfl⟩
theorem keepC_trans {d : Nat} {h h1 h2 : sm_H} (a : keepC d h h1) (b : keepC d h1 h2) : keepC d h h2 := fun k hk => ⟨(b k hk).1.trans (a k hk).1, (b k hk).2.trans (a k hk).2⟩
theorem keepR_rfl {d vp : Nat} {h : sm_H} : keepR d vp h h := ⟨fun _ _ _ _ _ => rfl, fun _ _ => ⟨rfl, rfl⟩⟩
theorem keepR_trans {d vp : Nat} {h h1 h2 : sm_H} (a : keepR d vp h h1) (b : keepR d vp h1 h2) : keepR d vp h h2 := ⟨fun c i h1 h2 hi => (b.1 c i h1 h2 hi).trans (a.1 c i h1 h2 hi), fun k hk => ⟨(b.2 k hk).1.trans (a.2 k hk).1, (b.2 k hk).2.trans (a.2 k hk).2⟩⟩
theorem keepR_mono {d d' vp vp' : Nat} {h h1 : sm_H} (a : keepR d' vp' h h1) (hd : d ≤ d') (hv : vp ≤ vp') : keepR d vp h h1 := ⟨fun c i h1 h2 hi => a.1 c i h1 h2 (by omega), fun k hk => a.2 k (by omega)⟩
theorem keepC_mono {d d' : Nat} {h h1 : sm_H} (a : keepC d' h h1) (hd : d ≤ d') : keepC d h h1 := fun k hk => a k (by omega)
def Lp (c : Nat) (a b : sm_H) : Prop := ∀ m, lp F_379_0B (m + c) a = lp F_379_0B m b
theorem Lp_0 (a : sm_H) : Lp 0 a a := fun _ => rfl
theorem Lp_trans {c c' : Nat} {a b e : sm_H} (x : Lp c a b) (y : Lp c' b e) : Lp (c + c') a e := fun m => by
  rw [show m + (c + c') = m + c' + c by omega, x, y]
def okE (g : sm_H) (k : Int32) (n : Int64) : Prop := ∃ q, k = I3 q ∧ q < 20 + nC g ∧ B g q 19 = true ∧ okO g q n
def res (h g : sm_H) (out rk : Nat) : Prop := h.2.1 49 9 = g.2.1 67 61 ∧ h.1 49 10 = tag (g.1 67 60) ∧ (out = 0 → okV g rk (g.1 67 60) (g.2.1 67 61)) ∧ (out = 1 → okE g (g.1 67 60) (g.2.1 67 61))
def Ends (d fuel s0 vp rk : Nat) (h0 g0 : sm_H) (p : Nat) (r : Option (Int32 × sm_H)) (u : sm_H) : Prop :=
  ∃ out h1 g1 c s1, r = some (I3 out, h1) ∧ Lp c u g1 ∧ Mm h1 g1 fuel s1 ∧ s0 ≤ s1 ∧ agr3 SCm h0 h1 ∧ agr SRm g0 g1 ∧ grow g0 g1 ∧ keepC d h0 h1 ∧
    ((out ≤ 1 ∧ p + c + 1 ≤ 2 * (s1 - s0) ∧ g1.1 67 56 = I3 d ∧ g1.1 67 59 = I3 vp ∧ g1.1 67 64 = 0 ∧ g1.1 67 63 = 1 ∧ g1.1 67 62 = I3 out ∧ keepR d vp g0 g1 ∧ res h1 g1 out rk) ∨ (2 ≤ out ∧ out ≤ 4 ∧ p + c ≤ 2 * (s1 - s0) ∧ g1.1 67 64 = I3 out))
def CallOK (d : Nat) (call : Int32 → Int32 → sm_H → Option (Int32 × sm_H)) : Prop :=
  ∀ (h g : sm_H) (fuel s x vp : Nat) (vs : List Val), Mm h g fuel s → x < nH g → g.1 67 56 = I3 d → g.1 67 59 = I3 (vp + vs.length) → g.1 67 64 = 0 → vp ≤ 30 * d → tyV g (hpl g x) vs → frm h d vs → stk g vp vs →
    ∃ u, F_344 (I3 x) g = some u ∧ Ends d fuel s vp (tn (hrs g x)) h g 0 (call (I3 x) (I3 d) h) u
abbrev Fr (d fuel s0 x vp : Nat) (vs : List Val) (h0 g0 h g : sm_H) (p s : Nat) : Prop := (Mm h g fuel s) ∧ (p + 2 ≤ 2 * (s - s0)) ∧ (s0 < s) ∧ (d < 100) ∧ (x < nH g0) ∧ (g.1 67 56 = I3 (d + 1)) ∧ (g.1 103 d = I3 x) ∧ (g.1 105 d = I3 vp) ∧ (g.1 67 64 = 0) ∧ (vp ≤ 30 * d) ∧ (tyV g (hpl g0 x) vs) ∧ (frm h d vs) ∧ (stk g vp vs) ∧ (agr3 SCm h0 h) ∧ (agr SRm g0 g) ∧ (grow g0 g) ∧ (keepC d h0 h) ∧ (keepR d vp g0 g)
theorem Fr.m {d fuel s0 x vp : Nat} {vs : List Val} {h0 g0 h g : sm_H} {p s : Nat} (F_ : Fr d fuel s0 x vp vs h0 g0 h g p s) : Mm h g fuel s := F_.1
theorem Fr.b {d fuel s0 x vp : Nat} {vs : List Val} {h0 g0 h g : sm_H} {p s : Nat} (F_ : Fr d fuel s0 x vp vs h0 g0 h g p s) : p + 2 ≤ 2 * (s - s0) := F_.2.1
theorem Fr.lt {d fuel s0 x vp : Nat} {vs : List Val} {h0 g0 h g : sm_H} {p s : Nat} (F_ : Fr d fuel s0 x vp vs h0 g0 h g p s) : s0 < s := F_.2.2.1
theorem Fr.d1 {d fuel s0 x vp : Nat} {vs : List Val} {h0 g0 h g : sm_H} {p s : Nat} (F_ : Fr d fuel s0 x vp vs h0 g0 h g p s) : d < 100 := F_.2.2.2.1
theorem Fr.x1 {d fuel s0 x vp : Nat} {vs : List Val} {h0 g0 h g : sm_H} {p s : Nat} (F_ : Fr d fuel s0 x vp vs h0 g0 h g p s) : x < nH g0 := F_.2.2.2.2.1
theorem Fr.c56 {d fuel s0 x vp : Nat} {vs : List Val} {h0 g0 h g : sm_H} {p s : Nat} (F_ : Fr d fuel s0 x vp vs h0 g0 h g p s) : g.1 67 56 = I3 (d + 1) := F_.2.2.2.2.2.1
theorem Fr.c103 {d fuel s0 x vp : Nat} {vs : List Val} {h0 g0 h g : sm_H} {p s : Nat} (F_ : Fr d fuel s0 x vp vs h0 g0 h g p s) : g.1 103 d = I3 x := F_.2.2.2.2.2.2.1
theorem Fr.c105 {d fuel s0 x vp : Nat} {vs : List Val} {h0 g0 h g : sm_H} {p s : Nat} (F_ : Fr d fuel s0 x vp vs h0 g0 h g p s) : g.1 105 d = I3 vp := F_.2.2.2.2.2.2.2.1
theorem Fr.c64 {d fuel s0 x vp : Nat} {vs : List Val} {h0 g0 h g : sm_H} {p s : Nat} (F_ : Fr d fuel s0 x vp vs h0 g0 h g p s) : g.1 67 64 = 0 := F_.2.2.2.2.2.2.2.2.1
theorem Fr.vl {d fuel s0 x vp : Nat} {vs : List Val} {h0 g0 h g : sm_H} {p s : Nat} (F_ : Fr d fuel s0 x vp vs h0 g0 h g p s) : vp ≤ 30 * d := F_.2.2.2.2.2.2.2.2.2.1
theorem Fr.ty {d fuel s0 x vp : Nat} {vs : List Val} {h0 g0 h g : sm_H} {p s : Nat} (F_ : Fr d fuel s0 x vp vs h0 g0 h g p s) : tyV g (hpl g0 x) vs := F_.2.2.2.2.2.2.2.2.2.2.1
theorem Fr.fr {d fuel s0 x vp : Nat} {vs : List Val} {h0 g0 h g : sm_H} {p s : Nat} (F_ : Fr d fuel s0 x vp vs h0 g0 h g p s) : frm h d vs := F_.2.2.2.2.2.2.2.2.2.2.2.1
theorem Fr.st {d fuel s0 x vp : Nat} {vs : List Val} {h0 g0 h g : sm_H} {p s : Nat} (F_ : Fr d fuel s0 x vp vs h0 g0 h g p s) : stk g vp vs := F_.2.2.2.2.2.2.2.2.2.2.2.2.1
theorem Fr.ac {d fuel s0 x vp : Nat} {vs : List Val} {h0 g0 h g : sm_H} {p s : Nat} (F_ : Fr d fuel s0 x vp vs h0 g0 h g p s) : agr3 SCm h0 h := F_.2.2.2.2.2.2.2.2.2.2.2.2.2.1
theorem Fr.ar {d fuel s0 x vp : Nat} {vs : List Val} {h0 g0 h g : sm_H} {p s : Nat} (F_ : Fr d fuel s0 x vp vs h0 g0 h g p s) : agr SRm g0 g := F_.2.2.2.2.2.2.2.2.2.2.2.2.2.2.1
theorem Fr.gr {d fuel s0 x vp : Nat} {vs : List Val} {h0 g0 h g : sm_H} {p s : Nat} (F_ : Fr d fuel s0 x vp vs h0 g0 h g p s) : grow g0 g := F_.2.2.2.2.2.2.2.2.2.2.2.2.2.2.2.1
theorem Fr.kc {d fuel s0 x vp : Nat} {vs : List Val} {h0 g0 h g : sm_H} {p s : Nat} (F_ : Fr d fuel s0 x vp vs h0 g0 h g p s) : keepC d h0 h := F_.2.2.2.2.2.2.2.2.2.2.2.2.2.2.2.2.1
theorem Fr.kr {d fuel s0 x vp : Nat} {vs : List Val} {h0 g0 h g : sm_H} {p s : Nat} (F_ : Fr d fuel s0 x vp vs h0 g0 h g p s) : keepR d vp g0 g := F_.2.2.2.2.2.2.2.2.2.2.2.2.2.2.2.2.2
theorem m_c {g g1 : sm_H} (a : agr SRm g g1) {b j : Nat} (h1 : 70 ≤ b) (h2 : b ≤ 95) : g1.1 b j = g.1 b j ∧ g1.2.1 b j = g.2.1 b j := ⟨a.1 b j (by unfold SRm SN; omega), a.2.1 b j (by unfold SRm SN; omega)⟩
theorem m_nH {g g1 : sm_H} (a : agr SRm g g1) : nH g1 = nH g := by show tn _ = tn _; rw [a.1 67 18 (by unfold SRm SN; omega)]
theorem m_nT {g g1 : sm_H} (a : agr SRm g g1) : nT g1 = nT g := by show tn _ = tn _; rw [a.1 67 10 (by unfold SRm SN; omega)]
theorem m_nC {g g1 : sm_H} (a : agr SRm g g1) : nC g1 = nC g := by show tn _ = tn _; rw [a.1 67 6 (by unfold SRm SN; omega)]
theorem m_nM {g g1 : sm_H} (a : agr SRm g g1) : nM g1 = nM g := by show tn _ = tn _; rw [a.1 67 32 (by unfold SRm SN; omega)]
theorem m_ty {g g1 : sm_H} (a : agr SRm g g1) (x : Nat) : ty g1 x = ty g x := by show tn _ = tn _; rw [(m_c a (by decide) (by decide)).1]
theorem m_fm {g g1 : sm_H} (a : agr SRm g g1) (x : Nat) : fm g1 x = fm g x := by show tn _ = tn _; rw [(m_c a (by decide) (by decide)).1]
theorem m_tM {g g1 : sm_H} (a : agr SRm g g1) (t : Nat) : tM g1 t = tM g t := by show tn _ = tn _; rw [(m_c a (by decide) (by decide)).1]
theorem m_rs {g g1 : sm_H} (a : agr SRm g g1) (t : Nat) : rs g1 t = rs g t := (m_c a (by decide) (by decide)).1
theorem m_pl {g g1 : sm_H} (a : agr SRm g g1) (t : Nat) : pl g1 t = pl g t := by
  show lst _ (tM g1 t) = lst _ (tM g t)
  rw [m_tM a]; exact lst_congr (fun k _ => (m_c a (by decide) (by decide)).1)
theorem m_hpl {g g1 : sm_H} (a : agr SRm g g1) (x : Nat) : hpl g1 x = hpl g x := by show pl g1 (ty g1 x) = _; rw [m_ty a, m_pl a]
theorem m_hrs {g g1 : sm_H} (a : agr SRm g g1) (x : Nat) : hrs g1 x = hrs g x := by show rs g1 (ty g1 x) = _; rw [m_ty a, m_rs a]
theorem m_pm {g g1 : sm_H} (a : agr SRm g g1) (x : Nat) : pm g1 x = pm g x := by show tn _ = tn _; rw [(m_c a (by decide) (by decide)).1]
theorem m_prt {g g1 : sm_H} (a : agr SRm g g1) (x : Nat) : prt g1 x = prt g x := by
  show lst _ (pm g1 x) = lst _ (pm g x)
  rw [m_pm a]; exact lst_congr (fun k _ => (m_c a (by decide) (by decide)).1)
theorem m_B {g g1 : sm_H} (a : agr SRm g g1) (x o : Nat) : B g1 x o = B g x o := B_par (fun c => by show tn (g1.1 70 c) = tn (g.1 70 c); rw [(m_c a (by decide) (by decide)).1]) x o
theorem tyV_grow {g g1 : sm_H} (wK : wfK g) (G : grow g g1) {ks : List Int32} {vs : List Val} (h : tyV g ks vs) : tyV g1 ks vs := ⟨h.1, fun i hi => okV_grow wK G (h.2 i hi)⟩
abbrev SC1 (d b j : Nat) : Prop := (b = 49 ∧ (j = 9 ∨ j = 10)) ∨ ((b = 50 ∨ b = 51) ∧ 16 * d + 10 ≤ j)
abbrev SG (d T b j : Nat) : Prop := SP T b j ∨ ((b = 104 ∨ b = 106 ∨ b = 107) ∧ j = d) ∨ (b = 67 ∧ (j = 48 ∨ j = 49 ∨ (60 ≤ j ∧ j ≤ 63)))
theorem SG_N (d T b j : Nat) (z : SG d T b j) : SN b j := by unfold SG SP at z; unfold SN; omega
section
variable {d fuel s0 x vp p s : Nat} {vs : List Val} {h0 g0 h g : sm_H}
theorem Fr.v10 (F : Fr d fuel s0 x vp vs h0 g0 h g p s) : vs.length ≤ 10 := by
  rw [F.ty.1]
  have := mn_10 F.m.k (p := x) (by rw [m_nH F.ar]; exact F.x1)
  rw [m_hpl F.ar] at this; exact this
theorem Fr.hx (F : Fr d fuel s0 x vp vs h0 g0 h g p s) : x < nH g := by rw [m_nH F.ar]; exact F.x1
theorem Fr_h (F : Fr d fuel s0 x vp vs h0 g0 h g p s) {h' : sm_H} (a : agr (SC1 d) h h') (r : h'.2.2 = h.2.2) : Fr d fuel s0 x vp vs h0 g0 h' g p s := by
  have v10 := F.v10
  obtain ⟨m, b, lt, d1, x1, c56, c103, c105, c64, vl, ty, fr, st, ac, ar, gr, kc, kr⟩ := F
  refine ⟨⟨K1_mach m.k (agr_mono (fun b j z => by unfold SC1 at z; unfold SM; omega) a) r, (a.1 49 7 (by unfold SC1; omega)).trans m.hf, m.gf, (a.1 49 8 (by unfold SC1; omega)).trans m.hs, m.gs, m.le, m.fm⟩, b, lt, d1, x1, c56, c103, c105, c64, vl, ty, fun i hi => ?_, st, agr3_trans ac (agr3_of (agr_mono (fun b j z => by unfold SC1 at z; unfold SCm; omega) a)), ar, gr, keepC_trans kc (fun k hk => ⟨a.2.1 50 k (by unfold SC1; omega), a.1 51 k (by unfold SC1; omega)⟩), kr⟩
  rw [a.2.1 50 _ (by unfold SC1; omega), a.1 51 _ (by unfold SC1; omega)]
  exact fr i hi
theorem Fr_g (F : Fr d fuel s0 x vp vs h0 g0 h g p s) {g' : sm_H} (a : agr (SG d (vp + vs.length)) g g') : Fr d fuel s0 x vp vs h0 g0 h g' p s := by
  obtain ⟨m, b, lt, d1, x1, c56, c103, c105, c64, vl, ty, fr, st, ac, ar, gr, kc, kr⟩ := F
  have aN : agr SN g g' := agr_mono (SG_N _ _) a
  refine ⟨⟨K1_N m.k aN, m.hf, (a.1 67 65 (by unfold SG SP; omega)).trans m.gf, m.hs, (a.1 67 66 (by unfold SG SP; omega)).trans m.gs, m.le, m.fm⟩, b, lt, d1, x1, (a.1 67 56 (by unfold SG SP; omega)).trans c56, (a.1 103 d (by unfold SG SP; omega)).trans c103, (a.1 105 d (by unfold SG SP; omega)).trans c105, (a.1 67 64 (by unfold SG SP; omega)).trans c64, vl, tyV_grow m.k.1 (grow_N aN) ty, fr, fun i hi => ?_, ac, agr_trans ar (agr_mono (fun _ _ z => Or.inl z) aN), grow_trans gr (grow_N aN), kc, keepR_trans kr ⟨fun c i h1 h2 hi => a.1 c i (by unfold SG SP; omega), fun k hk => ⟨a.1 108 k (by unfold SG SP; omega), a.2.1 109 k (by unfold SG SP; omega)⟩⟩⟩
  rw [a.1 108 _ (by unfold SG SP; omega), a.2.1 109 _ (by unfold SG SP; omega)]
  exact st i hi
theorem Fr_sub {rec : Int32 → Int32 → sm_H → Option (Int32 × sm_H)} (IH : CallOK (d + 1) rec) (F : Fr d fuel s0 x vp vs h0 g0 h g p s) {y T : Nat} {ws : List Val} (y1 : y < nH g0) (t1 : vp + vs.length ≤ T) (t2 : T ≤ vp + vs.length + 10) (c59 : g.1 67 59 = I3 (T + ws.length)) (ft : frm h (d + 1) ws) (sw : stk g T ws) (tw : tyV g (hpl g0 y) ws) :
    ∃ u, F_344 (I3 y) g = some u ∧ ((∃ out h1 g1 c s1, out ≤ 1 ∧ rec (I3 y) (I3 (d + 1)) h = some (I3 out, h1) ∧ Lp c u g1 ∧ Fr d fuel s0 x vp vs h0 g0 h1 g1 (p + 1 + c) s1 ∧ g1.1 67 59 = I3 T ∧ g1.1 67 63 = 1 ∧ g1.1 67 62 = I3 out ∧ res h1 g1 out (tn (hrs g0 y)) ∧ keepR (d + 1) T g g1 ∧ agr SRm g g1 ∧ grow g g1 ∧ keepC (d + 1) h h1 ∧ agr3 SCm h h1) ∨
      (∃ out h1, 2 ≤ out ∧ out ≤ 4 ∧ rec (I3 y) (I3 (d + 1)) h = some (I3 out, h1) ∧ ∀ rk, Ends d fuel s0 vp rk h0 g0 (p + 1) (some (I3 out, h1)) u)) := by
  have v10 := F.v10
  have y1' : y < nH g := by rw [m_nH F.ar]; exact y1
  have vl := F.vl
  obtain ⟨u, e1, e2⟩ := IH h g fuel s y T ws F.m y1' F.c56 c59 F.c64 (by omega) (by rw [m_hpl F.ar]; exact tw) ft sw
  obtain ⟨out, h1, g1, c, s1, o1, o2, o3, o4, o5, o6, o7, o8, o9⟩ := e2
  have b := F.b
  have lt := F.lt
  refine ⟨u, e1, ?_⟩
  rcases o9 with ⟨q1, q2, q3, q4, q5, q6, q7, q8, q9⟩ | ⟨q1, q2, q3, q4⟩
  · left
    refine ⟨out, h1, g1, c, s1, q1, o1, o2, ?_, q4, q6, q7, by rw [← m_hrs F.ar]; exact q9, q8, o6, o7, o8, o5⟩
    refine ⟨o3, by omega, by omega, F.d1, F.x1, q3, (q8.1 103 d (by decide) (by decide) (by omega)).trans F.c103, (q8.1 105 d (by decide) (by decide) (by omega)).trans F.c105, q5, vl, tyV_grow F.m.k.1 o7 F.ty, fun i hi => ?_, fun i hi => ?_, agr3_trans F.ac o5, agr_trans F.ar o6, grow_trans F.gr o7, keepC_trans F.kc (keepC_mono o8 (by omega)), keepR_trans F.kr (keepR_mono q8 (by omega) (by omega))⟩
    · have := o8 (16 * d + i) (by omega)
      rw [this.1, this.2]; exact F.fr i hi
    · have := q8.2 (vp + i) (by omega)
      rw [this.1, this.2]; exact F.st i hi
  · right
    refine ⟨out, h1, q1, q2, o1, fun rk => ⟨out, h1, g1, c, s1, rfl, o2, o3, by omega, agr3_trans F.ac o5, agr_trans F.ar o6, grow_trans F.gr o7, keepC_trans F.kc (keepC_mono o8 (by omega)), Or.inr ⟨q1, q2, by omega, q4⟩⟩⟩
end
theorem Ends_step {d fuel s0 vp rk p : Nat} {h0 g0 u u' : sm_H} {r : Option (Int32 × sm_H)} (L : Lp 1 u u') (E : Ends d fuel s0 vp rk h0 g0 (p + 1) r u') : Ends d fuel s0 vp rk h0 g0 p r u := by
  obtain ⟨out, h1, g1, c, s1, o1, o2, o3, o4, o5, o6, o7, o8, o9⟩ := E
  refine ⟨out, h1, g1, 1 + c, s1, o1, Lp_trans L o2, o3, o4, o5, o6, o7, o8, ?_⟩
  rcases o9 with ⟨q1, q2, q3⟩ | ⟨q1, q2, q3, q4⟩
  · exact Or.inl ⟨q1, by omega, q3⟩
  · exact Or.inr ⟨q1, q2, by omega, q4⟩
theorem step_enter {g u : sm_H} {d : Nat} (hd : d < 1000) (c64 : g.1 67 64 = 0) (c56 : g.1 67 56 = I3 (d + 1)) (c63 : g.1 67 63 = 0) (e : F_370 g = some u) : Lp 1 g u := fun m => by
  refine lp_1 ?_
  unfold F_379_0B
  rw [if_pos c64, if_neg (by rw [c56, I3_lit, I3_le (by omega) (by decide)]; omega), if_pos c63, e]; rfl
theorem step_goOn {g u : sm_H} {d : Nat} (hd : d < 1000) (c64 : g.1 67 64 = 0) (c56 : g.1 67 56 = I3 (d + 1)) (c63 : g.1 67 63 = 1) (e : F_377 g = some u) : Lp 1 g u := fun m => by
  refine lp_1 ?_
  unfold F_379_0B
  rw [if_pos c64, if_neg (by rw [c56, I3_lit, I3_le (by omega) (by decide)]; omega), if_neg (by rw [c63]; decide), e]; rfl
