abbrev SZ (d b j : Nat) : Prop := S910 b j ∨ SL (d + 1) b j
abbrev Lz (h h' : sm_H) (d : Nat) (ws : List Val) : Prop := (agr (SZ d) h h') ∧ (frm h' (d + 1) ws) ∧ (h'.2.2 = h.2.2)
theorem Lz.a {h h' : sm_H} {d : Nat} {ws : List Val} (F_ : Lz h h' d ws) : agr (SZ d) h h' := F_.1
theorem Lz.f {h h' : sm_H} {d : Nat} {ws : List Val} (F_ : Lz h h' d ws) : frm h' (d + 1) ws := F_.2.1
theorem Lz.r {h h' : sm_H} {d : Nat} {ws : List Val} (F_ : Lz h h' d ws) : h'.2.2 = h.2.2 := F_.2.2
theorem SZ_1 (d b j : Nat) (z : SZ d b j) : SC1 d b j := by unfold SZ S910 SL at z; unfold SC1; omega
def contA (rec : Int32 → Int32 → sm_H → Option (Int32 × sm_H)) (y t d : Nat) (f : Bool) (h : sm_H) : Option (Int32 × sm_H) :=
  (rec (I3 y) (I3 (d + 1)) h).bind fun q2 => if q2.1 = 0 then ((F_44 (I3 y) q2.2).bind fun q3 => (F_225 (I3 t) q3.2).bind fun q4 => (F_90 q3.1 q4.1 (b2 f) q4.2).bind fun q5 => if q5.1 = 0 then some (0, q5.2) else ((F_76 q5.1 q5.2).bind fun q6 => some (q6.1, q6.2))) else some (q2.1, q2.2)
section
variable {d fuel s0 x vp p s : Nat} {vs : List Val} {h0 g0 h g : sm_H}
theorem Fr_Lz (F : Fr d fuel s0 x vp vs h0 g0 h g p s) {h' : sm_H} {ws : List Val} (L : Lz h h' d ws) : Fr d fuel s0 x vp vs h0 g0 h' g p s := Fr_h F (agr_mono (SZ_1 d) L.a) L.r
theorem Lz_Ly {h h' : sm_H} {ws : List Val} (L : Lz h h' d ws) : Ly h' h' (d + 1) ws := ⟨agr_rfl, L.f, rfl⟩
theorem Lz_0 (h : sm_H) (d : Nat) : Lz h h d [] := ⟨agr_rfl, (fun i hi => by cases hi), rfl⟩
theorem Lz_cv {h h' h2 : sm_H} {d : Nat} {ws : List Val} (L : Lz h h' d ws) (c : agr S910 h' h2) (r : h2.2.2 = h'.2.2) : Lz h h2 d ws := ⟨agr_trans L.a (agr_mono (fun _ _ z => Or.inl z) c), fun i hi => by rw [c.2.1 50 _ (by unfold S910; omega), c.1 51 _ (by unfold S910; omega)]; exact L.f i hi, r.trans L.r⟩
theorem Lz_lay {h h' : sm_H} {d : Nat} {ws : List Val} (L : Lz h h' d ws) (hd : d < 100) (hw : ws.length < 16) (v : Val) : ∃ h2, F_79 (I3 (d + 1)) (I3 ws.length) v.2 (tag v.1) h' = some h2 ∧ Lz h h2 d (ws ++ [v]) := by
  obtain ⟨h2, a1, L2⟩ := C_lay1 (Lz_Ly L) (by omega) hw v
  exact ⟨h2, a1, ⟨agr_trans L.a (agr_mono (fun _ _ z => Or.inr z) L2.a), L2.f, L2.r.trans L.r⟩⟩
theorem asLoop (rec : Int32 → Int32 → sm_H → Option (Int32 × sm_H)) (F : Fr d fuel s0 x vp vs h0 g0 h g p s) (c59 : g.1 67 59 = I3 (vp + vs.length)) {y t i : Nat} (f : Bool) (y1 : y < nH g0) (t1 : t < nT g0) (lt : tM g0 t = (hpl g0 y).length) (hi : i + (hpl g0 y).length ≤ vs.length) (ks : ∀ k, k < (hpl g0 y).length → at0 (hpl g0 x) (i + k) = at0 (pl g0 t) k) (may : ∀ k, k < (hpl g0 y).length → mayB g0 (tP g0 t k) (tn (at0 (hpl g0 y) k)) f false = true) :
    (∃ h' g' ws, F_89 rec (I3 y) (I3 t) (I3 i) (I3 d) (b2 f) h = contA rec y t d f h' ∧ F_356 (I3 y) (I3 t) (b2 f) (I3 i) g = some (1, g') ∧ Lz h h' d ws ∧ Ph g g' (vp + vs.length) ws ∧ tyV g (hpl g0 y) ws) ∨
    (∃ (e : Int32) (h' g' : sm_H) (ws us : List Val), (e = 1 ∨ e = 2) ∧ F_89 rec (I3 y) (I3 t) (I3 i) (I3 d) (b2 f) h = ((F_76 e h').bind fun q15 => some (q15.1, q15.2)) ∧ F_356 (I3 y) (I3 t) (b2 f) (I3 i) g = ((F_348 e g').bind fun q9 => some (0, q9)) ∧ Lz h h' d ws ∧ Ph g g' (vp + vs.length) us) := by
  have d1 := F.d1
  have v10 := F.v10
  have vl := F.vl
  have h12 := F.m.k.1.2.1
  have wT := F.m.k.2.2.1
  have w300 : nT g ≤ 300 := wT.1.2
  have t1' : t < nT g := by rw [m_nT F.ar]; exact t1
  have y1' : y < nH g := by rw [m_nH F.ar]; exact y1
  have kt : ∀ k, k < (hpl g0 y).length → ∃ a, at0 (pl g0 t) k = I3 a ∧ a < 20 + nC g ∧ tP g0 t k = a := fun k hk => by
    obtain ⟨a, a1, a2, a3⟩ := kL_pl wT t1' k (by rw [m_pl F.ar, pl_len]; omega)
    rw [m_pl F.ar] at a1
    refine ⟨a, a1, a3, ?_⟩
    rw [at0_lst (by omega)] at a1
    show tn (g0.1 74 (10 * t + k)) = a
    rw [a1, tnI (by omega)]
  have ky : ∀ k, k < (hpl g0 y).length → ∃ b, at0 (hpl g0 y) k = I3 b ∧ b < 20 + nC g := fun k hk => by
    obtain ⟨a, a1, a2, a3⟩ := kL_h F.m.k y1' k (by rw [m_hpl F.ar]; exact hk)
    rw [m_hpl F.ar] at a1
    exact ⟨a, a1, a3⟩
  have mg : ∀ a b, mayB g a b f false = mayB g0 a b f false := fun a b => by unfold mayB; rw [m_B F.ar]
  have LL : ∀ k, k ≤ (hpl g0 y).length → (∃ h' g' ws, F_89 rec (I3 y) (I3 t) (I3 i) (I3 d) (b2 f) h = lp (F_89_3B rec) (1000000 - k) (I3 y, I3 t, I3 i, I3 d, b2 f, I3 k, h') ∧ F_356 (I3 y) (I3 t) (b2 f) (I3 i) g = lp F_356_19B (1000000 - k) (I3 y, I3 t, b2 f, I3 (vp + i), I3 k, g') ∧ Lz h h' d ws ∧ Ph g g' (vp + vs.length) ws ∧ ws.length = k ∧ (∀ j, j < k → okV g (tn (at0 (hpl g0 y) j)) (atv ws j).1 (atv ws j).2)) ∨ (∃ (e : Int32) (h' g' : sm_H) (ws us : List Val), (e = 1 ∨ e = 2) ∧ F_89 rec (I3 y) (I3 t) (I3 i) (I3 d) (b2 f) h = ((F_76 e h').bind fun q15 => some (q15.1, q15.2)) ∧ F_356 (I3 y) (I3 t) (b2 f) (I3 i) g = ((F_348 e g').bind fun q9 => some (0, q9)) ∧ Lz h h' d ws ∧ Ph g g' (vp + vs.length) us) := by
    intro k
    induction k with
    | zero =>
      intro _
      left
      refine ⟨h, g, [], rfl, ?_, Lz_0 h d, Ph_0 c59, rfl, fun j hj => by omega⟩
      show F_356_0 (I3 y) (I3 t) (b2 f) (I3 i) g = _
      unfold F_356_0
      rw [F.c56, show I3 (d + 1) - 1 = I3 d from I3_sub (a := d + 1) (b := 1) (by omega), F.l105]; simp only [obs]
      rw [I3_add]; rfl
    | succ k ih =>
      intro hk
      rcases ih (by omega) with good | bad
      rotate_left
      · exact Or.inr bad
      obtain ⟨h', g', ws, e1, e2, L, P, wl, wt⟩ := good
      obtain ⟨a, a1, a2, a3⟩ := kt k (by omega)
      obtain ⟨b, b1, b2'⟩ := ky k (by omega)
      have Fh := Fr_Lz F L
      have Fg := Fr_Ph Fh (Nat.le_refl _) P
      have Fg0 := Fr_Ph F (Nat.le_refl _) P
      have mk := may k (by omega)
      rw [a3, b1, tnI (by omega)] at mk
      have okx := F.ty.2 (i + k) (by omega)
      rw [ks k (by omega), a1, tnI (by omega)] at okx
      have ha9 : agr S910 h' (sm_wI (sm_wJ h' 49 9 (atv vs (i + k)).2) 49 10 (tag (atv vs (i + k)).1)) := agr_wI (agr_wJ agr_rfl (by unfold S910; omega)) (by unfold S910; omega)
      have Fh2 := Fr_Lz F (Lz_cv L ha9 rfl)
      have gg' : grow g g' := grow_N (agr_mono (fun b j z => by unfold SP at z; unfold SN; omega) P.a)
      have K2 : K1 (sm_wI (sm_wJ h' 49 9 (atv vs (i + k)).2) 49 10 (tag (atv vs (i + k)).1)) g' := (Fr_Ph Fh2 (Nat.le_refl _) P).m.k
      have nC' : nC g' = nC g := by rw [m_nC Fg0.ar, m_nC F.ar]
      have hB : (F_89_3B rec (I3 y, I3 t, I3 i, I3 d, b2 f, I3 k, h')) = ((F_90 (I3 a) (I3 b) (b2 f) (sm_wI (sm_wJ h' 49 9 (atv vs (i + k)).2) 49 10 (tag (atv vs (i + k)).1))).bind fun q12 => if q12.1 = 0 then ((F_79 (I3 (d + 1)) (I3 k) (q12.2.2.1 49 9) (q12.2.1 49 10) q12.2).bind fun q13 => some (.inl (I3 y, I3 t, I3 i, I3 d, b2 f, I3 (k + 1), q13))) else ((F_76 q12.1 q12.2).bind fun q15 => some (.inr (q15.1, q15.2)))) := by
        unfold F_89_3B
        rw [Fh.cmn y1]; simp only [obs]
        rw [if_neg (by rw [I3_le (by omega) (by omega)]; omega), I3_add, Fh.c77 (by omega)]; simp only [obs]
        rw [Fh.c78 (by omega)]; simp only [obs]
        rw [show F_75 (atv vs (i + k)).2 (tag (atv vs (i + k)).1) h' = some (0, sm_wI (sm_wJ h' 49 9 (atv vs (i + k)).2) 49 10 (tag (atv vs (i + k)).1)) from rfl]; simp only [obs]
        rw [C_tplace Fh2.m.k.2.2.1 Fh2.m.k.2.2.2.1 t1' (by rw [m_tM F.ar]; omega)]; simp only [obs]
        rw [C_pc Fh2.m.k y1' (by rw [m_hpl F.ar]; omega), m_hpl F.ar, b1, (m_c F.ar (show 70 ≤ 74 by decide) (by decide)).1]
        have : g0.1 74 (10 * t + k) = I3 a := by rw [at0_lst (by omega)] at a1; exact a1
        rw [this]; simp only [obs]
        rw [show I3 d + 1 = I3 (d + 1) from I3_add d 1, show I3 k + 1 = I3 (k + 1) from I3_add k 1]
      have gB : F_356_19B (I3 y, I3 t, b2 f, I3 (vp + i), I3 k, g') = ((F_300 (I3 a) (I3 b) (atv vs (i + k)).1 (atv vs (i + k)).2 (b2 f) g').bind fun q6 => if q6.1 = 0 then ((F_342 (q6.2.1 67 48) (q6.2.2.1 67 49) q6.2).bind fun q7 => some (.inl (I3 y, I3 t, b2 f, I3 (vp + i), I3 (k + 1), q7))) else ((F_348 q6.1 q6.2).bind fun q9 => some (.inr (0, q9)))) := by
        unfold F_356_19B
        rw [Fg.mn y1]; simp only [obs]
        rw [if_neg (by rw [I3_le (by omega) (by omega)]; omega), show (10 : Int32) * I3 t + I3 k = I3 (10 * t + k) by rw [I3_lit, I3_mul, I3_add], ldI_I (show 10 * t + k < 3000 by omega) (by decide), (m_c Fg.ar (show 70 ≤ 74 by decide) (by decide)).1]
        have : g0.1 74 (10 * t + k) = I3 a := by rw [at0_lst (by omega)] at a1; exact a1
        rw [this]; simp only [obs]
        rw [R_pc Fg.m.k (by rw [m_nH Fg.ar]; exact y1) (by rw [m_hpl Fg.ar]; omega), m_hpl Fg.ar, b1]; simp only [obs]
        have S2 := Fg.st (i + k) (by omega)
        rw [I3_add, ldI_I (by omega) (by decide), ldJ_I (by omega) (by decide), show vp + i + k = vp + (i + k) by omega, S2.1, S2.2]; simp only [obs]
        rw [show I3 k + 1 = I3 (k + 1) from I3_add k 1]
      rcases conv K2 (a := a) (b := b) (by omega) (by omega) f (okV_grow F.m.k.1 gg' okx) (r := false) (by rw [show mayB g' a b f false = mayB g0 a b f false by unfold mayB; rw [m_B Fg0.ar]]; exact mk) rfl rfl with ⟨h3, g3, z1, z2, z3⟩ | ⟨e, h3, g3, ee, z1, z2, z3, z4, z5⟩
      · left
        have L3 := Lz_cv (Lz_cv L ha9 rfl) z3.c z3.r
        obtain ⟨h4, a4, L4⟩ := Lz_lay L3 d1 (by omega) (g3.1 67 48, g3.2.1 67 49)
        obtain ⟨g4, b4, P4⟩ := R_push (Ph_48 P z3.a) (by omega) (g3.1 67 48, g3.2.1 67 49)
        refine ⟨h4, g4, _, ?_, ?_, L4, P4, by rw [List.length_append, wl]; rfl, fun j hj => ?_⟩
        · rw [e1, lp_s (n := 1000000 - k) (s' := (I3 y, I3 t, I3 i, I3 d, b2 f, I3 (k + 1), h4)) (by omega) ?_]
          · rw [show 1000000 - k - 1 = 1000000 - (k + 1) by omega]
          · rw [hB, z1]; simp only [obs]
            rw [if_pos trivial, z3.n, z3.t]
            rw [wl] at a4
            rw [a4]; simp only [obs]
        · rw [e2, lp_s (n := 1000000 - k) (s' := (I3 y, I3 t, b2 f, I3 (vp + i), I3 (k + 1), g4)) (by omega) ?_]
          · rw [show 1000000 - k - 1 = 1000000 - (k + 1) by omega]
          · rw [gB, z2]; simp only [obs]
            rw [if_pos trivial, b4]; simp only [obs]
        · by_cases q : j < k
          · rw [atv_app1 (by omega)]; exact wt j q
          · have : j = k := by omega
            subst this
            rw [atv_app2 (by omega), wl, Nat.sub_self, b1, tnI (by omega)]
            have ok3 := z3.ok
            refine okV_grow Fg.m.k.1 ?_ ok3
            exact ⟨by rw [nC']; exact Nat.le_refl _, by show tn (g'.1 67 45) ≤ tn (g.1 67 45); rw [P.a.1 67 45 (by unfold SP; omega)]; exact Nat.le_refl _, by rw [m_nH Fg0.ar, m_nH F.ar]; exact Nat.le_refl _, fun t ht => (P.a.1 96 t (by unfold SP; omega)).symm, fun c hc => (P.a.1 70 c (by unfold SP; omega)).symm⟩
      · right
        refine ⟨e, h3, g3, ws, ws, ee, ?_, ?_, Lz_cv (Lz_cv L ha9 rfl) z4 z5, Ph_48 P z3⟩
        · have ne : ¬ e = 0 := by rcases ee with rfl | rfl <;> decide
          rw [e1]
          rw [z1] at hB; simp only [obs] at hB
          rw [if_neg ne] at hB
          exact lp_e (by omega) hB
        · have ne : ¬ e = 0 := by rcases ee with rfl | rfl <;> decide
          rw [e2]
          rw [z2] at gB; simp only [obs] at gB
          rw [if_neg ne] at gB
          cases q : F_348 e g3 with
          | none =>
            rw [q] at gB
            have := lp_n (n := 1000000 - k - 1) gB
            rw [show 1000000 - k - 1 + 1 = 1000000 - k by omega] at this; exact this
          | some u => rw [q] at gB; exact lp_e (by omega) gB
  rcases LL _ (Nat.le_refl _) with ⟨h', g', ws, e1, e2, L, P, wl, wt⟩ | bad
  · left
    have Fh := Fr_Lz F L
    have Fg := Fr_Ph Fh (Nat.le_refl _) P
    refine ⟨h', g', ws, ?_, ?_, L, P, ⟨wl, fun j hj => wt j (by omega)⟩⟩
    · rw [e1]
      have fin : ∀ (r : Option (Int32 × sm_H)), F_89_3B rec (I3 y, I3 t, I3 i, I3 d, b2 f, I3 (hpl g0 y).length, h') = r.map (fun q => .inr q) → lp (F_89_3B rec) (1000000 - (hpl g0 y).length) (I3 y, I3 t, I3 i, I3 d, b2 f, I3 (hpl g0 y).length, h') = r := fun r z => by
        cases r with
        | none =>
          have := lp_n (n := 1000000 - (hpl g0 y).length - 1) z
          rw [show 1000000 - (hpl g0 y).length - 1 + 1 = 1000000 - (hpl g0 y).length by omega] at this; exact this
        | some r => exact lp_e (by omega) z
      refine fin _ ?_
      unfold F_89_3B contA F_89_163
      rw [Fh.cmn y1]; simp only [obs]
      rw [if_pos (by rw [I3_le (by omega) (by omega)]; omega), show I3 d + 1 = I3 (d + 1) from I3_add d 1]
      cases rec (I3 y) (I3 (d + 1)) h' with
      | none => rfl
      | some q2 =>
        simp only [obs]
        by_cases q0 : q2.1 = 0
        · rw [if_pos q0, if_pos q0]
          cases F_44 (I3 y) q2.2 with
          | none => rfl
          | some q3 =>
            simp only [obs]
            cases F_225 (I3 t) q3.2 with
            | none => rfl
            | some q4 =>
              simp only [obs]
              cases F_90 q3.1 q4.1 (b2 f) q4.2 with
              | none => rfl
              | some q5 =>
                simp only [obs]
                by_cases q1 : q5.1 = 0
                · rw [if_pos q1, if_pos q1]; first | rfl | done
                · rw [if_neg q1, if_neg q1]; rfl
        · rw [if_neg q0, if_neg q0]; rfl
    · rw [e2]
      refine lp_e (by omega) ?_
      unfold F_356_19B
      rw [Fg.mn y1]; simp only [obs]
      rw [if_pos (by rw [I3_le (by omega) (by omega)]; omega)]
  · exact Or.inr bad
end
