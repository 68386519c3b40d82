def oK {σ ρ : Type} (body : σ → Option (σ ⊕ ρ)) (f : Nat) (r : Option (σ ⊕ ρ)) : Option ρ := match r with
  | none => none
  | some (.inl s) => lp body f s
  | some (.inr q) => some q
theorem lp_oK {σ ρ : Type} {body : σ → Option (σ ⊕ ρ)} {f : Nat} {s : σ} (hf : 0 < f) : lp body f s = oK body (f - 1) (body s) := by
  obtain ⟨f, rfl⟩ : ∃ q, f = q + 1 := ⟨f - 1, by omega⟩
  rw [show f + 1 - 1 = f by omega]
  have e : lp body (f + 1) s = (match body s with | none => none | some (.inl s') => lp body f s' | some (.inr r) => some r) := rfl
  rw [e]
  unfold oK
  cases body s with
  | none => rfl
  | some v => cases v <;> rfl
theorem oK_bind {α σ ρ : Type} {body : σ → Option (σ ⊕ ρ)} {f : Nat} (r : Option α) (K : α → Option (σ ⊕ ρ)) : oK body f (r.bind K) = r.bind fun q => oK body f (K q) := by cases r <;> rfl
theorem div4 {n : Nat} (h : n ≤ 4) : I3 (4 * n) / 4 = I3 n := by
  rcases (show n = 0 ∨ n = 1 ∨ n = 2 ∨ n = 3 ∨ n = 4 by omega) with rfl | rfl | rfl | rfl | rfl <;> decide
theorem vrs_g (g : sm_H) (ps : List Int32) (i : Nat) : (vrs g ps (i + 1)).length = (vrs g ps i).length + gone (vk g ps i) := by
  rw [vrs_s, List.length_append]
  unfold gone
  by_cases q : vk g ps i = 0
  · rw [if_pos q, if_pos q]; rfl
  · rw [if_neg q, if_neg q]; rfl
theorem vrs_pre (g : sm_H) (ps : List Int32) {i n : Nat} (h : i ≤ n) : ∃ l, vrs g ps n = vrs g ps i ++ l := by
  induction n with
  | zero => obtain rfl : i = 0 := by omega
            exact ⟨[], (List.append_nil _).symm⟩
  | succ n ih =>
    by_cases q : i = n + 1
    · exact ⟨[], by rw [q, List.append_nil]⟩
    · obtain ⟨l, e⟩ := ih (by omega)
      exact ⟨l ++ (if vk g ps n = 0 then [] else [vk g ps n]), by rw [vrs_s, e, List.append_assoc]⟩
theorem vrs_at (g : sm_H) (ps : List Int32) {i n : Nat} (h : i < n) (nz : vk g ps i ≠ 0) : (vrs g ps i).length < (vrs g ps n).length ∧ at0 (vrs g ps n) (vrs g ps i).length = vk g ps i := by
  obtain ⟨l, e⟩ := vrs_pre g ps (show i + 1 ≤ n from h)
  rw [vrs_s, if_neg nz, List.append_assoc] at e
  rw [e]
  constructor
  · rw [List.length_append, List.length_append]; simp only [List.length_cons]; omega
  · rw [at0_app2 (Nat.le_refl _), Nat.sub_self]; rfl
theorem atv_set {us : List Val} {j i : Nat} {v : Val} (hj : j < us.length) : atv (us.set j v) i = if i = j then v else atv us i := by
  unfold atv
  rw [List.getD_eq_getElem?_getD, List.getD_eq_getElem?_getD, List.getElem?_set]
  by_cases q : j = i
  · subst q; rw [if_pos rfl, if_pos hj, if_pos rfl]; rfl
  · rw [if_neg q, if_neg (fun z => q z.symm)]
theorem LV_set {d vp vi : Nat} {ks : List Int32} {vs us : List Val} {h g : sm_H} (wK : wfK g) (V : LV d vp ks vs us h g) (hv : vi < us.length) (v : Val) (ok : okV g (tn (at0 ks vi)) v.1 v.2) : LV d vp ks vs (us.set vi v) (sm_wI (sm_wJ h 50 (16 * d + (10 + vi)) v.2) 51 (16 * d + (10 + vi)) (tag v.1)) (sm_wJ (sm_wI g 108 (vp + vs.length + vi) v.1) 109 (vp + vs.length + vi) v.2) := by
  have G : grow g (sm_wJ (sm_wI g 108 (vp + vs.length + vi) v.1) 109 (vp + vs.length + vi) v.2) := grow_N (agr_wJ (agr_wI agr_rfl (by unfold SN; omega)) (by unfold SN; omega))
  refine ⟨fun i hi => ?_, fun i hi => ?_, ⟨by rw [List.length_set]; exact V.2.2.1.1, fun i hi => ?_⟩, by rw [List.length_set]; exact V.2.2.2⟩
  · rw [List.length_set] at hi
    rw [wJ_1, wJ_rd, wI_rd, wI_1, atv_set hv]
    by_cases q : i = vi
    · rw [if_pos q, if_pos (by omega), if_pos (by omega)]; exact ⟨rfl, rfl⟩
    · rw [if_neg q, if_neg (by omega), if_neg (by omega)]; exact V.1 i hi
  · rw [List.length_set] at hi
    rw [wI_1, wI_rd, wJ_rd, wJ_1, atv_set hv]
    by_cases q : i = vi
    · rw [if_pos q, if_pos (by omega), if_pos (by omega)]; exact ⟨rfl, rfl⟩
    · rw [if_neg q, if_neg (by omega), if_neg (by omega)]; exact V.2.1 i hi
  · rw [List.length_set] at hi
    rw [atv_set hv]
    by_cases q : i = vi
    · rw [if_pos q, q]; exact okV_grow wK G ok
    · rw [if_neg q]; exact okV_grow wK G (V.2.2.1.2 i hi)
def WC (rec : Int32 → Int32 → sm_H → Option (Int32 × sm_H)) (r i : Nat) (e : Option ((Int32 × Int32 × Int32 × Int32 × Int32 × Int32 × sm_H) ⊕ ((Int32 × Int32 × Int32 × Int32 × sm_H) ⊕ (Int32 × sm_H)))) : Option (Int32 × sm_H) := oK (F_96_9B rec) (1000000 - r - 1) (oK (F_96_23B rec) (1000000 - i - 1) e)
def RC (rec : Int32 → Int32 → sm_H → Option (Int32 × sm_H)) (x d c r vi i : Nat) (h : sm_H) : Option (Int32 × sm_H) := oK (F_96_9B rec) (1000000 - r - 1) (lp (F_96_23B rec) (1000000 - i) (I3 x, I3 d, I3 c, I3 r, I3 vi, I3 (4 * i), h))
theorem WC_bind {α : Type} {rec : Int32 → Int32 → sm_H → Option (Int32 × sm_H)} {r i : Nat} (q : Option α) (K : α → Option ((Int32 × Int32 × Int32 × Int32 × Int32 × Int32 × sm_H) ⊕ ((Int32 × Int32 × Int32 × Int32 × sm_H) ⊕ (Int32 × sm_H)))) : WC rec r i (q.bind K) = q.bind fun z => WC rec r i (K z) := by cases q <;> rfl
theorem RC_WC {rec : Int32 → Int32 → sm_H → Option (Int32 × sm_H)} {x d c r vi i : Nat} {h : sm_H} (hi : i ≤ 4) : RC rec x d c r vi i h = WC rec r i (F_96_23B rec (I3 x, I3 d, I3 c, I3 r, I3 vi, I3 (4 * i), h)) := by
  unfold RC WC
  rw [lp_oK (by omega)]
theorem WC_next {rec : Int32 → Int32 → sm_H → Option (Int32 × sm_H)} {x d c r vi i : Nat} {h : sm_H} : WC rec r i (some (.inl (I3 x, I3 d, I3 c, I3 r, I3 vi, I3 (4 * (i + 1)), h))) = RC rec x d c r vi (i + 1) h := by
  unfold RC WC
  rw [show 1000000 - (i + 1) = 1000000 - i - 1 by omega]; rfl
theorem WC_end {rec : Int32 → Int32 → sm_H → Option (Int32 × sm_H)} {r i : Nat} (q : Int32 × sm_H) : WC rec r i (some (.inr (.inr q))) = some q := rfl
theorem WC_round {rec : Int32 → Int32 → sm_H → Option (Int32 × sm_H)} {x d c r i : Nat} {h : sm_H} (hr : r < 10000) : WC rec r i (some (.inr (.inl (I3 x, I3 d, I3 c, I3 (r + 1), h)))) = RC rec x d c (r + 1) 0 0 h := by
  show lp (F_96_9B rec) (1000000 - r - 1) (I3 x, I3 d, I3 c, I3 (r + 1), h) = _
  rw [lp_oK (by omega)]
  unfold RC
  rw [show 1000000 - (r + 1) - 1 = 1000000 - r - 1 - 1 by omega]
  congr 1
  unfold F_96_9B
  rw [if_neg (by rw [I3_lit, I3_lt (by decide) (by omega)]; omega)]
  rfl
theorem C_149 (rec : Int32 → Int32 → sm_H → Option (Int32 × sm_H)) (y1 y2 y3 y4 y5 y6 y8 v : Int32) (h : sm_H) : F_96_149 rec y1 y2 y3 y4 y5 y6 y8 (I3 (gone v)) h = F_96_161 rec y1 y2 y3 y4 y6 y8 y5 (I3 (gone v)) h := by
  unfold F_96_149 gone
  by_cases q : v = 0
  · rw [if_pos q, if_pos (by decide)]; rfl
  · rw [if_neg q, if_neg (by decide)]; rfl
section
variable {d fuel s0 x vp p s : Nat} {vs : List Val} {h0 g0 h g : sm_H}
theorem R_next (F : Fr d fuel s0 x vp vs h0 g0 h g p s) {n i : Nat} (hn : (prt g0 x).length = 4 * n) (n4 : n ≤ 4) (hi : i < n) (c107 : g.1 107 d = I3 i) : F_375 (I3 d) (I3 x) g = some (sm_wI g 107 d (I3 (if i + 1 = n then 0 else i + 1))) := by
  have l107 : ldI g 107 100 (I3 d) = some (I3 i) := by rw [ldI_I F.d1 (by decide), c107]
  have e1 : I3 i + 1 = I3 (i + 1) := I3_add i 1
  show F_375_0 (I3 d) (I3 x) g = _
  unfold F_375_0 F_375_36
  simp only [l107, F.l80, hn, obs, div4 n4, e1]
  rw [if_neg (by decide)]
  by_cases q : i + 1 = n
  · rw [if_pos (by rw [q]), if_pos q, stI_I F.d1 (by decide)]; rfl
  · rw [if_neg (by rw [I3_inj (by omega) (by omega)]; exact q), if_neg q, stI_I F.d1 (by decide)]; rfl
theorem Fr.l374 (F : Fr d fuel s0 x vp vs h0 g0 h g p s) (k : Int32) : F_374 k g = lp F_374_17B 1000000 (I3 d, I3 x, k, g) := by
  show F_374_0 k g = _
  unfold F_374_0 F_374_17
  simp only [obs]
  rw [F.c56, show I3 (d + 1) - 1 = I3 d from I3_sub (a := d + 1) (b := 1) (by omega), F.l103]; simp only [obs]
theorem R_varAt (F : Fr d fuel s0 x vp vs h0 g0 h g p s) {n i : Nat} (L : LPt g0 (prt g0 x) n) (hi : i < n) : F_372 (I3 x) (I3 i) g = some (I3 (vrs g0 (prt g0 x) i).length, g) := by
  have n4 := L.n4
  have ll := L.l
  show lp F_372_5B 1000000 (I3 x, I3 i, 0, 0, g) = _
  refine lp_it i (fun k => (I3 x, I3 i, I3 (vrs g0 (prt g0 x) k).length, I3 k, g)) 1000000 (fun k hk => ?_) ?_ (by omega)
  · show F_372_5B (I3 x, I3 i, I3 (vrs g0 (prt g0 x) k).length, I3 k, g) = some (.inl (I3 x, I3 i, I3 (vrs g0 (prt g0 x) (k + 1)).length, I3 (k + 1), g))
    unfold F_372_5B F_372_54
    rw [if_neg (by rw [I3_le (by omega) (by omega)]; omega), F.q0 (by omega)]; simp only [obs]
    rw [F.q1 (by omega)]; simp only [obs]
    rw [F.rvk L (by omega)]; simp only [obs]
    rw [vrs_g, show I3 k + 1 = I3 (k + 1) from I3_add k 1]
    by_cases q : vk g0 (prt g0 x) k = 0
    · rw [if_pos q, gone_0 q, show I3 (vrs g0 (prt g0 x) k).length + 0 = I3 ((vrs g0 (prt g0 x) k).length + 0) from I3_add _ 0]
    · rw [if_neg q, gone_n q, show I3 (vrs g0 (prt g0 x) k).length + 1 = I3 ((vrs g0 (prt g0 x) k).length + 1) from I3_add _ 1]
  · show F_372_5B (I3 x, I3 i, I3 (vrs g0 (prt g0 x) i).length, I3 i, g) = _
    unfold F_372_5B
    rw [if_pos (by rw [I3_le (by omega) (by omega)]; omega)]
theorem C_varsOf (F : Fr d fuel s0 x vp vs h0 g0 h g p s) {n : Nat} (L : LPt g0 (prt g0 x) n) : F_97 (I3 x) h = some (I3 (vrs g0 (prt g0 x) n).length, h) := by
  have n4 := L.n4
  have ll := L.l
  show lp F_97_4B 1000000 (I3 x, 0, 0, h) = _
  refine lp_it n (fun k => (I3 x, I3 (vrs g0 (prt g0 x) k).length, I3 (4 * k), h)) 1000000 (fun k hk => ?_) ?_ (by omega)
  · show F_97_4B (I3 x, I3 (vrs g0 (prt g0 x) k).length, I3 (4 * k), h) = some (.inl (I3 x, I3 (vrs g0 (prt g0 x) (k + 1)).length, I3 (4 * (k + 1)), h))
    unfold F_97_4B F_97_52
    rw [F.f42]; simp only [obs]
    rw [if_neg (by rw [ll, I3_le (by omega) (by omega)]; omega), F.f43 (by omega)]; simp only [obs]
    rw [show I3 (4 * k) + 1 = I3 (4 * k + 1) from I3_add _ 1, F.f43 (by omega)]; simp only [obs]
    rw [show F_47 (at0 (prt g0 x) (4 * k)) (at0 (prt g0 x) (4 * k + 1)) h = some (vk g0 (prt g0 x) k, h) from F.cvk L hk]; simp only [obs]
    rw [vrs_g, show I3 (4 * k) + 4 = I3 (4 * (k + 1)) from I3_add _ 4]
    by_cases q : vk g0 (prt g0 x) k = 0
    · rw [if_pos q, gone_0 q, show I3 (vrs g0 (prt g0 x) k).length + 0 = I3 ((vrs g0 (prt g0 x) k).length + 0) from I3_add _ 0]
    · rw [if_neg q, gone_n q, show I3 (vrs g0 (prt g0 x) k).length + 1 = I3 ((vrs g0 (prt g0 x) k).length + 1) from I3_add _ 1]
  · show F_97_4B (I3 x, I3 (vrs g0 (prt g0 x) n).length, I3 (4 * n), h) = _
    unfold F_97_4B
    rw [F.f42]; simp only [obs]
    rw [if_pos (by rw [ll, I3_le (by omega) (by omega)]; omega)]
theorem C_head (F : Fr d fuel s0 x vp vs h0 g0 h g p s) {n i : Nat} (L : LPt g0 (prt g0 x) n) (hi : i < n) (rec : Int32 → Int32 → sm_H → Option (Int32 × sm_H)) (c r vi : Int32) : F_96_23B rec (I3 x, I3 d, c, r, vi, I3 (4 * i), h) = F_96_91 rec (I3 x) (I3 d) c r vi (I3 (4 * i)) (pt (prt g0 x) i 1) (pt (prt g0 x) i 2) (I3 (gone (vk g0 (prt g0 x) i))) h := by
  have n4 := L.n4
  have ll := L.l
  unfold F_96_23B
  rw [F.f42]; simp only [obs]
  rw [if_neg (by rw [ll, I3_le (by omega) (by omega)]; omega), show I3 (4 * i) + 1 = I3 (4 * i + 1) from I3_add _ 1, F.f43 (by omega)]; simp only [obs]
  rw [show I3 (4 * i) + 2 = I3 (4 * i + 2) from I3_add _ 2, F.f43 (by omega)]; simp only [obs]
  rw [F.f43 (by omega)]; simp only [obs]
  rw [show F_47 (at0 (prt g0 x) (4 * i)) (at0 (prt g0 x) (4 * i + 1)) h = some (vk g0 (prt g0 x) i, h) from F.cvk L hi]; simp only [obs]
  unfold gone
  by_cases q : vk g0 (prt g0 x) i = 0
  · rw [if_pos q, if_pos q]; rfl
  · rw [if_neg q, if_neg q]; rfl
end
section
variable {d fuel s0 x vp p s : Nat} {vs : List Val} {h0 g0 h g : sm_H}
theorem C_98_none {h : sm_H} {n : Nat} (hn : n < 1000) (dd : Int32) : F_98 (-1) (I3 n) dd h = some h := by
  show F_98_0 (-1) (I3 n) dd h = _
  unfold F_98_0
  rw [show F_45 (-1) h = some (0, h) from rfl]; simp only [obs]
  rw [C_lend0 _ _ _ (by
    by_cases q : (0 : Int32) < I3 n
    · rw [if_pos q]; decide
    · rw [if_neg q]; exact Int32.not_lt.mp q)]; simp only [obs]
  rw [C_lend0 (n := 0 - I3 n) _ _ _ (sub_neg (a := 0) (b := n) (by omega) (by omega))]; simp only [obs]
theorem loop_test {rec : Int32 → Int32 → sm_H → Option (Int32 × sm_H)} (IH : CallOK (d + 1) rec) {n : Nat} (L : LPt g0 (prt g0 x) n)
    (fa : ∀ i, i < n → (pt (prt g0 x) i 2 ≠ -1 → hrs g0 (tn (pt (prt g0 x) i 2)) = 1) ∧ (pt (prt g0 x) i 3 ≠ -1 → hrs g0 (tn (pt (prt g0 x) i 3)) = hrs g0 x) ∧ ∀ z, 1 ≤ z → z < 4 → pt (prt g0 x) i z ≠ -1 → pre (hpl g0 (tn (pt (prt g0 x) i z))) (vrs g0 (prt g0 x) n ++ hpl g0 x))
    {i r vi zz f : Nat} {us : List Val} (hi : i < n) (F : Fr d fuel s0 x vp vs h0 g0 h g p s) (c59 : g.1 67 59 = I3 (vp + vs.length + us.length)) (V : LV d vp (vrs g0 (prt g0 x) n) vs us h g) (c107 : g.1 107 d = I3 i)
    (nx0 : pt (prt g0 x) i 2 = -1 → ∀ g1, Fr d fuel s0 x vp vs h0 g0 h g1 p s → g1.1 67 59 = I3 (vp + vs.length + us.length) → LV d vp (vrs g0 (prt g0 x) n) vs us h g1 → g1.1 107 d = I3 (if i + 1 = n then 0 else i + 1) → ∃ u, lp F_374_17B f (I3 d, I3 x, 0, g1) = some u ∧ Ends d fuel s0 vp (tn (hrs g0 x)) h0 g0 (p + 1) (RC rec x d us.length r (vi + zz) (i + 1) h) u)
    (nx1 : ∀ h1 g1 p1 s1, s < s1 → Fr d fuel s0 x vp vs h0 g0 h1 g1 p1 s1 → g1.1 67 59 = I3 (vp + vs.length + us.length) → LV d vp (vrs g0 (prt g0 x) n) vs us h1 g1 → g1.1 107 d = I3 (if i + 1 = n then 0 else i + 1) → ∃ u, lp F_374_17B 1000000 (I3 d, I3 x, 0, g1) = some u ∧ Ends d fuel s0 vp (tn (hrs g0 x)) h0 g0 (p1 + 1) (RC rec x d us.length r (vi + zz) (i + 1) h1) u) :
    ∃ u, oK F_374_17B f (F_374_79 (I3 d) (I3 x) (24 * I3 x + 4 * I3 i) g) = some u ∧ Ends d fuel s0 vp (tn (hrs g0 x)) h0 g0 (p + 1) (WC rec r i (F_96_161 rec (I3 x) (I3 d) (I3 us.length) (I3 r) (I3 (4 * i)) (pt (prt g0 x) i 2) (I3 vi) (I3 zz) h)) u := by
  have d1 := F.d1
  have v10 := F.v10
  have vl := F.vl
  have n4 := L.n4
  have ll := L.l
  have x500 := F.x500
  have vx := F.vx
  have u4 : us.length ≤ 4 := by rw [V.2.2.1.1]; exact Nat.le_trans (vrs_len _ _ _) n4
  have tw : tyV g (vrs g0 (prt g0 x) n ++ hpl g0 x) (us ++ vs) := tyV_app V.2.2.1 F.ty
  have e4 : I3 (4 * i) + 4 = I3 (4 * (i + 1)) := I3_add _ 4
  refine L.c hi (show 2 < 4 by omega) (fun e => ?_) (fun y y1 y2 y3 y4 => ?_)
  · have N := R_next F ll n4 hi c107
    have a : agr (SG d (vp + vs.length)) g (sm_wI g 107 d (I3 (if i + 1 = n then 0 else i + 1))) := agr_wI agr_rfl (by unfold SG; omega)
    have F1 := Fr_g F a
    obtain ⟨u, e1, e2⟩ := nx0 e _ F1 c59 ⟨V.1, V.2.1, tyV_grow F.m.k.1 (grow_N (agr_mono (SG_N _ _) a)) V.2.2.1, V.2.2.2⟩ (by show (if d = d then I3 (if i + 1 = n then 0 else i + 1) else g.1 107 d) = _; rw [if_pos rfl])
    refine ⟨u, ?_, ?_⟩
    · unfold F_374_79
      rw [F.q2 (by omega)]; simp only [obs]
      rw [if_pos e, N]; simp only [obs]
      exact e1
    · unfold F_96_161 F_96_255
      simp only [obs]
      rw [if_pos e, e4, I3_add, WC_next]; exact e2
  · have prY := (fa i hi).2.2 2 (by decide) (by decide) y4
    rw [y3] at prY
    have len : (hpl g0 y).length ≤ us.length + vs.length := by
      have := prY.1
      rw [List.length_append, ← vx, ← V.2.2.1.1] at this; exact this
    have hz : hrs g0 y = 1 := by have := (fa i hi).1 y4; rw [y3] at this; exact this
    obtain ⟨h', a1, Ly1⟩ := C_lendR F V.2.1 (by omega) y1 len
    obtain ⟨g', b1, P⟩ := R_lendR F c59 V.1 V.2.2.2 (by omega) y1 len
    obtain ⟨u, e1, e2⟩ := midL IH F (rk := tn (hrs g0 x)) 22 y1 (T := vp + vs.length + us.length) (by omega) (by omega) Ly1 P (tyV_first tw prY) (k := fun q4 => WC rec r i (if q4.1 = 0 then (if (lg_cmp (q4.2.2.1 49 9) 0) = 0 then ((F_43 (I3 x) (I3 (4 * i) + 3) q4.2).bind fun q5 => (F_75 0 0 q5.2).bind fun q6 => (F_98 q5.1 (I3 us.length) (I3 d) q6.2).bind fun q7 => if q5.1 = (-1) then ((F_96_254 rec 0 q7).map fun r => (.inr (.inr r))) else ((rec q5.1 (I3 d + 1) q7).bind fun q8 => (F_96_254 rec q8.1 q8.2).map fun r => (.inr (.inr r)))) else (F_96_255 rec (I3 x) (I3 d) (I3 us.length) (I3 r) (I3 vi + I3 zz) (I3 (4 * i)) q4.2)) else (some (.inr (.inr (q4.1, q4.2))))))
      (by decide) (fun o h1 o1 o2 => by
        show WC rec r i (if I3 o = 0 then _ else _) = _
        rw [if_neg (I3_ne0 o1 o2)]; rfl) (fun h1 g1 p1 s1 lt FN t59 t63 t62 t104 t107 rr LVt => by
        have G' := Fr_63 FN
        have V1 := LVt _ us (Nat.le_refl _) (by omega) V
        have ok := rr.2.2.1 rfl
        rw [hz, show tn (1 : Int32) = 1 from rfl] at ok
        obtain ⟨-, n1⟩ := okV_6 (v := (g1.1 67 60, g1.2.1 67 61)) (k := 1) (by decide) (by decide) ok
        have n1 : g1.2.1 67 61 = 0 ∨ g1.2.1 67 61 = 1 := n1.1 rfl
        have S := go_20 FN t62 t104 (Or.inr (Or.inr rfl))
        have l107' : (sm_wI g1 67 63 0).1 107 d = I3 i := t107.trans c107
        have l107 : ldI (sm_wI g1 67 63 0) 107 100 (I3 d) = some (I3 i) := by rw [ldI_I d1 (by decide), l107']
        have l104 : ldI (sm_wI g1 67 63 0) 104 100 (I3 d) = some 22 := by rw [ldI_I d1 (by decide)]; exact congrArg some t104
        have S2 : F_376 (I3 d) (I3 x) (sm_wI g1 67 63 0) = (if (lg_cmp (g1.2.1 67 61) 1) = 0 then ((F_375 (I3 d) (I3 x) (sm_wI g1 67 63 0)).bind fun q19 => (F_374 0 q19).bind fun q20 => F_376_302 q20) else (if pt (prt g0 x) i 3 = (-1) then ((F_307 (I3 x) (sm_wI g1 67 63 0)).bind fun q17 => (F_346 q17.1 q17.2).bind fun q18 => F_376_302 q18) else ((F_373 (pt (prt g0 x) i 3) (sm_wI g1 67 63 0)).bind fun q14 => (ldI q14 81 12000 (24 * I3 x + 4 * I3 i + 3)).bind fun v15 => (F_349 v15 q14).bind fun q16 => F_376_302 q16))) := by
          show F_376_0 (I3 d) (I3 x) (sm_wI g1 67 63 0) = _
          unfold F_376_0
          rw [l107]; simp only [obs]
          rw [G'.l105]; simp only [obs]
          rw [G'.l305]; simp only [obs]
          rw [l104]; simp only [obs]
          rw [if_neg (by decide), if_neg (by decide), G'.q3 (by omega)]; simp only [obs]
          all_goals rfl
        have V2 : LV d vp (vrs g0 (prt g0 x) n) vs us h1 (sm_wI g1 67 63 0) := ⟨V1.1, V1.2.1, tyV_grow FN.m.k.1 (grow_N (agr_wI agr_rfl (by unfold SN; omega))) V1.2.2.1, V1.2.2.2⟩
        have tw2 : tyV (sm_wI g1 67 63 0) (vrs g0 (prt g0 x) n ++ hpl g0 x) (us ++ vs) := tyV_app V2.2.2.1 G'.ty
        show Ends d fuel s0 vp (tn (hrs g0 x)) h0 g0 p1 (WC rec r i (if (0 : Int32) = 0 then _ else _)) g1
        rw [if_pos rfl]
        rcases n1 with n1 | n1
        · rw [if_pos (by rw [cmp_eq]; exact rr.1.trans n1), show I3 (4 * i) + 3 = I3 (4 * i + 3) from I3_add _ 3, FN.f43 (by omega)]; simp only [obs]
          rw [if_neg (show ¬ lg_cmp (g1.2.1 67 61) 1 = 0 by rw [cmp_eq, n1]; decide)] at S2
          refine L.c hi (show 3 < 4 by omega) (fun e => ?_) (fun w w1 w2 w3 w4 => ?_)
          · obtain ⟨q, q1, q2⟩ := rs_k FN.m.k FN.hx
            have h12 := FN.m.k.1.2.1
            rw [m_hrs FN.ar] at q1
            have z := okV_zk (g := sm_wI g1 67 63 0) (q := q) (by omega)
            obtain ⟨u, h2, j1, j2, j3⟩ := Fr_give (rk := tn (hrs g0 x)) (Fr_48 G' (g' := sm_wJ (sm_wI (sm_wI g1 67 63 0) 67 48 (zk (I3 q))) 67 49 0) (agr_wJ (agr_wI agr_rfl (by unfold S48; omega)) (by unfold S48; omega))) (zk (I3 q)) 0 (by rw [q1, tnI (by omega)]; exact okV_grow G'.m.k.1 (grow_N (agr_wJ (agr_wI agr_rfl (by unfold SN; omega)) (by unfold SN; omega))) z)
            rw [tag_zk] at j2
            rw [if_pos e, G'.rs F.x1, q1] at S2; simp only [obs] at S2
            rw [show F_346 (I3 q) (sm_wI g1 67 63 0) = F_346_0 (I3 q) (sm_wI g1 67 63 0) from rfl] at S2
            unfold F_346_0 at S2
            rw [R_zero (by omega)] at S2; simp only [obs] at S2
            rw [show F_345 ((sm_wJ (sm_wI (sm_wI g1 67 63 0) 67 48 (zk (I3 q))) 67 49 0).1 67 48) ((sm_wJ (sm_wI (sm_wI g1 67 63 0) 67 48 (zk (I3 q))) 67 49 0).2.1 67 49) (sm_wJ (sm_wI (sm_wI g1 67 63 0) 67 48 (zk (I3 q))) 67 49 0) = some u from j1] at S2; simp only [obs] at S2
            rw [j2]; simp only [obs]
            rw [show at0 (prt g0 x) (4 * i + 3) = -1 from e, C_98_none (by omega)]; simp only [obs]
            rw [if_pos trivial]
            exact Ends_step (step_goOn (by omega) FN.c64 FN.c56 t63 (S.trans S2)) j3
          · have prW := (fa i hi).2.2 3 (by decide) (by decide) w4
            rw [w3] at prW
            have lenW : (hpl g0 w).length ≤ us.length + vs.length := by
              have := prW.1
              rw [List.length_append, ← vx, ← V.2.2.1.1] at this; exact this
            have hw : hrs g0 w = hrs g0 x := by have := (fa i hi).2.1 w4; rw [w3] at this; exact this
            have a2 : agr (SC1 d) h1 (sm_wI (sm_wJ h1 49 9 0) 49 10 0) := agr_wI (agr_wJ agr_rfl (by unfold SC1; omega)) (by unfold SC1; omega)
            have F2 := Fr_h G' a2 rfl
            obtain ⟨h3, a3, L3⟩ := C_lendR F2 (us := us) (show frmO (sm_wI (sm_wJ h1 49 9 0) 49 10 0) d 10 us from V1.2.1) (by omega) w1 lenW
            obtain ⟨g3, b3, P3⟩ := R_lendR F2 (us := us) t59 V2.1 V2.2.2.2 (by omega) w1 lenW
            obtain ⟨u, j1, j2⟩ := tail2 IH F2 w1 (by omega) (by omega) L3 P3 (tyV_first tw2 prW)
            rw [if_neg w4, w2, b3] at S2; simp only [obs] at S2
            rw [(Fr_Ph F2 (by omega) P3).q3 (by omega)] at S2; simp only [obs] at S2
            rw [w2, j1] at S2; simp only [obs] at S2
            rw [show F_75 0 0 h1 = some (0, sm_wI (sm_wJ h1 49 9 0) 49 10 0) from rfl]; simp only [obs]
            rw [show at0 (prt g0 x) (4 * i + 3) = I3 w from w2, a3]; simp only [obs]
            rw [if_neg (show ¬ I3 w = (-1 : Int32) by rw [← w2]; exact w4), WC_bind, show I3 d + 1 = I3 (d + 1) from I3_add d 1, ← hw]
            refine Ends_step (step_goOn (by omega) FN.c64 FN.c56 t63 (S.trans S2)) ?_
            have E : ((rec (I3 w) (I3 (d + 1)) h3).bind fun z => WC rec r i ((F_96_254 rec z.1 z.2).map fun r => (.inr (.inr r)))) = rec (I3 w) (I3 (d + 1)) h3 := bind_id _
            rw [E]; exact j2
        · rw [if_neg (by rw [cmp_eq]; intro z; rw [rr.1, n1] at z; exact absurd z (by decide))]
          have N := R_next G' ll n4 hi l107'
          have a : agr (SG d (vp + vs.length)) (sm_wI g1 67 63 0) (sm_wI (sm_wI g1 67 63 0) 107 d (I3 (if i + 1 = n then 0 else i + 1))) := agr_wI agr_rfl (by unfold SG; omega)
          have F1 := Fr_g G' a
          obtain ⟨u, j1, j2⟩ := nx1 h1 _ p1 s1 lt F1 t59 ⟨V2.1, V2.2.1, tyV_grow G'.m.k.1 (grow_N (agr_mono (SG_N _ _) a)) V2.2.2.1, V2.2.2.2⟩ (by show (if d = d then I3 (if i + 1 = n then 0 else i + 1) else (sm_wI g1 67 63 0).1 107 d) = _; rw [if_pos rfl])
          rw [if_pos (by rw [cmp_eq]; exact n1), N] at S2; simp only [obs] at S2
          rw [F1.l374, j1] at S2; simp only [obs] at S2
          refine Ends_step (step_goOn (by omega) FN.c64 FN.c56 t63 (S.trans S2)) ?_
          unfold F_96_255
          simp only [obs]
          rw [e4, I3_add, WC_next]; exact j2)
    refine ⟨u, ?_, ?_⟩
    · unfold F_374_79
      rw [F.q2 (by omega)]; simp only [obs]
      rw [if_neg y4, y2, b1]; simp only [obs]
      rw [(Fr_Ph F (by omega) P).q2 (by omega)]; simp only [obs]
      rw [y2, e1]; rfl
    · have CC : WC rec r i (F_96_161 rec (I3 x) (I3 d) (I3 us.length) (I3 r) (I3 (4 * i)) (pt (prt g0 x) i 2) (I3 vi) (I3 zz) h) = (rec (I3 y) (I3 (d + 1)) h').bind fun q4 => WC rec r i (if q4.1 = 0 then (if (lg_cmp (q4.2.2.1 49 9) 0) = 0 then ((F_43 (I3 x) (I3 (4 * i) + 3) q4.2).bind fun q5 => (F_75 0 0 q5.2).bind fun q6 => (F_98 q5.1 (I3 us.length) (I3 d) q6.2).bind fun q7 => if q5.1 = (-1) then ((F_96_254 rec 0 q7).map fun r => (.inr (.inr r))) else ((rec q5.1 (I3 d + 1) q7).bind fun q8 => (F_96_254 rec q8.1 q8.2).map fun r => (.inr (.inr r)))) else (F_96_255 rec (I3 x) (I3 d) (I3 us.length) (I3 r) (I3 vi + I3 zz) (I3 (4 * i)) q4.2)) else (some (.inr (.inr (q4.1, q4.2))))) := by
        unfold F_96_161
        simp only [obs]
        rw [if_neg y4, y2, a1]; simp only [obs]
        rw [WC_bind, show I3 d + 1 = I3 (d + 1) from I3_add d 1]
      rw [CC]; exact e2
end
section
variable {d fuel s0 x vp : Nat} {vs : List Val} {h0 g0 : sm_H}
theorem loop_round {rec : Int32 → Int32 → sm_H → Option (Int32 × sm_H)} (IH : CallOK (d + 1) rec) {n j0 : Nat} (L : LPt g0 (prt g0 x) n)
    (fa : ∀ i, i < n → (pt (prt g0 x) i 2 ≠ -1 → hrs g0 (tn (pt (prt g0 x) i 2)) = 1) ∧ (pt (prt g0 x) i 3 ≠ -1 → hrs g0 (tn (pt (prt g0 x) i 3)) = hrs g0 x) ∧ ∀ z, 1 ≤ z → z < 4 → pt (prt g0 x) i z ≠ -1 → pre (hpl g0 (tn (pt (prt g0 x) i z))) (vrs g0 (prt g0 x) n ++ hpl g0 x))
    (j1 : j0 < n) (j2 : pt (prt g0 x) j0 2 ≠ -1) : ∀ (m : Nat) (i r e f p s : Nat) (us : List Val) (h g : sm_H), ((i ≤ j0 ∧ e = j0 - i) ∨ (j0 < i ∧ i ≤ n ∧ e = n - i + 1 + j0)) → (fuel - s) * 20 + e < m → e < f → Fr d fuel s0 x vp vs h0 g0 h g p s → g.1 67 59 = I3 (vp + vs.length + us.length) → LV d vp (vrs g0 (prt g0 x) n) vs us h g → g.1 107 d = I3 (if i = n then 0 else i) → r + s0 + 1 ≤ s → (j0 < i → r + s0 + 2 ≤ s) →
      ∃ u, lp F_374_17B f (I3 d, I3 x, 0, g) = some u ∧ Ends d fuel s0 vp (tn (hrs g0 x)) h0 g0 (p + 1) (RC rec x d us.length r (vrs g0 (prt g0 x) i).length i h) u := by
  have n4 := L.n4
  have ll := L.l
  intro m
  induction m with
  | zero => intro i r e f p s us h g _ hm; omega
  | succ m ih =>
    intro i r e f p s us h g he hm hf F c59 V c107 r1 r2
    have le := F.m.le
    have fm' := F.m.fm
    have d1 := F.d1
    have v10 := F.v10
    have vl := F.vl
    have x500 := F.x500
    have vx := F.vx
    have u4 : us.length ≤ 4 := by rw [V.2.2.1.1]; exact Nat.le_trans (vrs_len _ _ _) n4
    by_cases q : i = n
    · rw [if_pos q] at c107
      obtain ⟨u, e1, e2⟩ := ih 0 (r + 1) j0 f p s us h g (Or.inl ⟨by omega, by omega⟩) (by omega) (by omega) F c59 V (by rw [if_neg (by omega)]; exact c107) (by omega) (by omega)
      refine ⟨u, e1, ?_⟩
      have H : F_96_23B rec (I3 x, I3 d, I3 us.length, I3 r, I3 (vrs g0 (prt g0 x) i).length, I3 (4 * i), h) = some (.inr (.inl (I3 x, I3 d, I3 us.length, I3 (r + 1), h))) := by
        unfold F_96_23B
        rw [F.f42]; simp only [obs]
        rw [if_pos (by rw [ll, I3_le (by omega) (by omega)]; omega), show I3 r + 1 = I3 (r + 1) from I3_add r 1]
      rw [RC_WC (by omega), H, WC_round (by omega)]; exact e2
    · have hi : i < n := by omega
      rw [if_neg q] at c107
      have l107 : ldI g 107 100 (I3 d) = some (I3 i) := by rw [ldI_I d1 (by decide), c107]
      have nx : ∀ (p1 s1 f1 : Nat) (us1 : List Val) (h1 g1 : sm_H), s < s1 → 20 ≤ f1 → Fr d fuel s0 x vp vs h0 g0 h1 g1 p1 s1 → g1.1 67 59 = I3 (vp + vs.length + us1.length) → LV d vp (vrs g0 (prt g0 x) n) vs us1 h1 g1 → g1.1 107 d = I3 (if i + 1 = n then 0 else i + 1) → ∃ u, lp F_374_17B f1 (I3 d, I3 x, 0, g1) = some u ∧ Ends d fuel s0 vp (tn (hrs g0 x)) h0 g0 (p1 + 1) (RC rec x d us1.length r ((vrs g0 (prt g0 x) i).length + gone (vk g0 (prt g0 x) i)) (i + 1) h1) u := fun p1 s1 f1 us1 h1 g1 lt f20 F1 c1 V1 k1 => by
        have le1 := F1.m.le
        obtain ⟨e', he'⟩ : ∃ e', (i + 1 ≤ j0 ∧ e' = j0 - (i + 1)) ∨ (j0 < i + 1 ∧ i + 1 ≤ n ∧ e' = n - (i + 1) + 1 + j0) := by
          by_cases z : i + 1 ≤ j0
          · exact ⟨_, Or.inl ⟨z, rfl⟩⟩
          · exact ⟨_, Or.inr ⟨by omega, by omega, rfl⟩⟩
        have z := ih (i + 1) r e' f1 p1 s1 us1 h1 g1 he' (by omega) (by omega) F1 c1 V1 k1 (by omega) (by omega)
        rw [vrs_g] at z; exact z
      rw [RC_WC (by omega), C_head F L hi]
      refine L.c hi (show 1 < 4 by omega) (fun st => ?_) (fun y y1 y2 y3 y4 => ?_)
      · obtain ⟨u, e1, e2⟩ := loop_test (zz := gone (vk g0 (prt g0 x) i)) (vi := (vrs g0 (prt g0 x) i).length) (r := r) (f := f - 1) IH L fa hi F c59 V c107 (fun ne g1 F1 c1 V1 k1 => by
          have nj : i ≠ j0 := fun z => j2 (z ▸ ne)
          have z := ih (i + 1) r (e - 1) (f - 1) p s us h g1 (by omega) (by omega) (by omega) F1 c1 V1 k1 (by omega) (by omega)
          rw [vrs_g] at z; exact z) (fun h1 g1 p1 s1 lt F1 c1 V1 k1 => nx p1 s1 1000000 us h1 g1 lt (by omega) F1 c1 V1 k1)
        refine ⟨u, ?_, ?_⟩
        · have HB : F_374_17B (I3 d, I3 x, 0, g) = F_374_79 (I3 d) (I3 x) (24 * I3 x + 4 * I3 i) g := by
            unfold F_374_17B
            rw [l107]; simp only [obs]
            rw [if_pos trivial, F.q1 (by omega)]; simp only [obs]
            rw [if_pos st]
          rw [lp_oK (by omega), HB]; exact e1
        · unfold F_96_91
          rw [if_pos st, C_149]; exact e2
      · have prY := (fa i hi).2.2 1 (by decide) (by decide) y4
        rw [y3] at prY
        have len : (hpl g0 y).length ≤ us.length + vs.length := by
          have := prY.1
          rw [List.length_append, ← vx, ← V.2.2.1.1] at this; exact this
        have vkY : vk g0 (prt g0 x) i = hrs g0 y := by
          unfold vk
          rw [if_pos (show at0 (prt g0 x) (4 * i + 1) ≠ -1 from y4), show tn (at0 (prt g0 x) (4 * i + 1)) = y from y3]
        have tw : tyV g (vrs g0 (prt g0 x) n ++ hpl g0 x) (us ++ vs) := tyV_app V.2.2.1 F.ty
        obtain ⟨h', a1, Ly1⟩ := C_lendR F V.2.1 (by omega) y1 len
        obtain ⟨g', b1, P⟩ := R_lendR F c59 V.1 V.2.2.2 (by omega) y1 len
        obtain ⟨u, e1, e2⟩ := midL IH F (rk := tn (hrs g0 x)) 21 y1 (T := vp + vs.length + us.length) (by omega) (by omega) Ly1 P (tyV_first tw prY) (k := fun q10 => WC rec r i (if q10.1 = 0 then (if I3 (gone (vk g0 (prt g0 x) i)) = 0 then (F_96_149 rec (I3 x) (I3 d) (I3 us.length) (I3 r) (I3 (vrs g0 (prt g0 x) i).length) (I3 (4 * i)) (pt (prt g0 x) i 2) (I3 (gone (vk g0 (prt g0 x) i))) q10.2) else ((F_79 (I3 d) (10 + I3 (vrs g0 (prt g0 x) i).length) (q10.2.2.1 49 9) (q10.2.1 49 10) q10.2).bind fun q11 => F_96_149 rec (I3 x) (I3 d) (I3 us.length) (I3 r) (I3 (vrs g0 (prt g0 x) i).length) (I3 (4 * i)) (pt (prt g0 x) i 2) (I3 (gone (vk g0 (prt g0 x) i))) q11)) else (some (.inr (.inr (q10.1, q10.2))))))
          (by decide) (fun o h1 o1 o2 => by
            show WC rec r i (if I3 o = 0 then _ else _) = _
            rw [if_neg (I3_ne0 o1 o2)]; rfl) (fun h1 g1 p1 s1 lt FN t59 t63 t62 t104 t107 rr LVt => by
            have G' := Fr_63 FN
            have V1 := LVt _ us (Nat.le_refl _) (by omega) V
            have V2 : LV d vp (vrs g0 (prt g0 x) n) vs us h1 (sm_wI g1 67 63 0) := ⟨V1.1, V1.2.1, tyV_grow FN.m.k.1 (grow_N (agr_wI agr_rfl (by unfold SN; omega))) V1.2.2.1, V1.2.2.2⟩
            have S := go_20 FN t62 t104 (Or.inr (Or.inl rfl))
            have k107' : (sm_wI g1 67 63 0).1 107 d = I3 i := t107.trans c107
            have k107 : ldI (sm_wI g1 67 63 0) 107 100 (I3 d) = some (I3 i) := by rw [ldI_I d1 (by decide), k107']
            have k104 : ldI (sm_wI g1 67 63 0) 104 100 (I3 d) = some 21 := by rw [ldI_I d1 (by decide)]; exact congrArg some t104
            have S2 : F_376 (I3 d) (I3 x) (sm_wI g1 67 63 0) = (if hrs g0 y = 0 then F_376_223 (sm_wI g1 67 63 0) else ((F_372 (I3 x) (I3 i) (sm_wI g1 67 63 0)).bind fun q24 => (some ((I3 vp + I3 vs.length + q24.1) : Int32)).bind fun v25 => (stI q24.2 108 6000 v25 (q24.2.1 67 60)).bind fun h26 => (stJ h26 109 6000 v25 (h26.2.1 67 61)).bind fun h27 => F_376_223 h27)) := by
              show F_376_0 (I3 d) (I3 x) (sm_wI g1 67 63 0) = _
              unfold F_376_0
              rw [k107]; simp only [obs]
              rw [G'.l105]; simp only [obs]
              rw [G'.l305]; simp only [obs]
              rw [k104]; simp only [obs]
              rw [if_neg (by decide), if_pos (by decide), G'.q1 (by omega)]; simp only [obs]
              rw [y2, G'.rs y1]; simp only [obs]
              all_goals (rw [k107]; rfl)
            have after : ∀ (h2 g3 : sm_H) (us2 : List Val), us2.length = us.length → Fr d fuel s0 x vp vs h0 g0 h2 g3 p1 s1 → g3.1 67 59 = I3 (vp + vs.length + us2.length) → LV d vp (vrs g0 (prt g0 x) n) vs us2 h2 g3 → g3.1 107 d = I3 i → ∃ u, F_376_223 g3 = some u ∧ Ends d fuel s0 vp (tn (hrs g0 x)) h0 g0 (p1 + 1) (WC rec r i (F_96_149 rec (I3 x) (I3 d) (I3 us.length) (I3 r) (I3 (vrs g0 (prt g0 x) i).length) (I3 (4 * i)) (pt (prt g0 x) i 2) (I3 (gone (vk g0 (prt g0 x) i))) h2)) u := fun h2 g3 us2 ul F3 c3 V3 k3 => by
              obtain ⟨u, j1, j2⟩ := loop_test (zz := gone (vk g0 (prt g0 x) i)) (vi := (vrs g0 (prt g0 x) i).length) (r := r) (f := 999999) IH L fa hi F3 c3 V3 k3 (fun _ g4 F4 c4 V4 k4 => nx p1 s1 999999 us2 h2 g4 lt (by omega) F4 c4 V4 k4) (fun h4 g4 p4 s4 lt4 F4 c4 V4 k4 => nx p4 s4 1000000 us2 h4 g4 (by omega) (by omega) F4 c4 V4 k4)
              have l3 : ldI g3 107 100 (I3 d) = some (I3 i) := by rw [ldI_I d1 (by decide), k3]
              refine ⟨u, ?_, ?_⟩
              · unfold F_376_223
                have HB : F_374_17B (I3 d, I3 x, 1, g3) = F_374_79 (I3 d) (I3 x) (24 * I3 x + 4 * I3 i) g3 := by
                  unfold F_374_17B
                  rw [l3]; simp only [obs]
                  rw [if_neg (by decide)]
                rw [F3.l374, lp_oK (by decide), HB, show 1000000 - 1 = 999999 from rfl, j1]; rfl
              · rw [C_149, ← ul]; exact j2
            show Ends d fuel s0 vp (tn (hrs g0 x)) h0 g0 p1 (WC rec r i (if (0 : Int32) = 0 then _ else _)) g1
            rw [if_pos rfl]
            by_cases z : hrs g0 y = 0
            · obtain ⟨u, w1, w2⟩ := after h1 (sm_wI g1 67 63 0) us rfl G' t59 V2 k107'
              rw [if_pos z] at S2
              rw [if_pos (show I3 (gone (vk g0 (prt g0 x) i)) = 0 by rw [vkY, gone_0 z]; rfl)]
              exact Ends_step (step_goOn (by omega) FN.c64 FN.c56 t63 (S.trans (S2.trans w1))) w2
            · obtain ⟨v1, v2⟩ := vrs_at g0 (prt g0 x) hi (by rw [vkY]; exact z)
              have vu : (vrs g0 (prt g0 x) i).length < us.length := by rw [V.2.2.1.1]; exact v1
              have ok : okV (sm_wI g1 67 63 0) (tn (at0 (vrs g0 (prt g0 x) n) (vrs g0 (prt g0 x) i).length)) (g1.1 67 60) (g1.2.1 67 61) := by
                rw [v2, vkY]; exact okV_grow FN.m.k.1 (grow_N (agr_wI agr_rfl (by unfold SN; omega))) (rr.2.2.1 rfl)
              have V3 := LV_set G'.m.k.1 V2 vu (g1.1 67 60, g1.2.1 67 61) ok
              have FC := Fr_h G' (h' := sm_wI (sm_wJ h1 50 (16 * d + (10 + (vrs g0 (prt g0 x) i).length)) (g1.2.1 67 61)) 51 (16 * d + (10 + (vrs g0 (prt g0 x) i).length)) (tag (g1.1 67 60))) (agr_wI (agr_wJ agr_rfl (by unfold SC1; omega)) (by unfold SC1; omega)) rfl
              have FR := Fr_g FC (g' := sm_wJ (sm_wI (sm_wI g1 67 63 0) 108 (vp + vs.length + (vrs g0 (prt g0 x) i).length) (g1.1 67 60)) 109 (vp + vs.length + (vrs g0 (prt g0 x) i).length) (g1.2.1 67 61)) (agr_wJ (agr_wI agr_rfl (by unfold SG SP; omega)) (by unfold SG SP; omega))
              obtain ⟨u, w1, w2⟩ := after _ _ _ (by rw [List.length_set]) FR (by rw [List.length_set]; exact t59) V3 k107'
              rw [if_neg z, R_varAt G' L hi] at S2; simp only [obs] at S2
              rw [I3_add, I3_add, stI_I (by omega) (by decide)] at S2; simp only [obs] at S2
              rw [stJ_I (by omega) (by decide)] at S2; simp only [obs] at S2
              rw [if_neg (show ¬ I3 (gone (vk g0 (prt g0 x) i)) = 0 by rw [vkY, gone_n z]; decide), rr.1, rr.2.1, show (10 : Int32) + I3 (vrs g0 (prt g0 x) i).length = I3 (10 + (vrs g0 (prt g0 x) i).length) from I3_add 10 _, C_lay0 (by omega) (by omega)]; simp only [obs]
              exact Ends_step (step_goOn (by omega) FN.c64 FN.c56 t63 (S.trans (S2.trans w1))) w2)
        refine ⟨u, ?_, ?_⟩
        · have HB : F_374_17B (I3 d, I3 x, 0, g) = some (.inr u) := by
            unfold F_374_17B
            rw [l107]; simp only [obs]
            rw [if_pos trivial, F.q1 (by omega)]; simp only [obs]
            rw [if_neg y4, y2, b1]; simp only [obs]
            rw [(Fr_Ph F (by omega) P).q1 (by omega)]; simp only [obs]
            rw [y2, e1]; rfl
          exact lp_e (by omega) HB
        · have CC : WC rec r i (F_96_91 rec (I3 x) (I3 d) (I3 us.length) (I3 r) (I3 (vrs g0 (prt g0 x) i).length) (I3 (4 * i)) (pt (prt g0 x) i 1) (pt (prt g0 x) i 2) (I3 (gone (vk g0 (prt g0 x) i))) h) = (rec (I3 y) (I3 (d + 1)) h').bind fun q10 => WC rec r i (if q10.1 = 0 then (if I3 (gone (vk g0 (prt g0 x) i)) = 0 then (F_96_149 rec (I3 x) (I3 d) (I3 us.length) (I3 r) (I3 (vrs g0 (prt g0 x) i).length) (I3 (4 * i)) (pt (prt g0 x) i 2) (I3 (gone (vk g0 (prt g0 x) i))) q10.2) else ((F_79 (I3 d) (10 + I3 (vrs g0 (prt g0 x) i).length) (q10.2.2.1 49 9) (q10.2.1 49 10) q10.2).bind fun q11 => F_96_149 rec (I3 x) (I3 d) (I3 us.length) (I3 r) (I3 (vrs g0 (prt g0 x) i).length) (I3 (4 * i)) (pt (prt g0 x) i 2) (I3 (gone (vk g0 (prt g0 x) i))) q11)) else (some (.inr (.inr (q10.1, q10.2))))) := by
            unfold F_96_91
            rw [if_neg y4, y2, a1]; simp only [obs]
            rw [WC_bind, show I3 d + 1 = I3 (d + 1) from I3_add d 1]
          rw [CC]; exact e2
end
def CK (rec : Int32 → Int32 → sm_H → Option (Int32 × sm_H)) (x d i : Nat) (e : Option ((Int32 × Int32 × Int32 × Int32 × sm_H) ⊕ (Int32 × sm_H))) : Option (Int32 × sm_H) := (oK (F_95_5B rec) (1000000 - i - 1) e).bind fun q21 => if q21.1 = 0 then ((F_96 rec (I3 x) (I3 d) q21.2).bind fun q22 => F_82_311 rec q22.1 q22.2) else (F_82_311 rec q21.1 q21.2)
def CI (rec : Int32 → Int32 → sm_H → Option (Int32 × sm_H)) (x d v i : Nat) (h : sm_H) : Option (Int32 × sm_H) := (lp (F_95_5B rec) (1000000 - i) (I3 x, I3 d, I3 v, I3 (4 * i), h)).bind fun q21 => if q21.1 = 0 then ((F_96 rec (I3 x) (I3 d) q21.2).bind fun q22 => F_82_311 rec q22.1 q22.2) else (F_82_311 rec q21.1 q21.2)
theorem CI_CK {rec : Int32 → Int32 → sm_H → Option (Int32 × sm_H)} {x d v i : Nat} {h : sm_H} (hi : i ≤ 4) : CI rec x d v i h = CK rec x d i (F_95_5B rec (I3 x, I3 d, I3 v, I3 (4 * i), h)) := by
  unfold CI CK
  rw [lp_oK (by omega)]
theorem CK_bind {α : Type} {rec : Int32 → Int32 → sm_H → Option (Int32 × sm_H)} {x d i : Nat} (q : Option α) (K : α → Option ((Int32 × Int32 × Int32 × Int32 × sm_H) ⊕ (Int32 × sm_H))) : CK rec x d i (q.bind K) = q.bind fun z => CK rec x d i (K z) := by cases q <;> rfl
theorem CK_next {rec : Int32 → Int32 → sm_H → Option (Int32 × sm_H)} {x d v i : Nat} {h : sm_H} : CK rec x d i (some (.inl (I3 x, I3 d, I3 v, I3 (4 * (i + 1)), h))) = CI rec x d v (i + 1) h := by
  unfold CI CK
  rw [show 1000000 - (i + 1) = 1000000 - i - 1 by omega]; rfl
theorem CK_stop {rec : Int32 → Int32 → sm_H → Option (Int32 × sm_H)} {x d i o : Nat} {h : sm_H} (o1 : 1 ≤ o) (o2 : o ≤ 4) : CK rec x d i (some (.inr (I3 o, h))) = some (I3 o, h) := by
  show (if I3 o = 0 then _ else _) = _
  rw [if_neg (I3_ne0 o1 o2)]; rfl
theorem LV_push {d vp : Nat} {ks : List Int32} {vs us : List Val} {h g g2 : sm_H} (wK : wfK g) (V : LV d vp ks vs us h g) (k : Int32) (v : Val) (ok : okV g (tn k) v.1 v.2) (P : Ph g g2 (vp + vs.length + us.length) [v]) : LV d vp (ks ++ [k]) vs (us ++ [v]) (sm_wI (sm_wJ h 50 (16 * d + (10 + us.length)) v.2) 51 (16 * d + (10 + us.length)) (tag v.1)) (sm_wI g2 106 d (I3 (us.length + 1))) := by
  have G : grow g (sm_wI g2 106 d (I3 (us.length + 1))) := grow_N (agr_wI (agr_mono (fun b j z => by unfold SP at z; unfold SN; omega) P.a) (by unfold SN; omega))
  have ul : (us ++ [v]).length = us.length + 1 := by rw [List.length_append]; rfl
  refine ⟨fun i hi => ?_, fun i hi => ?_, tyV_grow wK G (tyV_app V.2.2.1 (tyV_1 ok)), ?_⟩
  · rw [ul] at hi
    show g2.1 108 _ = _ ∧ g2.2.1 109 _ = _
    by_cases q : i = us.length
    · rw [q, atv_app2 (Nat.le_refl _), Nat.sub_self]
      exact P.s 0 (Nat.zero_lt_succ _)
    · rw [atv_app1 (by omega)]
      exact stk_agr V.1 P.a (Nat.le_refl _) i (by omega)
  · rw [ul] at hi
    rw [wI_1, wI_rd, wJ_rd, wJ_1]
    by_cases q : i = us.length
    · rw [if_pos (by omega), if_pos (by omega), q, atv_app2 (Nat.le_refl _), Nat.sub_self]; exact ⟨rfl, rfl⟩
    · rw [if_neg (by omega), if_neg (by omega), atv_app1 (by omega)]; exact V.2.1 i (by omega)
  · rw [ul]
    show (if d = d then I3 (us.length + 1) else g2.1 106 d) = _; rw [if_pos rfl]
section
variable {d fuel s0 x vp : Nat} {vs : List Val} {h0 g0 : sm_H}
theorem Fr.l371 {p s : Nat} {h g : sm_H} (F : Fr d fuel s0 x vp vs h0 g0 h g p s) : F_371 g = lp F_371_20B 1000000 (I3 d, I3 x, g) := by
  show F_371_0 g = _
  unfold F_371_0 F_371_20
  simp only [obs]
  rw [F.c56, show I3 (d + 1) - 1 = I3 d from I3_sub (a := d + 1) (b := 1) (by omega), F.l103]; simp only [obs]
  rw [F.l305]; simp only [obs]
theorem loop_init {rec : Int32 → Int32 → sm_H → Option (Int32 × sm_H)} (IH : CallOK (d + 1) rec) {n j0 : Nat} (L : LPt g0 (prt g0 x) n)
    (fa : ∀ i, i < n → (pt (prt g0 x) i 2 ≠ -1 → hrs g0 (tn (pt (prt g0 x) i 2)) = 1) ∧ (pt (prt g0 x) i 3 ≠ -1 → hrs g0 (tn (pt (prt g0 x) i 3)) = hrs g0 x) ∧ ∀ z, 1 ≤ z → z < 4 → pt (prt g0 x) i z ≠ -1 → pre (hpl g0 (tn (pt (prt g0 x) i z))) (vrs g0 (prt g0 x) n ++ hpl g0 x))
    (fb : ∀ i, i < n → (pt (prt g0 x) i 0 ≠ -1 → pt (prt g0 x) i 1 ≠ -1 → hrs g0 (tn (pt (prt g0 x) i 0)) = hrs g0 (tn (pt (prt g0 x) i 1))) ∧ (pt (prt g0 x) i 0 ≠ -1 → pre (hpl g0 (tn (pt (prt g0 x) i 0))) (hpl g0 x)))
    (j1 : j0 < n) (j2 : pt (prt g0 x) j0 2 ≠ -1) : ∀ (k i f p s : Nat) (us : List Val) (h g : sm_H), i + k = n → k < f → Fr d fuel s0 x vp vs h0 g0 h g p s → g.1 67 59 = I3 (vp + vs.length + us.length) → LV d vp (vrs g0 (prt g0 x) i) vs us h g → g.1 107 d = I3 i →
      ∃ u, lp F_371_20B f (I3 d, I3 x, g) = some u ∧ Ends d fuel s0 vp (tn (hrs g0 x)) h0 g0 (p + 1) (CI rec x d us.length i h) u := by
  have n4 := L.n4
  have ll := L.l
  intro k
  induction k with
  | zero =>
    intro i f p s us h g hi hf F c59 V c107
    obtain rfl : i = n := by omega
    have d1 := F.d1
    have lt := F.lt
    have l107 : ldI g 107 100 (I3 d) = some (I3 i) := by rw [ldI_I d1 (by decide), c107]
    have a : agr (SG d (vp + vs.length)) g (sm_wI g 107 d 0) := agr_wI agr_rfl (by unfold SG; omega)
    have F1 := Fr_g F a
    obtain ⟨u, e1, e2⟩ := loop_round IH L fa j1 j2 ((fuel - s) * 20 + j0 + 1) 0 0 j0 1000000 p s us h _ (Or.inl ⟨by omega, by omega⟩) (by omega) (by omega) F1 c59 ⟨V.1, V.2.1, tyV_grow F.m.k.1 (grow_N (agr_mono (SG_N _ _) a)) V.2.2.1, V.2.2.2⟩ (by
      rw [if_neg (by omega)]
      show (if d = d then (0 : Int32) else g.1 107 d) = _; rw [if_pos rfl]; rfl) (by omega) (by omega)
    refine ⟨u, ?_, ?_⟩
    · refine lp_e (by omega) ?_
      unfold F_371_20B
      rw [l107]; simp only [obs]
      rw [F.l80, ll]; simp only [obs]
      rw [if_neg (by decide), div4 n4, if_pos (by rw [I3_le (by omega) (by omega)]; omega), stI_I d1 (by decide)]; simp only [obs]
      rw [F1.l374, e1]; rfl
    · have H : F_95_5B rec (I3 x, I3 d, I3 us.length, I3 (4 * i), h) = some (.inr (0, h)) := by
        unfold F_95_5B
        rw [F.f42]; simp only [obs]
        rw [if_pos (by rw [ll, I3_le (by omega) (by omega)]; omega)]
      have H2 : F_96 rec (I3 x) (I3 d) h = RC rec x d us.length 0 0 0 h := by
        show F_96_0 rec (I3 x) (I3 d) h = _
        unfold F_96_0 F_96_9
        rw [C_varsOf F L, ← V.2.2.1.1]; simp only [obs]
        rw [lp_oK (by decide)]
        have z : F_96_9B rec (I3 x, I3 d, I3 us.length, 0, h) = F_96_23 rec (I3 x) (I3 d) (I3 us.length) 0 0 0 h := by
          unfold F_96_9B
          exact if_neg (show ¬ (10000 : Int32) < 0 by decide)
        rw [z]; rfl
      rw [CI_CK n4, H]
      show Ends d fuel s0 vp (tn (hrs g0 x)) h0 g0 (p + 1) ((F_96 rec (I3 x) (I3 d) h).bind fun q22 => some (q22.1, q22.2)) u
      rw [bind_id, H2]; exact e2
  | succ k ih =>
    intro i f p s us h g hk hf F c59 V c107
    have hi : i < n := by omega
    have d1 := F.d1
    have v10 := F.v10
    have vl := F.vl
    have x500 := F.x500
    have vx := F.vx
    have u4 : us.length ≤ 4 := by rw [V.2.2.1.1]; exact Nat.le_trans (vrs_len _ _ _) (by omega)
    have u3 : us.length ≤ 3 := by
      have := vrs_len g0 (prt g0 x) i
      have := V.2.2.1.1
      omega
    have l107 : ldI g 107 100 (I3 d) = some (I3 i) := by rw [ldI_I d1 (by decide), c107]
    have e4 : I3 (4 * i) + 4 = I3 (4 * (i + 1)) := I3_add _ 4
    have h12 := F.m.k.1.2.1
    have go : ∀ (f1 p1 s1 : Nat) (h1 g1 : sm_H) (v : Val), k < f1 → Fr d fuel s0 x vp vs h0 g0 h1 g1 p1 s1 → g1.1 67 59 = I3 (vp + vs.length + us.length) → LV d vp (vrs g0 (prt g0 x) i) vs us h1 g1 → g1.1 107 d = I3 i → h1.2.1 49 9 = v.2 → h1.1 49 10 = tag v.1 → (vk g0 (prt g0 x) i ≠ 0 → okV g1 (tn (vk g0 (prt g0 x) i)) v.1 v.2) →
        ∃ u, ((if vk g0 (prt g0 x) i = 0 then some g1 else (F_342 v.1 v.2 g1).bind fun q => (ldI q 106 100 (I3 d)).bind fun w => stI q 106 100 (I3 d) (w + 1)).bind fun q => (stI q 107 100 (I3 d) (I3 (i + 1))).bind fun z => lp F_371_20B f1 (I3 d, I3 x, z)) = some u ∧ Ends d fuel s0 vp (tn (hrs g0 x)) h0 g0 (p1 + 1) (CK rec x d i (F_95_69 rec (I3 x) (I3 d) (I3 us.length) (I3 (4 * i)) (pt (prt g0 x) i 0) h1)) u := fun f1 p1 s1 h1 g1 v hf1 F1 k59 V1 k107 n9 n10 ok => by
      have C0 : F_95_69 rec (I3 x) (I3 d) (I3 us.length) (I3 (4 * i)) (pt (prt g0 x) i 0) h1 = (if vk g0 (prt g0 x) i = 0 then (F_95_113 rec (I3 x) (I3 d) (I3 us.length) (I3 (4 * i)) h1) else ((F_79 (I3 d) (10 + I3 us.length) (h1.2.1 49 9) (h1.1 49 10) h1).bind fun q4 => (some (I3 us.length + 1 : Int32)).bind fun v5 => F_95_113 rec (I3 x) (I3 d) v5 (I3 (4 * i)) q4)) := by
        unfold F_95_69
        rw [show I3 (4 * i) + 1 = I3 (4 * i + 1) from I3_add _ 1, F1.f43 (by omega)]; simp only [obs]
        rw [show F_47 (pt (prt g0 x) i 0) (at0 (prt g0 x) (4 * i + 1)) h1 = some (vk g0 (prt g0 x) i, h1) from F1.cvk L hi]; simp only [obs]
      rw [C0]
      by_cases z : vk g0 (prt g0 x) i = 0
      · rw [if_pos z, if_pos z]
        have a : agr (SG d (vp + vs.length)) g1 (sm_wI g1 107 d (I3 (i + 1))) := agr_wI agr_rfl (by unfold SG; omega)
        have F2 := Fr_g F1 a
        have V2 : LV d vp (vrs g0 (prt g0 x) (i + 1)) vs us h1 (sm_wI g1 107 d (I3 (i + 1))) := by
          rw [vrs_s, if_pos z, List.append_nil]
          exact ⟨V1.1, V1.2.1, tyV_grow F1.m.k.1 (grow_N (agr_mono (SG_N _ _) a)) V1.2.2.1, V1.2.2.2⟩
        obtain ⟨u, e1, e2⟩ := ih (i + 1) f1 p1 s1 us h1 _ (by omega) (by omega) F2 k59 V2 (by show (if d = d then I3 (i + 1) else g1.1 107 d) = _; rw [if_pos rfl])
        refine ⟨u, ?_, ?_⟩
        · simp only [obs]
          rw [stI_I d1 (by decide)]; simp only [obs]
          exact e1
        · unfold F_95_113
          simp only [obs]
          rw [e4, CK_next]; exact e2
      · rw [if_neg z, if_neg z]
        obtain ⟨g2, b2, P2⟩ := R_push (Ph_0 k59) (by simp only [List.length_nil]; omega) v
        rw [List.nil_append] at P2
        have V2 := LV_push F1.m.k.1 V1 (vk g0 (prt g0 x) i) v (ok z) P2
        have FP := Fr_Ph F1 (by omega) P2
        have F2 := Fr_g FP (g' := sm_wI (sm_wI g2 106 d (I3 (us.length + 1))) 107 d (I3 (i + 1))) (agr_wI (agr_wI agr_rfl (by unfold SG; omega)) (by unfold SG; omega))
        have F3 := Fr_h F2 (h' := sm_wI (sm_wJ h1 50 (16 * d + (10 + us.length)) v.2) 51 (16 * d + (10 + us.length)) (tag v.1)) (agr_wI (agr_wJ agr_rfl (by unfold SC1; omega)) (by unfold SC1; omega)) rfl
        have V3 : LV d vp (vrs g0 (prt g0 x) (i + 1)) vs (us ++ [v]) (sm_wI (sm_wJ h1 50 (16 * d + (10 + us.length)) v.2) 51 (16 * d + (10 + us.length)) (tag v.1)) (sm_wI (sm_wI g2 106 d (I3 (us.length + 1))) 107 d (I3 (i + 1))) := by
          rw [vrs_s, if_neg z]
          refine ⟨V2.1, V2.2.1, tyV_grow ?_ (grow_N (agr_wI agr_rfl (by unfold SN; omega))) V2.2.2.1, V2.2.2.2⟩
          exact (Fr_g FP (g' := sm_wI g2 106 d (I3 (us.length + 1))) (agr_wI agr_rfl (by unfold SG; omega))).m.k.1
        have ul : (us ++ [v]).length = us.length + 1 := by rw [List.length_append]; rfl
        obtain ⟨u, e1, e2⟩ := ih (i + 1) f1 p1 s1 (us ++ [v]) _ _ (by omega) (by omega) F3 (by
          show g2.1 67 59 = _
          rw [P2.n, ul]; rfl) V3 (by show (if d = d then I3 (i + 1) else (sm_wI g2 106 d (I3 (us.length + 1))).1 107 d) = _; rw [if_pos rfl])
        refine ⟨u, ?_, ?_⟩
        · rw [b2]; simp only [obs]
          rw [ldI_I d1 (by decide), P2.a.1 106 d (by unfold SP; omega), V1.2.2.2]; simp only [obs]
          rw [show I3 us.length + 1 = I3 (us.length + 1) from I3_add _ 1, stI_I d1 (by decide)]; simp only [obs]
          rw [stI_I d1 (by decide)]; simp only [obs]
          exact e1
        · rw [n9, n10, show (10 : Int32) + I3 us.length = I3 (10 + us.length) from I3_add 10 _, C_lay0 (by omega) (by omega)]; simp only [obs]
          unfold F_95_113
          simp only [obs]
          rw [e4, show I3 us.length + 1 = I3 (us.length + 1) from I3_add _ 1, CK_next, ← ul]; exact e2
    rw [CI_CK (by omega)]
    have a1 : agr (SC1 d) h (sm_wI (sm_wJ h 49 9 0) 49 10 0) := agr_wI (agr_wJ agr_rfl (by unfold SC1; omega)) (by unfold SC1; omega)
    have F1 := Fr_h F a1 rfl
    have V1 : LV d vp (vrs g0 (prt g0 x) i) vs us (sm_wI (sm_wJ h 49 9 0) 49 10 0) g := ⟨V.1, V.2.1, V.2.2.1, V.2.2.2⟩
    have CH : F_95_5B rec (I3 x, I3 d, I3 us.length, I3 (4 * i), h) = (if pt (prt g0 x) i 0 = (-1) then (F_95_69 rec (I3 x) (I3 d) (I3 us.length) (I3 (4 * i)) (pt (prt g0 x) i 0) (sm_wI (sm_wJ h 49 9 0) 49 10 0)) else ((F_81 (I3 d) (pt (prt g0 x) i 0) (sm_wI (sm_wJ h 49 9 0) 49 10 0)).bind fun q9 => (rec (pt (prt g0 x) i 0) (I3 d + 1) q9).bind fun q10 => if q10.1 = 0 then (F_95_69 rec (I3 x) (I3 d) (I3 us.length) (I3 (4 * i)) (pt (prt g0 x) i 0) q10.2) else (some (.inr (q10.1, q10.2))))) := by
      unfold F_95_5B
      rw [F.f42]; simp only [obs]
      rw [if_neg (by rw [ll, I3_le (by omega) (by omega)]; omega), F.f43 (by omega)]; simp only [obs]
      rw [show F_75 0 0 h = some (0, sm_wI (sm_wJ h 49 9 0) 49 10 0) from rfl]; simp only [obs]
      rfl
    rw [CH]
    refine L.c hi (show 0 < 4 by omega) (fun e => ?_) (fun y y1 y2 y3 y4 => ?_)
    · rw [if_pos e]
      obtain ⟨q, q1, q2⟩ : ∃ q, vk g0 (prt g0 x) i = I3 q ∧ q < 2147483648 := by
        have L' : LPt g (prt g0 x) n := ⟨L.l, L.n0, L.n4, fun i z hi hz => by rw [m_nH F.ar]; exact L.h i z hi hz⟩
        obtain ⟨q, q1, q2⟩ := vk_k F.m.k L' hi
        refine ⟨q, ?_, by omega⟩
        rw [← q1]
        unfold vk
        rw [m_hrs F.ar, m_hrs F.ar]
      by_cases z : vk g0 (prt g0 x) i = 0
      · obtain ⟨u, e1, e2⟩ := go (f - 1) p s _ g (0, 0) (by omega) F1 c59 V1 c107 rfl rfl (fun w => absurd z w)
        rw [if_pos z] at e1; simp only [obs] at e1
        rw [stI_I d1 (by decide)] at e1; simp only [obs] at e1
        refine ⟨u, ?_, e2⟩
        refine (lp_s (by omega) ?_).trans e1
        unfold F_371_20B F_371_154
        rw [l107]; simp only [obs]
        rw [F.l80, ll]; simp only [obs]
        rw [if_neg (by decide), div4 n4, if_neg (by rw [I3_le (by omega) (by omega)]; omega), F.q0 (by omega)]; simp only [obs]
        rw [if_pos e, F.q1 (by omega)]; simp only [obs]
        rw [F.rvk L hi]; simp only [obs]
        rw [if_pos z, l107]; simp only [obs]
        rw [show I3 i + 1 = I3 (i + 1) from I3_add i 1, stI_I d1 (by decide)]; rfl
      · have okz : okV g (tn (vk g0 (prt g0 x) i)) (zk (I3 q)) 0 := by rw [q1, tnI q2]; exact okV_zk q2
        have a48 : agr S48 g (sm_wJ (sm_wI g 67 48 (zk (I3 q))) 67 49 0) := agr_wJ (agr_wI agr_rfl (by unfold S48; omega)) (by unfold S48; omega)
        have F2 := Fr_48 F1 a48
        have G2 : grow g (sm_wJ (sm_wI g 67 48 (zk (I3 q))) 67 49 0) := grow_N (agr_wJ (agr_wI agr_rfl (by unfold SN; omega)) (by unfold SN; omega))
        obtain ⟨u, e1, e2⟩ := go (f - 1) p s _ (sm_wJ (sm_wI g 67 48 (zk (I3 q))) 67 49 0) (zk (I3 q), 0) (by omega) F2 c59 ⟨V1.1, V1.2.1, tyV_grow F.m.k.1 G2 V1.2.2.1, V1.2.2.2⟩ c107 rfl (by rw [tag_zk]; rfl) (fun _ => okV_grow F.m.k.1 G2 okz)
        rw [if_neg z] at e1
        refine ⟨u, ?_, e2⟩
        obtain ⟨g2, b2, P2⟩ := R_push (Ph_0 (g := sm_wJ (sm_wI g 67 48 (zk (I3 q))) 67 49 0) (T := vp + vs.length + us.length) c59) (by simp only [List.length_nil]; omega) (zk (I3 q), 0)
        have l106 : ldI g2 106 100 (I3 d) = some (I3 us.length) := by
          rw [ldI_I d1 (by decide), P2.a.1 106 d (by unfold SP; omega)]
          exact congrArg some V.2.2.2
        have k107 : g2.1 107 d = I3 i := (P2.a.1 107 d (by unfold SP; omega)).trans c107
        rw [b2] at e1; simp only [obs] at e1
        rw [l106] at e1; simp only [obs] at e1
        rw [stI_I d1 (by decide)] at e1; simp only [obs] at e1
        rw [stI_I d1 (by decide)] at e1; simp only [obs] at e1
        refine (lp_s (by omega) ?_).trans e1
        unfold F_371_20B F_371_154
        rw [l107]; simp only [obs]
        rw [F.l80, ll]; simp only [obs]
        rw [if_neg (by decide), div4 n4, if_neg (by rw [I3_le (by omega) (by omega)]; omega), F.q0 (by omega)]; simp only [obs]
        rw [if_pos e, F.q1 (by omega)]; simp only [obs]
        rw [F.rvk L hi]; simp only [obs]
        rw [if_neg z, q1, R_zero q2]; simp only [obs]
        rw [show F_342 ((sm_wJ (sm_wI g 67 48 (zk (I3 q))) 67 49 0).1 67 48) ((sm_wJ (sm_wI g 67 48 (zk (I3 q))) 67 49 0).2.1 67 49) (sm_wJ (sm_wI g 67 48 (zk (I3 q))) 67 49 0) = some g2 from b2]; simp only [obs]
        rw [l106]; simp only [obs]
        rw [stI_I d1 (by decide)]; simp only [obs]
        rw [ldI_I d1 (by decide), show (sm_wI g2 106 d (I3 us.length + 1)).1 107 d = g2.1 107 d from rfl, k107]; simp only [obs]
        rw [show I3 i + 1 = I3 (i + 1) from I3_add i 1, stI_I d1 (by decide)]; rfl
    · rw [if_neg y4]
      have prY := (fb i hi).2 y4
      rw [y3] at prY
      have len : (hpl g0 y).length ≤ vs.length := by rw [vx]; exact prY.1
      have vkY : vk g0 (prt g0 x) i = hrs g0 y := by
        unfold vk
        by_cases z : at0 (prt g0 x) (4 * i + 1) ≠ -1
        · rw [if_pos z]
          have := (fb i hi).1 y4 z
          rw [y3] at this; exact this.symm
        · rw [if_neg z, if_pos (show at0 (prt g0 x) (4 * i) ≠ -1 from y4), show tn (at0 (prt g0 x) (4 * i)) = y from y3]
      obtain ⟨h', c1, Ly1⟩ := C_lend (i := 0) (n := (hpl g0 y).length) (Ly_0 (sm_wI (sm_wJ h 49 9 0) 49 10 0) (d + 1)) F1.fr d1 (by omega) (by omega) (by simp only [List.length_nil]; omega)
      obtain ⟨g', b1, P⟩ := R_copy (i := 0) (n := (hpl g0 y).length) (Ph_0 c59) F.st (by omega) (by omega) (by simp only [List.length_nil]; omega)
      rw [List.nil_append] at Ly1 P
      obtain ⟨u, e1, e2⟩ := midL IH F1 (rk := tn (hrs g0 x)) 20 y1 (T := vp + vs.length + us.length) (by omega) (by omega) Ly1 P (tyV_first F.ty prY) (k := fun q10 => CK rec x d i (if q10.1 = 0 then (F_95_69 rec (I3 x) (I3 d) (I3 us.length) (I3 (4 * i)) (pt (prt g0 x) i 0) q10.2) else (some (.inr (q10.1, q10.2)))))
        (by decide) (fun o h1 o1 o2 => by
          show CK rec x d i (if I3 o = 0 then _ else _) = _
          rw [if_neg (I3_ne0 o1 o2)]; exact CK_stop o1 o2) (fun h1 g1 p1 s1 lt FN t59 t63 t62 t104 t107 rr LVt => by
          have G' := Fr_63 FN
          have V2 := LVt _ us (Nat.le_refl _) (by omega) V1
          have V3 : LV d vp (vrs g0 (prt g0 x) i) vs us h1 (sm_wI g1 67 63 0) := ⟨V2.1, V2.2.1, tyV_grow FN.m.k.1 (grow_N (agr_wI agr_rfl (by unfold SN; omega))) V2.2.2.1, V2.2.2.2⟩
          have S := go_20 FN t62 t104 (Or.inl rfl)
          have k107' : (sm_wI g1 67 63 0).1 107 d = I3 i := t107.trans c107
          have k107 : ldI (sm_wI g1 67 63 0) 107 100 (I3 d) = some (I3 i) := by rw [ldI_I d1 (by decide), k107']
          have k104 : ldI (sm_wI g1 67 63 0) 104 100 (I3 d) = some 20 := by rw [ldI_I d1 (by decide)]; exact congrArg some t104
          obtain ⟨u, w1, w2⟩ := go 1000000 p1 s1 h1 (sm_wI g1 67 63 0) (g1.1 67 60, g1.2.1 67 61) (by omega) G' t59 V3 k107' rr.1 rr.2.1 (fun _ => by rw [vkY]; exact okV_grow FN.m.k.1 (grow_N (agr_wI agr_rfl (by unfold SN; omega))) (rr.2.2.1 rfl))
          show Ends d fuel s0 vp (tn (hrs g0 x)) h0 g0 p1 (CK rec x d i (if (0 : Int32) = 0 then _ else _)) g1
          rw [if_pos rfl]
          have S2 : F_376 (I3 d) (I3 x) (sm_wI g1 67 63 0) = some u := by
            show F_376_0 (I3 d) (I3 x) (sm_wI g1 67 63 0) = _
            unfold F_376_0
            rw [k107]; simp only [obs]
            rw [G'.l105]; simp only [obs]
            rw [G'.l305]; simp only [obs]
            rw [k104]; simp only [obs]
            rw [if_pos (by decide), G'.q0 (by omega)]; simp only [obs]
            rw [y2, G'.rs y1]; simp only [obs]
            rw [vkY] at w1
            by_cases z : hrs g0 y = 0
            · rw [if_pos z] at w1; simp only [obs] at w1
              rw [stI_I d1 (by decide)] at w1; simp only [obs] at w1
              rw [if_pos z, G'.q0 (by omega)]; simp only [obs]
              rw [G'.q1 (by omega)]; simp only [obs]
              rw [G'.rvk L hi]; simp only [obs]
              rw [vkY, if_pos z]
              unfold F_376_142
              rw [k107]; simp only [obs]
              rw [show I3 i + 1 = I3 (i + 1) from I3_add i 1, stI_I d1 (by decide)]; simp only [obs]
              rw [(Fr_g G' (g' := sm_wI (sm_wI g1 67 63 0) 107 d (I3 (i + 1))) (agr_wI agr_rfl (by unfold SG; omega))).l371, w1]; rfl
            · rw [if_neg z] at w1
              rw [if_neg z]
              obtain ⟨g2, b2, P2⟩ := R_push (Ph_0 (g := sm_wI g1 67 63 0) (T := vp + vs.length + us.length) t59) (by simp only [List.length_nil]; omega) (g1.1 67 60, g1.2.1 67 61)
              rw [List.nil_append] at P2
              have FP := Fr_Ph G' (by omega) P2
              have l106 : ldI g2 106 100 (I3 d) = some (I3 us.length) := by
                rw [ldI_I d1 (by decide), P2.a.1 106 d (by unfold SP; omega)]
                exact congrArg some V3.2.2.2
              have m107 : g2.1 107 d = I3 i := (P2.a.1 107 d (by unfold SP; omega)).trans k107'
              rw [b2] at w1; simp only [obs] at w1
              rw [l106] at w1; simp only [obs] at w1
              rw [stI_I d1 (by decide)] at w1; simp only [obs] at w1
              rw [stI_I d1 (by decide)] at w1; simp only [obs] at w1
              rw [show F_342 ((sm_wI g1 67 63 0).1 67 60) ((sm_wI g1 67 63 0).2.1 67 61) (sm_wI g1 67 63 0) = some g2 from b2]; simp only [obs]
              rw [l106]; simp only [obs]
              rw [stI_I d1 (by decide)]; simp only [obs]
              unfold F_376_142
              rw [ldI_I d1 (by decide), show (sm_wI g2 106 d (I3 us.length + 1)).1 107 d = g2.1 107 d from rfl, m107]; simp only [obs]
              rw [show I3 i + 1 = I3 (i + 1) from I3_add i 1, stI_I d1 (by decide)]; simp only [obs]
              rw [(Fr_g FP (g' := sm_wI (sm_wI g2 106 d (I3 us.length + 1)) 107 d (I3 (i + 1))) (agr_wI (agr_wI agr_rfl (by unfold SG; omega)) (by unfold SG; omega))).l371, w1]; rfl
          exact Ends_step (step_goOn (by omega) FN.c64 FN.c56 t63 (S.trans S2)) w2)
      refine ⟨u, ?_, ?_⟩
      · refine lp_e (by omega) ?_
        unfold F_371_20B
        rw [l107]; simp only [obs]
        rw [F.l80, ll]; simp only [obs]
        rw [if_neg (by decide), div4 n4, if_neg (by rw [I3_le (by omega) (by omega)]; omega), F.q0 (by omega)]; simp only [obs]
        rw [if_neg y4, F.l105]; simp only [obs]
        rw [y2, F.mn y1]; simp only [obs]
        rw [I3_add, show F_343 (I3 vp) (I3 (vp + (hpl g0 y).length)) g = some g' from b1]; simp only [obs]
        rw [e1]; rfl
      · rw [y2] at e2 ⊢
        have C81 : F_81 (I3 d) (I3 y) (sm_wI (sm_wJ h 49 9 0) 49 10 0) = some h' := by
          show F_81_0 (I3 d) (I3 y) _ = _
          unfold F_81_0
          rw [F1.cmn y1]; simp only [obs]
          rw [show F_80 (I3 d) 0 0 (I3 (hpl g0 y).length) (sm_wI (sm_wJ h 49 9 0) 49 10 0) = some h' from c1]; rfl
        rw [C81]; simp only [obs]
        rw [CK_bind, show I3 d + 1 = I3 (d + 1) from I3_add d 1]; exact e2
end
theorem run_18 {rec : Int32 → Int32 → sm_H → Option (Int32 × sm_H)} {d fuel s x vp : Nat} {vs : List Val} {h0 g0 h g : sm_H} (IH : CallOK (d + 1) rec) (F : Fr d fuel s x vp vs h0 g0 h g 0 (s + 1)) (c63 : g.1 67 63 = 0) (c59 : g.1 67 59 = I3 (vp + vs.length)) (eh : sm_wI h0 49 8 (h0.1 49 8 + 1) = h) (lf : h0.1 49 8 < h0.1 49 7) (f : fm g0 x = 18) : Ends d fuel s vp (tn (hrs g0 x)) h0 g0 0 (F_82R rec (I3 x) (I3 d) h0) g := by
  have d1 := F.d1
  have v10 := F.v10
  have x500 := F.x500
  have vl := F.vl
  have vx := F.vx
  have fs := F.fs0
  rw [f] at fs
  have C := B82_18 (rec := rec) (x1 := I3 x) (x2 := I3 d) (by rw [I3_lit, I3_lt (by omega) (by decide)]; omega) lf eh (f ▸ F.f37)
  rw [C]
  have R := B370_18 F.c56 F.l103 F.l105 F.l305 F.l77 F.l78 F.l81 F.l81' (f ▸ F.l75)
  obtain ⟨t, n, t1, eb, n0, n4, pl4, ph, ⟨j0, j1, j2⟩, fc, er, el⟩ := FS_18 fs
  have w500 : nH g0 ≤ 500 := by have := F.hx; have w : nH g ≤ 500 := F.m.k.2.2.2.2.1.1.2; rw [m_nH F.ar] at w; exact w
  have L : LPt g0 (prt g0 x) n := ⟨pl4, n0, n4, fun i z hi hz => by
    rcases ph (4 * i + z) (by omega) with q | ⟨y, y1, y2⟩
    · exact Or.inl q
    · exact Or.inr ⟨y, y1, y2, by show tn (at0 (prt g0 x) (4 * i + z)) = y; rw [y2]; exact tnI (by omega), by show at0 (prt g0 x) (4 * i + z) ≠ -1; rw [y2]; exact I3_m1 (by omega)⟩⟩
  have fa : ∀ i, i < n → (pt (prt g0 x) i 2 ≠ -1 → hrs g0 (tn (pt (prt g0 x) i 2)) = 1) ∧ (pt (prt g0 x) i 3 ≠ -1 → hrs g0 (tn (pt (prt g0 x) i 3)) = hrs g0 x) ∧ ∀ z, 1 ≤ z → z < 4 → pt (prt g0 x) i z ≠ -1 → pre (hpl g0 (tn (pt (prt g0 x) i z))) (vrs g0 (prt g0 x) n ++ hpl g0 x) := fun i hi => by
    obtain ⟨q1, q2, q3, q4, q5, q6⟩ := fc i hi
    refine ⟨q3, fun z => by rw [er]; exact q4 z, fun z z1 z2 z3 => by rw [el]; exact q6 z z1 z2 z3⟩
  have fb : ∀ i, i < n → (pt (prt g0 x) i 0 ≠ -1 → pt (prt g0 x) i 1 ≠ -1 → hrs g0 (tn (pt (prt g0 x) i 0)) = hrs g0 (tn (pt (prt g0 x) i 1))) ∧ (pt (prt g0 x) i 0 ≠ -1 → pre (hpl g0 (tn (pt (prt g0 x) i 0))) (hpl g0 x)) := fun i hi => by
    obtain ⟨q1, q2, q3, q4, q5, q6⟩ := fc i hi
    exact ⟨q1, fun z => by rw [el]; exact q5 z⟩
  have a : agr (SG d (vp + vs.length)) g (sm_wI (sm_wI g 106 d 0) 107 d 0) := agr_wI (agr_wI agr_rfl (by unfold SG; omega)) (by unfold SG; omega)
  have F1 := Fr_g F a
  have V : LV d vp (vrs g0 (prt g0 x) 0) vs [] h (sm_wI (sm_wI g 106 d 0) 107 d 0) := ⟨(fun i hi => by cases hi), (fun i hi => by cases hi), tyV_0 _, by show (if d = d then (0 : Int32) else g.1 106 d) = _; rw [if_pos rfl]; rfl⟩
  obtain ⟨u, e1, e2⟩ := loop_init IH L fa fb j1 j2 n 0 1000000 0 (s + 1) [] h _ (by omega) (by omega) F1 c59 V (by show (if d = d then (0 : Int32) else (sm_wI g 106 d 0).1 107 d) = _; rw [if_pos rfl]; rfl)
  refine Ends_step (step_enter (by omega) F.c64 F.c56 c63 ?_) ?_ (u' := u)
  · rw [R, stI_I d1 (by decide)]; simp only [obs]
    rw [stI_I d1 (by decide)]; simp only [obs]
    rw [F1.l371, e1]; rfl
  · exact e2
theorem body {d : Nat} {rec : Int32 → Int32 → sm_H → Option (Int32 × sm_H)} (IH : CallOK (d + 1) rec) : BodyOK d rec := by
  intro h0 g0 h g fuel s x vp vs F c63 c59 c104 eh lf
  have f38 : fm g0 x ≤ 38 := by have := (F.m.k.2.2.2.2.1.2 x F.hx).1.2; rw [show tn (g.1 75 x) = fm g x from rfl, m_fm F.ar] at this; exact this
  rcases (show fm g0 x = 0 ∨ fm g0 x = 1 ∨ fm g0 x = 2 ∨ fm g0 x = 3 ∨ fm g0 x = 4 ∨ fm g0 x = 5 ∨ fm g0 x = 6 ∨ fm g0 x = 7 ∨ fm g0 x = 8 ∨ fm g0 x = 9 ∨ fm g0 x = 10 ∨ fm g0 x = 11 ∨ fm g0 x = 12 ∨ fm g0 x = 13 ∨ fm g0 x = 14 ∨ fm g0 x = 15 ∨ fm g0 x = 16 ∨ fm g0 x = 17 ∨ fm g0 x = 18 ∨ fm g0 x = 19 ∨ fm g0 x = 20 ∨ fm g0 x = 21 ∨ fm g0 x = 22 ∨ fm g0 x = 23 ∨ fm g0 x = 24 ∨ fm g0 x = 25 ∨ fm g0 x = 26 ∨ fm g0 x = 27 ∨ fm g0 x = 28 ∨ fm g0 x = 29 ∨ fm g0 x = 30 ∨ fm g0 x = 31 ∨ fm g0 x = 32 ∨ fm g0 x = 33 ∨ fm g0 x = 34 ∨ fm g0 x = 35 ∨ fm g0 x = 36 ∨ fm g0 x = 37 ∨ fm g0 x = 38 by omega) with f | f | f | f | f | f | f | f | f | f | f | f | f | f | f | f | f | f | f | f | f | f | f | f | f | f | f | f | f | f | f | f | f | f | f | f | f | f | f
  · exact run_0 IH F c63 c59 eh lf f
  · exact run_1 IH F c63 c59 eh lf f
  · exact run_2 IH F c63 c59 eh lf f
  · exact run_3 IH F c63 c59 eh lf f
  · exact run_4 IH F c63 c59 eh lf f
  · exact run_5 IH F c63 c59 eh lf f
  · exact run_6 IH F c63 c59 eh lf f
  · exact run_7 IH F c63 c59 eh lf f
  · exact run_8 IH F c63 c59 eh lf f
  · exact run_9 IH F c63 c59 eh lf f
  · exact run_10 IH F c63 c59 eh lf f
  · exact run_11 IH F c63 c59 eh lf f
  · exact run_12 IH F c63 c59 eh lf f
  · exact run_13 IH F c63 c59 eh lf f
  · exact run_14 IH F c63 c59 eh lf f
  · exact run_15 IH F c63 c59 eh lf f
  · exact run_16 IH F c63 c59 eh lf f
  · exact run_17 IH F c63 c59 eh lf f
  · exact run_18 IH F c63 c59 eh lf f
  · exact run_19 IH F c63 c59 eh lf f
  · exact run_20 IH F c63 c59 eh lf f
  · exact run_21 IH F c63 c59 eh lf f
  · exact run_22 IH F c63 c59 eh lf f
  · exact run_23 IH F c63 c59 eh lf f
  · exact run_24 IH F c63 c59 eh lf f
  · exact run_25 IH F c63 c59 eh lf f
  · exact run_26 IH F c63 c59 eh lf f
  · exact run_27 IH F c63 c59 eh lf f
  · exact run_28 IH F c63 c59 eh lf f
  · exact run_29 IH F c63 c59 eh lf f
  · exact run_30 IH F c63 c59 eh lf f
  · exact run_31 IH F c63 c59 eh lf f
  · exact run_32 IH F c63 c59 eh lf f
  · exact run_33 IH F c63 c59 eh lf f
  · exact run_34 IH F c63 c59 eh lf f
  · exact run_35 IH F c63 c59 eh lf f
  · exact run_36 IH F c63 c59 eh lf f
  · exact run_37 IH F c63 c59 eh lf f
  · exact run_38 IH F c63 c59 eh lf f
theorem call_ok : ∀ (k d : Nat), d ≤ 100 → 100 ≤ d + k → CallOK d (K_82 (k + 1)) := by
  intro k
  induction k with
  | zero =>
    intro d h1 h2
    have e : K_82 (0 + 1) = F_82R (K_82 0) := by funext x1 x2 h; rfl
    rw [e]
    exact enter h1 (fun lt => by omega)
  | succ k ih =>
    intro d h1 h2
    have e : K_82 (k + 1 + 1) = F_82R (K_82 (k + 1)) := by funext x1 x2 h; rfl
    rw [e]
    exact enter h1 (fun lt => body (ih (d + 1) (by omega) (by omega)))
def oC2 (b : Nat) : Prop := b = 47 ∨ b = 0 ∨ (52 ≤ b ∧ b ≤ 55) ∨ (62 ≤ b ∧ b ≤ 66)
def oR2 (b j : Nat) : Prop := b = 68 ∨ (110 ≤ b ∧ b ≤ 116) ∨ (b = 67 ∧ (j = 1 ∨ j = 19 ∨ j = 68 ∨ (76 ≤ j ∧ j ≤ 78) ∨ j = 91))
theorem I1_run {h g h1 g1 : sm_H} (I : I1 h g) (K : K1 h1 g1) (E : ext g g1) (G : grow g g1) (eh : ∀ b j, oC2 b → h1.1 b j = h.1 b j ∧ h1.2.1 b j = h.2.1 b j) (eg : ∀ b j, oR2 b j → g1.1 b j = g.1 b j) (eg2 : ∀ b j, oR2 b j → (j ≠ 19 ∨ b ≠ 67) → g1.2.1 b j = g.2.1 b j) (U : cU h1 g1) : I1 h1 g1 := by
  have B0 := I1_base I
  obtain ⟨-, cR, cP, -, cY, cF, cZ⟩ := I1_K.mp I
  have a : ∀ b j, oC2 b → h1.1 b j = h.1 b j := fun b j o => (eh b j o).1
  have a' : ∀ b j, oC2 b → h1.2.1 b j = h.2.1 b j := fun b j o => (eh b j o).2
  have b : ∀ b j, oR2 b j → g1.1 b j = g.1 b j := eg
  have b' : ∀ b j, oR2 b j → (j ≠ 19 ∨ b ≠ 67) → g1.2.1 b j = g.2.1 b j := eg2
  refine I1_K.mpr ⟨K, ?_, ?_, ?_, ?_, ?_, ?_⟩
  · obtain ⟨r1, r2, r3⟩ := cR
    refine ⟨?_, ?_, fun k hk => ?_⟩
    · rw [a 64 1 (by unfold oC2; omega), b 67 1 (by unfold oR2; omega)]; exact r1
    · rw [b 67 1 (by unfold oR2; omega)]; exact r2
    · rw [a 65 k (by unfold oC2; omega), b 68 k (by unfold oR2; omega)]; exact r3 k hk
  · obtain ⟨r1, r2, r3⟩ := cP
    refine ⟨?_, ?_, fun k hk => ?_⟩
    · rw [a 0 11 (by unfold oC2; omega), b 67 68 (by unfold oR2; omega)]; exact r1
    · rw [b 67 68 (by unfold oR2; omega)]; exact r2
    · rw [a' 66 k (by unfold oC2; omega), b' 110 k (by unfold oR2; omega) (Or.inr (by decide))]; exact r3 k hk
  · exact U
  · obtain ⟨y1, y2, y3, y4⟩ := cY
    refine ⟨?_, ?_, fun k hk => ?_, fun k hk => ?_⟩
    · rw [a 52 1 (by unfold oC2; omega), b 67 76 (by unfold oR2; omega)]; exact y1
    · rw [b 67 76 (by unfold oR2; omega)]; exact y2
    · rw [a 53 k (by unfold oC2; omega), b 112 k (by unfold oR2; omega)]; exact y3 k hk
    · rw [a 54 k (by unfold oC2; omega), b 111 k (by unfold oR2; omega)]; exact y4 k hk
  · obtain ⟨f1, f2, f3, f4, f5⟩ := cF
    have e91 : g1.1 67 91 = g.1 67 91 := b 67 91 (by unfold oR2; omega)
    have eD : nD g1 = nD g := by show tn _ = tn _; rw [e91]
    refine ⟨?_, ?_, ?_, ?_, fun d hd => ?_⟩
    · rw [a 55 17 (by unfold oC2; omega), b 67 77 (by unfold oR2; omega)]; exact f1
    · rw [a 55 18 (by unfold oC2; omega), b 67 78 (by unfold oR2; omega)]; exact f2
    · rw [a 55 15 (by unfold oC2; omega), e91]; exact f3
    · rw [e91]; exact f4
    · rw [eD] at hd
      obtain ⟨d1, d2, x, d3, d4, d5, d6, d7⟩ := f5 d hd
      have lt := (B0.h.2 x d3).2.2.1
      have eM : tM g1 (ty g x) = tM g (ty g x) := by show tn _ = tn _; rw [(E.t.2 _ lt).2.1]
      rw [a' 62 d (by unfold oC2; omega), b' 113 d (by unfold oR2; omega) (Or.inr (by decide)), a 63 d (by unfold oC2; omega), b 114 d (by unfold oR2; omega)]
      refine ⟨d1, d2, x, by have := E.h1; omega, d4, ?_⟩
      rw [ext_ty E d3, eM, b 115 d (by unfold oR2; omega), (E.t.2 _ lt).2.1]
      refine ⟨d5, d6, fun i hi => ?_⟩
      rw [b 116 _ (by unfold oR2; omega), (E.t.2 _ lt).2.2 i hi]
      exact d7 i hi
  · show h1.1 0 12 = g1.1 67 19 ∧ h1.1 47 1 = 0
    rw [a 0 12 (by unfold oC2; omega), b 67 19 (by unfold oR2; omega), a 47 1 (by unfold oC2; omega)]; exact cZ
theorem ext_m {g g1 : sm_H} (a : agr SRm g g1) : ext g g1 := by
  have e : ∀ b j, 70 ≤ b → b ≤ 95 → g1.1 b j = g.1 b j := fun b j h1 h2 => (m_c a h1 h2).1
  have r : ∀ j, ¬ SRm 67 j → tn (g1.1 67 j) = tn (g.1 67 j) := fun j n => by rw [a.1 67 j n]
  refine ⟨?_, fun c _ => e _ _ (by decide) (by decide), ?_, fun v _ => e _ _ (by decide) (by decide), ⟨?_, fun t _ => ⟨e _ _ (by decide) (by decide), e _ _ (by decide) (by decide), fun k _ => e _ _ (by decide) (by decide)⟩⟩, ?_, fun x _ => e _ _ (by decide) (by decide), ?_, fun k _ => ?_, ?_, ⟨?_, fun m _ => ⟨e _ _ (by decide) (by decide), e _ _ (by decide) (by decide), e _ _ (by decide) (by decide), e _ _ (by decide) (by decide), e _ _ (by decide) (by decide), e _ _ (by decide) (by decide)⟩⟩⟩
  · exact Nat.le_of_eq (r 6 (by unfold SRm SN; omega)).symm
  · exact Nat.le_of_eq (r 40 (by unfold SRm SN; omega)).symm
  · exact Nat.le_of_eq (r 10 (by unfold SRm SN; omega)).symm
  · exact Nat.le_of_eq (r 18 (by unfold SRm SN; omega)).symm
  · exact Nat.le_of_eq (r 35 (by unfold SRm SN; omega)).symm
  · rw [e 92 k (by decide) (by decide), m_ty a]
  · exact Nat.le_of_eq (r 37 (by unfold SRm SN; omega)).symm
  · exact Nat.le_of_eq (r 32 (by unfold SRm SN; omega)).symm
theorem K1_u {h g : sm_H} (K : K1 h g) (a b c d : Int32) (e : Int64) : K1 h (sm_wJ (sm_wI (sm_wI (sm_wI (sm_wI g 67 73 a) 67 69 b) 67 70 c) 67 71 d) 67 72 e) := by
  obtain ⟨wK, cK, wT, cT, wH, cH, wM, cM, cG, cO, cV, wX, cX, cXh, wF⟩ := K
  exact ⟨wK, cK, wT, cT, wH, cH, wM, cM, cG, cO, cV, wX, cX, cXh, wF⟩
theorem K1_p {h g : sm_H} (K : K1 h g) : K1 (sm_wI h 0 11 0) (sm_wI g 67 68 0) := by
  obtain ⟨wK, cK, wT, cT, wH, cH, wM, cM, cG, cO, cV, wX, cX, cXh, wF⟩ := K
  exact ⟨wK, cK, wT, cT, wH, cH, wM, cM, cG, cO, cV, wX, cX, cXh_fr (by repeat first | exact hi_rfl | refine hi_wI ?_ (by decide) | refine hi_wJ ?_ (by decide)) cXh, wF⟩
theorem R_isNum {g : sm_H} {k : Nat} (k6 : k ≤ 6) (c : Int64) : F_316 (I3 k) c g = some (b2 (decide (nar k c = c)), g) := by
  show F_316_0 (I3 k) c g = _
  unfold F_316_0 F_316_17 F_316_40
  simp only [true_or, or_true, if_true]
  by_cases q1 : k = 1
  · subst q1
    rw [if_pos (by decide)]
    simp only [cmp_eq]
    have e1 : (nar 1 c = c) = (c = 0 ∨ c = 1) := propext (and1_iff c)
    by_cases z0 : c = 0
    · rw [if_pos z0, decide_eq_true (by rw [e1]; exact Or.inl z0)]; rfl
    · rw [if_neg z0]
      by_cases z1 : c = 1
      · rw [if_pos z1, decide_eq_true (by rw [e1]; exact Or.inr z1)]; rfl
      · rw [if_neg z1, decide_eq_false (by rw [e1]; rintro (z | z); exact z0 z; exact z1 z)]; rfl
  · rw [if_neg (by rw [I3_lit, I3_inj (by omega) (by decide)]; exact q1), R_nar g (by omega)]; simp only [obs]
    simp only [cmp_eq]
    by_cases z : nar k c = c
    · rw [if_pos z, decide_eq_true z]; rfl
    · rw [if_neg z, decide_eq_false z]; rfl
theorem R_isValue {h g : sm_H} (K : K1 h g) {k : Nat} (k1 : 0 < k) (k2 : k < 20 + nC g) (c : Int64) : F_403 (I3 k) c g = some (b2 (decide (trK g k c = 0)), g) := by
  have wK := K.1
  have h12 := wK.2.1
  have cVq := K.2.2.2.2.2.2.2.2.2.2.1
  have w100 : nV g ≤ 100 := cVq.2.1.2
  have e40 : g.1 67 40 = I3 (nV g) := cVq.2.1.1
  show F_403_0 (I3 k) c g = _
  unfold F_403_0 F_403_57 F_403_58
  rw [R_plain (by omega)]; simp only [obs]
  unfold trK
  by_cases q : k ≤ 6
  · rw [if_pos q, decide_eq_true (show 1 ≤ k ∧ k ≤ 6 by omega), if_neg (by decide), R_isNum q]; simp only [obs]
    rw [zbb]
    by_cases q1 : nar k c = c
    · rw [if_pos q1, decide_eq_true q1]; rfl
    · rw [if_neg q1, decide_eq_false q1]; rfl
  · rw [if_neg q, decide_eq_false (show ¬ (1 ≤ k ∧ k ≤ 6) by omega), if_pos (by decide)]
    simp only [cmp_eq, cmp_lt]
    by_cases q1 : c = -1
    · rw [if_pos q1, if_pos q1]; rfl
    · rw [if_neg q1, if_neg q1, e40, R_out, toI64, I3_lit, I3m1 (by omega), show (0 : Int64).toInt = 0 from rfl]; simp only [obs]
      by_cases q2 : c.toInt < 0 ∨ (nV g : Int) ≤ c.toInt
      · rw [decide_eq_true (show c.toInt < 0 ∨ (nV g : Int) - 1 < c.toInt by omega), if_neg (by decide), if_pos q2]; rfl
      · have v1 : c.toInt.toNat < nV g := by omega
        rw [decide_eq_false (show ¬ (c.toInt < 0 ∨ (nV g : Int) - 1 < c.toInt) by omega), if_pos (by decide), if_neg q2]
        have ec : c = I6 c.toInt.toNat := by rw [← Int64.toInt_inj, I6_toInt (by omega)]; omega
        obtain ⟨qk, z1, z2, -⟩ := cVq.2.2.2 _ v1
        have e32 : Int64.toInt32 c = I3 c.toInt.toNat := by rw [ec, I6_32, ← ec]
        rw [e32, ldI_I (by omega) (by omega), z1]; simp only [obs]
        rw [R_below wK z2 (by omega), show tn (I3 qk) = qk from I3_clamp (by omega)]; simp only [obs]
        cases B g qk k <;> rfl
