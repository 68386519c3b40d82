def oK {σ ρ : Type} (body : σ → Option (σ ⊕ ρ)) (f : Nat) (r : Option (σ ⊕ ρ)) : Option ρ := match r with
  | none => none
  | some (.inl s) => lp body f s
  | some (.inr q) => some q
theorem lp_oK {σ ρ : Type} {body : σ → Option (σ ⊕ ρ)} {f : Nat} {s : σ} (hf : 0 < f) : lp body f s = oK body (f - 1) (body s) := by
  obtain ⟨f, rfl⟩ : ∃ q, f = q + 1 := ⟨f - 1, by omega⟩
  rw [show f + 1 - 1 = f by omega]
  have e : lp body (f + 1) s = (match body s with | none => none | some (.inl s') => lp body f s' | some (.inr r) => some r) := rfl
  rw [e]
  unfold oK
  cases body s with
  | none => rfl
  | some v => cases v <;> rfl
theorem oK_bind {α σ ρ : Type} {body : σ → Option (σ ⊕ ρ)} {f : Nat} (r : Option α) (K : α → Option (σ ⊕ ρ)) : oK body f (r.bind K) = r.bind fun q => oK body f (K q) := by cases r <;> rfl
theorem div4 {n : Nat} (h : n ≤ 4) : I3 (4 * n) / 4 = I3 n := by
  rcases (show n = 0 ∨ n = 1 ∨ n = 2 ∨ n = 3 ∨ n = 4 by omega) with rfl | rfl | rfl | rfl | rfl <;> decide
theorem vrs_g (g : sm_H) (ps : List Int32) (i : Nat) : (vrs g ps (i + 1)).length = (vrs g ps i).length + gone (vk g ps i) := by
  rw [vrs_s, List.length_append]
  unfold gone
  by_cases q : vk g ps i = 0
  · rw [if_pos q, if_pos q]; rfl
  · rw [if_neg q, if_neg q]; rfl
theorem vrs_pre (g : sm_H) (ps : List Int32) {i n : Nat} (h : i ≤ n) : ∃ l, vrs g ps n = vrs g ps i ++ l := by
  induction n with
  | zero => obtain rfl : i = 0 := by omega
            exact ⟨[], (List.append_nil _).symm⟩
  | succ n ih =>
    by_cases q : i = n + 1
    · exact ⟨[], by rw [q, List.append_nil]⟩
    · obtain ⟨l, e⟩ := ih (by omega)
      exact ⟨l ++ (if vk g ps n = 0 then [] else [vk g ps n]), by rw [vrs_s, e, List.append_assoc]⟩
theorem vrs_at (g : sm_H) (ps : List Int32) {i n : Nat} (h : i < n) (nz : vk g ps i ≠ 0) : (vrs g ps i).length < (vrs g ps n).length ∧ at0 (vrs g ps n) (vrs g ps i).length = vk g ps i := by
  obtain ⟨l, e⟩ := vrs_pre g ps (show i + 1 ≤ n from h)
  rw [vrs_s, if_neg nz, List.append_assoc] at e
  rw [e]
  constructor
  · rw [List.length_append, List.length_append]; simp only [List.length_cons]; omega
  · rw [at0_app2 (Nat.le_refl _), Nat.sub_self]; rfl
theorem atv_set {us : List Val} {j i : Nat} {v : Val} (hj : j < us.length) : atv (us.set j v) i = if i = j then v else atv us i := by
  unfold atv
  rw [List.getD_eq_getElem?_getD, List.getD_eq_getElem?_getD, List.getElem?_set]
  by_cases q : j = i
  · subst q; rw [if_pos rfl, if_pos hj, if_pos rfl]; rfl
  · rw [if_neg q, if_neg (fun z => q z.symm)]
theorem LV_set {d vp vi : Nat} {ks : List Int32} {vs us : List Val} {h g : sm_H} (wK : wfK g) (V : LV d vp ks vs us h g) (hv : vi < us.length) (v : Val) (ok : okV g (tn (at0 ks vi)) v.1 v.2) : LV d vp ks vs (us.set vi v) (sm_wI (sm_wJ h 50 (16 * d + (10 + vi)) v.2) 51 (16 * d + (10 + vi)) (tag v.1)) (sm_wJ (sm_wI g 108 (vp + vs.length + vi) v.1) 109 (vp + vs.length + vi) v.2) := by
  have G : grow g (sm_wJ (sm_wI g 108 (vp + vs.length + vi) v.1) 109 (vp + vs.length + vi) v.2) := grow_N (agr_wJ (agr_wI agr_rfl (by unfold SN; omega)) (by unfold SN; omega))
  refine ⟨fun i hi => ?_, fun i hi => ?_, ⟨by rw [List.length_set]; exact V.2.2.1.1, fun i hi => ?_⟩, by rw [List.length_set]; exact V.2.2.2⟩
  · rw [List.length_set] at hi
    rw [wJ_1, wJ_rd, wI_rd, wI_1, atv_set hv]
    by_cases q : i = vi
    · rw [if_pos q, if_pos (by omega), if_pos (by omega)]; exact ⟨rfl, rfl⟩
    · rw [if_neg q, if_neg (by omega), if_neg (by omega)]; exact V.1 i hi
  · rw [List.length_set] at hi
    rw [wI_1, wI_rd, wJ_rd, wJ_1, atv_set hv]
    by_cases q : i = vi
    · rw [if_pos q, if_pos (by omega), if_pos (by omega)]; exact ⟨rfl, rfl⟩
    · rw [if_neg q, if_neg (by omega), if_neg (by omega)]; exact V.2.1 i hi
  · rw [List.length_set] at hi
    rw [atv_set hv]
    by_cases q : i = vi
    · rw [if_pos q, q]; exact okV_grow wK G ok
    · rw [if_neg q]; exact okV_grow wK G (V.2.2.1.2 i hi)
def WC (rec : Int32 → Int32 → sm_H → Option (Int32 × sm_H)) (r i : Nat) (e : Option ((Int32 × Int32 × Int32 × Int32 × Int32 × Int32 × sm_H) ⊕ ((Int32 × Int32 × Int32 × Int32 × sm_H) ⊕ (Int32 × sm_H)))) : Option (Int32 × sm_H) := oK (F_96_9B rec) (1000000 - r - 1) (oK (F_96_23B rec) (1000000 - i - 1) e)
def RC (rec : Int32 → Int32 → sm_H → Option (Int32 × sm_H)) (x d c r vi i : Nat) (h : sm_H) : Option (Int32 × sm_H) := oK (F_96_9B rec) (1000000 - r - 1) (lp (F_96_23B rec) (1000000 - i) (I3 x, I3 d, I3 c, I3 r, I3 vi, I3 (4 * i), h))
theorem WC_bind {α : Type} {rec : Int32 → Int32 → sm_H → Option (Int32 × sm_H)} {r i : Nat} (q : Option α) (K : α → Option ((Int32 × Int32 × Int32 × Int32 × Int32 × Int32 × sm_H) ⊕ ((Int32 × Int32 × Int32 × Int32 × sm_H) ⊕ (Int32 × sm_H)))) : WC rec r i (q.bind K) = q.bind fun z => WC rec r i (K z) := by cases q <;> rfl
theorem RC_WC {rec : Int32 → Int32 → sm_H → Option (Int32 × sm_H)} {x d c r vi i : Nat} {h : sm_H} (hi : i ≤ 4) : RC rec x d c r vi i h = WC rec r i (F_96_23B rec (I3 x, I3 d, I3 c, I3 r, I3 vi, I3 (4 * i), h)) := by
  unfold RC WC
  rw [lp_oK (by omega)]
theorem WC_next {rec : Int32 → Int32 → sm_H → Option (Int32 × sm_H)} {x d c r vi i : Nat} {h : sm_H} : WC rec r i (some (.inl (I3 x, I3 d, I3 c, I3 r, I3 vi, I3 (4 * (i + 1)), h))) = RC rec x d c r vi (i + 1) h := by
  unfold RC WC
  rw [show 1000000 - (i + 1) = 1000000 - i - 1 by omega]; rfl
theorem WC_end {rec : Int32 → Int32 → sm_H → Option (Int32 × sm_H)} {r i : Nat} (q : Int32 × sm_H) : WC rec r i (some (.inr (.inr q))) = some q := rfl
theorem WC_round {rec : Int32 → Int32 → sm_H → Option (Int32 × sm_H)} {x d c r i : Nat} {h : sm_H} (hr : r < 10000) : WC rec r i (some (.inr (.inl (I3 x, I3 d, I3 c, I3 (r + 1), h)))) = RC rec x d c (r + 1) 0 0 h := by
  show lp (F_96_9B rec) (1000000 - r - 1) (I3 x, I3 d, I3 c, I3 (r + 1), h) = _
  rw [lp_oK (by omega)]
  unfold RC
  rw [show 1000000 - (r + 1) - 1 = 1000000 - r - 1 - 1 by omega]
  congr 1
  unfold F_96_9B
  rw [if_neg (by rw [I3_lit, I3_lt (by decide) (by omega)]; omega)]
  rfl
theorem C_149 (rec : Int32 → Int32 → sm_H → Option (Int32 × sm_H)) (y1 y2 y3 y4 y5 y6 y8 v : Int32) (h : sm_H) : F_96_149 rec y1 y2 y3 y4 y5 y6 y8 (I3 (gone v)) h = F_96_161 rec y1 y2 y3 y4 y6 y8 y5 (I3 (gone v)) h := by
  unfold F_96_149 gone
  by_cases q : v = 0
  · rw [if_pos q, if_pos (by decide)]; rfl
  · rw [if_neg q, if_neg (by decide)]; rfl
section
variable {d fuel s0 x vp p s : Nat} {vs : List Val} {h0 g0 h g : sm_H}
theorem R_next (F : Fr d fuel s0 x vp vs h0 g0 h g p s) {n i : Nat} (hn : (prt g0 x).length = 4 * n) (n4 : n ≤ 4) (hi : i < n) (c107 : g.1 107 d = I3 i) : F_375 (I3 d) (I3 x) g = some (sm_wI g 107 d (I3 (if i + 1 = n then 0 else i + 1))) := by
  have l107 : ldI g 107 100 (I3 d) = some (I3 i) := by rw [ldI_I F.d1 (by decide), c107]
  have e1 : I3 i + 1 = I3 (i + 1) := I3_add i 1
  show F_375_0 (I3 d) (I3 x) g = _
  unfold F_375_0 F_375_36
  simp only [l107, F.l80, hn, obs, div4 n4, e1]
  rw [if_neg (by decide)]
  by_cases q : i + 1 = n
  · rw [if_pos (by rw [q]), if_pos q, stI_I F.d1 (by decide)]; rfl
  · rw [if_neg (by rw [I3_inj (by omega) (by omega)]; exact q), if_neg q, stI_I F.d1 (by decide)]; rfl
theorem Fr.l374 (F : Fr d fuel s0 x vp vs h0 g0 h g p s) (k : Int32) : F_374 k g = lp F_374_17B 1000000 (I3 d, I3 x, k, g) := by
  show F_374_0 k g = _
  unfold F_374_0 F_374_17
  simp only [obs]
  rw [F.c56, show I3 (d + 1) - 1 = I3 d from I3_sub (a := d + 1) (b := 1) (by omega), F.l103]; simp only [obs]
theorem R_varAt (F : Fr d fuel s0 x vp vs h0 g0 h g p s) {n i : Nat} (L : LPt g0 (prt g0 x) n) (hi : i < n) : F_372 (I3 x) (I3 i) g = some (I3 (vrs g0 (prt g0 x) i).length, g) := by
  have n4 := L.n4
  have ll := L.l
  show lp F_372_5B 1000000 (I3 x, I3 i, 0, 0, g) = _
  refine lp_it i (fun k => (I3 x, I3 i, I3 (vrs g0 (prt g0 x) k).length, I3 k, g)) 1000000 (fun k hk => ?_) ?_ (by omega)
  · show F_372_5B (I3 x, I3 i, I3 (vrs g0 (prt g0 x) k).length, I3 k, g) = some (.inl (I3 x, I3 i, I3 (vrs g0 (prt g0 x) (k + 1)).length, I3 (k + 1), g))
    unfold F_372_5B F_372_54
    rw [if_neg (by rw [I3_le (by omega) (by omega)]; omega), F.q0 (by omega)]; simp only [obs]
    rw [F.q1 (by omega)]; simp only [obs]
    rw [F.rvk L (by omega)]; simp only [obs]
    rw [vrs_g, show I3 k + 1 = I3 (k + 1) from I3_add k 1]
    by_cases q : vk g0 (prt g0 x) k = 0
    · rw [if_pos q, gone_0 q, show I3 (vrs g0 (prt g0 x) k).length + 0 = I3 ((vrs g0 (prt g0 x) k).length + 0) from I3_add _ 0]
    · rw [if_neg q, gone_n q, show I3 (vrs g0 (prt g0 x) k).length + 1 = I3 ((vrs g0 (prt g0 x) k).length + 1) from I3_add _ 1]
  · show F_372_5B (I3 x, I3 i, I3 (vrs g0 (prt g0 x) i).length, I3 i, g) = _
    unfold F_372_5B
    rw [if_pos (by rw [I3_le (by omega) (by omega)]; omega)]
theorem C_varsOf (F : Fr d fuel s0 x vp vs h0 g0 h g p s) {n : Nat} (L : LPt g0 (prt g0 x) n) : F_97 (I3 x) h = some (I3 (vrs g0 (prt g0 x) n).length, h) := by
  have n4 := L.n4
  have ll := L.l
  show lp F_97_4B 1000000 (I3 x, 0, 0, h) = _
  refine lp_it n (fun k => (I3 x, I3 (vrs g0 (prt g0 x) k).length, I3 (4 * k), h)) 1000000 (fun k hk => ?_) ?_ (by omega)
  · show F_97_4B (I3 x, I3 (vrs g0 (prt g0 x) k).length, I3 (4 * k), h) = some (.inl (I3 x, I3 (vrs g0 (prt g0 x) (k + 1)).length, I3 (4 * (k + 1)), h))
    unfold F_97_4B F_97_52
    rw [F.f42]; simp only [obs]
    rw [if_neg (by rw [ll, I3_le (by omega) (by omega)]; omega), F.f43 (by omega)]; simp only [obs]
    rw [show I3 (4 * k) + 1 = I3 (4 * k + 1) from I3_add _ 1, F.f43 (by omega)]; simp only [obs]
    rw [show F_47 (at0 (prt g0 x) (4 * k)) (at0 (prt g0 x) (4 * k + 1)) h = some (vk g0 (prt g0 x) k, h) from F.cvk L hk]; simp only [obs]
    rw [vrs_g, show I3 (4 * k) + 4 = I3 (4 * (k + 1)) from I3_add _ 4]
    by_cases q : vk g0 (prt g0 x) k = 0
    · rw [if_pos q, gone_0 q, show I3 (vrs g0 (prt g0 x) k).length + 0 = I3 ((vrs g0 (prt g0 x) k).length + 0) from I3_add _ 0]
    · rw [if_neg q, gone_n q, show I3 (vrs g0 (prt g0 x) k).length + 1 = I3 ((vrs g0 (prt g0 x) k).length + 1) from I3_add _ 1]
  · show F_97_4B (I3 x, I3 (vrs g0 (prt g0 x) n).length, I3 (4 * n), h) = _
    unfold F_97_4B
    rw [F.f42]; simp only [obs]
    rw [if_pos (by rw [ll, I3_le (by omega) (by omega)]; omega)]
theorem C_head (F : Fr d fuel s0 x vp vs h0 g0 h g p s) {n i : Nat} (L : LPt g0 (prt g0 x) n) (hi : i < n) (rec : Int32 → Int32 → sm_H → Option (Int32 × sm_H)) (c r vi : Int32) : F_96_23B rec (I3 x, I3 d, c, r, vi, I3 (4 * i), h) = F_96_91 rec (I3 x) (I3 d) c r vi (I3 (4 * i)) (pt (prt g0 x) i 1) (pt (prt g0 x) i 2) (I3 (gone (vk g0 (prt g0 x) i))) h := by
  have n4 := L.n4
  have ll := L.l
  unfold F_96_23B
  rw [F.f42]; simp only [obs]
  rw [if_neg (by rw [ll, I3_le (by omega) (by omega)]; omega), show I3 (4 * i) + 1 = I3 (4 * i + 1) from I3_add _ 1, F.f43 (by omega)]; simp only [obs]
  rw [show I3 (4 * i) + 2 = I3 (4 * i + 2) from I3_add _ 2, F.f43 (by omega)]; simp only [obs]
  rw [F.f43 (by omega)]; simp only [obs]
  rw [show F_47 (at0 (prt g0 x) (4 * i)) (at0 (prt g0 x) (4 * i + 1)) h = some (vk g0 (prt g0 x) i, h) from F.cvk L hi]; simp only [obs]
  unfold gone
  by_cases q : vk g0 (prt g0 x) i = 0
  · rw [if_pos q, if_pos q]; rfl
  · rw [if_neg q, if_neg q]; rfl
end
