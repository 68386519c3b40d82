def P_X2 (a : Nat) (A : Nat → Prop) (U : State) : Prop := vk_R "HandleHouse$Words" 72 "+-*/%&|^<=" a U ∧ (∃ v, jx_S a v A U) ∧ va_AO "HandleHouse$Thing" U ∧ ∀ q ∈ P_N, va_Nw (.methodLinkNest q.1 q.2.1 (P_Y.1 q.2.2.1) q.2.2.2) U
def P_X : sm_X := (P_XS, P_X2)
theorem P_Xok : sm_Xok P_X := by
  intro a A B s U h hB hk hvm hvw
  obtain ⟨h1, ⟨v, h2⟩, h3, h4⟩ := h
  refine ⟨?_, ⟨v, h2.call hB hk hvm⟩, h3.moved hvm, fun q hq => ?_⟩
  · rcases hvw with e | e
    · exact h1.same e.symm
    · exact h1.warm e
  · rcases hvw with e | e
    · exact va_Nw.same rfl e (h4 q hq)
    · exact va_Nw.warmM e (h4 q hq)
theorem P_Kok : sm_Kok P_K P_Ts P_CL 8 "HandleHouse$Thing" P_X P_Y := by
  refine ⟨fun q w h => P_tw_in h, fun j h => ?_, fun j h => ?_, fun j h => ?_, rfl, ⟨_, fun a A U h => h.1⟩, fun q hq a A U h => h.2.2.2 q hq, ⟨_, _, rfl⟩, fun ci q h => ?_, P_w_arr_int, P_w_arr_long, P_w_arr_boolean, fun a A U h => h.2.2.1, ⟨P_w_nat, P_w_sta, P_w_sys⟩, ⟨P_w_oi, P_w_oc⟩, ⟨P_w_st_max, P_w_math, P_w_co_max⟩, ⟨P_w_st_min, P_w_math, P_w_co_min⟩⟩
  · obtain ⟨y1, y2⟩ := P_flag h (by decide)
    exact ⟨y1, P_tw_in (of_decide_eq_true y2)⟩
  · obtain ⟨y1, y2⟩ := P_flag h (by decide)
    have y2 := (Bool.and_eq_true _ _).mp y2
    exact ⟨y1, P_tw_in (of_decide_eq_true y2.1), P_tw_in (of_decide_eq_true y2.2)⟩
  · obtain ⟨y1, y2⟩ := P_flag h (by decide)
    simp only [P_fz, Bool.and_eq_true, decide_eq_true_eq] at y2
    exact ⟨y1, P_tw_in y2.1.1, y2.1.2, y2.2⟩
  · obtain ⟨ty, h1, h2, h3⟩ := P_CFall ci q h
    exact (P_cfk_ok h2).2.2.2
theorem P_fr103 (L : Nat) (xs : Nat → Int32) : ∀ (h : sm_H) a k, sm_cl (P_G L xs) h a = 103 → (P_G L xs).2.2.2.1 a k = none := by
  intro h a k e
  show (P_fr.getD a []).getD k none = none
  have hz : P_fr.getD a [] = [] := by
    rcases Nat.lt_or_ge a 131 with c | c
    · have e1 : P_bc.getD a 0 = 103 := by
        have : sm_cl (P_G L xs) h a = P_bc.getD a 0 := by
          show (bif Nat.blt a 131 then P_bc.getD a 0 else _) = _
          rw [Nat.blt_eq.mpr c]; rfl
        rw [← this]; exact e
      exact (by decide +kernel : ∀ a, a < 131 → P_bc.getD a 0 = 103 → P_fr.getD a [] = []) a c e1
    · rw [List.getD_eq_getElem?_getD, List.getElem?_eq_none (Nat.le_trans (by decide +kernel) c)]
      rfl
  rw [hz]
  rfl
theorem P_progG {G : sm_G} (hfr : ∀ (h : sm_H) a k, sm_cl G h a = 103 → G.2.2.2.1 a k = none) : sm_Prog G P_F P_CL "HandleHouse$Thing" P_X P_Ts P_Y (fun j pc => sm_lk (P_TT j) pc) := sm_prog P_Kok P_good P_CF P_Xok hfr (by decide +kernel) P_plain P_allOk
theorem P_prog (L : Nat) (xs : Nat → Int32) : sm_Prog (P_G L xs) P_F P_CL "HandleHouse$Thing" P_X P_Ts P_Y (fun j pc => sm_lk (P_TT j) pc) := P_progG (P_fr103 L xs)
def P_c2 (j : Nat) : Bool := Nat.beq j 254 || (P_TT j).flatten.all fun e => !(Nat.beq e.2.2.2.2.1 200)
def P_c2s (k n : Nat) : Bool := (List.range n).all fun i => P_c2 (k + i)
theorem P_c2_0 : P_c2s 0 40 = true := by decide +kernel
theorem P_c2_40 : P_c2s 40 40 = true := by decide +kernel
theorem P_c2_80 : P_c2s 80 40 = true := by decide +kernel
theorem P_c2_120 : P_c2s 120 40 = true := by decide +kernel
theorem P_c2_160 : P_c2s 160 40 = true := by decide +kernel
theorem P_c2_200 : P_c2s 200 40 = true := by decide +kernel
theorem P_c2_240 : P_c2s 240 40 = true := by decide +kernel
theorem P_c2_280 : P_c2s 280 40 = true := by decide +kernel
theorem P_c2_320 : P_c2s 320 40 = true := by decide +kernel
theorem P_c2_360 : P_c2s 360 40 = true := by decide +kernel
theorem P_c2_400 : P_c2s 400 40 = true := by decide +kernel
theorem P_c2_440 : P_c2s 440 40 = true := by decide +kernel
theorem P_c2_pick {k n j : Nat} (h : P_c2s k n = true) (h1 : k ≤ j) (h2 : j < k + n) : P_c2 j = true := by
  have := List.all_eq_true.mp h (j - k) (List.mem_range.mpr (by omega))
  rw [show k + (j - k) = j by omega] at this
  exact this
theorem P_c2_all (j : Nat) : P_c2 j = true := by
  rcases Nat.lt_or_ge j 40 with h40 | h40
  · exact P_c2_pick P_c2_0 (by omega) (by omega)
  rcases Nat.lt_or_ge j 80 with h80 | h80
  · exact P_c2_pick P_c2_40 (by omega) (by omega)
  rcases Nat.lt_or_ge j 120 with h120 | h120
  · exact P_c2_pick P_c2_80 (by omega) (by omega)
  rcases Nat.lt_or_ge j 160 with h160 | h160
  · exact P_c2_pick P_c2_120 (by omega) (by omega)
  rcases Nat.lt_or_ge j 200 with h200 | h200
  · exact P_c2_pick P_c2_160 (by omega) (by omega)
  rcases Nat.lt_or_ge j 240 with h240 | h240
  · exact P_c2_pick P_c2_200 (by omega) (by omega)
  rcases Nat.lt_or_ge j 280 with h280 | h280
  · exact P_c2_pick P_c2_240 (by omega) (by omega)
  rcases Nat.lt_or_ge j 320 with h320 | h320
  · exact P_c2_pick P_c2_280 (by omega) (by omega)
  rcases Nat.lt_or_ge j 360 with h360 | h360
  · exact P_c2_pick P_c2_320 (by omega) (by omega)
  rcases Nat.lt_or_ge j 400 with h400 | h400
  · exact P_c2_pick P_c2_360 (by omega) (by omega)
  rcases Nat.lt_or_ge j 440 with h440 | h440
  · exact P_c2_pick P_c2_400 (by omega) (by omega)
  rcases Nat.lt_or_ge j 480 with h480 | h480
  · exact P_c2_pick P_c2_440 (by omega) (by omega)
  unfold P_c2
  rw [(P_far (by omega)).2]
  simp
def P_is74 (i : Instr) : Bool := match i with
  | .invokevirtual k => Nat.beq k 74
  | _ => false
theorem P_c2_254 : (P_t254.flatten.all fun e => !(Nat.beq e.2.2.2.2.1 200) || P_is74 e.2.1) = true := by decide +kernel
theorem P_ixat {j pc idx : Nat} {i : sm_I} (h : sm_lk (P_TT j) pc = some i) (hi : i.1 = .invokevirtual idx) (hc : i.2.2.2.1 = 200) : j = 254 ∧ idx = 74 := by
  have hm := sm_lk_mem h
  have hn : Nat.beq i.2.2.2.1 200 = true := by rw [hc]; rfl
  have z := P_c2_all j
  unfold P_c2 at z
  rcases (Bool.or_eq_true _ _).mp z with z | z
  · have e := Nat.eq_of_beq_eq_true z
    subst e
    have w := List.all_eq_true.mp P_c2_254 _ hm
    have w : (!(Nat.beq i.2.2.2.1 200) || P_is74 i.1) = true := w
    rw [hn, hi] at w
    exact ⟨rfl, Nat.eq_of_beq_eq_true w⟩
  · have w := List.all_eq_true.mp z _ hm
    have w : (!(Nat.beq i.2.2.2.1 200)) = true := w
    rw [hn] at w
    cases w
theorem P_ixok (l : Launch) {G : sm_G} (hPr : sm_Prog G P_F P_CL "HandleHouse$Thing" P_X P_Ts P_Y (fun j pc => sm_lk (P_TT j) pc)) (hix : G.2.2.2.2.2.2 = P_ix) : sm_Ix l G P_X P_Ts P_Y (fun j pc => sm_lk (P_TT j) pc) := by
  intro j d p e R s m args below meth c Q A pc i idx H locs cells slots ls ad x rest hx hb hml hown hts hRf hRl hA hT hi1 hi2 hst hS hls hcR hr k
  have hv := (hPr.2.2.2.2.2.2 j pc i hT).2.1
  simp only [sm_val, hi1] at hv
  obtain ⟨h1, ⟨v, h2⟩, h3, h4⟩ := hst.2.2.2
  obtain ⟨e1, e2⟩ := P_ixat hT hi1 hi2
  subst e1
  subst e2
  have hA2 : ∀ q, H.size ≤ q → A q := fun q h => hA q (Nat.le_trans hS.1 h)
  refine jx_call (r := jx_ix x) (va_runV (b := ad 3000000) (C := "java/lang/String") (As := [.int x]) (rest := rest) (cc := P_Y.2.1 254) (nL := P_Y.2.2.1 254) (own := "HandleHouse$Words") (index := 74) ⟨hx, hb, hml, hown, hts⟩ (jm_ix1 l (ad 3000000) v x) ⟨callB_of 1 hts (jx_good jc_ix1) rfl rfl rfl (hts _ jw_iS) (hts _ jl_ix1) (by decide +kernel) ⟨by show 4 + 1 ≤ R.frames; omega, by show 8 + (2 + 11) + 40 * 4 ≤ R.locals; omega⟩, hts _ ji_ix1, hts _ js_ix1⟩ ⟨jx_blind, va_Orecv h2.1 hS, fun U hU hW => ⟨rfl, h2.call (U := U) (fun q h => hA2 q (by rw [hU] at h; exact h)) (fun q h1 h2 => by rw [hU]; exact hS.2.1 q h1 h2) hW.alike⟩⟩ rfl rfl hls rfl (lv_room hr) hv.1 hcR) ?_
  rw [jx_ix_ok, ← hix]
  exact k
theorem P_mets (l : Launch) {G : sm_G} (hfr : ∀ (h : sm_H) a k, sm_cl G h a = 103 → G.2.2.2.1 a k = none) (hix : G.2.2.2.2.2.2 = P_ix) {kA : Nat → ClassId} {D : va_G} (d : Nat) : sm_Met l G P_F kA D P_CL "HandleHouse$Thing" P_X P_Ts P_Y d (sm_run G (fun j pc => sm_lk (P_TT j) pc) P_Y.2.2.1 P_Y.2.2.2.2 d) := sm_mets (P_progG hfr) (P_ixok l (P_progG hfr) hix) d
