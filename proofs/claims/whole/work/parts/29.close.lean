def P_seal (h : sm_H) : sm_H := (h.1, h.2.1, h.2.2.1, h.2.2.2.1, h.2.2.2.2.1, 0, 0)
def P_sealed (h : sm_H) : Prop := h.n = 131 ∧ h.sl ≤ 1000000 ∧ (∀ a, a < 131 → h.2.2.2.1 a = P_bc.getD a 0) ∧ (∀ a, a < 131 → 100 ≤ P_bc.getD a 0 → h.2.2.2.2.1 a = P_bl.getD a 0) ∧ ∀ a k b, (P_fr.getD a []).getD k none = some b → h.2.2.1 a k = some b ∧ a < 131
theorem P_ws_eq {L : Nat} {xs : Nat → Int32} {kA : Nat → ClassId} {ad : Nat → Nat} {h : sm_H} (hs : P_sealed h) : sm_ws (P_Gr L xs) P_F kA h ad = sm_ws (P_G L xs) P_F kA (P_seal h) ad := by
  obtain ⟨h1, -, h2, h3, -⟩ := hs
  unfold sm_ws
  rw [show (P_Gr L xs).1 + h.n = 131 by rw [h1]; rfl, show (P_G L xs).1 + (P_seal h).n = 131 from rfl]
  refine List.map_congr_left (fun a ha => ?_)
  have ha := List.mem_range.mp ha
  have c1 : sm_cl (P_Gr L xs) h a = P_bc.getD a 0 := h2 a ha
  have c2 : sm_cl (P_G L xs) (P_seal h) a = P_bc.getD a 0 := by
    show (bif Nat.blt a 131 then P_bc.getD a 0 else _) = _
    rw [Nat.blt_eq.mpr ha]; rfl
  have l1 : sm_ln (P_Gr L xs) h a = h.2.2.2.2.1 a := rfl
  have l2 : sm_ln (P_G L xs) (P_seal h) a = P_bl.getD a 0 := by
    show (bif Nat.blt a 131 then P_bl.getD a 0 else _) = _
    rw [Nat.blt_eq.mpr ha]; rfl
  congr 1
  unfold sm_E
  rw [c1, c2]
  by_cases hc : P_bc.getD a 0 < 100
  · rw [if_pos hc, if_pos hc]; rfl
  · rw [if_neg hc, if_neg hc, l1, l2, h3 a ha (by omega)]; rfl
theorem P_ok_seal {L : Nat} {xs : Nat → Int32} {h : sm_H} (hs : P_sealed h) (ho : sm_okh (P_Gr L xs) h) : sm_okh (P_G L xs) (P_seal h) := by
  obtain ⟨h1, -, -, -, h5⟩ := hs
  refine ⟨fun a k b e ha => ?_, fun a k b e => h5 a k b e⟩
  have z := ho.1 a k b e (by rw [show (P_Gr L xs).1 + h.n = 131 by rw [h1]; rfl]; exact ha)
  rw [show (P_Gr L xs).1 + h.n = 131 by rw [h1]; rfl] at z
  exact z
def P_frk : Bool := (List.range 131).all fun a => (List.range (P_fr.getD a []).length).all fun k => match (P_fr.getD a []).getD k none with
  | none => true
  | some b => decide (P_h4.2.2.1 a k = some b)
theorem P_frk_ok : P_frk = true := by decide +kernel
theorem P_h4_fr : ∀ a k b, (P_fr.getD a []).getD k none = some b → P_h4.2.2.1 a k = some b ∧ a < 131 := by
  intro a k b e
  have ha : a < 131 := by
    rcases Nat.lt_or_ge a 131 with c | c
    · exact c
    · rw [List.getD_eq_getElem?_getD (l := P_fr), List.getElem?_eq_none (Nat.le_trans (by decide +kernel) c)] at e
      cases e
  have hk : k < (P_fr.getD a []).length := by
    rcases Nat.lt_or_ge k (P_fr.getD a []).length with c | c
    · exact c
    · rw [List.getD_eq_getElem?_getD (l := P_fr.getD a []), List.getElem?_eq_none c] at e
      cases e
  have z := List.all_eq_true.mp (List.all_eq_true.mp P_frk_ok a (List.mem_range.mpr ha)) k (List.mem_range.mpr hk)
  rw [e] at z
  exact ⟨of_decide_eq_true z, ha⟩
theorem P_sealed4 : P_sealed P_h4 := ⟨P_h4_n, P_h4_sl, P_h4_cl, P_h4_ln, P_h4_fr⟩
section PC
variable {p : Program} {l : Launch} {e : Env} {s : State} {m : MethodId} {below : List Frame} {meth : Method} {c : Code} {b L : Nat} {xs : Nat → Int32} {D : va_G} {kA : Nat → ClassId}
theorem P_back {H : Heap} {locs : List Loc} {ls : Array Slot} {h r : sm_H} {ad : Nat → Nat} (hx : p.tables.exec = Jvm.exec) (hb : c.code = code) (hr : meth.sig.returnType = ret) (hlocks : meth.locks = false) (hml : c.maxLocals = 4) (hown : s.vm.findClass R_law = some m.cls) (hts : ∀ w ∈ P_Ts, w.before #[Value.ref b] s = true) (hK : va_K D P_CL (sm_ty kA "HandleHouse$Thing") s) (hst : sm_stat (P_Gr L xs) P_X (fun q => s.heap.size ≤ q) ad s) (hab : ad 1000004 = b)
    (hs : P_sealed h) (ho : sm_okh (P_Gr L xs) h) (hP : va_P D P_CL (sm_ws (P_Gr L xs) P_F kA h ad) H) (hD : va_D (fun q => s.heap.size ≤ q) (sm_ws (P_Gr L xs) P_F kA h ad)) (hS : va_S (fun q => s.heap.size ≤ q) s.heap H locs) (hl : lv_has ls 4 [(3, .int 0), (2, .ref (ad 67)), (1, .ref (ad 0)), (0, .ref b)])
    (hf : F_470_18 L xs 0 (P_seal h) = some (1, r)) (hn : r.n ≤ 400000) (hsl : r.sl ≤ 6000000) : W p l e room_1 s m #[Value.ref b] below meth c H locs h.n h.sl (lw_Z below #[Value.ref b] s) (F0 m 18 ls []) := by
  have hA : ∀ q : Nat, s.heap.size ≤ q → (fun q : Nat => s.heap.size ≤ q) q := fun _ h => h
  obtain ⟨n, g⟩ := B_470_18 (d := 716) (Nat.le_refl _) (res := (some (.int 1), r)) hf rfl
  rw [P_ws_eq hs] at hP hD
  have ho2 := P_ok_seal hs ho
  have h1 : h.n = 131 := hs.1
  have h2 : h.sl ≤ 1000000 := hs.2.1
  have hst2 : sm_stat (P_G L xs) P_X (fun q => s.heap.size ≤ q) ad s := hst
  have hcok : sm_okcall (P_G L xs) (RUN L xs 716) := sm_run_ok (P_fr103 L xs) (fun j pc i q => ((P_prog L xs).2.2.2.2.2.2 j pc i q).1) 716
  have hT : ∀ pc i, sm_lk P_t470 pc = some i → sm_okc i ∧ sm_val P_Ts P_CL P_F "HandleHouse$Thing" P_X P_Y "HandleHouseLaw" ((P_Y.1 470).name = "<init>") code 4 pc i := fun pc i q => ⟨((P_prog L xs).2.2.2.2.2.2 470 pc i q).1, ((P_prog L xs).2.2.2.2.2.2 470 pc i q).2.1⟩
  have rc : room_1.cells = 600000 := rfl
  have rs : room_1.slots = 7302250 := rfl
  have rf : room_1.frames = 2048 := rfl
  have rl : room_1.locals = 84000 := rfl
  have key := sm_main (p := p) (l := l) (e := e) (R := room_1) (s := s) (m := m) (args := #[Value.ref b]) (below := below) (meth := meth) (c := c) (Q := lw_Z below #[Value.ref b] s)
    (G := P_G L xs) (F := P_F) (kA := kA) (D := D) (CL := P_CL) (eT := "HandleHouse$Thing") (X := P_X) (Ts := P_Ts) (Y := P_Y) (own := "HandleHouseLaw") (isI := (P_Y.1 470).name = "<init>") (cc := code) (nL := 4) (d := 716) (rt := 3) (n0 := 0) (s0 := 0) (b0 := 131) (b1 := h.sl) (N0 := 131) (T := sm_lk P_t470) (call := RUN L xs 716) (A := fun q => s.heap.size ≤ q) (ad0 := ad) (res := (some (.int 1), r))
    hx hb hml hown hts (fun w hw => good_of_word (P_good _ hw)) P_CF hK hA P_Xok (fun q => absurd q (by decide)) hT (P_fr103 L xs) hcok (P_mets l (P_fr103 L xs) rfl 716) (by omega) (by omega) (by show r.n + 131 ≤ room_1.cells + 0; omega) (by show r.sl + h.sl ≤ room_1.slots + 0; omega) (by omega) (by decide +kernel) (by show 131 + r.n ≤ 1000000; omega)
    (fun pc i idx H locs cells slots ls ad x rest q1 q2 q3 q4 q5 q6 q7 q8 q9 => P_ixok l (P_prog L xs) rfl 470 716 p e room_1 s m _ below meth c _ (fun q => s.heap.size ≤ q) pc i idx H locs cells slots ls ad x rest hx hb hml hown hts (by omega) (by omega) hA q1 q2 q3 q4 q5 q6 q7 q8 q9) ?_
    n 18 _ [] (P_seal h) g ad H locs h.n h.sl ls ⟨⟨ho2, ?_, fun v q => by cases q⟩, hP, hD, hS, ?_, fun _ _ => rfl, Nat.le_of_ble_eq_true rfl, hst2, by show h.n + 0 = 0 + 131; omega, by show h.sl + 0 = 0 + h.sl; omega⟩
  · exact key
  · intro pc H locs cells slots ls2 ad' hTi hrv hdg hz he hP9 hD9 hS9 hc1 hc2
    have hc1 : cells + 0 = r.n + 131 := hc1
    have hc2 : slots + 0 = r.sl + h.sl := hc2
    refine va_forget (fun q hq => hS9.2.2 q hq) ?_
    refine W.widen (k := 600000) (n := 7302250) (by omega) (by omega) ?_
    exact lw_ret hx hb hr hlocks hdg
  · intro j v ev
    rcases (show j = 0 ∨ j = 1 ∨ j = 2 ∨ j = 3 ∨ 4 ≤ j by omega) with rfl | rfl | rfl | rfl | hj
    · cases ev; exact Or.inr (Nat.le_of_ble_eq_true rfl)
    · cases ev; exact Or.inl (Nat.le_of_ble_eq_true rfl)
    · cases ev; exact Or.inl (Nat.le_of_ble_eq_true rfl)
    · cases ev; trivial
    · rw [List.getElem?_eq_none (by exact hj)] at ev; cases ev
  · refine ⟨hl.1, hl.2.1, fun j v ev => ?_⟩
    rcases (show j = 0 ∨ j = 1 ∨ j = 2 ∨ j = 3 ∨ 4 ≤ j by omega) with rfl | rfl | rfl | rfl | hj
    · cases ev
      show ls[0]? = some (.val (.ref (ad 1000004)))
      rw [hab]; exact lv_at hl 3 rfl
    · cases ev; exact lv_at hl 2 rfl
    · cases ev; exact lv_at hl 1 rfl
    · cases ev; exact lv_at hl 0 rfl
    · rw [List.getElem?_eq_none (by exact hj)] at ev; cases ev
theorem P_whole {h2 h4 r : sm_H} (l : Launch) (hL : L ≤ 3072) (C0 : lw_At p s m meth c b L xs)
    (run2 : sm_run (P_Gr L xs) (fun j pc => sm_lk (P_TT j) pc) P_Y.2.2.1 P_Y.2.2.2.2 12 257 [.ref 0] (sm_mk (P_Gr L xs) P_e0 11 13) (none, h2)) (n2 : h2.n = 67) (s2 : h2.sl ≤ 1000000)
    (run4 : sm_run (P_Gr L xs) (fun j pc => sm_lk (P_TT j) pc) P_Y.2.2.1 P_Y.2.2.2.2 12 288 [.ref 67] (sm_mk (P_Gr L xs) h2 12 112) (none, h4)) (hs : P_sealed h4)
    (hf : F_470_18 L xs 0 (P_seal h4) = some (1, r)) (hn : r.n ≤ 400000) (hsl : r.sl ≤ 6000000) : W p l e room_1 s m #[Value.ref b] below meth c s.heap [] 0 0 (lw_Z below #[Value.ref b] s) (entryFrame m ([Value.ref b] : List Value).toArray 4) := by
  obtain ⟨D, kA, ad, hK, hst, hab⟩ := P_entry hL C0
  obtain ⟨hx, hb, hr, hml, hown, hts0, hX, hbl, hlocks, hgv⟩ := id C0
  have hts : ∀ w ∈ P_Ts, w.before #[Value.ref b] s = true := fun w hw => hts0 w (List.mem_filter.mp hw).1
  have hP : va_P D P_CL (sm_ws (P_Gr L xs) P_F kA P_e0 ad) s.heap := fun k q h => by cases h
  have hD : va_D (fun q => s.heap.size ≤ q) (sm_ws (P_Gr L xs) P_F kA P_e0 ad) := ⟨fun i j p q h => (by cases h), fun k q h => (by cases h)⟩
  have hS : va_S (fun q : Nat => s.heap.size ≤ q) s.heap s.heap [] := va_S.rf
  have ho : sm_okh (P_Gr L xs) P_e0 := ⟨fun a k b h => (by cases h), fun a k b h => (by cases h)⟩
  have hl := lv_entry ([.ref b]) (n := 4) (Nat.le_of_ble_eq_true rfl)
  rw [lg_entry_eq]
  generalize (lg_sl ([.ref b]) ++ List.replicate (4 - (lg_sl ([.ref b])).length) Slot.unset).toArray = ls at hl ⊢
  have hl : lv_has ls 4 [(0, .ref b)] := hl
  refine P_newrun (D := D) (kA := kA) (own := "HandleHouseLaw") (h := P_e0) (h2 := h2) (ad := ad) (ci := 11) (N := 13) (j := 257) (i1 := 7) (i2 := 9) (C := "HandleHouse") (cc := code) (nL := 4) hx hb hml hown hts hK hst hP hD hS ho hl.1 rfl P_wl_7 lw_d0 lw_d3 lw_d4 rfl rfl P_wl_9 rfl run2 (by omega) s2 rfl rfl (fun ad1 H1 locs1 he1 ho1 hn1 hP1 hD1 hS1 => ?_)
  have hst1 : sm_stat (P_Gr L xs) P_X (fun q => s.heap.size ≤ q) ad1 s := sm_stat_ext hst (fun a ha => he1 a (Or.inr ha))
  refine lv_astore_n (lv' := [(1, .ref (ad1 0)), (0, .ref b)]) hx hb lw_d7 rfl hl (by decide) rfl (fun ls hl => ?_)
  refine P_newrun (D := D) (kA := kA) (own := "HandleHouseLaw") (h := h2) (h2 := h4) (ad := ad1) (ci := 12) (N := 112) (j := 288) (i1 := 10) (i2 := 12) (C := "HandleHouseModel") (cc := code) (nL := 4) hx hb hml hown hts hK hst1 hP1 hD1 hS1 ho1 hl.1 rfl P_wl_10 lw_d8 lw_d11 lw_d12 rfl rfl P_wl_12 rfl (by rw [n2]; exact run4) (by have := hs.1; omega) hs.2.1 rfl rfl (fun ad2 H2 locs2 he2 ho2 hn2 hP2 hD2 hS2 => ?_)
  have hst2 : sm_stat (P_Gr L xs) P_X (fun q => s.heap.size ≤ q) ad2 s := sm_stat_ext hst1 (fun a ha => he2 a (Or.inr ha))
  rw [n2]
  refine lv_astore_n (lv' := [(2, .ref (ad2 67)), (1, .ref (ad1 0)), (0, .ref b)]) hx hb lw_d15 rfl hl (by decide) rfl (fun ls hl => ?_)
  refine lv_iconst (v := 0) hx hb lw_d16 (by decide) ?_
  refine lv_istore_n (lv' := [(3, .int 0), (2, .ref (ad2 67)), (1, .ref (ad1 0)), (0, .ref b)]) hx hb lw_d17 rfl hl (by decide) rfl (fun ls hl => ?_)
  have e0 : ad2 0 = ad1 0 := he2 0 (Or.inl (by omega))
  rw [← e0] at hl
  have eb : ad2 1000004 = b := by rw [he2 _ (Or.inr (by decide)), he1 _ (Or.inr (by decide)), hab]
  exact P_back hx hb hr hlocks hml hown hts hK hst2 eb hs ho2 hP2 hD2 hS2 hl hf hn hsl
end PC
def P_h5 : sm_H := P_seal P_h4
theorem P_end {p : Program} {e : Env} {s : State} {m : MethodId} {below : List Frame} {meth : Method} {c : Code} (l : Launch) {b L : Nat} {xs : Nat → Int32} (hL : L ≤ 3072) (C0 : lw_At p s m meth c b L xs) (hf : ∃ r, F_470_18 L xs 0 P_h5 = some (1, r) ∧ r.n ≤ 400000 ∧ r.sl ≤ 6000000) : W p l e room_1 s m #[Value.ref b] below meth c s.heap [] 0 0 (lw_Z below #[Value.ref b] s) (entryFrame m ([Value.ref b] : List Value).toArray 4) := by
  obtain ⟨r, hf, hn, hsl⟩ := hf
  exact P_whole (h2 := P_h2) (h4 := P_h4) (r := r) l hL C0 (P_run2 L xs) P_h2_n P_h2_sl (P_run4 L xs) P_sealed4 hf hn hsl
