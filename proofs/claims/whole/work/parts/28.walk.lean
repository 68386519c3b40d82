theorem lw_d0 : decode code 0 = .ok (.new 7, 3) := by decide +kernel
theorem lw_d3 : decode code 3 = .ok (.dup, 1) := by decide +kernel
theorem lw_d4 : decode code 4 = .ok (.invokespecial 9, 3) := by decide +kernel
theorem lw_d7 : decode code 7 = .ok (.astore_n 1, 1) := by decide +kernel
theorem lw_d8 : decode code 8 = .ok (.new 10, 3) := by decide +kernel
theorem lw_d11 : decode code 11 = .ok (.dup, 1) := by decide +kernel
theorem lw_d12 : decode code 12 = .ok (.invokespecial 12, 3) := by decide +kernel
theorem lw_d15 : decode code 15 = .ok (.astore_n 2, 1) := by decide +kernel
theorem lw_d16 : decode code 16 = .ok (.iconst 0, 1) := by decide +kernel
theorem lw_d17 : decode code 17 = .ok (.istore_n 3, 1) := by decide +kernel
theorem P_wl_7 : Cond.classLink "HandleHouseLaw" 7 "HandleHouse" ∈ P_Ts := P_tw_in (q := 1021) rfl
theorem P_wl_9 : Cond.methodLink "HandleHouseLaw" 9 (P_Y.1 257) ∈ P_Ts := P_tw_in (q := 1023) rfl
theorem P_wl_10 : Cond.classLink "HandleHouseLaw" 10 "HandleHouseModel" ∈ P_Ts := P_tw_in (q := 8148) rfl
theorem P_wl_12 : Cond.methodLink "HandleHouseLaw" 12 (P_Y.1 288) ∈ P_Ts := P_tw_in (q := 8150) rfl
theorem P_frr (L : Nat) (xs : Nat → Int32) : ∀ (h : sm_H) a k, sm_cl (P_Gr L xs) h a = 103 → (P_Gr L xs).2.2.2.1 a k = none := fun _ _ _ _ => rfl
theorem P_goodW (j : Nat) (hj : Cond.code (P_Y.1 j) (P_Y.2.1 j) (P_Y.2.2.1 j) (P_Y.2.2.2.1 j) ∈ P_Ts) : GoodIn P_Ts (sm_W P_Ts P_Y j) := fun w hw => by
  rcases List.mem_cons.mp hw with rfl | hw
  · exact ⟨hj, good_of_word (P_good _ hj)⟩
  · exact ⟨hw, good_of_word (P_good _ hw)⟩
section PW
variable {p : Program} {l : Launch} {e : Env} {s : State} {m : MethodId} {below : List Frame} {meth : Method} {c : Code} {b L : Nat} {xs : Nat → Int32} {Q : State → Prop} {D : va_G} {kA : Nat → ClassId}
theorem P_newrun {own : String} {H : Heap} {locs : List Loc} {cells slots : Nat} {ls : Array Slot} {h h2 : sm_H} {ad : Nat → Nat} {ci N j pc i1 i2 : Nat} {C : String} {T : u_T} {cc : ByteArray} {nL : Nat} {rest : List Value}
    (hx : p.tables.exec = Jvm.exec) (hb : c.code = cc) (hml : c.maxLocals = nL) (hown : s.vm.findClass own = some m.cls) (hts : ∀ w ∈ P_Ts, w.before #[Value.ref b] s = true) (hK : va_K D P_CL (sm_ty kA "HandleHouse$Thing") s) (hst : sm_stat (P_Gr L xs) P_X (fun q => s.heap.size ≤ q) ad s)
    (hP : va_P D P_CL (sm_ws (P_Gr L xs) P_F kA h ad) H) (hD : va_D (fun q => s.heap.size ≤ q) (sm_ws (P_Gr L xs) P_F kA h ad)) (hS : va_S (fun q => s.heap.size ≤ q) s.heap H locs) (ho : sm_okh (P_Gr L xs) h) (hls : ls.size = nL)
    (hc : P_CL[ci]? = some (C, T, N)) (hcl : Cond.classLink own i1 C ∈ P_Ts) (d0 : decode cc pc = .ok (.new i1, 3)) (d3 : decode cc (pc + 3) = .ok (.dup, 1)) (d4 : decode cc (pc + 3 + 1) = .ok (.invokespecial i2, 3)) (hj : (P_y j).2.2.2.2.2.1 = 3) (hnp : (P_y j).2.2.2.2.2.2.1 = 0) (hlk : Cond.methodLink own i2 (P_Y.1 j) ∈ P_Ts) (hr : rest = [])
    (run : sm_run (P_Gr L xs) (fun j pc => sm_lk (P_TT j) pc) P_Y.2.2.1 P_Y.2.2.2.2 12 j [.ref h.n] (sm_mk (P_Gr L xs) h ci N) (none, h2)) (hn : h2.n ≤ 1000) (hsl : h2.sl ≤ 1000000) (h1 : cells = h.n) (h2s : slots = h.sl)
    (k : ∀ (ad' : Nat → Nat) (H1 : Heap) (locs1 : List Loc), (∀ a, a < h.n ∨ 1000000 ≤ a → ad' a = ad a) → sm_okh (P_Gr L xs) h2 → h.n + 1 ≤ h2.n → va_P D P_CL (sm_ws (P_Gr L xs) P_F kA h2 ad') H1 → va_D (fun q => s.heap.size ≤ q) (sm_ws (P_Gr L xs) P_F kA h2 ad') → va_S (fun q => s.heap.size ≤ q) s.heap H1 locs1 → W p l e room_1 s m #[Value.ref b] below meth c H1 locs1 h2.n h2.sl Q (F0 m (pc + 3 + 1 + 3) ls [.ref (ad' h.n)])) :
    W p l e room_1 s m #[Value.ref b] below meth c H locs cells slots Q (F0 m pc ls rest) := by
  subst hr
  subst h1
  subst h2s
  have hA : ∀ q : Nat, s.heap.size ≤ q → (fun q : Nat => s.heap.size ≤ q) q := fun _ h => h
  have eG : (P_Gr L xs).1 + h.n = h.n := Nat.zero_add _
  obtain ⟨y1, y3, y5, y6⟩ := P_Kok.2.2.2.1 j hj
  have hcok : sm_okcall (P_Gr L xs) (sm_run (P_Gr L xs) (fun j pc => sm_lk (P_TT j) pc) P_Y.2.2.1 P_Y.2.2.2.2 12) := sm_run_ok (P_frr L xs) (fun j pc i q => ((P_progG (P_frr L xs)).2.2.2.2.2.2 j pc i q).1) 12
  have ho1 : sm_okh (P_Gr L xs) (sm_mk (P_Gr L xs) h ci N) := sm_okh_mk ho
  have hAs : sm_oks ((P_Gr L xs).1 + (sm_mk (P_Gr L xs) h ci N).n) [.ref h.n] := by
    refine sm_oks_cons.mpr ⟨?_, fun v q => by cases q⟩
    show h.n < 0 + (h.n + 1) ∨ _
    omega
  have zo := hcok _ _ _ _ ho1 hAs run
  have zn : h.n + 1 ≤ h2.n := zo.2.1
  have zs : h.sl + N ≤ h2.sl := zo.2.2.1
  have rc : room_1.cells = 600000 := rfl
  have rs : room_1.slots = 7302250 := rfl
  have hlt : (P_Gr L xs).1 + h.n < 1000000 := by omega
  refine sm_Wnew (G := P_Gr L xs) (F := P_F) (kA := kA) (D := D) (CL := P_CL) (eT := "HandleHouse$Thing") (Ts := P_Ts) (own := own) (h := h) (ad := ad) (ci := ci) (idx := i1) hx hb hts P_CF hown hK hP hD hS hA ho hlt hc hcl (P_Kok.2.2.2.2.2.2.2.2.1 ci _ hc).1 (P_Kok.2.2.2.2.2.2.2.2.1 ci _ hc).2 (by omega) (by omega) d0 (fun q H1 a1 a2 a3 => ?_)
  refine lv_dup hx hb d3 rfl ?_
  have eq0 : va_up ad ((P_Gr L xs).1 + h.n) q h.n = q := by
    rw [eG]; unfold va_up; rw [if_pos rfl]
  have hext0 : ∀ a, a < (P_Gr L xs).1 + h.n ∨ 1000000 ≤ a → va_up ad ((P_Gr L xs).1 + h.n) q a = ad a := sm_mk_ext hlt
  have hst1 : sm_stat (P_Gr L xs) P_X (fun q => s.heap.size ≤ q) (va_up ad ((P_Gr L xs).1 + h.n) q) s := sm_stat_ext hst (fun a ha => hext0 a (Or.inr ha))
  have cbb : CallB room_1 s #[Value.ref b] own i2 (P_Y.1 j) (P_Y.2.1 j) (P_Y.2.2.1 j) (P_Y.2.2.2.1 j) (sm_W P_Ts P_Y j) (sm_RM 12 (sm_mk (P_Gr L xs) h ci N) (none, h2)) (h2.n - (sm_mk (P_Gr L xs) h ci N).n) (h2.sl - (sm_mk (P_Gr L xs) h ci N).sl) (P_y j).2.2.2.2.2.2.1 :=
    callB_of _ hts (P_goodW j y1.1) rfl rfl rfl (hts _ y1.2.1) (hts _ hlk) y1.2.2.1 ⟨by have e : (sm_RM 12 (sm_mk (P_Gr L xs) h ci N) (none, h2)).frames = 18 := rfl; have e2 : room_1.frames = 2048 := rfl; omega, by have := y1.2.2.2; have e : (sm_RM 12 (sm_mk (P_Gr L xs) h ci N) (none, h2)).locals = 1440 := rfl; have e2 : room_1.locals = 84000 := rfl; omega⟩
  rw [y5, hnp] at cbb
  have en : (sm_mk (P_Gr L xs) h ci N).n = h.n + 1 := rfl
  have es : (sm_mk (P_Gr L xs) h ci N).sl = h.sl + N := rfl
  refine sm_Wcall (A0 := fun q => s.heap.size ≤ q) (H0 := s.heap) (va_runI (b := q) (As := []) (rest := [.ref q]) (Ts := P_Ts) (own := own) ⟨hx, hb, hml, hown, hts⟩ (P_mets l (P_frr L xs) rfl (kA := kA) (D := D) 12 j [.ref h.n] _ (none, h2) run ho1 hAs (by show 0 + h2.n ≤ 1000000; omega) (by show h2.sl - (h.sl + N) ≤ 60000000; omega) (va_up ad ((P_Gr L xs).1 + h.n) q) H1.size) ⟨cbb, y6, hts _ y3⟩ ⟨sm_blind P_Xok, fun U hU hW => ?_⟩ rfl rfl hls rfl (lv_room (Nat.le_of_ble_eq_true rfl)) d4 ?_) a3 (sm_free a2 a3 hA) (sm_free a2 a3 hA) (fun ad' H2 locs2 he2 hP2 hD2 hS2 => ?_)
  · refine ⟨by show _ = [Value.ref _].toArray; rw [eq0], by rw [hU], by rw [hU]; exact a1, va_K.moved hW.alike hK, a2.weaken (fun _ _ _ _ => trivial), sm_stat_call P_Xok hst1 (sm_free a2 a3 hA) (fun q h1 h2 => by rw [hU]; exact a3.2.1 q h1 h2) hW.alike (Or.inr hW)⟩
  · show h.n + 1 + (h2.n - (h.n + 1)) ≤ 600000 ∧ h.sl + N + (h2.sl - (h.sl + N)) ≤ 7302250
    omega
  · have k2 := k ad' H2 locs2 (fun a ha => ?_) zo.1 zn hP2 hD2 hS2
    · rw [en, es, show h.n + 1 + (h2.n - (h.n + 1)) = h2.n by omega, show h.sl + N + (h2.sl - (h.sl + N)) = h2.sl by omega]
      have e3 : ad' h.n = q := by
        rw [he2 h.n (Or.inl (by show h.n < 0 + (h.n + 1); omega)), eq0]
      rw [e3] at k2
      exact k2
    · rw [he2 a (by rcases ha with z | z
                    · left; show a < 0 + (h.n + 1); omega
                    · exact Or.inr z)]
      exact hext0 a (by rw [eG]; exact ha)
end PW
