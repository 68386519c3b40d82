/-! the rows of the kit over a logical heap's world -/
theorem sm_map_set {f g : Nat → Value} {N k : Nat} {v : Value} (h1 : ∀ j, j ≠ k → g j = f j) (h2 : g k = v) : ((List.range N).map f).set k v = (List.range N).map g := by
  apply List.ext_getElem?
  intro j
  rw [List.getElem?_set]
  split
  · rename_i e
    subst e
    split
    · rename_i q
      have q : k < N := by simpa using q
      rw [List.getElem?_map, List.getElem?_range q]
      simp only [Option.map_some]
      rw [h2]
    · rename_i q
      have q : ¬ k < N := by simpa using q
      rw [List.getElem?_map, List.getElem?_eq_none (by simpa using q)]
      rfl
  · rename_i e
    rw [List.getElem?_map, List.getElem?_map]
    rcases Nat.lt_or_ge j N with q | q
    · rw [List.getElem?_range q]
      simp only [Option.map_some]
      rw [h1 j (fun z => e z.symm)]
    · rw [List.getElem?_eq_none (by simpa using q)]
      rfl
theorem sm_E_congr {G : sm_G} {F : sm_F} {kA : Nat → ClassId} {h h' : sm_H} {ad ad' : Nat → Nat} {b : Nat} (h1 : h'.1 b = h.1 b) (h2 : h'.2.1 b = h.2.1 b) (h3 : ∀ k, (h'.2.2.1 b k).map ad' = (h.2.2.1 b k).map ad) (h4 : sm_cl G h' b = sm_cl G h b) (h5 : sm_ln G h' b = sm_ln G h b) : sm_E G F kA h' ad' b = sm_E G F kA h ad b := by
  unfold sm_E sm_fs sm_fv sm_ac
  simp only [h1, h2, h3, h4, h5]
theorem sm_E_obj {G : sm_G} {F : sm_F} {kA : Nat → ClassId} {h : sm_H} {ad : Nat → Nat} {a c : Nat} (hc : sm_cl G h a = c) (h1 : c < 100) : sm_E G F kA h ad a = .inr (c, sm_fs F h ad a c) := by
  unfold sm_E
  rw [hc, if_pos h1]
theorem sm_E_arr {G : sm_G} {F : sm_F} {kA : Nat → ClassId} {h : sm_H} {ad : Nat → Nat} {a c : Nat} (hc : sm_cl G h a = c) (h1 : ¬ c < 100) : sm_E G F kA h ad a = .inl (kA c, sm_ln G h a, sm_ac h ad a c) := by
  unfold sm_E
  rw [hc, if_neg h1]
def sm_tt : FieldType → Nat
  | .int => 0
  | .long => 1
  | .boolean => 3
  | .object _ => 2
  | .array _ => 2
  | _ => 9
def sm_ty (kA : Nat → ClassId) (eT : String) : List (ClassId × FieldType) := [(kA 100, .int), (kA 101, .long), (kA 102, .boolean), (kA 103, .object eT)]
/-- the classes of the world: their words are there, their fields' kinds are as told -/
def sm_CF (CL : List vw_C) (F : sm_F) (Ts : List Cond) : Prop := ∀ (ci : Nat) (C : String) (T : u_T) (N : Nat), CL[ci]? = some (C, T, N) → ci < 100 ∧ F.1 ci = N ∧ (∀ w ∈ u_ws C T N, w ∈ Ts) ∧ (∃ ty : Nat → FieldType, (∀ k, k < N → parseFieldDescriptor (T k).2.2.1 = some (ty k)) ∧ ∀ k, k < N → sm_tt (ty k) = F.2 ci k ∧ F.2 ci k < 4) ∧ (∀ a, a < N → ∀ b, b < N → a ≠ b → (T a).2.1 ≠ (T b).2.1) ∧ (∀ k, k < N → (T k).1 = C)
theorem sm_fs_get {F : sm_F} {h : sm_H} {ad : Nat → Nat} {a c k : Nat} (hk : k < F.1 c) : (sm_fs F h ad a c)[k]? = some (sm_fv h ad a k (F.2 c k)) := by
  unfold sm_fs
  rw [List.getElem?_map, List.getElem?_range hk]
  rfl
theorem sm_fs_len {F : sm_F} {h : sm_H} {ad : Nat → Nat} {a c : Nat} : (sm_fs F h ad a c).length = F.1 c := by
  unfold sm_fs
  simp
theorem sm_gf_fv {G : sm_G} {h : sm_H} {ad : Nat → Nat} {a c k t : Nat} {v : Value} (ho : sm_okh G h) (q : sm_gf G h a c k t = some v) : sm_is G h a c = true ∧ sm_fv h ad a k t = sm_r ad v := by
  unfold sm_gf at q
  cases w : sm_is G h a c with
  | false => rw [w] at q; cases q
  | true =>
    rw [w] at q
    refine ⟨rfl, ?_⟩
    cases q
    unfold sm_fv
    split
    · rfl
    · rfl
    · rw [sm_rr_eq ho]
      exact (sm_r_ov ad _).symm
    · rename_i h0 h1 h2
      split
      · exact absurd rfl h0
      · exact absurd rfl h1
      · exact absurd rfl h2
      · rfl
section SM
variable {p : Program} {l : Launch} {e : Env} {R : Room} {s : State} {m : MethodId} {args : Array Value} {below : List Frame} {meth : Method} {c : Code} {H H0 : Heap} {locs : List Loc} {cells slots : Nat} {Q : State → Prop}
variable {cc : ByteArray} {pc : Nat} {ls : Array Slot} {rest : List Value}
variable {G : sm_G} {F : sm_F} {kA : Nat → ClassId} {D : va_G} {CL : List vw_C} {eT : String} {A : Nat → Prop} {h : sm_H} {ad : Nat → Nat} {Ts : List Cond} {own : String}
theorem sm_Wget (hx : p.tables.exec = Jvm.exec) (hb : c.code = cc) (hts : ∀ w ∈ Ts, w.before args s = true) (hCF : sm_CF CL F Ts) (hown : s.vm.findClass own = some m.cls) (hK : va_K D CL (sm_ty kA eT) s) (hP : va_P D CL (sm_ws G F kA h ad) H) (ho : sm_okh G h) {a ci k t idx : Nat} {v : Value} (q : sm_gf G h a ci k t = some v)
    {C : String} {T : u_T} {N : Nat} (hc : CL[ci]? = some (C, T, N)) (hk : k < N) (ht : F.2 ci k = t) (hlink : Cond.fieldLink own idx C (T k).2.1 (T k).2.2.1 ∈ Ts) (hdg : decode cc pc = .ok (.getfield idx, 3))
    (kk : W p l e R s m args below meth c H locs cells slots Q (F0 m (pc + 3) ls (sm_r ad v :: rest))) : W p l e R s m args below meth c H locs cells slots Q (F0 m pc ls (.ref (ad a) :: rest)) := by
  obtain ⟨h1, h2, h3, -, -, h6⟩ := hCF _ _ _ _ hc
  obtain ⟨hi, hv⟩ := sm_gf_fv (ad := ad) ho q
  obtain ⟨hl, hcl⟩ := sm_is_lt hi
  have he := sm_ws_get (F := F) (kA := kA) (ad := ad) hl
  rw [sm_E_obj hcl h1] at he
  have hf := sm_fs_get (F := F) (h := h) (ad := ad) (a := a) (c := ci) (k := k) (by rw [h2]; exact hk)
  rw [ht, hv] at hf
  exact va_get (ref := (T k).1) hx hb hts h3 hown hK hP a he hc k hk (by rw [h6 k hk]; exact hts _ hlink) (fun _ h9 => h9) hf hdg kk
theorem sm_wI_E {a k b : Nat} {x : Int32} (hb : b ≠ a) : sm_E G F kA (sm_wI h a k x) ad b = sm_E G F kA h ad b := sm_E_congr (by show va_up h.1 a _ b = _; unfold va_up; rw [if_neg hb]) rfl (fun _ => rfl) rfl rfl
theorem sm_wJ_E {a k b : Nat} {x : Int64} (hb : b ≠ a) : sm_E G F kA (sm_wJ h a k x) ad b = sm_E G F kA h ad b := sm_E_congr rfl (by show va_up h.2.1 a _ b = _; unfold va_up; rw [if_neg hb]) (fun _ => rfl) rfl rfl
theorem sm_wR_E {a k b : Nat} {x : Option Nat} (hb : b ≠ a) : sm_E G F kA (sm_wR h a k x) ad b = sm_E G F kA h ad b := sm_E_congr rfl rfl (fun j => by show (va_up h.2.2.1 a _ b j).map ad = _; unfold va_up; rw [if_neg hb]) rfl rfl
theorem sm_wI_at {a k : Nat} {x : Int32} : (sm_wI h a k x).1 a = upd (h.1 a) k x := by show va_up h.1 a _ a = _; unfold va_up; rw [if_pos rfl]
theorem sm_wJ_at {a k : Nat} {x : Int64} : (sm_wJ h a k x).2.1 a = vp_updL (h.2.1 a) k x := by show va_up h.2.1 a _ a = _; unfold va_up; rw [if_pos rfl]
theorem sm_wR_at {a k : Nat} {x : Option Nat} : (sm_wR h a k x).2.2.1 a = va_up (h.2.2.1 a) k x := by show va_up h.2.2.1 a _ a = _; unfold va_up; rw [if_pos rfl]
/-- what a put does to the fields' list -/
theorem sm_pf_fs {h' : sm_H} {a ci k t : Nat} {v : Value} (q : sm_pf G h a ci k t v = some h') (ht : F.2 ci k = t) : sm_is G h a ci = true ∧ h'.n = h.n ∧ (∀ b, b ≠ a → sm_E G F kA h' ad b = sm_E G F kA h ad b) ∧ sm_cl G h' a = sm_cl G h a ∧ sm_fs F h' ad a ci = (sm_fs F h ad a ci).set k (sm_r ad v) ∧
    ((t = 0 ∧ ∃ x, v = .int x) ∨ (t = 1 ∧ ∃ x, v = .long x) ∨ (t = 2 ∧ ∃ b, v = .ref b) ∨ (t ≠ 0 ∧ t ≠ 1 ∧ t ≠ 2 ∧ ∃ x, v = .int x ∧ (x = 0 ∨ x = 1))) := by
  unfold sm_pf at q
  cases w : sm_is G h a ci with
  | false => rw [w] at q; cases q
  | true =>
    rw [w] at q
    simp only [cond_true] at q
    split at q
    · split at q
      · cases q
        refine ⟨rfl, rfl, fun b hb => sm_wI_E hb, rfl, ?_, Or.inl ⟨rfl, _, rfl⟩⟩
        refine (sm_map_set (fun j hj => ?_) ?_).symm
        · unfold sm_fv
          rw [sm_wI_at]
          simp only [upd, if_neg hj]
          rfl
        · rw [ht]
          show Value.int ((sm_wI h a k _).1 a k) = _
          rw [sm_wI_at]
          simp [upd, sm_r]
      · cases q
    · split at q
      · cases q
        refine ⟨rfl, rfl, fun b hb => sm_wJ_E hb, rfl, ?_, Or.inr (Or.inl ⟨rfl, _, rfl⟩)⟩
        refine (sm_map_set (fun j hj => ?_) ?_).symm
        · unfold sm_fv
          rw [sm_wJ_at]
          simp only [vp_updL, if_neg hj]
          rfl
        · rw [ht]
          show Value.long ((sm_wJ h a k _).2.1 a k) = _
          rw [sm_wJ_at]
          simp [vp_updL, sm_r]
      · cases q
    · split at q
      · cases q
      · split at q
        · cases q
          refine ⟨rfl, rfl, fun b hb => sm_wR_E hb, rfl, ?_, Or.inr (Or.inr (Or.inl ⟨rfl, _, rfl⟩))⟩
          refine (sm_map_set (fun j hj => ?_) ?_).symm
          · unfold sm_fv
            rw [sm_wR_at]
            simp only [va_up, if_neg hj]
            rfl
          · rw [ht]
            show va_rf (((sm_wR h a k _).2.2.1 a k).map ad) = _
            rw [sm_wR_at]
            simp [va_up, sm_r, va_rf]
        · cases q
    · rename_i h0 h1 h2
      split at q
      · split at q
        · rename_i x hx01
          cases q
          refine ⟨rfl, rfl, fun b hb => sm_wI_E hb, rfl, ?_, Or.inr (Or.inr (Or.inr ⟨h0, h1, h2, _, rfl, hx01⟩))⟩
          refine (sm_map_set (fun j hj => ?_) ?_).symm
          · unfold sm_fv
            rw [sm_wI_at]
            simp only [upd, if_neg hj]
            rfl
          · rw [ht]
            unfold sm_fv
            split
            · exact absurd rfl h0
            · exact absurd rfl h1
            · exact absurd rfl h2
            · rw [sm_wI_at]
              simp [upd, sm_r]
        · cases q
      · cases q
theorem sm_Wput (hx : p.tables.exec = Jvm.exec) (hb : c.code = cc) (hts : ∀ w ∈ Ts, w.before args s = true) (hCF : sm_CF CL F Ts) (hown : s.vm.findClass own = some m.cls) (hK : va_K D CL (sm_ty kA eT) s) (hP : va_P D CL (sm_ws G F kA h ad) H) (hD : va_D A (sm_ws G F kA h ad)) (hS : va_S A H0 H locs) {h' : sm_H} {a ci k t idx : Nat} {v : Value} (q : sm_pf G h a ci k t v = some h')
    {C : String} {T : u_T} {N : Nat} (hc : CL[ci]? = some (C, T, N)) (hk : k < N) (ht : F.2 ci k = t) (hfin : (T k).2.2.2 = true → meth.name = "<init>" ∧ C = own) (hlink : Cond.fieldLink own idx C (T k).2.1 (T k).2.2.1 ∈ Ts) (hdg : decode cc pc = .ok (.putfield idx, 3))
    (kk : ∀ (H1 : Heap) (locs1 : List Loc), va_P D CL (sm_ws G F kA h' ad) H1 → va_D A (sm_ws G F kA h' ad) → va_S A H0 H1 locs1 → W p l e R s m args below meth c H1 locs1 cells slots Q (F0 m (pc + 3) ls rest)) : W p l e R s m args below meth c H locs cells slots Q (F0 m pc ls (sm_r ad v :: .ref (ad a) :: rest)) := by
  obtain ⟨h1, h2, h3, ⟨ty, h4, h4t⟩, h5, h6⟩ := hCF _ _ _ _ hc
  obtain ⟨hi, hn, hE, hcl', hfs, hv⟩ := sm_pf_fs (F := F) (kA := kA) (ad := ad) q ht
  obtain ⟨hl, hcl⟩ := sm_is_lt hi
  have he := sm_ws_get (F := F) (kA := kA) (ad := ad) hl
  rw [sm_E_obj hcl h1] at he
  have hset : (sm_ws G F kA h ad).set a (ad a, .inr (ci, (sm_fs F h ad a ci).set k (sm_r ad v))) = sm_ws G F kA h' ad := by
    rw [← hfs, ← sm_E_obj (F := F) (kA := kA) (ad := ad) (hcl'.trans hcl) h1]
    exact sm_ws_set hn hE
  have hkl : k < (sm_fs F h ad a ci).length := by rw [sm_fs_len, h2]; exact hk
  have htt : sm_tt (ty k) = t := (h4t k hk).1.trans ht
  have ht4 : t < 4 := ht ▸ (h4t k hk).2
  have hnf : narrow (ty k) (sm_r ad v) = sm_r ad v ∧ fits (ty k) (sm_r ad v) = true := by
    rcases hv with ⟨e0, x, rfl⟩ | ⟨e0, x, rfl⟩ | ⟨e0, b, rfl⟩ | ⟨n0, n1, n2, x, rfl, e0⟩
    · rw [e0] at htt
      cases hy : ty k <;> rw [hy] at htt <;> simp [sm_tt] at htt
      exact ⟨rfl, rfl⟩
    · rw [e0] at htt
      cases hy : ty k <;> rw [hy] at htt <;> simp [sm_tt] at htt
      exact ⟨rfl, rfl⟩
    · rw [e0] at htt
      cases hy : ty k <;> rw [hy] at htt <;> simp [sm_tt] at htt
      · exact ⟨rfl, rfl⟩
      · exact ⟨rfl, rfl⟩
    · cases hy : ty k <;> rw [hy] at htt <;> simp only [sm_tt] at htt
      all_goals first
        | exact absurd htt.symm n0
        | exact absurd htt.symm n1
        | exact absurd htt.symm n2
        | (exfalso; omega)
        | (rcases e0 with rfl | rfl; exact ⟨(by decide : narrow .boolean (Value.int 0) = Value.int 0), (by decide : fits .boolean (Value.int 0) = true)⟩; exact ⟨(by decide : narrow .boolean (Value.int 1) = Value.int 1), (by decide : fits .boolean (Value.int 1) = true)⟩)
  cases hff : (T k).2.2.2 with
  | false => exact va_put (ref := (T k).1) hx hb hts h3 ty h4 h5 hown hK hP hD hS a he hc k hk (by rw [h6 k hk]; exact hts _ hlink) (fun _ h9 => h9) hff (h4 k hk) hnf.1 hnf.2 hkl hdg (fun H1 locs1 a1 a2 a3 => kk H1 locs1 (hset ▸ a1) (hset ▸ a2) a3)
  | true => exact va_putF (ref := (T k).1) hx hb hts h3 ty h4 h5 hown hK hP hD hS a he hc k hk (by rw [h6 k hk]; exact hts _ hlink) (fun _ h9 => h9) hff (hfin hff).1 (by rw [h6 k hk]; exact (hfin hff).2) (h4 k hk) hnf.1 hnf.2 hkl hdg (fun H1 locs1 a1 a2 a3 => kk H1 locs1 (hset ▸ a1) (hset ▸ a2) a3)
theorem sm_Wiald (hx : p.tables.exec = Jvm.exec) (hb : c.code = cc) (hK : va_K D CL (sm_ty kA eT) s) (hP : va_P D CL (sm_ws G F kA h ad) H) (hS : va_S A s.heap H locs) (hst : ∀ j, j < 8 → va_T .int (ad (1000000 + j)) (G.2.2.2.2.1 j).1 (fun k => .int ((G.2.2.2.2.1 j).2 k)) A s s.heap) {a : Nat} {i x : Int32} (q : sm_ldI G h a i = some x) (hdg : decode cc pc = .ok (.iaload, 1))
    (kk : W p l e R s m args below meth c H locs cells slots Q (F0 m (pc + 1) ls (.int x :: rest))) : W p l e R s m args below meth c H locs cells slots Q (F0 m pc ls (.int i :: .ref (ad a) :: rest)) := by
  unfold sm_ldI at q
  cases w1 : Nat.ble 1000000 a with
  | true =>
    rw [w1] at q
    simp only [cond_true] at q
    split at q
    · rename_i hin
      cases q
      have hle := Nat.le_of_ble_eq_true w1
      have hT := hst (a - 1000000) (by have := hin.1; omega)
      rw [show 1000000 + (a - 1000000) = a by omega] at hT
      exact va_ti hx hb hT hS hin.2 rfl hdg kk
    · cases q
  | false =>
    rw [w1] at q
    simp only [cond_false] at q
    cases w : sm_is G h a 100 with
    | false => rw [w] at q; cases q
    | true =>
      rw [w] at q
      simp only [cond_true] at q
      split at q
      · rename_i hin
        cases q
        obtain ⟨hl, hcl⟩ := sm_is_lt w
        have he := sm_ws_get (F := F) (kA := kA) (ad := ad) hl
        rw [sm_E_arr hcl (by decide)] at he
        exact va_iald hx hb hK hP a 0 he rfl hin hdg kk
      · cases q
theorem sm_Wlald (hx : p.tables.exec = Jvm.exec) (hb : c.code = cc) (hK : va_K D CL (sm_ty kA eT) s) (hP : va_P D CL (sm_ws G F kA h ad) H) (hS : va_S A s.heap H locs) (hst : ∀ j, j < 8 → va_T .long (ad (2000000 + j)) (G.2.2.2.2.2.1 j).1 (fun k => .long ((G.2.2.2.2.2.1 j).2 k)) A s s.heap) {a : Nat} {i : Int32} {x : Int64} (q : sm_ldJ G h a i = some x) (hdg : decode cc pc = .ok (.laload, 1))
    (kk : W p l e R s m args below meth c H locs cells slots Q (F0 m (pc + 1) ls (.long x :: rest))) : W p l e R s m args below meth c H locs cells slots Q (F0 m pc ls (.int i :: .ref (ad a) :: rest)) := by
  unfold sm_ldJ at q
  cases w1 : Nat.ble 2000000 a with
  | true =>
    rw [w1] at q
    simp only [cond_true] at q
    split at q
    · rename_i hin
      cases q
      have hle := Nat.le_of_ble_eq_true w1
      have hT := hst (a - 2000000) (by have := hin.1; omega)
      rw [show 2000000 + (a - 2000000) = a by omega] at hT
      exact va_tl hx hb hT hS hin.2 rfl hdg kk
    · cases q
  | false =>
    rw [w1] at q
    simp only [cond_false] at q
    cases w : sm_is G h a 101 with
    | false => rw [w] at q; cases q
    | true =>
      rw [w] at q
      simp only [cond_true] at q
      split at q
      · rename_i hin
        cases q
        obtain ⟨hl, hcl⟩ := sm_is_lt w
        have he := sm_ws_get (F := F) (kA := kA) (ad := ad) hl
        rw [sm_E_arr hcl (by decide)] at he
        exact va_lald hx hb hK hP a 1 he rfl hin hdg kk
      · cases q
theorem sm_Wzald (hx : p.tables.exec = Jvm.exec) (hb : c.code = cc) (hK : va_K D CL (sm_ty kA eT) s) (hP : va_P D CL (sm_ws G F kA h ad) H) {a : Nat} {i x : Int32} (q : sm_ldZ G h a i = some x) (hdg : decode cc pc = .ok (.baload, 1))
    (kk : W p l e R s m args below meth c H locs cells slots Q (F0 m (pc + 1) ls (.int x :: rest))) : W p l e R s m args below meth c H locs cells slots Q (F0 m pc ls (.int i :: .ref (ad a) :: rest)) := by
  unfold sm_ldZ at q
  cases w : sm_is G h a 102 with
  | false => rw [w] at q; cases q
  | true =>
    rw [w] at q
    simp only [cond_true] at q
    split at q
    · rename_i hin
      cases q
      obtain ⟨hl, hcl⟩ := sm_is_lt w
      have he := sm_ws_get (F := F) (kA := kA) (ad := ad) hl
      rw [sm_E_arr hcl (by decide)] at he
      exact va_zald hx hb hK hP a 2 he rfl hin hdg kk
    · cases q
theorem sm_Waald (hx : p.tables.exec = Jvm.exec) (hb : c.code = cc) (hK : va_K D CL (sm_ty kA eT) s) (hP : va_P D CL (sm_ws G F kA h ad) H) {a : Nat} {i : Int32} {o : Option Nat} (q : sm_ldR G h a i = some o) (hdg : decode cc pc = .ok (.aaload, 1))
    (kk : W p l e R s m args below meth c H locs cells slots Q (F0 m (pc + 1) ls (sm_r ad (sm_ov o) :: rest))) : W p l e R s m args below meth c H locs cells slots Q (F0 m pc ls (.int i :: .ref (ad a) :: rest)) := by
  unfold sm_ldR at q
  cases w : sm_is G h a 103 with
  | false => rw [w] at q; cases q
  | true =>
    rw [w] at q
    simp only [cond_true] at q
    split at q
    · rename_i hin
      cases q
      obtain ⟨hl, hcl⟩ := sm_is_lt w
      have he := sm_ws_get (F := F) (kA := kA) (ad := ad) hl
      rw [sm_E_arr hcl (by decide)] at he
      rw [sm_r_ov] at kk
      exact va_aldq hx hb hK hP a 3 he rfl hin hdg kk
    · cases q
theorem sm_Walen (hx : p.tables.exec = Jvm.exec) (hb : c.code = cc) (hK : va_K D CL (sm_ty kA eT) s) (hP : va_P D CL (sm_ws G F kA h ad) H) (hS : va_S A s.heap H locs) (hst : ∀ j, j < 8 → va_T .int (ad (1000000 + j)) (G.2.2.2.2.1 j).1 (fun k => .int ((G.2.2.2.2.1 j).2 k)) A s s.heap) (hst2 : ∀ j, j < 8 → va_T .long (ad (2000000 + j)) (G.2.2.2.2.2.1 j).1 (fun k => .long ((G.2.2.2.2.2.1 j).2 k)) A s s.heap) {a : Nat} {x : Int32} (q : sm_al G h a = some x) (hdg : decode cc pc = .ok (.arraylength, 1))
    (kk : W p l e R s m args below meth c H locs cells slots Q (F0 m (pc + 1) ls (.int x :: rest))) : W p l e R s m args below meth c H locs cells slots Q (F0 m pc ls (.ref (ad a) :: rest)) := by
  unfold sm_al at q
  cases w1 : Nat.ble 1000000 a with
  | true =>
    rw [w1] at q
    simp only [cond_true] at q
    have hle := Nat.le_of_ble_eq_true w1
    split at q
    · rename_i hlt
      cases q
      have hT := hst (a - 1000000) (by omega)
      rw [show 1000000 + (a - 1000000) = a by omega] at hT
      exact va_tlen hx hb hT hS rfl hdg kk
    · split at q
      · rename_i hlt
        cases q
        have hT := hst2 (a - 2000000) (by have := hlt.1; have := hlt.2; omega)
        rw [show 2000000 + (a - 2000000) = a by have := hlt.1; omega] at hT
        exact va_tlen hx hb hT hS rfl hdg kk
      · cases q
  | false =>
    rw [w1] at q
    simp only [cond_false] at q
    cases w : (sm_live G h a && (Nat.ble 100 (sm_cl G h a) && Nat.blt (sm_cl G h a) 104)) with
    | false => rw [w] at q; cases q
    | true =>
      rw [w] at q
      cases q
      simp only [Bool.and_eq_true] at w
      have hl := sm_live_lt w.1
      have h1 := Nat.le_of_ble_eq_true w.2.1
      have h2 := Nat.blt_eq.mp w.2.2
      have he := sm_ws_get (F := F) (kA := kA) (ad := ad) hl
      generalize hcl : sm_cl G h a = ci at h1 h2 he
      rw [sm_E_arr hcl (by omega)] at he
      have h4 : ci = 100 ∨ ci = 101 ∨ ci = 102 ∨ ci = 103 := by omega
      rcases h4 with rfl | rfl | rfl | rfl
      · exact va_alen hx hb hK hP a 0 he rfl rfl hdg kk
      · exact va_alen hx hb hK hP a 1 he rfl rfl hdg kk
      · exact va_alen hx hb hK hP a 2 he rfl rfl hdg kk
      · exact va_alen hx hb hK hP a 3 he rfl rfl hdg kk
theorem sm_Wiast (hx : p.tables.exec = Jvm.exec) (hb : c.code = cc) (hK : va_K D CL (sm_ty kA eT) s) (hP : va_P D CL (sm_ws G F kA h ad) H) (hD : va_D A (sm_ws G F kA h ad)) (hS : va_S A H0 H locs) {h' : sm_H} {a : Nat} {i x : Int32} (q : sm_stI G h a i x = some h') (hdg : decode cc pc = .ok (.iastore, 1))
    (kk : ∀ (H1 : Heap) (locs1 : List Loc), va_P D CL (sm_ws G F kA h' ad) H1 → va_D A (sm_ws G F kA h' ad) → va_S A H0 H1 locs1 → W p l e R s m args below meth c H1 locs1 cells slots Q (F0 m (pc + 1) ls rest)) : W p l e R s m args below meth c H locs cells slots Q (F0 m pc ls (.int x :: .int i :: .ref (ad a) :: rest)) := by
  unfold sm_stI at q
  cases w : sm_is G h a 100 with
  | false => rw [w] at q; cases q
  | true =>
    rw [w] at q
    simp only [cond_true] at q
    split at q
    · rename_i hin
      cases q
      obtain ⟨hl, hcl⟩ := sm_is_lt w
      have he := sm_ws_get (F := F) (kA := kA) (ad := ad) hl
      have hcl' : sm_cl G (sm_wI h a i.toNatClampNeg x) a = 100 := hcl
      have hset : (sm_ws G F kA h ad).set a (ad a, .inl (kA 100, sm_ln G h a, .inl (upd (h.1 a) i.toNatClampNeg x))) = sm_ws G F kA (sm_wI h a i.toNatClampNeg x) ad := by
        refine Eq.trans ?_ (sm_ws_set (h := h) (a := a) rfl (fun b hb => sm_wI_E hb))
        rw [sm_E_arr hcl' (by decide)]
        show _ = (sm_ws G F kA h ad).set a (ad a, .inl (kA 100, sm_ln G h a, .inl ((sm_wI h a i.toNatClampNeg x).1 a)))
        rw [sm_wI_at]
      rw [sm_E_arr hcl (by decide)] at he
      exact va_iast hx hb hK hP hD hS a 0 he rfl hin hdg (fun H1 locs1 a1 a2 a3 => kk H1 locs1 (hset ▸ a1) (hset ▸ a2) a3)
    · cases q
theorem sm_Wzast (hx : p.tables.exec = Jvm.exec) (hb : c.code = cc) (hK : va_K D CL (sm_ty kA eT) s) (hP : va_P D CL (sm_ws G F kA h ad) H) (hD : va_D A (sm_ws G F kA h ad)) (hS : va_S A H0 H locs) {h' : sm_H} {a : Nat} {i x : Int32} (q : sm_stZ G h a i x = some h') (hdg : decode cc pc = .ok (.bastore, 1))
    (kk : ∀ (H1 : Heap) (locs1 : List Loc), va_P D CL (sm_ws G F kA h' ad) H1 → va_D A (sm_ws G F kA h' ad) → va_S A H0 H1 locs1 → W p l e R s m args below meth c H1 locs1 cells slots Q (F0 m (pc + 1) ls rest)) : W p l e R s m args below meth c H locs cells slots Q (F0 m pc ls (.int x :: .int i :: .ref (ad a) :: rest)) := by
  unfold sm_stZ at q
  cases w : sm_is G h a 102 with
  | false => rw [w] at q; cases q
  | true =>
    rw [w] at q
    simp only [cond_true] at q
    split at q
    · rename_i hin
      cases q
      obtain ⟨hl, hcl⟩ := sm_is_lt w
      have he := sm_ws_get (F := F) (kA := kA) (ad := ad) hl
      have hcl' : sm_cl G (sm_wI h a i.toNatClampNeg (vp_nar .boolean x)) a = 102 := hcl
      have hset : (sm_ws G F kA h ad).set a (ad a, .inl (kA 102, sm_ln G h a, .inl (upd (h.1 a) i.toNatClampNeg (vp_nar .boolean x)))) = sm_ws G F kA (sm_wI h a i.toNatClampNeg (vp_nar .boolean x)) ad := by
        refine Eq.trans ?_ (sm_ws_set (h := h) (a := a) rfl (fun b hb => sm_wI_E hb))
        rw [sm_E_arr hcl' (by decide)]
        show _ = (sm_ws G F kA h ad).set a (ad a, .inl (kA 102, sm_ln G h a, .inl ((sm_wI h a i.toNatClampNeg (vp_nar .boolean x)).1 a)))
        rw [sm_wI_at]
      rw [sm_E_arr hcl (by decide)] at he
      exact va_zast hx hb hK hP hD hS a 2 he rfl hin hdg (fun H1 locs1 a1 a2 a3 => kk H1 locs1 (hset ▸ a1) (hset ▸ a2) a3)
    · cases q
theorem sm_Wlast (hx : p.tables.exec = Jvm.exec) (hb : c.code = cc) (hK : va_K D CL (sm_ty kA eT) s) (hP : va_P D CL (sm_ws G F kA h ad) H) (hD : va_D A (sm_ws G F kA h ad)) (hS : va_S A H0 H locs) {h' : sm_H} {a : Nat} {i : Int32} {x : Int64} (q : sm_stJ G h a i x = some h') (hdg : decode cc pc = .ok (.lastore, 1))
    (kk : ∀ (H1 : Heap) (locs1 : List Loc), va_P D CL (sm_ws G F kA h' ad) H1 → va_D A (sm_ws G F kA h' ad) → va_S A H0 H1 locs1 → W p l e R s m args below meth c H1 locs1 cells slots Q (F0 m (pc + 1) ls rest)) : W p l e R s m args below meth c H locs cells slots Q (F0 m pc ls (.long x :: .int i :: .ref (ad a) :: rest)) := by
  unfold sm_stJ at q
  cases w : sm_is G h a 101 with
  | false => rw [w] at q; cases q
  | true =>
    rw [w] at q
    simp only [cond_true] at q
    split at q
    · rename_i hin
      cases q
      obtain ⟨hl, hcl⟩ := sm_is_lt w
      have he := sm_ws_get (F := F) (kA := kA) (ad := ad) hl
      have hcl' : sm_cl G (sm_wJ h a i.toNatClampNeg x) a = 101 := hcl
      have hset : (sm_ws G F kA h ad).set a (ad a, .inl (kA 101, sm_ln G h a, .inr (.inl (vp_updL (h.2.1 a) i.toNatClampNeg x)))) = sm_ws G F kA (sm_wJ h a i.toNatClampNeg x) ad := by
        refine Eq.trans ?_ (sm_ws_set (h := h) (a := a) rfl (fun b hb => sm_wJ_E hb))
        rw [sm_E_arr hcl' (by decide)]
        show _ = (sm_ws G F kA h ad).set a (ad a, .inl (kA 101, sm_ln G h a, .inr (.inl ((sm_wJ h a i.toNatClampNeg x).2.1 a))))
        rw [sm_wJ_at]
      rw [sm_E_arr hcl (by decide)] at he
      exact va_last hx hb hK hP hD hS a 1 he rfl hin hdg (fun H1 locs1 a1 a2 a3 => kk H1 locs1 (hset ▸ a1) (hset ▸ a2) a3)
    · cases q
theorem sm_Waast (hx : p.tables.exec = Jvm.exec) (hb : c.code = cc) (hK : va_K D CL (sm_ty kA eT) s) (hP : va_P D CL (sm_ws G F kA h ad) H) (hD : va_D A (sm_ws G F kA h ad)) (hS : va_S A H0 H locs) {h' : sm_H} {ci a b : Nat} {i : Int32} (q : sm_stR G h ci a i b = some h') {T : u_T} {N : Nat} (hc : CL[ci]? = some (eT, T, N)) (hc1 : ci < 100) (hdg : decode cc pc = .ok (.aastore, 1))
    (kk : ∀ (H1 : Heap) (locs1 : List Loc), va_P D CL (sm_ws G F kA h' ad) H1 → va_D A (sm_ws G F kA h' ad) → va_S A H0 H1 locs1 → W p l e R s m args below meth c H1 locs1 cells slots Q (F0 m (pc + 1) ls rest)) : W p l e R s m args below meth c H locs cells slots Q (F0 m pc ls (.ref (ad b) :: .int i :: .ref (ad a) :: rest)) := by
  unfold sm_stR at q
  cases w : sm_is G h a 103 with
  | false => rw [w] at q; cases q
  | true =>
    cases w2 : sm_is G h b ci with
    | false => rw [w, w2] at q; cases q
    | true =>
      rw [w, w2] at q
      simp only [Bool.and_true, cond_true] at q
      split at q
      · rename_i hin
        cases q
        obtain ⟨hl, hcl⟩ := sm_is_lt w
        obtain ⟨hl2, hcl2⟩ := sm_is_lt w2
        have he := sm_ws_get (F := F) (kA := kA) (ad := ad) hl
        have he2 := sm_ws_get (F := F) (kA := kA) (ad := ad) hl2
        have hcl' : sm_cl G (sm_wR h a i.toNatClampNeg (some b)) a = 103 := hcl
        have hset : (sm_ws G F kA h ad).set a (ad a, .inl (kA 103, sm_ln G h a, .inr (.inr (.inr (.inr (va_up (fun k => (h.2.2.1 a k).map ad) i.toNatClampNeg (some (ad b)))))))) = sm_ws G F kA (sm_wR h a i.toNatClampNeg (some b)) ad := by
          refine Eq.trans ?_ (sm_ws_set (h := h) (a := a) rfl (fun b hb => sm_wR_E hb))
          rw [sm_E_arr hcl' (by decide)]
          show _ = (sm_ws G F kA h ad).set a (ad a, .inl (kA 103, sm_ln G h a, .inr (.inr (.inr (.inr (fun k => ((sm_wR h a i.toNatClampNeg (some b)).2.2.1 a k).map ad))))))
          rw [sm_wR_at]
          congr 9
          funext k
          unfold va_up
          split <;> rfl
        rw [sm_E_arr hcl (by decide)] at he
        rw [sm_E_obj hcl2 hc1] at he2
        exact va_astq hx hb hK hP hD hS a 3 b ci he rfl he2 hc hin hdg (fun H1 locs1 a1 a2 a3 => kk H1 locs1 (hset ▸ a1) (hset ▸ a2) a3)
      · cases q
end SM
