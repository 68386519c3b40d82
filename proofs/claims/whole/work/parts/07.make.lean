/-! making cells; arraycopy -/
theorem sm_cl_mk {G : sm_G} {h : sm_H} {c n a : Nat} (ha : a < G.1 + h.n) : sm_cl G (sm_mk G h c n) a = sm_cl G h a := by
  unfold sm_cl
  show (bif Nat.blt a G.1 then G.2.1 a else va_up h.2.2.2.1 (G.1 + h.n) c a) = _
  unfold va_up
  rw [if_neg (Nat.ne_of_lt ha)]
theorem sm_ln_mk {G : sm_G} {h : sm_H} {c n a : Nat} (ha : a < G.1 + h.n) : sm_ln G (sm_mk G h c n) a = sm_ln G h a := by
  unfold sm_ln
  show (bif Nat.blt a G.1 then G.2.2.1 a else va_up h.2.2.2.2.1 (G.1 + h.n) n a) = _
  unfold va_up
  rw [if_neg (Nat.ne_of_lt ha)]
theorem sm_cl_new {G : sm_G} {h : sm_H} {c n : Nat} : sm_cl G (sm_mk G h c n) (G.1 + h.n) = c := by
  unfold sm_cl
  have : Nat.blt (G.1 + h.n) G.1 = false := by
    cases w : Nat.blt (G.1 + h.n) G.1 with
    | false => rfl
    | true => have := Nat.blt_eq.mp w; omega
  rw [this]
  show va_up h.2.2.2.1 (G.1 + h.n) c (G.1 + h.n) = c
  unfold va_up
  rw [if_pos rfl]
theorem sm_ln_new {G : sm_G} {h : sm_H} {c n : Nat} : sm_ln G (sm_mk G h c n) (G.1 + h.n) = n := by
  unfold sm_ln
  have : Nat.blt (G.1 + h.n) G.1 = false := by
    cases w : Nat.blt (G.1 + h.n) G.1 with
    | false => rfl
    | true => have := Nat.blt_eq.mp w; omega
  rw [this]
  show va_up h.2.2.2.2.1 (G.1 + h.n) n (G.1 + h.n) = n
  unfold va_up
  rw [if_pos rfl]
theorem sm_mk_ext {G : sm_G} {h : sm_H} {ad : Nat → Nat} {q : Nat} (hbig : G.1 + h.n < 1000000) : ∀ a, a < G.1 + h.n ∨ 1000000 ≤ a → va_up ad (G.1 + h.n) q a = ad a := by
  intro a ha
  unfold va_up
  rw [if_neg (by omega)]
theorem sm_ws_mk {G : sm_G} {F : sm_F} {kA : Nat → ClassId} {h : sm_H} {ad : Nat → Nat} {c n q : Nat} (ho : sm_okh G h) (hbig : G.1 + h.n < 1000000) : sm_ws G F kA (sm_mk G h c n) (va_up ad (G.1 + h.n) q) = sm_ws G F kA h ad ++ [(q, sm_E G F kA (sm_mk G h c n) (va_up ad (G.1 + h.n) q) (G.1 + h.n))] := by
  unfold sm_ws
  have e : G.1 + (sm_mk G h c n).n = G.1 + h.n + 1 := rfl
  rw [e, List.range_succ, List.map_append]
  congr 1
  · refine List.map_congr_left (fun a ha => ?_)
    have ha : a < G.1 + h.n := List.mem_range.mp ha
    rw [sm_mk_ext hbig a (Or.inl ha)]
    congr 1
    refine sm_E_congr ?_ ?_ (fun k => ?_) (sm_cl_mk ha) (sm_ln_mk ha)
    · show va_up h.1 (G.1 + h.n) _ a = _
      unfold va_up
      rw [if_neg (Nat.ne_of_lt ha)]
    · show va_up h.2.1 (G.1 + h.n) _ a = _
      unfold va_up
      rw [if_neg (Nat.ne_of_lt ha)]
    · have e2 : (sm_mk G h c n).2.2.1 a k = h.2.2.1 a k := by
        show va_up h.2.2.1 (G.1 + h.n) _ a k = _
        unfold va_up
        rw [if_neg (Nat.ne_of_lt ha)]
      rw [e2]
      cases w : h.2.2.1 a k with
      | none => rfl
      | some b => exact congrArg some (sm_mk_ext hbig b (ho.1 a k b w ha))
  · show [(va_up ad (G.1 + h.n) q (G.1 + h.n), _)] = _
    congr 2
    unfold va_up
    rw [if_pos rfl]
section SMnew
variable {p : Program} {l : Launch} {e : Env} {R : Room} {s : State} {m : MethodId} {args : Array Value} {below : List Frame} {meth : Method} {c : Code} {H H0 : Heap} {locs : List Loc} {cells slots : Nat} {Q : State → Prop}
variable {cc : ByteArray} {pc : Nat} {ls : Array Slot} {rest : List Value}
variable {G : sm_G} {F : sm_F} {kA : Nat → ClassId} {D : va_G} {CL : List vw_C} {eT : String} {A : Nat → Prop} {h : sm_H} {ad : Nat → Nat} {Ts : List Cond} {own : String}
theorem sm_Wnew (hx : p.tables.exec = Jvm.exec) (hb : c.code = cc) (hts : ∀ w ∈ Ts, w.before args s = true) (hCF : sm_CF CL F Ts) (hown : s.vm.findClass own = some m.cls) (hK : va_K D CL (sm_ty kA eT) s) (hP : va_P D CL (sm_ws G F kA h ad) H) (hD : va_D A (sm_ws G F kA h ad)) (hS : va_S A H0 H locs) (hA : ∀ q, H0.size ≤ q → A q) (ho : sm_okh G h) (hbig : G.1 + h.n < 1000000) {ci idx : Nat}
    {C : String} {T : u_T} {N : Nat} (hc : CL[ci]? = some (C, T, N)) (hcl : Cond.classLink own idx C ∈ Ts) (hinst : Cond.instantiable C N ∈ Ts) (hini : Cond.initialized C ∈ Ts) (hcells : cells + 1 ≤ R.cells) (hslots : slots + N ≤ R.slots) (hdg : decode cc pc = .ok (.new idx, 3))
    (kk : ∀ (q : Nat) (H1 : Heap), va_P D CL (sm_ws G F kA (sm_mk G h ci N) (va_up ad (G.1 + h.n) q)) H1 → va_D A (sm_ws G F kA (sm_mk G h ci N) (va_up ad (G.1 + h.n) q)) → va_S A H0 H1 locs → W p l e R s m args below meth c H1 locs (cells + 1) (slots + N) Q (F0 m (pc + 3) ls (.ref q :: rest))) : W p l e R s m args below meth c H locs cells slots Q (F0 m pc ls rest) := by
  obtain ⟨h1, h2, h3, ⟨ty, h4, h4t⟩, h5, h6⟩ := hCF _ _ _ _ hc
  have hfs : ∀ j, j < N → defaultValue (ty j) = vp_V (sm_fs F (sm_mk G h ci N) ad (G.1 + h.n) ci) j := by
    intro j hj
    have e1 := sm_fs_get (F := F) (h := sm_mk G h ci N) (ad := ad) (a := G.1 + h.n) (c := ci) (k := j) (by rw [h2]; exact hj)
    unfold vp_V
    rw [List.getD_eq_getElem?_getD, e1]
    have e2 := (h4t j hj).1
    have e3 := (h4t j hj).2
    have eI : (sm_mk G h ci N).1 (G.1 + h.n) j = 0 := by
      show va_up h.1 (G.1 + h.n) _ (G.1 + h.n) j = 0
      unfold va_up
      rw [if_pos rfl]
    have eJ : (sm_mk G h ci N).2.1 (G.1 + h.n) j = 0 := by
      show va_up h.2.1 (G.1 + h.n) _ (G.1 + h.n) j = 0
      unfold va_up
      rw [if_pos rfl]
    have eR : (sm_mk G h ci N).2.2.1 (G.1 + h.n) j = none := by
      show va_up h.2.2.1 (G.1 + h.n) _ (G.1 + h.n) j = none
      unfold va_up
      rw [if_pos rfl]
    simp only [Option.getD_some]
    rw [← e2] at e3 ⊢
    cases hy : ty j <;> rw [hy] at e3 <;> simp [sm_tt] at e3 <;> simp [sm_tt, sm_fv, eI, eJ, eR, defaultValue, va_rf]
  have hmk : ∀ q, sm_ws G F kA (sm_mk G h ci N) (va_up ad (G.1 + h.n) q) = sm_ws G F kA h ad ++ [(q, .inr (ci, sm_fs F (sm_mk G h ci N) ad (G.1 + h.n) ci))] := by
    intro q
    rw [sm_ws_mk ho hbig, sm_E_obj sm_cl_new h1]
    congr 5
    unfold sm_fs
    refine List.map_congr_left (fun k _ => ?_)
    unfold sm_fv
    have eR : (sm_mk G h ci N).2.2.1 (G.1 + h.n) k = none := by
      show va_up h.2.2.1 (G.1 + h.n) _ (G.1 + h.n) k = none
      unfold va_up
      rw [if_pos rfl]
    rw [eR]
    rfl
  refine va_new hx hb hts h3 ty h4 hown (hts _ hcl) (hts _ hinst) (hts _ hini) hK hP hD hS hA hc hfs hcells hslots hdg (fun q H1 a1 a2 a3 => kk q H1 ?_ ?_ a3)
  · rw [hmk q]; exact a1
  · rw [hmk q]; exact a2
/-- the class of arrays of a kind is one -/
theorem sm_Wnewa (hx : p.tables.exec = Jvm.exec) (hb : c.code = cc) {at_ : ArrayType} {ka t0 : Nat} {ty : FieldType} (hka : ¬ ka < 100) (hty : newarray.typeOf at_ = ty) (htys : (sm_ty kA eT)[t0]? = some (kA ka, ty)) (hRA : ∀ U : State, va_RA U (kA ka) ty → U.vm.findClass ("[" ++ ty.toString) = some (kA ka)) (hRA2 : ∀ (U : State) (cA : ClassId), va_RA U cA ty → U.vm.findClass ("[" ++ ty.toString) = some cA)
    (hac : ∀ (cA : ClassId) (N : Nat) (ad : Nat → Nat) (h : sm_H), vp_cell cA (N, sm_ac (sm_mk G h ka N) ad (G.1 + h.n) ka) = arrV cA N (fun _ => defaultValue ty)) (hcb : componentBytes ty ≤ 8) (harr : (Cond.arrayClass ty).before args s = true)
    (hK : va_K D CL (sm_ty kA eT) s) (hP : va_P D CL (sm_ws G F kA h ad) H) (hD : va_D A (sm_ws G F kA h ad)) (hS : va_S A H0 H locs) (hA : ∀ q, H0.size ≤ q → A q) (ho : sm_okh G h) (hbig : G.1 + h.n < 1000000) {n : Int32} (hn : ¬ n < 0) (hcells : cells + 1 ≤ R.cells) (hslots : slots + n.toNatClampNeg ≤ R.slots) (hsm : n.toNatClampNeg ≤ 60000000) (hdg : decode cc pc = .ok (.newarray at_, 2))
    (kk : ∀ (q : Nat) (H1 : Heap), va_P D CL (sm_ws G F kA (sm_mk G h ka n.toNatClampNeg) (va_up ad (G.1 + h.n) q)) H1 → va_D A (sm_ws G F kA (sm_mk G h ka n.toNatClampNeg) (va_up ad (G.1 + h.n) q)) → va_S A H0 H1 locs → W p l e R s m args below meth c H1 locs (cells + 1) (slots + n.toNatClampNeg) Q (F0 m (pc + 2) ls (.ref q :: rest))) : W p l e R s m args below meth c H locs cells slots Q (F0 m pc ls (.int n :: rest)) := by
  subst hty
  have hbytes : n.toNatClampNeg * componentBytes (newarray.typeOf at_) ≤ 536870912 := Nat.le_trans (Nat.mul_le_mul hsm hcb) (by decide)
  refine va_newa (a0 := (n.toNatClampNeg, sm_ac (sm_mk G h ka n.toNatClampNeg) ad (G.1 + h.n) ka)) hx hb harr rfl hK hP hD hS hA (fun cA => hac cA _ ad h) hn rfl hbytes hcells hslots hdg (fun q cA H1 a0 a1 a2 a3 => kk q H1 ?_ ?_ a3)
  all_goals
    have hcA : cA = kA ka := by
      have z1 := (hK.2 t0 _ htys).2
      have z2 := (a0.2 (sm_ty kA eT).length (cA, newarray.typeOf at_) (by simp)).2
      have z3 := hRA s z1
      have z4 := hRA2 s cA z2
      rw [z3] at z4
      exact (Option.some.inj z4).symm
    have hmk : sm_ws G F kA (sm_mk G h ka n.toNatClampNeg) (va_up ad (G.1 + h.n) q) = sm_ws G F kA h ad ++ [(q, .inl (cA, n.toNatClampNeg, sm_ac (sm_mk G h ka n.toNatClampNeg) ad (G.1 + h.n) ka))] := by
      rw [sm_ws_mk ho hbig, sm_E_arr sm_cl_new hka, sm_ln_new, hcA]
      congr 5
      unfold sm_ac
      have eR : ∀ k, (sm_mk G h ka n.toNatClampNeg).2.2.1 (G.1 + h.n) k = none := fun k => by
        show va_up h.2.2.1 (G.1 + h.n) _ (G.1 + h.n) k = none
        unfold va_up
        rw [if_pos rfl]
      simp only [eR, Option.map_none]
    first
      | (rw [hmk]; exact a1)
      | (rw [hmk]; exact a2)
theorem sm_Wnewq (hx : p.tables.exec = Jvm.exec) (hb : c.code = cc) (hts : ∀ w ∈ Ts, w.before args s = true) (hown : s.vm.findClass own = some m.cls) {idx : Nat} (hcl : Cond.classLink own idx eT ∈ Ts) (hAO : va_AO eT s)
    (hK : va_K D CL (sm_ty kA eT) s) (hP : va_P D CL (sm_ws G F kA h ad) H) (hD : va_D A (sm_ws G F kA h ad)) (hS : va_S A H0 H locs) (hA : ∀ q, H0.size ≤ q → A q) (ho : sm_okh G h) (hbig : G.1 + h.n < 1000000) {n : Int32} (hn : ¬ n < 0) (hcells : cells + 1 ≤ R.cells) (hslots : slots + n.toNatClampNeg ≤ R.slots) (hsm : n.toNatClampNeg ≤ 60000000) (hdg : decode cc pc = .ok (.anewarray idx, 3))
    (kk : ∀ (q : Nat) (H1 : Heap), va_P D CL (sm_ws G F kA (sm_mk G h 103 n.toNatClampNeg) (va_up ad (G.1 + h.n) q)) H1 → va_D A (sm_ws G F kA (sm_mk G h 103 n.toNatClampNeg) (va_up ad (G.1 + h.n) q)) → va_S A H0 H1 locs → W p l e R s m args below meth c H1 locs (cells + 1) (slots + n.toNatClampNeg) Q (F0 m (pc + 3) ls (.ref q :: rest))) : W p l e R s m args below meth c H locs cells slots Q (F0 m pc ls (.int n :: rest)) := by
  have hbytes : n.toNatClampNeg * 4 ≤ 536870912 := Nat.le_trans (Nat.mul_le_mul hsm (Nat.le_refl 4)) (by decide)
  refine va_newq (C := eT) hx hb hown (hts _ hcl) hAO hK hP hD hS hA hn rfl hbytes hcells hslots hdg (fun q cA H1 a0 a1 a2 a3 => kk q H1 ?_ ?_ a3)
  all_goals
    have hcA : cA = kA 103 := by
      obtain ⟨_, _, _, _, _, z3⟩ := (hK.2 3 _ rfl).2
      obtain ⟨_, _, _, _, _, z4⟩ := (a0.2 (sm_ty kA eT).length (cA, .object eT) (by simp)).2
      rw [z3] at z4
      exact (Option.some.inj z4).symm
    have hmk : sm_ws G F kA (sm_mk G h 103 n.toNatClampNeg) (va_up ad (G.1 + h.n) q) = sm_ws G F kA h ad ++ [(q, .inl (cA, n.toNatClampNeg, .inr (.inr (.inr (.inr (fun _ => none))))))] := by
      rw [sm_ws_mk ho hbig, sm_E_arr sm_cl_new (by decide), sm_ln_new, hcA]
      congr 5
      unfold sm_ac
      have eR : ∀ k, (sm_mk G h 103 n.toNatClampNeg).2.2.1 (G.1 + h.n) k = none := fun k => by
        show va_up h.2.2.1 (G.1 + h.n) _ (G.1 + h.n) k = none
        unfold va_up
        rw [if_pos rfl]
      simp only [eR, Option.map_none]
    first
      | (rw [hmk]; exact a1)
      | (rw [hmk]; exact a2)
theorem sm_Wcopyi (hx : p.tables.exec = Jvm.exec) (hb : c.code = cc) (hts : ∀ w ∈ Ts, w.before args s = true) (hml : c.maxLocals = ls.size) (hown : s.vm.findClass own = some m.cls) {idx : Nat} (hlink : Cond.methodLink own idx arraycopyName ∈ Ts) (hnat : Cond.native arraycopyName ∈ Ts) (hstat : Cond.static arraycopyName ∈ Ts) (hini : Cond.initialized "java/lang/System" ∈ Ts)
    (hK : va_K D CL (sm_ty kA eT) s) (hP : va_P D CL (sm_ws G F kA h ad) H) (hD : va_D A (sm_ws G F kA h ad)) (hS : va_S A H0 H locs) {h' : sm_H} {a b : Nat} {sp dp n : Int32} (q : sm_cpI G h a sp b dp n = some h') (hframes : 1 ≤ R.frames) (hlocals : (rest.map fun v => v.category).sum + (nativeFrameWords "java/lang/System" "arraycopy" 5 + 11) ≤ R.locals) (hdg : decode cc pc = .ok (.invokestatic idx, 3))
    (kk : ∀ (H1 : Heap) (locs1 : List Loc), va_P D CL (sm_ws G F kA h' ad) H1 → va_D A (sm_ws G F kA h' ad) → va_S A H0 H1 locs1 → W p l e R s m args below meth c H1 locs1 cells slots Q (F0 m (pc + 3) ls rest)) : W p l e R s m args below meth c H locs cells slots Q (F0 m pc ls (.int n :: .int dp :: .ref (ad b) :: .int sp :: .ref (ad a) :: rest)) := by
  unfold sm_cpI at q
  cases w : sm_is G h a 100 with
  | false => rw [w] at q; cases q
  | true =>
    cases w2 : sm_is G h b 100 with
    | false => rw [w, w2] at q; cases q
    | true =>
      rw [w, w2] at q
      simp only [Bool.and_true, cond_true] at q
      split at q
      · rename_i hin
        cases q
        obtain ⟨k1, k2, k3, k4, k5⟩ := hin
        obtain ⟨hl, hcl⟩ := sm_is_lt w
        obtain ⟨hl2, hcl2⟩ := sm_is_lt w2
        have he := sm_ws_get (F := F) (kA := kA) (ad := ad) hl
        have he2 := sm_ws_get (F := F) (kA := kA) (ad := ad) hl2
        generalize hh' : ((va_up h.1 b (va_cpy (h.1 a) (h.1 b) sp.toNatClampNeg dp.toNatClampNeg n.toNatClampNeg), h.2) : sm_H) = h' at kk
        have e1 : h'.1 = va_up h.1 b (va_cpy (h.1 a) (h.1 b) sp.toNatClampNeg dp.toNatClampNeg n.toNatClampNeg) := by rw [← hh']
        have e2 : h'.2 = h.2 := by rw [← hh']
        have hcl' : sm_cl G h' b = 100 := by rw [← hh']; exact hcl2
        have hset : (sm_ws G F kA h ad).set b (ad b, .inl (kA 100, sm_ln G h b, .inl (va_cpy (h.1 a) (h.1 b) sp.toNatClampNeg dp.toNatClampNeg n.toNatClampNeg))) = sm_ws G F kA h' ad := by
          refine Eq.trans ?_ (sm_ws_set (h := h) (a := b) (by rw [← hh']) (fun b' hb' => ?_))
          · rw [sm_E_arr hcl' (by decide)]
            have e3 : sm_ln G h' b = sm_ln G h b := by rw [← hh']; rfl
            rw [e3]
            show _ = (sm_ws G F kA h ad).set b (ad b, .inl (kA 100, sm_ln G h b, .inl (h'.1 b)))
            rw [e1]
            unfold va_up
            rw [if_pos rfl]
          · subst hh'
            refine sm_E_congr ?_ rfl (fun _ => rfl) rfl rfl
            show va_up h.1 b _ b' = _
            unfold va_up
            rw [if_neg hb']
        rw [sm_E_arr hcl (by decide)] at he
        rw [sm_E_arr hcl2 (by decide)] at he2
        exact va_copyi hx hb hml hown (hts _ hlink) (hts _ hnat) (hts _ hstat) (hts _ hini) hK hP hD hS a b 0 0 he he2 rfl rfl rfl k1 k2 k3 k4 k5 (fun i _ => rfl) hframes hlocals hdg (fun H1 locs1 a1 a2 a3 => kk H1 locs1 (hset ▸ a1) (hset ▸ a2) a3)
      · cases q
theorem sm_Wcopyl (hx : p.tables.exec = Jvm.exec) (hb : c.code = cc) (hts : ∀ w ∈ Ts, w.before args s = true) (hml : c.maxLocals = ls.size) (hown : s.vm.findClass own = some m.cls) {idx : Nat} (hlink : Cond.methodLink own idx arraycopyName ∈ Ts) (hnat : Cond.native arraycopyName ∈ Ts) (hstat : Cond.static arraycopyName ∈ Ts) (hini : Cond.initialized "java/lang/System" ∈ Ts)
    (hK : va_K D CL (sm_ty kA eT) s) (hP : va_P D CL (sm_ws G F kA h ad) H) (hD : va_D A (sm_ws G F kA h ad)) (hS : va_S A H0 H locs) {h' : sm_H} {a b : Nat} {sp dp n : Int32} (q : sm_cpJ G h a sp b dp n = some h') (hframes : 1 ≤ R.frames) (hlocals : (rest.map fun v => v.category).sum + (nativeFrameWords "java/lang/System" "arraycopy" 5 + 11) ≤ R.locals) (hdg : decode cc pc = .ok (.invokestatic idx, 3))
    (kk : ∀ (H1 : Heap) (locs1 : List Loc), va_P D CL (sm_ws G F kA h' ad) H1 → va_D A (sm_ws G F kA h' ad) → va_S A H0 H1 locs1 → W p l e R s m args below meth c H1 locs1 cells slots Q (F0 m (pc + 3) ls rest)) : W p l e R s m args below meth c H locs cells slots Q (F0 m pc ls (.int n :: .int dp :: .ref (ad b) :: .int sp :: .ref (ad a) :: rest)) := by
  unfold sm_cpJ at q
  cases w : sm_is G h a 101 with
  | false => rw [w] at q; cases q
  | true =>
    cases w2 : sm_is G h b 101 with
    | false => rw [w, w2] at q; cases q
    | true =>
      rw [w, w2] at q
      simp only [Bool.and_true, cond_true] at q
      split at q
      · rename_i hin
        cases q
        obtain ⟨k1, k2, k3, k4, k5⟩ := hin
        obtain ⟨hl, hcl⟩ := sm_is_lt w
        obtain ⟨hl2, hcl2⟩ := sm_is_lt w2
        have he := sm_ws_get (F := F) (kA := kA) (ad := ad) hl
        have he2 := sm_ws_get (F := F) (kA := kA) (ad := ad) hl2
        generalize hh' : ((h.1, va_up h.2.1 b (va_cpy (h.2.1 a) (h.2.1 b) sp.toNatClampNeg dp.toNatClampNeg n.toNatClampNeg), h.2.2) : sm_H) = h' at kk
        have e1 : h'.2.1 = va_up h.2.1 b (va_cpy (h.2.1 a) (h.2.1 b) sp.toNatClampNeg dp.toNatClampNeg n.toNatClampNeg) := by rw [← hh']
        have hcl' : sm_cl G h' b = 101 := by rw [← hh']; exact hcl2
        have hset : (sm_ws G F kA h ad).set b (ad b, .inl (kA 101, sm_ln G h b, .inr (.inl (va_cpy (h.2.1 a) (h.2.1 b) sp.toNatClampNeg dp.toNatClampNeg n.toNatClampNeg)))) = sm_ws G F kA h' ad := by
          refine Eq.trans ?_ (sm_ws_set (h := h) (a := b) (by rw [← hh']) (fun b' hb' => ?_))
          · rw [sm_E_arr hcl' (by decide)]
            have e3 : sm_ln G h' b = sm_ln G h b := by rw [← hh']; rfl
            rw [e3]
            show _ = (sm_ws G F kA h ad).set b (ad b, .inl (kA 101, sm_ln G h b, .inr (.inl (h'.2.1 b))))
            rw [e1]
            unfold va_up
            rw [if_pos rfl]
          · subst hh'
            refine sm_E_congr rfl ?_ (fun _ => rfl) rfl rfl
            show va_up h.2.1 b _ b' = _
            unfold va_up
            rw [if_neg hb']
        rw [sm_E_arr hcl (by decide)] at he
        rw [sm_E_arr hcl2 (by decide)] at he2
        exact va_copyl hx hb hml hown (hts _ hlink) (hts _ hnat) (hts _ hstat) (hts _ hini) hK hP hD hS a b 1 1 he he2 rfl rfl rfl k1 k2 k3 k4 k5 (fun i _ => rfl) hframes hlocals hdg (fun H1 locs1 a1 a2 a3 => kk H1 locs1 (hset ▸ a1) (hset ▸ a2) a3)
      · cases q
end SMnew
