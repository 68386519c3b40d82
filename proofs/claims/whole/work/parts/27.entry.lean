def R_law : String := "HandleHouseLaw"
def lw_P (b : Addr) (xs : List Int32) (args : Array Value) (s : State) : Prop := args = #[.ref b] ∧ s.IntsAt b xs ∧ xs.length ≤ 3072 ∧ (Jvm.Cond.and given_1 narrow_1).before args s = true
def lw_Q (_ : Array Value) (s : State) (o : Outcome) (t : State) : Prop := o = .returned (some (.int 1)) ∧ Framed s o t [] 600000 7302250
def lw_Z (below : List Frame) (a : Array Value) (s : State) : State → Prop := fun t => ∃ o, t.status = .running ∧ Ended t below o ∧ lw_Q a s o t
theorem lw_ret {p : Program} {l : Launch} {e : Env} {s : State} {m : MethodId} {below : List Frame} {meth : Method} {c : Code} {b : Nat} (hx : p.tables.exec = Jvm.exec) (hb : c.code = code) (hr : meth.sig.returnType = ret) (hlocks : meth.locks = false) {pc : Nat} {H : Heap} {ls : Array Slot} (hdg : decode code pc = .ok (.ireturn, 1)) : W p l e room_1 s m #[Value.ref b] below meth c H [] 600000 7302250 (lw_Z below #[Value.ref b] s) (F0 m pc ls [.int 1]) := by
  intro T hT X
  obtain ⟨fs, hret, hrun, hended, hW, hframe⟩ := X.leave (v := some (.int 1)) (hlocks := hlocks) (fun h => by rw [hr] at h; cases h)
  have hmeth' : T.vm.method? m = some meth := X.method'
  refine ⟨T.setFrames fs, ?_, .returned (some (.int 1)), hrun, hended, rfl, ⟨_, rfl⟩, hW, hframe⟩
  jvm_step X.here [X.here.top, hx, hb, hdg, hmeth', hr, ret, narrow_b1]
  (try refine ⟨rfl, ?_⟩); (try refine ⟨rfl, ?_⟩)
  first | (intro acts; rw [hret _ acts rfl rfl rfl]) | rw [hret _ _ rfl rfl rfl]
  exact Steps.refl _
def lw_At (p : Program) (s : State) (m : MethodId) (meth : Method) (c : Code) (b L : Nat) (xs : Nat → Int32) : Prop :=
  p.tables.exec = Jvm.exec ∧ c.code = code ∧ meth.sig.returnType = ret ∧ c.maxLocals = 4 ∧ s.vm.findClass R_law = some m.cls ∧ (∀ w ∈ lw_tbl, w.before #[Value.ref b] s = true) ∧ va_X b L xs s s.heap ∧ b < s.heap.size ∧ meth.locks = false ∧ (Jvm.Cond.and given_1 narrow_1).before #[Value.ref b] s = true
theorem P_raw_in {q : Nat} {w : Cond} (h : (P_ch[q / 1000]?).bind (fun c => c[q % 1000]?) = some w) : w ∈ lw_tbl := by
  cases hc : P_ch[q / 1000]? with
  | none => rw [hc] at h; cases h
  | some c =>
    rw [hc] at h
    have hw := List.mem_of_getElem? (show c[q % 1000]? = some w from h)
    have hcm := List.mem_of_getElem? hc
    unfold lw_tbl tables_1
    unfold P_ch at hcm
    simp only [List.mem_cons, List.not_mem_nil, or_false] at hcm
    simp only [List.mem_append]
    rcases hcm with rfl | rfl | rfl | rfl | rfl | rfl | rfl | rfl | rfl | rfl | rfl | rfl | rfl | rfl <;> simp only [hw, true_or, or_true]
abbrev P_gv : List Cond := flatC (Jvm.Cond.and given_1 narrow_1)
theorem P_stI {args : Array Value} {s : State} (hg : ∀ c ∈ P_gv, c.before args s = true) {C n d : String} {N : Nat} {f : Nat → Int32} {A : Nat → Prop} (hA : ∀ a : Nat, a < s.heap.size → ¬ A a) (hN : N < 2 ^ 31) (m1 : Cond.arrayOf (.static C n d) .int ∈ P_gv) (m2 : Cond.eq (.length (.static C n d)) (.int (Int32.ofNat N)) ∈ P_gv) (m3 : ∀ j, j < N → Cond.eq (.elem (.static C n d) (.int (Int32.ofNat j))) (.int (f j)) ∈ P_gv) (hl : (Cond.laysStatic C n d).before args s = true) (hi : (Cond.initialized C).before args s = true) : ∃ t, va_T .int t N (fun k => .int (f k)) A s s.heap ∧ va_Z C n d (.ref t) A s s.heap := by
  obtain ⟨t, ht, hT⟩ := va_Tof (f := fun k => .int (f k)) hN (hg _ m1) (va_eqt (hg _ m2)) (fun j hj => va_eqt (hg _ (m3 j hj))) hA
  exact ⟨t, hT, va_Zref hl hi ht hA⟩
theorem P_stJ {args : Array Value} {s : State} (hg : ∀ c ∈ P_gv, c.before args s = true) {C n d : String} {N : Nat} {f : Nat → Int64} {A : Nat → Prop} (hA : ∀ a : Nat, a < s.heap.size → ¬ A a) (hN : N < 2 ^ 31) (m1 : Cond.arrayOf (.static C n d) .long ∈ P_gv) (m2 : Cond.eq (.length (.static C n d)) (.int (Int32.ofNat N)) ∈ P_gv) (m3 : ∀ j, j < N → Cond.eq (.elem (.static C n d) (.int (Int32.ofNat j))) (.long (f j)) ∈ P_gv) (hl : (Cond.laysStatic C n d).before args s = true) (hi : (Cond.initialized C).before args s = true) : ∃ t, va_T .long t N (fun k => .long (f k)) A s s.heap ∧ va_Z C n d (.ref t) A s s.heap := by
  obtain ⟨t, ht, hT⟩ := va_Tof (f := fun k => .long (f k)) hN (hg _ m1) (va_eqt (hg _ m2)) (fun j hj => va_eqtl (hg _ (m3 j hj))) hA
  exact ⟨t, hT, va_Zref hl hi ht hA⟩
theorem P_ac {args : Array Value} {s : State} {ty : FieldType} (h : (Cond.arrayClass ty).before args s = true) : ∃ cA : ClassId, ArrOfT s cA ty ∧ s.vm.findClass ("[" ++ ty.toString) = some cA := by
  obtain ⟨cA, kA, comp, h1, h2, h3⟩ := Cond.arrayClass_spec h
  exact ⟨cA, fun n z => ⟨fun k h => (by cases h), kA, h2, comp, h3⟩, h1⟩
theorem Pm_HAS_1 : Cond.arrayOf (.static "HandleHouse$Forms" "HAS" "[I") .int ∈ P_gv := by decide +kernel
theorem Pm_HAS_2 : Cond.eq (.length (.static "HandleHouse$Forms" "HAS" "[I")) (.int (Int32.ofNat 35)) ∈ P_gv := by decide +kernel
theorem Pm_HAS_3 : ∀ j, j < 35 → Cond.eq (.elem (.static "HandleHouse$Forms" "HAS" "[I") (.int (Int32.ofNat j))) (.int (P_HAS.getD j 0)) ∈ P_gv := by decide +kernel
theorem Pm_PARTS_1 : Cond.arrayOf (.static "HandleHouse$Forms" "PARTS" "[I") .int ∈ P_gv := by decide +kernel
theorem Pm_PARTS_2 : Cond.eq (.length (.static "HandleHouse$Forms" "PARTS" "[I")) (.int (Int32.ofNat 35)) ∈ P_gv := by decide +kernel
theorem Pm_PARTS_3 : ∀ j, j < 35 → Cond.eq (.elem (.static "HandleHouse$Forms" "PARTS" "[I") (.int (Int32.ofNat j))) (.int (P_PARTS.getD j 0)) ∈ P_gv := by decide +kernel
theorem Pm_SO_1 : Cond.arrayOf (.static "HandleHouse$Words" "SIGN_OPERATIONS" "[I") .int ∈ P_gv := by decide +kernel
theorem Pm_SO_2 : Cond.eq (.length (.static "HandleHouse$Words" "SIGN_OPERATIONS" "[I")) (.int (Int32.ofNat 10)) ∈ P_gv := by decide +kernel
theorem Pm_SO_3 : ∀ j, j < 10 → Cond.eq (.elem (.static "HandleHouse$Words" "SIGN_OPERATIONS" "[I") (.int (Int32.ofNat j))) (.int (P_SO.getD j 0)) ∈ P_gv := by decide +kernel
theorem Pm_KP_1 : Cond.arrayOf (.static "HandleHouse$Texts" "KEYWORD_PARTS" "[I") .int ∈ P_gv := by decide +kernel
theorem Pm_KP_2 : Cond.eq (.length (.static "HandleHouse$Texts" "KEYWORD_PARTS" "[I")) (.int (Int32.ofNat 17)) ∈ P_gv := by decide +kernel
theorem Pm_KP_3 : ∀ j, j < 17 → Cond.eq (.elem (.static "HandleHouse$Texts" "KEYWORD_PARTS" "[I") (.int (Int32.ofNat j))) (.int (P_KP.getD j 0)) ∈ P_gv := by decide +kernel
theorem Pm_KW_1 : Cond.arrayOf (.static "HandleHouse$Texts" "KEYWORDS" "[J") .long ∈ P_gv := by decide +kernel
theorem Pm_KW_2 : Cond.eq (.length (.static "HandleHouse$Texts" "KEYWORDS" "[J")) (.int (Int32.ofNat 16)) ∈ P_gv := by decide +kernel
theorem Pm_KW_3 : ∀ j, j < 16 → Cond.eq (.elem (.static "HandleHouse$Texts" "KEYWORDS" "[J") (.int (Int32.ofNat j))) (.long (P_KW.getD j 0)) ∈ P_gv := by decide +kernel
theorem Pm_KN_1 : Cond.arrayOf (.static "HandleHouse$Texts" "KIND_NAMES" "[J") .long ∈ P_gv := by decide +kernel
theorem Pm_KN_2 : Cond.eq (.length (.static "HandleHouse$Texts" "KIND_NAMES" "[J")) (.int (Int32.ofNat 32)) ∈ P_gv := by decide +kernel
theorem Pm_KN_3 : ∀ j, j < 32 → Cond.eq (.elem (.static "HandleHouse$Texts" "KIND_NAMES" "[J") (.int (Int32.ofNat j))) (.long (P_KN.getD j 0)) ∈ P_gv := by decide +kernel
theorem P_entry {p : Program} {s : State} {m : MethodId} {meth : Method} {c : Code} {b L : Nat} {xs : Nat → Int32} (hL : L ≤ 3072) (C0 : lw_At p s m meth c b L xs) : ∃ (D : va_G) (kA : Nat → ClassId) (ad : Nat → Nat), va_K D P_CL (sm_ty kA "HandleHouse$Thing") s ∧ sm_stat (P_Gr L xs) P_X (fun q => s.heap.size ≤ q) ad s ∧ ad 1000004 = b := by
  obtain ⟨hx, hb, hr, hml, hown, hts, hX, hbl, hlocks, hgv⟩ := id C0
  have hg := flat_of_before _ hgv
  have hA : ∀ a : Nat, a < s.heap.size → ¬ (fun q : Nat => s.heap.size ≤ q) a := fun a h => Nat.not_le.mpr h
  have hts' : ∀ w ∈ P_Ts, w.before #[Value.ref b] s = true := fun w hw => hts w (List.mem_filter.mp hw).1
  obtain ⟨tHAS, hHAST, hHASZ⟩ := P_stI (C := "HandleHouse$Forms") (n := "HAS") (d := "[I") (N := 35) (f := fun j => P_HAS.getD j 0) (A := fun q : Nat => s.heap.size ≤ q) hg hA (by decide) Pm_HAS_1 Pm_HAS_2 Pm_HAS_3 (hts _ (P_raw_in (q := 3129) rfl)) (hts _ (P_raw_in (q := 1008) rfl))
  obtain ⟨tPARTS, hPARTST, hPARTSZ⟩ := P_stI (C := "HandleHouse$Forms") (n := "PARTS") (d := "[I") (N := 35) (f := fun j => P_PARTS.getD j 0) (A := fun q : Nat => s.heap.size ≤ q) hg hA (by decide) Pm_PARTS_1 Pm_PARTS_2 Pm_PARTS_3 (hts _ (P_raw_in (q := 3131) rfl)) (hts _ (P_raw_in (q := 1008) rfl))
  obtain ⟨tSO, hSOT, hSOZ⟩ := P_stI (C := "HandleHouse$Words") (n := "SIGN_OPERATIONS") (d := "[I") (N := 10) (f := fun j => P_SO.getD j 0) (A := fun q : Nat => s.heap.size ≤ q) hg hA (by decide) Pm_SO_1 Pm_SO_2 Pm_SO_3 (hts _ (P_raw_in (q := 7108) rfl)) (hts _ (P_raw_in (q := 1012) rfl))
  obtain ⟨tKP, hKPT, hKPZ⟩ := P_stI (C := "HandleHouse$Texts") (n := "KEYWORD_PARTS") (d := "[I") (N := 17) (f := fun j => P_KP.getD j 0) (A := fun q : Nat => s.heap.size ≤ q) hg hA (by decide) Pm_KP_1 Pm_KP_2 Pm_KP_3 (hts _ (P_raw_in (q := 8002) rfl)) (hts _ (P_raw_in (q := 1013) rfl))
  obtain ⟨tKW, hKWT, hKWZ⟩ := P_stJ (C := "HandleHouse$Texts") (n := "KEYWORDS") (d := "[J") (N := 16) (f := fun j => P_KW.getD j 0) (A := fun q : Nat => s.heap.size ≤ q) hg hA (by decide) Pm_KW_1 Pm_KW_2 Pm_KW_3 (hts _ (P_raw_in (q := 8064) rfl)) (hts _ (P_raw_in (q := 1013) rfl))
  obtain ⟨tKN, hKNT, hKNZ⟩ := P_stJ (C := "HandleHouse$Texts") (n := "KIND_NAMES") (d := "[J") (N := 32) (f := fun j => P_KN.getD j 0) (A := fun q : Nat => s.heap.size ≤ q) hg hA (by decide) Pm_KN_1 Pm_KN_2 Pm_KN_3 (hts _ (P_raw_in (q := 7155) rfl)) (hts _ (P_raw_in (q := 1013) rfl))
  obtain ⟨adK, adV, hVS, hev⟩ := vk_Sof (args := #[Value.ref b]) (s := s) (N := 1) (tm := fun _ => .string "HandleHouse$Words" 72) (len := [10]) (byt := [[43, 45, 42, 47, 37, 38, 124, 94, 60, 61]]) (A := fun q : Nat => s.heap.size ≤ q) (fun i hi => by rw [show i = 0 by omega]; decide) (fun i hi => hg _ (by decide +kernel)) (fun i hi => hg _ (by decide +kernel)) (fun i hi => hg _ (by decide +kernel)) (fun i hi => by rw [show i = 0 by omega]; exact hg _ (by decide +kernel)) (fun i hi j hj => by rw [show i = 0 by omega] at hj ⊢; exact hg _ ((by decide +kernel : ∀ j, j < 10 → Cond.eq (.elem (.field (.string "HandleHouse$Words" 72) "java/lang/String" "value" "[B") (.int (Int32.ofNat j))) (.int (([43, 45, 42, 47, 37, 38, 124, 94, 60, 61] : List Int32).getD j 0)) ∈ P_gv) j hj)) (fun i j hi hj h => absurd (show i = j by omega) h) hA
  obtain ⟨k1, k2, k3, k4⟩ := hVS.1 0 (by decide)
  have hCS : va_Z "java/lang/String" "COMPACT_STRINGS" "Z" (.int 1) (fun q : Nat => s.heap.size ≤ q) s s.heap := va_Zof (hts _ (P_raw_in (q := 7038) rfl)) (hts _ (P_raw_in (q := 1016) rfl)) (va_eqt (hg _ (by decide +kernel))) hA
  have hAO : va_AO "HandleHouse$Thing" s := va_AO.of (hts _ (P_raw_in (q := 1129) rfl))
  have hRf : vk_R "HandleHouse$Words" 72 "+-*/%&|^<=" (adK 0) s := vk_R.of (hts _ (P_raw_in (q := 7024) rfl)) (hev 0 (by decide))
  have hcl : ∀ k : Nat, ∃ z : ClassId × (Nat → Nat), ∀ q : vw_C, P_CL[k]? = some q → u_Kn s q.1 q.2.1 q.2.2 z.1 z.2 := by
    intro k
    cases hk : P_CL[k]? with
    | none => exact ⟨(0, fun _ => 0), fun q h => by cases h⟩
    | some q =>
      obtain ⟨ty, h1, h2, h3⟩ := P_CFall k q hk
      have z := P_cfk_ok h2
      obtain ⟨cC, iS, hKn⟩ := u_known (C := q.1) (T := q.2.1) (N := q.2.2) (n := q.2.2) hts' z.2.1 (hts' _ z.2.2.2.1)
      exact ⟨(cC, iS), fun q' h => by cases h; exact hKn⟩
  obtain ⟨fz, hfz⟩ := Classical.axiomOfChoice hcl
  obtain ⟨cI, aI1, aI2⟩ := P_ac (hts' _ P_w_arr_int)
  obtain ⟨cJ, aJ1, aJ2⟩ := P_ac (hts' _ P_w_arr_long)
  obtain ⟨cZ, aZ1, aZ2⟩ := P_ac (hts' _ P_w_arr_boolean)
  obtain ⟨comp, cO, kO, o1, o2, o3, o4, o5⟩ := Cond.arrayOver_spec hAO
  let kA : Nat → ClassId := fun k => if k = 100 then cI else if k = 101 then cJ else if k = 102 then cZ else cO
  let ad : Nat → Nat := fun a => if a = 1000000 then tHAS else if a = 1000001 then tPARTS else if a = 1000002 then tSO else if a = 1000003 then tKP else if a = 2000000 then tKW else if a = 3000000 then adK 0 else if 2000000 < a then tKN else b
  refine ⟨(fun k => (fz k).1, fun k => (fz k).2), kA, ad, ⟨fun c q h => hfz c q h, fun k q h => ?_⟩, ⟨fun j hj => ?_, fun j hj => ?_, fun q hq => ?_, hRf, ⟨adV 0, k1, k2, k3, ?_, hCS⟩, hAO, fun q hq => ?_⟩, rfl⟩
  · have hk : k = 0 ∨ k = 1 ∨ k = 2 ∨ k = 3 := by
      have := (List.getElem?_eq_some_iff.mp h).1
      have e : (sm_ty kA "HandleHouse$Thing").length = 4 := rfl
      omega
    rcases hk with rfl | rfl | rfl | rfl
    · cases h; exact ⟨aI1, aI2⟩
    · cases h; exact ⟨aJ1, aJ2⟩
    · cases h; exact ⟨aZ1, aZ2⟩
    · cases h; exact ⟨fun n z => ⟨fun k h => (by cases h), kO, o3, comp, o4⟩, kO, comp, o3, o4, o1, o5⟩
  · have hXT : va_T .int b L (fun k => .int (xs k)) (fun q : Nat => s.heap.size ≤ q) s s.heap := by
      obtain ⟨scr, x1, x2, x3, x4, x5⟩ := hX
      exact ⟨scr, x1, x2, x3, by omega, by rw [x4], x5, Nat.not_le.mpr hbl⟩
    rcases (show j = 0 ∨ j = 1 ∨ j = 2 ∨ j = 3 ∨ j = 4 ∨ j = 5 ∨ j = 6 ∨ j = 7 by omega) with rfl | rfl | rfl | rfl | rfl | rfl | rfl | rfl
    · exact hHAST
    · exact hPARTST
    · exact hSOT
    · exact hKPT
    · exact hXT
    · exact hXT
    · exact hXT
    · exact hXT
  · rcases (show j = 0 ∨ j = 1 ∨ j = 2 ∨ j = 3 ∨ j = 4 ∨ j = 5 ∨ j = 6 ∨ j = 7 by omega) with rfl | rfl | rfl | rfl | rfl | rfl | rfl | rfl
    · exact hKWT
    · exact hKNT
    · exact hKNT
    · exact hKNT
    · exact hKNT
    · exact hKNT
    · exact hKNT
    · exact hKNT
  · have hq : q ∈ P_XS := hq
    simp only [P_XS, List.mem_cons, List.not_mem_nil, or_false] at hq
    rcases hq with rfl | rfl | rfl | rfl | rfl | rfl
    · exact ⟨hHASZ, Nat.le_refl _⟩
    · exact ⟨hPARTSZ, Nat.le_of_ble_eq_true rfl⟩
    · exact ⟨hSOZ, Nat.le_of_ble_eq_true rfl⟩
    · exact ⟨hKPZ, Nat.le_of_ble_eq_true rfl⟩
    · exact ⟨hKWZ, Nat.le_of_ble_eq_true rfl⟩
    · exact ⟨hKNZ, Nat.le_of_ble_eq_true rfl⟩
  · exact k4
  · simp only [P_N, List.mem_cons, List.not_mem_nil, or_false] at hq
    rcases hq with rfl | rfl | rfl | rfl | rfl
    · exact va_Nw.of rfl (hts _ (P_raw_in (q := 1187) rfl))
    · exact va_Nw.of rfl (hts _ (P_raw_in (q := 2011) rfl))
    · exact va_Nw.of rfl (hts _ (P_raw_in (q := 2151) rfl))
    · exact va_Nw.of rfl (hts _ (P_raw_in (q := 2106) rfl))
    · exact va_Nw.of rfl (hts _ (P_raw_in (q := 2227) rfl))
