def P_byt (k : Nat) : Int32 := ([43, 45, 42, 47, 37, 38, 124, 94, 60, 61] : List Int32).getD k 0
def jx_S (a v : Nat) (A : Nat → Prop) (U : State) : Prop := va_O "java/lang/String" a A U U.heap ∧ va_OF "java/lang/String" "coder" "B" (.int 0) a A U U.heap ∧ va_OF "java/lang/String" "value" "[B" (.ref v) a A U U.heap ∧ va_T .byte v 10 (fun k => .int (P_byt k)) A U U.heap ∧ va_Z "java/lang/String" "COMPACT_STRINGS" "Z" (.int 1) A U U.heap
theorem jx_S.call {a v : Nat} {A B : Nat → Prop} {s U : State} (h : jx_S a v A s) (hB : ∀ q, B q → A q) (hk : ∀ q : Nat, q < s.heap.size → ¬ A q → U.heap[q]? = s.heap[q]?) (hvm : s.vm.Alike U.vm) : jx_S a v B U :=
  ⟨((h.1.kept hk).narrow hB).moved hvm, ((h.2.1.kept hk).narrow hB).moved hvm, ((h.2.2.1.kept hk).narrow hB).moved hvm, ((h.2.2.2.1.kept hk).narrow hB).moved hvm, ((h.2.2.2.2.kept hk).narrow hB).moved hvm⟩
def jx_Q (r : Int32) : Array Value → State → Outcome → State → Prop := fun _ st o t => o = .returned (some (.int r)) ∧ t.heap = st.heap
def jx_P (a v : Nat) (As : List Value) : Array Value → State → Prop := va_Pc As (fun U => jx_S a v (fun q => U.heap.size ≤ q) U)
def jx_R (d : Nat) : Room := { frames := d, cells := 0, slots := 0, locals := 40 * d }
abbrev jx_no : Addr → Prop := fun _ => False
theorem jx_blind {a v : Nat} {As : List Value} : FrameBlind (jx_P a v As) := by
  intro b U g mk ⟨q0, q1⟩
  exact ⟨q0, q1.call (U := U.calling g mk b) (fun _ h => h) (fun _ _ _ => rfl) (Vm.Alike.refl U.vm)⟩
section JX
variable {p : Program} {l : Launch} {e : Env} {R : Room} {s : State} {m : MethodId} {args : Array Value} {below : List Frame} {meth : Method} {c : Code} {H : Heap} {locs : List Loc} {cells slots : Nat} {Q : State → Prop} {pc : Nat} {ls : Array Slot} {rest st0 : List Value} {b : Array Value} {r : Int32}
theorem jx_call (hr : va_Run p l e R s m args below meth c H locs cells slots 0 0 (F0 m pc ls st0) rest (jx_Q r b) jx_no) (k : W p l e R s m args below meth c H locs cells slots Q (F0 m (pc + 3) ls (.int r :: rest))) : W p l e R s m args below meth c H locs cells slots Q (F0 m pc ls st0) := by
  intro T hT X
  obtain ⟨v, st₀, t, T', L, h0, X', hL, e1, e2, ⟨hv, hh⟩, st⟩ := hr T hT X
  cases hv
  have hL0 : L = [] := by
    cases L with
    | nil => rfl
    | cons x y => exact (hL x List.mem_cons_self).elim
  subst hL0
  rw [List.append_nil] at X'
  obtain ⟨t2, a1, b1⟩ := k T' (by rw [e1, hh, h0]) X'
  exact ⟨t2, st t2 a1, b1⟩
end JX
theorem jx_good {y : MethodName} {bytes : ByteArray} {maxL : Nat} {ret : Option FieldType} (h : Cond.code y bytes maxL ret ∈ P_Ts) : GoodIn P_Ts (Cond.code y bytes maxL ret :: P_Ts) := fun w hw => by
  rcases List.mem_cons.mp hw with rfl | hw
  · exact ⟨h, good_of_word (P_good _ h)⟩
  · exact ⟨hw, good_of_word (P_good _ hw)⟩
abbrev jb_len : ByteArray := prog_17_method_54_code
def jy_len : MethodName := ⟨"java/lang/String", "length", "()I"⟩
theorem jd_len_0 : decode jb_len 0 = .ok (.aload_n 0, 1) := by decide +kernel
theorem jd_len_1 : decode jb_len 1 = .ok (.getfield 9, 3) := by decide +kernel
theorem jd_len_4 : decode jb_len 4 = .ok (.arraylength, 1) := by decide +kernel
theorem jd_len_5 : decode jb_len 5 = .ok (.aload_n 0, 1) := by decide +kernel
theorem jd_len_6 : decode jb_len 6 = .ok (.invokevirtual 335, 3) := by decide +kernel
theorem jd_len_9 : decode jb_len 9 = .ok (.ishr, 1) := by decide +kernel
theorem jd_len_10 : decode jb_len 10 = .ok (.ireturn, 1) := by decide +kernel
theorem jc_len : Cond.code jy_len jb_len 1 (some .int) ∈ P_Ts := P_tw_in (q := 7042) rfl
abbrev jb_ix1 : ByteArray := prog_17_method_79_code
def jy_ix1 : MethodName := ⟨"java/lang/String", "indexOf", "(I)I"⟩
theorem jd_ix1_0 : decode jb_ix1 0 = .ok (.aload_n 0, 1) := by decide +kernel
theorem jd_ix1_1 : decode jb_ix1 1 = .ok (.iload_n 1, 1) := by decide +kernel
theorem jd_ix1_2 : decode jb_ix1 2 = .ok (.iconst 0, 1) := by decide +kernel
theorem jd_ix1_3 : decode jb_ix1 3 = .ok (.invokevirtual 633, 3) := by decide +kernel
theorem jd_ix1_6 : decode jb_ix1 6 = .ok (.ireturn, 1) := by decide +kernel
theorem jc_ix1 : Cond.code jy_ix1 jb_ix1 2 (some .int) ∈ P_Ts := P_tw_in (q := 7028) rfl
abbrev jb_ix2 : ByteArray := prog_17_method_80_code
def jy_ix2 : MethodName := ⟨"java/lang/String", "indexOf", "(II)I"⟩
theorem jd_ix2_0 : decode jb_ix2 0 = .ok (.aload_n 0, 1) := by decide +kernel
theorem jd_ix2_1 : decode jb_ix2 1 = .ok (.invokevirtual 492, 3) := by decide +kernel
theorem jd_ix2_4 : decode jb_ix2 4 = .ok (.ifCond .eq 19, 3) := by decide +kernel
theorem jd_ix2_7 : decode jb_ix2 7 = .ok (.aload_n 0, 1) := by decide +kernel
theorem jd_ix2_8 : decode jb_ix2 8 = .ok (.getfield 9, 3) := by decide +kernel
theorem jd_ix2_11 : decode jb_ix2 11 = .ok (.iload_n 1, 1) := by decide +kernel
theorem jd_ix2_12 : decode jb_ix2 12 = .ok (.iload_n 2, 1) := by decide +kernel
theorem jd_ix2_13 : decode jb_ix2 13 = .ok (.aload_n 0, 1) := by decide +kernel
theorem jd_ix2_14 : decode jb_ix2 14 = .ok (.invokevirtual 505, 3) := by decide +kernel
theorem jd_ix2_17 : decode jb_ix2 17 = .ok (.invokestatic 637, 3) := by decide +kernel
theorem jd_ix2_20 : decode jb_ix2 20 = .ok (.goto 16, 3) := by decide +kernel
theorem jd_ix2_23 : decode jb_ix2 23 = .ok (.aload_n 0, 1) := by decide +kernel
theorem jd_ix2_24 : decode jb_ix2 24 = .ok (.getfield 9, 3) := by decide +kernel
theorem jd_ix2_27 : decode jb_ix2 27 = .ok (.iload_n 1, 1) := by decide +kernel
theorem jd_ix2_28 : decode jb_ix2 28 = .ok (.iload_n 2, 1) := by decide +kernel
theorem jd_ix2_29 : decode jb_ix2 29 = .ok (.aload_n 0, 1) := by decide +kernel
theorem jd_ix2_30 : decode jb_ix2 30 = .ok (.invokevirtual 505, 3) := by decide +kernel
theorem jd_ix2_33 : decode jb_ix2 33 = .ok (.invokestatic 640, 3) := by decide +kernel
theorem jd_ix2_36 : decode jb_ix2 36 = .ok (.ireturn, 1) := by decide +kernel
theorem jc_ix2 : Cond.code jy_ix2 jb_ix2 3 (some .int) ∈ P_Ts := P_tw_in (q := 7032) rfl
abbrev jb_cod : ByteArray := prog_17_method_152_code
def jy_cod : MethodName := ⟨"java/lang/String", "coder", "()B"⟩
theorem jd_cod_0 : decode jb_cod 0 = .ok (.getstatic 38, 3) := by decide +kernel
theorem jd_cod_3 : decode jb_cod 3 = .ok (.ifCond .eq 10, 3) := by decide +kernel
theorem jd_cod_6 : decode jb_cod 6 = .ok (.aload_n 0, 1) := by decide +kernel
theorem jd_cod_7 : decode jb_cod 7 = .ok (.getfield 15, 3) := by decide +kernel
theorem jd_cod_10 : decode jb_cod 10 = .ok (.goto 4, 3) := by decide +kernel
theorem jd_cod_13 : decode jb_cod 13 = .ok (.iconst 1, 1) := by decide +kernel
theorem jd_cod_14 : decode jb_cod 14 = .ok (.ireturn, 1) := by decide +kernel
theorem jc_cod : Cond.code jy_cod jb_cod 1 (some .byte) ∈ P_Ts := P_tw_in (q := 7046) rfl
abbrev jb_isl : ByteArray := prog_17_method_154_code
def jy_isl : MethodName := ⟨"java/lang/String", "isLatin1", "()Z"⟩
theorem jd_isl_0 : decode jb_isl 0 = .ok (.getstatic 38, 3) := by decide +kernel
theorem jd_isl_3 : decode jb_isl 3 = .ok (.ifCond .eq 14, 3) := by decide +kernel
theorem jd_isl_6 : decode jb_isl 6 = .ok (.aload_n 0, 1) := by decide +kernel
theorem jd_isl_7 : decode jb_isl 7 = .ok (.getfield 15, 3) := by decide +kernel
theorem jd_isl_10 : decode jb_isl 10 = .ok (.ifCond .ne 7, 3) := by decide +kernel
theorem jd_isl_13 : decode jb_isl 13 = .ok (.iconst 1, 1) := by decide +kernel
theorem jd_isl_14 : decode jb_isl 14 = .ok (.goto 4, 3) := by decide +kernel
theorem jd_isl_17 : decode jb_isl 17 = .ok (.iconst 0, 1) := by decide +kernel
theorem jd_isl_18 : decode jb_isl 18 = .ok (.ireturn, 1) := by decide +kernel
theorem jc_isl : Cond.code jy_isl jb_isl 1 (some .boolean) ∈ P_Ts := P_tw_in (q := 7036) rfl
abbrev jb_can : ByteArray := prog_18_method_4_code
def jy_can : MethodName := ⟨"java/lang/StringLatin1", "canEncode", "(I)Z"⟩
theorem jd_can_0 : decode jb_can 0 = .ok (.iload_n 0, 1) := by decide +kernel
theorem jd_can_1 : decode jb_can 1 = .ok (.ifCond .lt 14, 3) := by decide +kernel
theorem jd_can_4 : decode jb_can 4 = .ok (.iload_n 0, 1) := by decide +kernel
theorem jd_can_5 : decode jb_can 5 = .ok (.sipush 255, 3) := by decide +kernel
theorem jd_can_8 : decode jb_can 8 = .ok (.if_icmp .gt 7, 3) := by decide +kernel
theorem jd_can_11 : decode jb_can 11 = .ok (.iconst 1, 1) := by decide +kernel
theorem jd_can_12 : decode jb_can 12 = .ok (.goto 4, 3) := by decide +kernel
theorem jd_can_15 : decode jb_can 15 = .ok (.iconst 0, 1) := by decide +kernel
theorem jd_can_16 : decode jb_can 16 = .ok (.ireturn, 1) := by decide +kernel
theorem jc_can : Cond.code jy_can jb_can 1 (some .boolean) ∈ P_Ts := P_tw_in (q := 7052) rfl
abbrev jb_sli : ByteArray := prog_18_method_22_code
def jy_sli : MethodName := ⟨"java/lang/StringLatin1", "indexOf", "([BIII)I"⟩
theorem jd_sli_0 : decode jb_sli 0 = .ok (.iload_n 1, 1) := by decide +kernel
theorem jd_sli_1 : decode jb_sli 1 = .ok (.invokestatic 88, 3) := by decide +kernel
theorem jd_sli_4 : decode jb_sli 4 = .ok (.ifCond .ne 5, 3) := by decide +kernel
theorem jd_sli_7 : decode jb_sli 7 = .ok (.iconst (-1), 1) := by decide +kernel
theorem jd_sli_8 : decode jb_sli 8 = .ok (.ireturn, 1) := by decide +kernel
theorem jd_sli_9 : decode jb_sli 9 = .ok (.iload_n 2, 1) := by decide +kernel
theorem jd_sli_10 : decode jb_sli 10 = .ok (.iconst 0, 1) := by decide +kernel
theorem jd_sli_11 : decode jb_sli 11 = .ok (.invokestatic 92, 3) := by decide +kernel
theorem jd_sli_14 : decode jb_sli 14 = .ok (.istore_n 2, 1) := by decide +kernel
theorem jd_sli_15 : decode jb_sli 15 = .ok (.iload_n 3, 1) := by decide +kernel
theorem jd_sli_16 : decode jb_sli 16 = .ok (.aload_n 0, 1) := by decide +kernel
theorem jd_sli_17 : decode jb_sli 17 = .ok (.arraylength, 1) := by decide +kernel
theorem jd_sli_18 : decode jb_sli 18 = .ok (.invokestatic 38, 3) := by decide +kernel
theorem jd_sli_21 : decode jb_sli 21 = .ok (.istore_n 3, 1) := by decide +kernel
theorem jd_sli_22 : decode jb_sli 22 = .ok (.iload_n 2, 1) := by decide +kernel
theorem jd_sli_23 : decode jb_sli 23 = .ok (.iload_n 3, 1) := by decide +kernel
theorem jd_sli_24 : decode jb_sli 24 = .ok (.if_icmp .lt 5, 3) := by decide +kernel
theorem jd_sli_27 : decode jb_sli 27 = .ok (.iconst (-1), 1) := by decide +kernel
theorem jd_sli_28 : decode jb_sli 28 = .ok (.ireturn, 1) := by decide +kernel
theorem jd_sli_29 : decode jb_sli 29 = .ok (.aload_n 0, 1) := by decide +kernel
theorem jd_sli_30 : decode jb_sli 30 = .ok (.iload_n 1, 1) := by decide +kernel
theorem jd_sli_31 : decode jb_sli 31 = .ok (.iload_n 2, 1) := by decide +kernel
theorem jd_sli_32 : decode jb_sli 32 = .ok (.iload_n 3, 1) := by decide +kernel
theorem jd_sli_33 : decode jb_sli 33 = .ok (.invokestatic 95, 3) := by decide +kernel
theorem jd_sli_36 : decode jb_sli 36 = .ok (.ireturn, 1) := by decide +kernel
theorem jc_sli : Cond.code jy_sli jb_sli 4 (some .int) ∈ P_Ts := P_tw_in (q := 7049) rfl
abbrev jb_ioc : ByteArray := prog_18_method_23_code
def jy_ioc : MethodName := ⟨"java/lang/StringLatin1", "indexOfChar", "([BIII)I"⟩
theorem jd_ioc_0 : decode jb_ioc 0 = .ok (.iload_n 1, 1) := by decide +kernel
theorem jd_ioc_1 : decode jb_ioc 1 = .ok (.i2b, 1) := by decide +kernel
theorem jd_ioc_2 : decode jb_ioc 2 = .ok (.istore 4, 2) := by decide +kernel
theorem jd_ioc_4 : decode jb_ioc 4 = .ok (.iload_n 2, 1) := by decide +kernel
theorem jd_ioc_5 : decode jb_ioc 5 = .ok (.istore 5, 2) := by decide +kernel
theorem jd_ioc_7 : decode jb_ioc 7 = .ok (.iload 5, 2) := by decide +kernel
theorem jd_ioc_9 : decode jb_ioc 9 = .ok (.iload_n 3, 1) := by decide +kernel
theorem jd_ioc_10 : decode jb_ioc 10 = .ok (.if_icmp .ge 21, 3) := by decide +kernel
theorem jd_ioc_13 : decode jb_ioc 13 = .ok (.aload_n 0, 1) := by decide +kernel
theorem jd_ioc_14 : decode jb_ioc 14 = .ok (.iload 5, 2) := by decide +kernel
theorem jd_ioc_16 : decode jb_ioc 16 = .ok (.baload, 1) := by decide +kernel
theorem jd_ioc_17 : decode jb_ioc 17 = .ok (.iload 4, 2) := by decide +kernel
theorem jd_ioc_19 : decode jb_ioc 19 = .ok (.if_icmp .ne 6, 3) := by decide +kernel
theorem jd_ioc_22 : decode jb_ioc 22 = .ok (.iload 5, 2) := by decide +kernel
theorem jd_ioc_24 : decode jb_ioc 24 = .ok (.ireturn, 1) := by decide +kernel
theorem jd_ioc_25 : decode jb_ioc 25 = .ok (.iinc 5 1, 3) := by decide +kernel
theorem jd_ioc_28 : decode jb_ioc 28 = .ok (.goto (-21), 3) := by decide +kernel
theorem jd_ioc_31 : decode jb_ioc 31 = .ok (.iconst (-1), 1) := by decide +kernel
theorem jd_ioc_32 : decode jb_ioc 32 = .ok (.ireturn, 1) := by decide +kernel
theorem jc_ioc : Cond.code jy_ioc jb_ioc 6 (some .int) ∈ P_Ts := P_tw_in (q := 7057) rfl
theorem jw_iS : Cond.initialized "java/lang/String" ∈ P_Ts := P_tw_in (q := 1016) rfl
theorem jw_iL : Cond.initialized "java/lang/StringLatin1" ∈ P_Ts := P_tw_in (q := 1017) rfl
theorem jl_ix1 : Cond.methodLink "HandleHouse$Words" 74 jy_ix1 ∈ P_Ts := P_tw_in (q := 7025) rfl
theorem ji_ix1 : Cond.instanceMethod jy_ix1 ∈ P_Ts := P_tw_in (q := 7026) rfl
theorem js_ix1 : Cond.selects "java/lang/String" jy_ix1 jy_ix1 ∈ P_Ts := P_tw_in (q := 7027) rfl
theorem jl_ix2 : Cond.methodLink "java/lang/String" 633 jy_ix2 ∈ P_Ts := P_tw_in (q := 7029) rfl
theorem ji_ix2 : Cond.instanceMethod jy_ix2 ∈ P_Ts := P_tw_in (q := 7030) rfl
theorem js_ix2 : Cond.selects "java/lang/String" jy_ix2 jy_ix2 ∈ P_Ts := P_tw_in (q := 7031) rfl
theorem jl_isl : Cond.methodLink "java/lang/String" 492 jy_isl ∈ P_Ts := P_tw_in (q := 7033) rfl
theorem ji_isl : Cond.instanceMethod jy_isl ∈ P_Ts := P_tw_in (q := 7034) rfl
theorem js_isl : Cond.selects "java/lang/String" jy_isl jy_isl ∈ P_Ts := P_tw_in (q := 7035) rfl
theorem jl_len : Cond.methodLink "java/lang/String" 505 jy_len ∈ P_Ts := P_tw_in (q := 7039) rfl
theorem ji_len : Cond.instanceMethod jy_len ∈ P_Ts := P_tw_in (q := 7040) rfl
theorem js_len : Cond.selects "java/lang/String" jy_len jy_len ∈ P_Ts := P_tw_in (q := 7041) rfl
theorem jl_cod : Cond.methodLink "java/lang/String" 335 jy_cod ∈ P_Ts := P_tw_in (q := 7043) rfl
theorem ji_cod : Cond.instanceMethod jy_cod ∈ P_Ts := P_tw_in (q := 7044) rfl
theorem js_cod : Cond.selects "java/lang/String" jy_cod jy_cod ∈ P_Ts := P_tw_in (q := 7045) rfl
theorem jl_sli : Cond.methodLink "java/lang/String" 637 jy_sli ∈ P_Ts := P_tw_in (q := 7047) rfl
theorem ji_sli : Cond.static jy_sli ∈ P_Ts := P_tw_in (q := 7048) rfl
theorem jl_can : Cond.methodLink "java/lang/StringLatin1" 88 jy_can ∈ P_Ts := P_tw_in (q := 7050) rfl
theorem ji_can : Cond.static jy_can ∈ P_Ts := P_tw_in (q := 7051) rfl
theorem jl_ioc : Cond.methodLink "java/lang/StringLatin1" 95 jy_ioc ∈ P_Ts := P_tw_in (q := 7055) rfl
theorem ji_ioc : Cond.static jy_ioc ∈ P_Ts := P_tw_in (q := 7056) rfl
theorem jl_max : Cond.methodLink "java/lang/StringLatin1" 92 Lib.Math.max.name ∈ P_Ts := P_tw_in (q := 7053) rfl
theorem jl_min : Cond.methodLink "java/lang/StringLatin1" 38 Lib.Math.min.name ∈ P_Ts := P_tw_in (q := 7054) rfl
theorem jf_cs : Cond.fieldLink "java/lang/String" 38 "java/lang/String" "COMPACT_STRINGS" "Z" ∈ P_Ts := P_tw_in (q := 7037) rfl
theorem jf_co : Cond.fieldLink "java/lang/String" 15 "java/lang/String" "coder" "B" ∈ P_Ts := P_tw_in (q := 13030) rfl
theorem jf_va : Cond.fieldLink "java/lang/String" 9 "java/lang/String" "value" "[B" ∈ P_Ts := P_tw_in (q := 13031) rfl
theorem jm_cod (l : Launch) (a v : Nat) : Met l jy_cod (Cond.code jy_cod jb_cod 1 (some .byte) :: P_Ts) (jx_R 1) (jx_P a v [.ref a]) (jx_Q 0) 0 0 jx_no := by
  refine Met.ofW (cc := jb_cod) (maxL := 1) (ret := some .byte) (by decide) rfl ?_
  intro p e s m args below meth c s₁ B hml hv
  obtain ⟨rfl, hS0⟩ := hv
  obtain ⟨hO, hco, hva, hT, hcs⟩ := id hS0
  have hx := B.exec
  have hb := B.bytes
  have hr := B.returns
  have hts0 := atoms_spec (ws := Cond.code jy_cod jb_cod 1 (some .byte) :: P_Ts) B.pre
  have hts : ∀ w ∈ P_Ts, w.before ([.ref a] : List Value).toArray s = true := fun w hw => hts0 w (List.mem_cons_of_mem _ hw)
  have hown : s.vm.findClass "java/lang/String" = some m.cls := findClass_of_methodNamed B.named
  have hlocks := B.notSynchronized
  have hS : va_S (fun q => s.heap.size ≤ q) s.heap s.heap [] := va_S.rf
  have hl := lv_entry ([.ref a]) (n := 1) (Nat.le_of_ble_eq_true rfl)
  rw [lg_entry_eq]
  generalize (lg_sl ([.ref a]) ++ List.replicate (1 - (lg_sl ([.ref a])).length) Slot.unset).toArray = ls at hl ⊢
  have hl : lv_has ls 1 [(0, .ref a)] := hl
  refine va_gets hx hb hcs hS hown (hts _ jf_cs) (fun _ h => h) jd_cod_0 ?_
  refine lv_if_eq (tgt := 13) hx hb jd_cod_3 (by decide) (fun z => absurd z (by decide)) (fun _ => ?_)
  refine lv_aload_n hx hb jd_cod_6 rfl (lv_at hl 0 rfl) ?_
  refine vk_getf hx hb hco hS hown (hts _ jf_co) (fun _ h => h) jd_cod_7 ?_
  refine lv_goto (tgt := 14) hx hb jd_cod_10 (by decide) ?_
  exact W.zret hx hb hr (by decide) (fun t ht _ => ⟨rfl, ht⟩) (fun _ h => by cases h) jd_cod_14
theorem jm_isl (l : Launch) (a v : Nat) : Met l jy_isl (Cond.code jy_isl jb_isl 1 (some .boolean) :: P_Ts) (jx_R 1) (jx_P a v [.ref a]) (jx_Q 1) 0 0 jx_no := by
  refine Met.ofW (cc := jb_isl) (maxL := 1) (ret := some .boolean) (by decide) rfl ?_
  intro p e s m args below meth c s₁ B hml hv
  obtain ⟨rfl, hS0⟩ := hv
  obtain ⟨hO, hco, hva, hT, hcs⟩ := id hS0
  have hx := B.exec
  have hb := B.bytes
  have hr := B.returns
  have hts0 := atoms_spec (ws := Cond.code jy_isl jb_isl 1 (some .boolean) :: P_Ts) B.pre
  have hts : ∀ w ∈ P_Ts, w.before ([.ref a] : List Value).toArray s = true := fun w hw => hts0 w (List.mem_cons_of_mem _ hw)
  have hown : s.vm.findClass "java/lang/String" = some m.cls := findClass_of_methodNamed B.named
  have hlocks := B.notSynchronized
  have hS : va_S (fun q => s.heap.size ≤ q) s.heap s.heap [] := va_S.rf
  have hl := lv_entry ([.ref a]) (n := 1) (Nat.le_of_ble_eq_true rfl)
  rw [lg_entry_eq]
  generalize (lg_sl ([.ref a]) ++ List.replicate (1 - (lg_sl ([.ref a])).length) Slot.unset).toArray = ls at hl ⊢
  have hl : lv_has ls 1 [(0, .ref a)] := hl
  refine va_gets hx hb hcs hS hown (hts _ jf_cs) (fun _ h => h) jd_isl_0 ?_
  refine lv_if_eq (tgt := 17) hx hb jd_isl_3 (by decide) (fun z => absurd z (by decide)) (fun _ => ?_)
  refine lv_aload_n hx hb jd_isl_6 rfl (lv_at hl 0 rfl) ?_
  refine vk_getf hx hb hco hS hown (hts _ jf_co) (fun _ h => h) jd_isl_7 ?_
  refine lv_if_ne (tgt := 17) hx hb jd_isl_10 (by decide) (fun z => absurd rfl z) (fun _ => ?_)
  refine lv_iconst (v := 1) hx hb jd_isl_13 (by decide) ?_
  refine lv_goto (tgt := 18) hx hb jd_isl_14 (by decide) ?_
  exact W.zret hx hb hr (by decide) (fun t ht _ => ⟨rfl, ht⟩) (fun _ h => by cases h) jd_isl_18
def jx_can (x : Int32) : Int32 := if x < 0 then 0 else if 255 < x then 0 else 1
theorem jm_can (l : Launch) (a v : Nat) (x : Int32) : Met l jy_can (Cond.code jy_can jb_can 1 (some .boolean) :: P_Ts) (jx_R 1) (jx_P a v [.int x]) (jx_Q (jx_can x)) 0 0 jx_no := by
  refine Met.ofW (cc := jb_can) (maxL := 1) (ret := some .boolean) (by decide) rfl ?_
  intro p e s m args below meth c s₁ B hml hv
  obtain ⟨rfl, hS0⟩ := hv
  obtain ⟨hO, hco, hva, hT, hcs⟩ := id hS0
  have hx := B.exec
  have hb := B.bytes
  have hr := B.returns
  have hts0 := atoms_spec (ws := Cond.code jy_can jb_can 1 (some .boolean) :: P_Ts) B.pre
  have hts : ∀ w ∈ P_Ts, w.before ([.int x] : List Value).toArray s = true := fun w hw => hts0 w (List.mem_cons_of_mem _ hw)
  have hown : s.vm.findClass "java/lang/StringLatin1" = some m.cls := findClass_of_methodNamed B.named
  have hlocks := B.notSynchronized
  have hS : va_S (fun q => s.heap.size ≤ q) s.heap s.heap [] := va_S.rf
  have hl := lv_entry ([.int x]) (n := 1) (Nat.le_of_ble_eq_true rfl)
  rw [lg_entry_eq]
  generalize (lg_sl ([.int x]) ++ List.replicate (1 - (lg_sl ([.int x])).length) Slot.unset).toArray = ls at hl ⊢
  have hl : lv_has ls 1 [(0, .int x)] := hl
  unfold jx_can
  refine lv_iload_n hx hb jd_can_0 rfl (lv_at hl 0 rfl) ?_
  refine lv_if_lt (tgt := 15) hx hb jd_can_1 (by decide) (fun z => ?_) (fun z => ?_)
  · rw [if_pos z]
    refine lv_iconst (v := 0) hx hb jd_can_15 (by decide) ?_
    exact W.zret hx hb hr (by decide) (fun t ht _ => ⟨rfl, ht⟩) (fun _ h => by cases h) jd_can_16
  rw [if_neg z]
  refine lv_iload_n hx hb jd_can_4 rfl (lv_at hl 0 rfl) ?_
  refine lv_sipush (v := 255) hx hb jd_can_5 (by decide) ?_
  refine lv_icmp_gt (tgt := 15) hx hb jd_can_8 (by decide) (fun z => ?_) (fun z => ?_)
  · rw [if_pos z]
    refine lv_iconst (v := 0) hx hb jd_can_15 (by decide) ?_
    exact W.zret hx hb hr (by decide) (fun t ht _ => ⟨rfl, ht⟩) (fun _ h => by cases h) jd_can_16
  rw [if_neg z]
  refine lv_iconst (v := 1) hx hb jd_can_11 (by decide) ?_
  refine lv_goto (tgt := 16) hx hb jd_can_12 (by decide) ?_
  exact W.zret hx hb hr (by decide) (fun t ht _ => ⟨rfl, ht⟩) (fun _ h => by cases h) jd_can_16
theorem jm_len (l : Launch) (a v : Nat) : Met l jy_len (Cond.code jy_len jb_len 1 (some .int) :: P_Ts) (jx_R 2) (jx_P a v [.ref a]) (jx_Q 10) 0 0 jx_no := by
  refine Met.ofW (cc := jb_len) (maxL := 1) (ret := some .int) (by decide) rfl ?_
  intro p e s m args below meth c s₁ B hml hv
  obtain ⟨rfl, hS0⟩ := hv
  obtain ⟨hO, hco, hva, hT, hcs⟩ := id hS0
  have hx := B.exec
  have hb := B.bytes
  have hr := B.returns
  have hts0 := atoms_spec (ws := Cond.code jy_len jb_len 1 (some .int) :: P_Ts) B.pre
  have hts : ∀ w ∈ P_Ts, w.before ([.ref a] : List Value).toArray s = true := fun w hw => hts0 w (List.mem_cons_of_mem _ hw)
  have hown : s.vm.findClass "java/lang/String" = some m.cls := findClass_of_methodNamed B.named
  have hlocks := B.notSynchronized
  have hS : va_S (fun q => s.heap.size ≤ q) s.heap s.heap [] := va_S.rf
  have hl := lv_entry ([.ref a]) (n := 1) (Nat.le_of_ble_eq_true rfl)
  rw [lg_entry_eq]
  generalize (lg_sl ([.ref a]) ++ List.replicate (1 - (lg_sl ([.ref a])).length) Slot.unset).toArray = ls at hl ⊢
  have hl : lv_has ls 1 [(0, .ref a)] := hl
  refine lv_aload_n hx hb jd_len_0 rfl (lv_at hl 0 rfl) ?_
  refine vk_getf hx hb hva hS hown (hts _ jf_va) (fun _ h => h) jd_len_1 ?_
  refine va_tlen (v := 10) hx hb hT hS (by decide) jd_len_4 ?_
  refine lv_aload_n hx hb jd_len_5 rfl (lv_at hl 0 rfl) ?_
  refine jx_call (va_runV (b := a) (C := "java/lang/String") (As := []) (rest := [.int 10]) ⟨hx, hb, hml, hown, hts⟩ (jm_cod l a v) ⟨callB_of 0 hts (jx_good jc_cod) rfl rfl rfl (hts _ jw_iS) (hts _ jl_cod) (by decide +kernel) ⟨Nat.le_of_ble_eq_true rfl, Nat.le_of_ble_eq_true rfl⟩, hts _ ji_cod, hts _ js_cod⟩ ⟨jx_blind, va_Orecv hO hS, fun U hU hW => ⟨rfl, hS0.call (U := U) (fun q h => by rw [hU] at h; exact h) (fun q _ _ => by rw [hU]) hW.alike⟩⟩ rfl rfl hl.1 rfl (lv_room (Nat.le_of_ble_eq_true rfl)) jd_len_6 ⟨Nat.le_refl _, Nat.le_refl _⟩) ?_
  refine lv_ishr hx hb jd_len_9 ?_
  refine lv_topi (fun z ez => ?_)
  have ez : z = 10 := ez.trans (by decide)
  subst ez
  exact W.iret hx hb hr (fun t ht _ => ⟨rfl, ht⟩) (fun _ h => by cases h) jd_len_10
def jx_fi (x : Int32) : Nat → Nat → Int32
  | _, 0 => -1
  | k, n + 1 => if P_byt k = x then Int32.ofNat k else jx_fi x (k + 1) n
theorem jx_in : ∀ k : Nat, k < 10 → vp_in (Int32.ofNat k) 10 ∧ (Int32.ofNat k).toNatClampNeg = k ∧ ¬ (10 : Int32) ≤ Int32.ofNat k ∧ Int32.ofNat k + Int32.ofInt 1 = Int32.ofNat (k + 1) := by
  intro k hk
  rcases (show k = 0 ∨ k = 1 ∨ k = 2 ∨ k = 3 ∨ k = 4 ∨ k = 5 ∨ k = 6 ∨ k = 7 ∨ k = 8 ∨ k = 9 by omega) with rfl | rfl | rfl | rfl | rfl | rfl | rfl | rfl | rfl | rfl <;> exact ⟨by unfold vp_in; decide, by decide, by decide, by decide⟩
theorem jm_ioc (l : Launch) (a v : Nat) (x : Int32) : Met l jy_ioc (Cond.code jy_ioc jb_ioc 6 (some .int) :: P_Ts) (jx_R 1) (jx_P a v [.ref v, .int x, .int 0, .int 10]) (jx_Q (jx_fi x.toInt8.toInt32 0 10)) 0 0 jx_no := by
  refine Met.ofW (cc := jb_ioc) (maxL := 6) (ret := some .int) (by decide) rfl ?_
  intro p e s m args below meth c s₁ B hml hv
  obtain ⟨rfl, hS0⟩ := hv
  obtain ⟨hO, hco, hva, hT, hcs⟩ := id hS0
  have hx := B.exec
  have hb := B.bytes
  have hr := B.returns
  have hts0 := atoms_spec (ws := Cond.code jy_ioc jb_ioc 6 (some .int) :: P_Ts) B.pre
  have hts : ∀ w ∈ P_Ts, w.before ([.ref v, .int x, .int 0, .int 10] : List Value).toArray s = true := fun w hw => hts0 w (List.mem_cons_of_mem _ hw)
  have hown : s.vm.findClass "java/lang/StringLatin1" = some m.cls := findClass_of_methodNamed B.named
  have hlocks := B.notSynchronized
  have hS : va_S (fun q => s.heap.size ≤ q) s.heap s.heap [] := va_S.rf
  have hl := lv_entry ([.ref v, .int x, .int 0, .int 10]) (n := 6) (Nat.le_of_ble_eq_true rfl)
  rw [lg_entry_eq]
  generalize (lg_sl ([.ref v, .int x, .int 0, .int 10]) ++ List.replicate (6 - (lg_sl ([.ref v, .int x, .int 0, .int 10])).length) Slot.unset).toArray = ls at hl ⊢
  have hl : lv_has ls 6 [(0, .ref v), (1, .int x), (2, .int 0), (3, .int 10)] := hl
  refine lv_iload_n hx hb jd_ioc_0 rfl (lv_at hl 1 rfl) ?_
  refine lv_i2b (v := x.toInt8.toInt32) hx hb jd_ioc_1 rfl ?_
  generalize x.toInt8.toInt32 = y
  refine lv_istore (lv' := [(4, .int y), (0, .ref v), (1, .int x), (2, .int 0), (3, .int 10)]) hx hb jd_ioc_2 hl (by decide) rfl (fun ls hl => ?_)
  refine lv_iload_n hx hb jd_ioc_4 rfl (lv_at hl 3 rfl) ?_
  refine lv_istore (lv' := [(5, .int 0), (4, .int y), (0, .ref v), (1, .int x), (2, .int 0), (3, .int 10)]) hx hb jd_ioc_5 hl (by decide) rfl (fun ls hl => ?_)
  have loop : ∀ (n k : Nat), k + n = 10 → ∀ ls : Array Slot, lv_has ls 6 [(5, .int (Int32.ofNat k)), (4, .int y), (0, .ref v), (1, .int x), (2, .int 0), (3, .int 10)] → W p l e (headSpec (Cond.code jy_ioc jb_ioc 6 (some .int) :: P_Ts) (jx_R 1)).room s m ([.ref v, .int x, .int 0, .int 10] : List Value).toArray below meth c s.heap [] 0 0 (MQ below (jx_Q (jx_fi y k n)) ([.ref v, .int x, .int 0, .int 10] : List Value).toArray s 0 0 jx_no) (F0 m 7 ls []) := by
    intro n
    induction n with
    | zero =>
      intro k hk ls hl
      have hk : k = 10 := hk
      subst hk
      refine lv_iload hx hb jd_ioc_7 (lv_at hl 0 rfl) ?_
      refine lv_iload_n hx hb jd_ioc_9 rfl (lv_at hl 5 rfl) ?_
      refine lv_icmp_ge (tgt := 31) hx hb jd_ioc_10 (by decide) (fun _ => ?_) (fun z => absurd (by decide) z)
      refine lv_iconst (v := -1) hx hb jd_ioc_31 (by decide) ?_
      exact W.iret hx hb hr (fun t ht _ => ⟨rfl, ht⟩) (fun _ h => by cases h) jd_ioc_32
    | succ n ih =>
      intro k hk ls hl
      obtain ⟨j1, j2, j3, j4⟩ := jx_in k (by omega)
      refine lv_iload hx hb jd_ioc_7 (lv_at hl 0 rfl) ?_
      refine lv_iload_n hx hb jd_ioc_9 rfl (lv_at hl 5 rfl) ?_
      refine lv_icmp_ge (tgt := 31) hx hb jd_ioc_10 (by decide) (fun z => absurd z j3) (fun _ => ?_)
      refine lv_aload_n hx hb jd_ioc_13 rfl (lv_at hl 2 rfl) ?_
      refine lv_iload hx hb jd_ioc_14 (lv_at hl 0 rfl) ?_
      refine va_tb (v := .int (P_byt k)) hx hb hT hS j1 (by rw [j2]) jd_ioc_16 ?_
      refine lv_iload hx hb jd_ioc_17 (lv_at hl 1 rfl) ?_
      show W p l e _ s m _ below meth c s.heap [] 0 0 (MQ below (jx_Q (if P_byt k = y then Int32.ofNat k else jx_fi y (k + 1) n)) _ s 0 0 jx_no) _
      refine lv_icmp_ne (tgt := 25) hx hb jd_ioc_19 (by decide) (fun z => ?_) (fun z => ?_)
      · rw [if_neg z]
        refine lv_iinc (k := 0) (v := Int32.ofNat (k + 1)) (lv' := [(5, .int (Int32.ofNat (k + 1))), (4, .int y), (0, .ref v), (1, .int x), (2, .int 0), (3, .int 10)]) hx hb jd_ioc_25 hl rfl j4 (by decide) rfl (fun ls hl => ?_)
        refine lv_goto (tgt := 7) hx hb jd_ioc_28 (by decide) ?_
        exact ih (k + 1) (by omega) ls hl
      · rw [if_pos z]
        refine lv_iload hx hb jd_ioc_22 (lv_at hl 0 rfl) ?_
        exact W.iret hx hb hr (fun t ht _ => ⟨rfl, ht⟩) (fun _ h => by cases h) jd_ioc_24
  exact loop 10 0 rfl ls hl
def jx_ix (x : Int32) : Int32 := if jx_can x = 0 then -1 else jx_fi x.toInt8.toInt32 0 10
theorem jm_sli (l : Launch) (a v : Nat) (x : Int32) : Met l jy_sli (Cond.code jy_sli jb_sli 4 (some .int) :: P_Ts) (jx_R 2) (jx_P a v [.ref v, .int x, .int 0, .int 10]) (jx_Q (jx_ix x)) 0 0 jx_no := by
  refine Met.ofW (cc := jb_sli) (maxL := 4) (ret := some .int) (by decide) rfl ?_
  intro p e s m args below meth c s₁ B hml hv
  obtain ⟨rfl, hS0⟩ := hv
  obtain ⟨hO, hco, hva, hT, hcs⟩ := id hS0
  have hx := B.exec
  have hb := B.bytes
  have hr := B.returns
  have hts0 := atoms_spec (ws := Cond.code jy_sli jb_sli 4 (some .int) :: P_Ts) B.pre
  have hts : ∀ w ∈ P_Ts, w.before ([.ref v, .int x, .int 0, .int 10] : List Value).toArray s = true := fun w hw => hts0 w (List.mem_cons_of_mem _ hw)
  have hown : s.vm.findClass "java/lang/StringLatin1" = some m.cls := findClass_of_methodNamed B.named
  have hlocks := B.notSynchronized
  have hS : va_S (fun q => s.heap.size ≤ q) s.heap s.heap [] := va_S.rf
  have hl := lv_entry ([.ref v, .int x, .int 0, .int 10]) (n := 4) (Nat.le_of_ble_eq_true rfl)
  rw [lg_entry_eq]
  generalize (lg_sl ([.ref v, .int x, .int 0, .int 10]) ++ List.replicate (4 - (lg_sl ([.ref v, .int x, .int 0, .int 10])).length) Slot.unset).toArray = ls at hl ⊢
  have hl : lv_has ls 4 [(0, .ref v), (1, .int x), (2, .int 0), (3, .int 10)] := hl
  unfold jx_ix
  refine lv_iload_n hx hb jd_sli_0 rfl (lv_at hl 1 rfl) ?_
  refine jx_call (va_runS (As := [.int x]) (rest := []) ⟨hx, hb, hml, hown, hts⟩ (jm_can l a v x) ⟨callB_of 1 hts (jx_good jc_can) rfl rfl rfl (hts _ jw_iL) (hts _ jl_can) (by decide +kernel) ⟨Nat.le_of_ble_eq_true rfl, Nat.le_of_ble_eq_true rfl⟩, hts _ ji_can⟩ ⟨jx_blind, fun U hU hW => ⟨rfl, hS0.call (U := U) (fun q h => by rw [hU] at h; exact h) (fun q _ _ => by rw [hU]) hW.alike⟩⟩ rfl rfl hl.1 rfl (lv_room (Nat.le_of_ble_eq_true rfl)) jd_sli_1 ⟨Nat.le_refl _, Nat.le_refl _⟩) ?_
  refine lv_if_ne (tgt := 9) hx hb jd_sli_4 (by decide) (fun z => ?_) (fun z => ?_)
  rotate_left
  · rw [if_pos z]
    refine lv_iconst (v := -1) hx hb jd_sli_7 (by decide) ?_
    exact W.iret hx hb hr (fun t ht _ => ⟨rfl, ht⟩) (fun _ h => by cases h) jd_sli_8
  rw [if_neg z]
  refine lv_iload_n hx hb jd_sli_9 rfl (lv_at hl 2 rfl) ?_
  refine lv_iconst (v := 0) hx hb jd_sli_10 (by decide) ?_
  refine va_mmax hx hb (by rw [hml]; exact hl.1.symm) hown (hts _ jl_max) (hts _ P_w_st_max) (hts _ P_w_math) (hts _ P_w_co_max) (Nat.le_of_ble_eq_true rfl) (Nat.le_of_ble_eq_true rfl) (Nat.le_refl _) (Nat.le_refl _) jd_sli_11 ?_
  refine lv_istore_n (i := 2) (x := 0) (lv' := [(2, .int 0), (0, .ref v), (1, .int x), (3, .int 10)]) hx hb jd_sli_14 rfl hl (by decide) rfl (fun ls hl => ?_)
  refine lv_iload_n hx hb jd_sli_15 rfl (lv_at hl 3 rfl) ?_
  refine lv_aload_n hx hb jd_sli_16 rfl (lv_at hl 1 rfl) ?_
  refine va_tlen (v := 10) hx hb hT hS (by decide) jd_sli_17 ?_
  refine va_mmin hx hb (by rw [hml]; exact hl.1.symm) hown (hts _ jl_min) (hts _ P_w_st_min) (hts _ P_w_math) (hts _ P_w_co_min) (Nat.le_of_ble_eq_true rfl) (Nat.le_of_ble_eq_true rfl) (Nat.le_refl _) (Nat.le_refl _) jd_sli_18 ?_
  refine lv_istore_n (i := 3) (x := 10) (lv' := [(3, .int 10), (2, .int 0), (0, .ref v), (1, .int x)]) hx hb jd_sli_21 rfl hl (by decide) rfl (fun ls hl => ?_)
  refine lv_iload_n hx hb jd_sli_22 rfl (lv_at hl 1 rfl) ?_
  refine lv_iload_n hx hb jd_sli_23 rfl (lv_at hl 0 rfl) ?_
  refine lv_icmp_lt (tgt := 29) hx hb jd_sli_24 (by decide) (fun _ => ?_) (fun z => absurd (by decide) z)
  refine lv_aload_n hx hb jd_sli_29 rfl (lv_at hl 2 rfl) ?_
  refine lv_iload_n hx hb jd_sli_30 rfl (lv_at hl 3 rfl) ?_
  refine lv_iload_n hx hb jd_sli_31 rfl (lv_at hl 1 rfl) ?_
  refine lv_iload_n hx hb jd_sli_32 rfl (lv_at hl 0 rfl) ?_
  refine jx_call (va_runS (As := [.ref v, .int x, .int 0, .int 10]) (rest := []) ⟨hx, hb, hml, hown, hts⟩ (jm_ioc l a v x) ⟨callB_of 4 hts (jx_good jc_ioc) rfl rfl rfl (hts _ jw_iL) (hts _ jl_ioc) (by decide +kernel) ⟨Nat.le_of_ble_eq_true rfl, Nat.le_of_ble_eq_true rfl⟩, hts _ ji_ioc⟩ ⟨jx_blind, fun U hU hW => ⟨rfl, hS0.call (U := U) (fun q h => by rw [hU] at h; exact h) (fun q _ _ => by rw [hU]) hW.alike⟩⟩ rfl rfl hl.1 rfl (lv_room (Nat.le_of_ble_eq_true rfl)) jd_sli_33 ⟨Nat.le_refl _, Nat.le_refl _⟩) ?_
  exact W.iret hx hb hr (fun t ht _ => ⟨rfl, ht⟩) (fun _ h => by cases h) jd_sli_36
theorem jm_ix2 (l : Launch) (a v : Nat) (x : Int32) : Met l jy_ix2 (Cond.code jy_ix2 jb_ix2 3 (some .int) :: P_Ts) (jx_R 3) (jx_P a v [.ref a, .int x, .int 0]) (jx_Q (jx_ix x)) 0 0 jx_no := by
  refine Met.ofW (cc := jb_ix2) (maxL := 3) (ret := some .int) (by decide) rfl ?_
  intro p e s m args below meth c s₁ B hml hv
  obtain ⟨rfl, hS0⟩ := hv
  obtain ⟨hO, hco, hva, hT, hcs⟩ := id hS0
  have hx := B.exec
  have hb := B.bytes
  have hr := B.returns
  have hts0 := atoms_spec (ws := Cond.code jy_ix2 jb_ix2 3 (some .int) :: P_Ts) B.pre
  have hts : ∀ w ∈ P_Ts, w.before ([.ref a, .int x, .int 0] : List Value).toArray s = true := fun w hw => hts0 w (List.mem_cons_of_mem _ hw)
  have hown : s.vm.findClass "java/lang/String" = some m.cls := findClass_of_methodNamed B.named
  have hlocks := B.notSynchronized
  have hS : va_S (fun q => s.heap.size ≤ q) s.heap s.heap [] := va_S.rf
  have hl := lv_entry ([.ref a, .int x, .int 0]) (n := 3) (Nat.le_of_ble_eq_true rfl)
  rw [lg_entry_eq]
  generalize (lg_sl ([.ref a, .int x, .int 0]) ++ List.replicate (3 - (lg_sl ([.ref a, .int x, .int 0])).length) Slot.unset).toArray = ls at hl ⊢
  have hl : lv_has ls 3 [(0, .ref a), (1, .int x), (2, .int 0)] := hl
  refine lv_aload_n hx hb jd_ix2_0 rfl (lv_at hl 0 rfl) ?_
  refine jx_call (va_runV (b := a) (C := "java/lang/String") (As := []) (rest := []) ⟨hx, hb, hml, hown, hts⟩ (jm_isl l a v) ⟨callB_of 0 hts (jx_good jc_isl) rfl rfl rfl (hts _ jw_iS) (hts _ jl_isl) (by decide +kernel) ⟨Nat.le_of_ble_eq_true rfl, Nat.le_of_ble_eq_true rfl⟩, hts _ ji_isl, hts _ js_isl⟩ ⟨jx_blind, va_Orecv hO hS, fun U hU hW => ⟨rfl, hS0.call (U := U) (fun q h => by rw [hU] at h; exact h) (fun q _ _ => by rw [hU]) hW.alike⟩⟩ rfl rfl hl.1 rfl (lv_room (Nat.le_of_ble_eq_true rfl)) jd_ix2_1 ⟨Nat.le_refl _, Nat.le_refl _⟩) ?_
  refine lv_if_eq (tgt := 23) hx hb jd_ix2_4 (by decide) (fun z => absurd z (by decide)) (fun _ => ?_)
  refine lv_aload_n hx hb jd_ix2_7 rfl (lv_at hl 0 rfl) ?_
  refine vk_getf hx hb hva hS hown (hts _ jf_va) (fun _ h => h) jd_ix2_8 ?_
  refine lv_iload_n hx hb jd_ix2_11 rfl (lv_at hl 1 rfl) ?_
  refine lv_iload_n hx hb jd_ix2_12 rfl (lv_at hl 2 rfl) ?_
  refine lv_aload_n hx hb jd_ix2_13 rfl (lv_at hl 0 rfl) ?_
  refine jx_call (va_runV (b := a) (C := "java/lang/String") (As := []) (rest := [.int 0, .int x, .ref v]) ⟨hx, hb, hml, hown, hts⟩ (jm_len l a v) ⟨callB_of 0 hts (jx_good jc_len) rfl rfl rfl (hts _ jw_iS) (hts _ jl_len) (by decide +kernel) ⟨Nat.le_of_ble_eq_true rfl, Nat.le_of_ble_eq_true rfl⟩, hts _ ji_len, hts _ js_len⟩ ⟨jx_blind, va_Orecv hO hS, fun U hU hW => ⟨rfl, hS0.call (U := U) (fun q h => by rw [hU] at h; exact h) (fun q _ _ => by rw [hU]) hW.alike⟩⟩ rfl rfl hl.1 rfl (lv_room (Nat.le_of_ble_eq_true rfl)) jd_ix2_14 ⟨Nat.le_refl _, Nat.le_refl _⟩) ?_
  refine jx_call (va_runS (As := [.ref v, .int x, .int 0, .int 10]) (rest := []) ⟨hx, hb, hml, hown, hts⟩ (jm_sli l a v x) ⟨callB_of 4 hts (jx_good jc_sli) rfl rfl rfl (hts _ jw_iL) (hts _ jl_sli) (by decide +kernel) ⟨Nat.le_of_ble_eq_true rfl, Nat.le_of_ble_eq_true rfl⟩, hts _ ji_sli⟩ ⟨jx_blind, fun U hU hW => ⟨rfl, hS0.call (U := U) (fun q h => by rw [hU] at h; exact h) (fun q _ _ => by rw [hU]) hW.alike⟩⟩ rfl rfl hl.1 rfl (lv_room (Nat.le_of_ble_eq_true rfl)) jd_ix2_17 ⟨Nat.le_refl _, Nat.le_refl _⟩) ?_
  refine lv_goto (tgt := 36) hx hb jd_ix2_20 (by decide) ?_
  exact W.iret hx hb hr (fun t ht _ => ⟨rfl, ht⟩) (fun _ h => by cases h) jd_ix2_36
theorem jm_ix1 (l : Launch) (a v : Nat) (x : Int32) : Met l jy_ix1 (Cond.code jy_ix1 jb_ix1 2 (some .int) :: P_Ts) (jx_R 4) (jx_P a v [.ref a, .int x]) (jx_Q (jx_ix x)) 0 0 jx_no := by
  refine Met.ofW (cc := jb_ix1) (maxL := 2) (ret := some .int) (by decide) rfl ?_
  intro p e s m args below meth c s₁ B hml hv
  obtain ⟨rfl, hS0⟩ := hv
  obtain ⟨hO, hco, hva, hT, hcs⟩ := id hS0
  have hx := B.exec
  have hb := B.bytes
  have hr := B.returns
  have hts0 := atoms_spec (ws := Cond.code jy_ix1 jb_ix1 2 (some .int) :: P_Ts) B.pre
  have hts : ∀ w ∈ P_Ts, w.before ([.ref a, .int x] : List Value).toArray s = true := fun w hw => hts0 w (List.mem_cons_of_mem _ hw)
  have hown : s.vm.findClass "java/lang/String" = some m.cls := findClass_of_methodNamed B.named
  have hlocks := B.notSynchronized
  have hS : va_S (fun q => s.heap.size ≤ q) s.heap s.heap [] := va_S.rf
  have hl := lv_entry ([.ref a, .int x]) (n := 2) (Nat.le_of_ble_eq_true rfl)
  rw [lg_entry_eq]
  generalize (lg_sl ([.ref a, .int x]) ++ List.replicate (2 - (lg_sl ([.ref a, .int x])).length) Slot.unset).toArray = ls at hl ⊢
  have hl : lv_has ls 2 [(0, .ref a), (1, .int x)] := hl
  refine lv_aload_n hx hb jd_ix1_0 rfl (lv_at hl 0 rfl) ?_
  refine lv_iload_n hx hb jd_ix1_1 rfl (lv_at hl 1 rfl) ?_
  refine lv_iconst (v := 0) hx hb jd_ix1_2 (by decide) ?_
  refine jx_call (va_runV (b := a) (C := "java/lang/String") (As := [.int x, .int 0]) (rest := []) ⟨hx, hb, hml, hown, hts⟩ (jm_ix2 l a v x) ⟨callB_of 2 hts (jx_good jc_ix2) rfl rfl rfl (hts _ jw_iS) (hts _ jl_ix2) (by decide +kernel) ⟨Nat.le_of_ble_eq_true rfl, Nat.le_of_ble_eq_true rfl⟩, hts _ ji_ix2, hts _ js_ix2⟩ ⟨jx_blind, va_Orecv hO hS, fun U hU hW => ⟨rfl, hS0.call (U := U) (fun q h => by rw [hU] at h; exact h) (fun q _ _ => by rw [hU]) hW.alike⟩⟩ rfl rfl hl.1 rfl (lv_room (Nat.le_of_ble_eq_true rfl)) jd_ix1_3 ⟨Nat.le_refl _, Nat.le_refl _⟩) ?_
  exact W.iret hx hb hr (fun t ht _ => ⟨rfl, ht⟩) (fun _ h => by cases h) jd_ix1_6
theorem jx_ix256 : ∀ n : Nat, n < 256 → jx_fi (Int32.ofNat n).toInt8.toInt32 0 10 = P_ix (Int32.ofNat n) := by decide +kernel
theorem jx_ix_ok (x : Int32) : jx_ix x = P_ix x := by
  unfold jx_ix jx_can
  have hb1 := x.le_toInt
  have hb2 := x.toInt_lt
  have far : ∀ k : Int32, x < 0 ∨ 255 < x → 0 ≤ k → k ≤ 255 → ¬ x = k := by
    intro k h h0 h1 e
    subst e
    rcases h with h | h
    · exact absurd h (Int32.not_lt.mpr h0)
    · exact absurd h (Int32.not_lt.mpr h1)
  have out : x < 0 ∨ 255 < x → P_ix x = -1 := by
    intro h
    unfold P_ix
    rw [if_neg (far 43 h (by decide) (by decide)), if_neg (far 45 h (by decide) (by decide)), if_neg (far 42 h (by decide) (by decide)), if_neg (far 47 h (by decide) (by decide)), if_neg (far 37 h (by decide) (by decide)), if_neg (far 38 h (by decide) (by decide)), if_neg (far 124 h (by decide) (by decide)), if_neg (far 94 h (by decide) (by decide)), if_neg (far 60 h (by decide) (by decide)), if_neg (far 61 h (by decide) (by decide))]
  rcases Classical.em (x < 0) with h | h
  · rw [if_pos h, if_pos rfl, out (Or.inl h)]
  rw [if_neg h]
  rcases Classical.em (255 < x) with h2 | h2
  · rw [if_pos h2, if_pos rfl, out (Or.inr h2)]
  rw [if_neg h2, if_neg (by decide)]
  have e0 : (0 : Int32).toInt = 0 := rfl
  have e1 : (255 : Int32).toInt = 255 := rfl
  rw [Int32.lt_iff_toInt_lt] at h h2
  have ex : x = Int32.ofNat x.toInt.toNat := by
    rw [← Int32.toInt_inj, Int32.toInt_ofNat_of_lt (by omega)]
    omega
  rw [ex]
  exact jx_ix256 _ (by omega)
