/-! a run of the simple machine is a run of the machine -/
theorem sm_val_alu {Ts : List Cond} {CL : List vw_C} {F : sm_F} {eT : String} {X : sm_X} {Y : sm_Y} {own : String} {isI : Prop} {cc : ByteArray} {nL pc : Nat} {i : sm_I} {st st' : List Value} (q : sm_alu i.1 st = some st') (hv : sm_val Ts CL F eT X Y own isI cc nL pc i) : decode cc pc = .ok (i.1, 1) := by
  unfold sm_alu at q
  split at q
  all_goals first
    | (cases q; done)
    | (rename_i he; simp only [sm_val, he] at hv; rw [he]; exact hv)
theorem sm_free {A : Nat → Prop} {ws : va_W} {H0 H : Heap} {locs : List Loc} (hD : va_D A ws) (hS : va_S A H0 H locs) (hA : ∀ q, H0.size ≤ q → A q) : ∀ q, va_A ws H.size q → A q := by
  intro q h
  rcases h with ⟨k, e, h⟩ | h
  · exact hD.2 k _ h
  · exact hA q (Nat.le_trans hS.1 h)
def sm_ri : Option Value → Instr
  | none => .return_
  | some (.int _) => .ireturn
  | some (.long _) => .lreturn
  | _ => .areturn
section SMmain
variable {p : Program} {l : Launch} {e : Env} {R : Room} {s : State} {m : MethodId} {args : Array Value} {below : List Frame} {meth : Method} {c : Code} {Q : State → Prop}
variable {G : sm_G} {F : sm_F} {kA : Nat → ClassId} {D : va_G} {CL : List vw_C} {eT : String} {X : sm_X} {Ts : List Cond} {Y : sm_Y} {own : String} {isI : Prop} {cc : ByteArray} {nL d rt n0 s0 b0 b1 N0 : Nat} {T : Nat → Option sm_I} {call : Nat → List Value → sm_H → Option Value × sm_H → Prop} {A : Nat → Prop} {ad0 : Nat → Nat} {res : Option Value × sm_H}
/-- the state of a walk: the heap's world, the locals, the counts -/
def sm_Now (G : sm_G) (F : sm_F) (kA : Nat → ClassId) (D : va_G) (CL : List vw_C) (X : sm_X) (A : Nat → Prop) (s : State) (nL n0 s0 b0 b1 N0 : Nat) (ad0 : Nat → Nat) (lc : sm_L) (st : List Value) (h : sm_H) (ad : Nat → Nat) (H : Heap) (locs : List Loc) (cells slots : Nat) (ls : Array Slot) : Prop :=
  sm_inv G h lc st ∧ va_P D CL (sm_ws G F kA h ad) H ∧ va_D A (sm_ws G F kA h ad) ∧ va_S A s.heap H locs ∧ sm_Lr ls nL lc ad ∧ (∀ a, a < N0 ∨ 1000000 ≤ a → ad a = ad0 a) ∧ N0 ≤ G.1 + h.n ∧ sm_stat G X A ad s ∧ cells + n0 = h.n + b0 ∧ slots + s0 = h.sl + b1
theorem sm_main (hx : p.tables.exec = Jvm.exec) (hb : c.code = cc) (hml : c.maxLocals = nL) (hown : s.vm.findClass own = some m.cls) (hts : ∀ w ∈ Ts, w.before args s = true) (hgood : ∀ w ∈ Ts, (w.onTables && w.keeps) = true ∨ ∃ ty, w = .arrayClass ty) (hCF : sm_CF CL F Ts) (hK : va_K D CL (sm_ty kA eT) s) (hA : ∀ q, s.heap.size ≤ q → A q) (hX : sm_Xok X) (hisI : isI → meth.name = "<init>")
    (hT : ∀ pc i, T pc = some i → sm_okc i ∧ sm_val Ts CL F eT X Y own isI cc nL pc i) (hfr : ∀ (h : sm_H) a k, sm_cl G h a = 103 → G.2.2.2.1 a k = none) (hcok : sm_okcall G call) (hcM : sm_Met l G F kA D CL eT X Ts Y d call) (hRf : d + 7 ≤ R.frames) (hRl : 80 * (d + 7) ≤ R.locals) (hRc : res.2.n + b0 ≤ R.cells + n0) (hRs : res.2.sl + b1 ≤ R.slots + s0) (hR6 : R.slots ≤ 60000000) (hnw : nativeFrameWords "java/lang/System" "arraycopy" 5 ≤ 40) (hbig : G.1 + res.2.n ≤ 1000000)
    (hix : ∀ (pc : Nat) (i : sm_I) (idx : Nat) (H : Heap) (locs : List Loc) (cells slots : Nat) (ls : Array Slot) (ad : Nat → Nat) (x : Int32) (rest : List Value), T pc = some i → i.1 = .invokevirtual idx → i.2.2.2.1 = 200 → sm_stat G X A ad s → va_S A s.heap H locs → ls.size = nL → (cells ≤ R.cells ∧ slots ≤ R.slots) → (rest.map fun v => v.category).sum ≤ 8 → W p l e R s m args below meth c H locs cells slots Q (F0 m (pc + 3) ls (.int (G.2.2.2.2.2.2 x) :: rest)) → W p l e R s m args below meth c H locs cells slots Q (F0 m pc ls (.int x :: .ref (ad 3000000) :: rest)))
    (hQ : ∀ (pc : Nat) (H : Heap) (locs : List Loc) (cells slots : Nat) (ls : Array Slot) (ad : Nat → Nat), (∃ i, T pc = some i ∧ i.1 = sm_ri res.1) → (∀ v, res.1 = some v → (∃ x, v = .int x) ∨ (∃ x, v = .long x) ∨ ∃ a, v = .ref a) → decode cc pc = .ok (sm_ri res.1, 1) → (∀ x, res.1 = some (.int x) → rt = 3 → x = 0 ∨ x = 1) → (∀ a, a < N0 ∨ 1000000 ≤ a → ad a = ad0 a) → va_P D CL (sm_ws G F kA res.2 ad) H → va_D A (sm_ws G F kA res.2 ad) → va_S A s.heap H locs → cells + n0 = res.2.n + b0 → slots + s0 = res.2.sl + b1 → W p l e R s m args below meth c H locs cells slots Q (F0 m pc ls ((res.1.map (sm_r ad)).toList))) :
    ∀ (n pc : Nat) (lc : sm_L) (st : List Value) (h : sm_H), sm_go G call T rt n pc lc st h res → ∀ (ad : Nat → Nat) (H : Heap) (locs : List Loc) (cells slots : Nat) (ls : Array Slot), sm_Now G F kA D CL X A s nL n0 s0 b0 b1 N0 ad0 lc st h ad H locs cells slots ls → W p l e R s m args below meth c H locs cells slots Q (F0 m pc ls (st.map (sm_r ad))) := by
  intro n
  induction n with
  | zero => intro pc lc st h g; exact g.elim
  | succ n ih =>
    intro pc lc st h g ad H locs cells slots ls N
    obtain ⟨I, hP, hD, hS, hL, hext, hN0, hst, hc1, hc2⟩ := id N
    obtain ⟨ho, hl, hs⟩ := id I
    unfold sm_go at g
    split at g
    · exact g.elim
    · rename_i i hi
      obtain ⟨hok, hv⟩ := hT pc i hi
      split at g
      · rename_i pc' lc' st' h' q
        have z := sm_one_ok hfr hok I q
        have zr := sm_go_ok hfr hcok (fun pc i q => (hT pc i q).1) n _ _ _ _ _ z.1 g
        -- the same cells, another stack or other locals
        have same : ∀ (lc2 : sm_L) (st2 : List Value) (ls2 : Array Slot), lc2 = lc' → st2 = st' → h' = h → sm_Lr ls2 nL lc2 ad → sm_Now G F kA D CL X A s nL n0 s0 b0 b1 N0 ad0 lc' st' h' ad H locs cells slots ls2 := by
          intro lc2 st2 ls2 e1 e2 e3 hL2
          subst e1; subst e3
          exact ⟨z.1, hP, hD, hS, hL2, hext, hN0, hst, hc1, hc2⟩
        -- other contents of the same cells
        have other : ∀ (H1 : Heap) (locs1 : List Loc), lc' = lc → h'.n = h.n → h'.sl = h.sl → va_P D CL (sm_ws G F kA h' ad) H1 → va_D A (sm_ws G F kA h' ad) → va_S A s.heap H1 locs1 → sm_Now G F kA D CL X A s nL n0 s0 b0 b1 N0 ad0 lc' st' h' ad H1 locs1 cells slots ls := by
          intro H1 locs1 e1 e2 e3 a1 a2 a3
          subst e1
          exact ⟨z.1, a1, a2, a3, hL, hext, by rw [e2]; exact hN0, hst, by rw [e2]; exact hc1, by rw [e3]; exact hc2⟩
        unfold sm_one at q
        split at q
        · rename_i k he
          simp only [sm_val, he] at hv
          cases q
          refine lv_iconst hx hb hv.1 rfl ?_
          have w := ih _ _ _ _ g ad H locs cells slots ls (same _ _ ls rfl rfl rfl hL)
          rw [hv.2] at w
          exact w
        · rename_i k he
          simp only [sm_val, he] at hv
          cases q
          refine lv_lconst hx hb hv.1 rfl ?_
          have w := ih _ _ _ _ g ad H locs cells slots ls (same _ _ ls rfl rfl rfl hL)
          rw [hv.2] at w
          exact w
        · rename_i k he
          simp only [sm_val, he] at hv
          cases q
          refine lv_bipush hx hb hv.1 rfl ?_
          have w := ih _ _ _ _ g ad H locs cells slots ls (same _ _ ls rfl rfl rfl hL)
          rw [hv.2] at w
          exact w
        · rename_i k he
          simp only [sm_val, he] at hv
          cases q
          refine lv_sipush hx hb hv.1 rfl ?_
          have w := ih _ _ _ _ g ad H locs cells slots ls (same _ _ ls rfl rfl rfl hL)
          rw [hv.2] at w
          exact w
        · rename_i k he
          simp only [sm_val, he] at hv
          cases q
          rcases hv.2 with ⟨x, ev, hw⟩ | ⟨ev, tx, hw⟩
          · refine lv_ldc hx hb hown (hts _ hw) hv.1 ?_
            have w := ih _ _ _ _ g ad H locs cells slots ls (same _ _ ls rfl rfl rfl hL)
            rw [ev] at w
            exact w
          · refine va_ldcS hx hb hown (hw _ _ _ hst.2.2.2) hv.1 ?_
            have w := ih _ _ _ _ g ad H locs cells slots ls (same _ _ ls rfl rfl rfl hL)
            rw [ev] at w
            exact w
        · rename_i k he
          simp only [sm_val, he] at hv
          cases q
          obtain ⟨hd, x, ev, hw⟩ := hv
          refine lv_ldc2 hx hb hown (hts _ hw) hd ?_
          have w := ih _ _ _ _ g ad H locs cells slots ls (same _ _ ls rfl rfl rfl hL)
          rw [ev] at w
          exact w
        · rename_i k he
          simp only [sm_val, he] at hv
          cases q
          obtain ⟨hd, q, hq, ev, hw⟩ := hv
          refine va_gets hx hb (hst.2.2.1 q hq).1 hS hown (hts _ hw) (fun _ h9 => h9) hd ?_
          have w := ih _ _ _ _ g ad H locs cells slots ls (same _ _ ls rfl rfl rfl hL)
          rw [ev] at w
          exact w
        · rename_i k he
          simp only [sm_val, he] at hv
          split at q
          · rename_i x hxl
            cases q
            exact lv_iload_n hx hb hv.1 hv.2 (hL.2.2 _ _ hxl) (ih _ _ _ _ g ad H locs cells slots ls (same _ _ ls rfl rfl rfl hL))
          · cases q
        · rename_i k he
          simp only [sm_val, he] at hv
          split at q
          · rename_i x hxl
            cases q
            exact lv_iload hx hb (by rw [← hv.2]; exact hv.1) (hL.2.2 _ _ hxl) (ih _ _ _ _ g ad H locs cells slots ls (same _ _ ls rfl rfl rfl hL))
          · cases q
        · rename_i k he
          simp only [sm_val, he] at hv
          split at q
          · rename_i x hxl
            cases q
            exact lv_lload_n hx hb hv.1 hv.2 (hL.2.2 _ _ hxl) (ih _ _ _ _ g ad H locs cells slots ls (same _ _ ls rfl rfl rfl hL))
          · cases q
        · rename_i k he
          simp only [sm_val, he] at hv
          split at q
          · rename_i x hxl
            cases q
            exact lv_lload hx hb (by rw [← hv.2]; exact hv.1) (hL.2.2 _ _ hxl) (ih _ _ _ _ g ad H locs cells slots ls (same _ _ ls rfl rfl rfl hL))
          · cases q
        · rename_i k he
          simp only [sm_val, he] at hv
          split at q
          · rename_i x hxl
            cases q
            exact lv_aload_n hx hb hv.1 hv.2 (hL.2.2 _ _ hxl) (ih _ _ _ _ g ad H locs cells slots ls (same _ _ ls rfl rfl rfl hL))
          · cases q
        · rename_i k he
          simp only [sm_val, he] at hv
          split at q
          · rename_i x hxl
            cases q
            exact lv_aload hx hb (by rw [← hv.2]; exact hv.1) (hL.2.2 _ _ hxl) (ih _ _ _ _ g ad H locs cells slots ls (same _ _ ls rfl rfl rfl hL))
          · cases q
        · rename_i k he
          simp only [sm_val, he] at hv
          split at q
          · cases q
            exact lv_istore_n hx hb hv.1 hv.2.1 hL.has hv.2.2 rfl (fun ls2 hl2 => ih _ _ _ _ g ad H locs cells slots ls2 (same _ _ ls2 rfl rfl rfl (sm_Lr.set1 hl2)))
          · cases q
        · rename_i k he
          simp only [sm_val, he] at hv
          split at q
          · cases q
            exact lv_istore hx hb (by rw [← hv.2.1]; exact hv.1) hL.has hv.2.2 rfl (fun ls2 hl2 => ih _ _ _ _ g ad H locs cells slots ls2 (same _ _ ls2 rfl rfl rfl (sm_Lr.set1 hl2)))
          · cases q
        · rename_i k he
          simp only [sm_val, he] at hv
          split at q
          · cases q
            exact lv_astore_n hx hb hv.1 hv.2.1 hL.has hv.2.2 rfl (fun ls2 hl2 => ih _ _ _ _ g ad H locs cells slots ls2 (same _ _ ls2 rfl rfl rfl (sm_Lr.set1 hl2)))
          · cases q
        · rename_i k he
          simp only [sm_val, he] at hv
          split at q
          · cases q
            exact lv_astore hx hb (by rw [← hv.2.1]; exact hv.1) hL.has hv.2.2 rfl (fun ls2 hl2 => ih _ _ _ _ g ad H locs cells slots ls2 (same _ _ ls2 rfl rfl rfl (sm_Lr.set1 hl2)))
          · cases q
        · rename_i k he
          simp only [sm_val, he] at hv
          split at q
          · cases q
            exact lv_lstore_n hx hb hv.1 hv.2.1 hL.has hv.2.2 rfl (fun ls2 hl2 => ih _ _ _ _ g ad H locs cells slots ls2 (same _ _ ls2 rfl rfl rfl (sm_Lr.set2 hl2)))
          · cases q
        · rename_i k he
          simp only [sm_val, he] at hv
          split at q
          · cases q
            exact lv_lstore hx hb (by rw [← hv.2.1]; exact hv.1) hL.has hv.2.2 rfl (fun ls2 hl2 => ih _ _ _ _ g ad H locs cells slots ls2 (same _ _ ls2 rfl rfl rfl (sm_Lr.set2 hl2)))
          · cases q
        · rename_i k kn he
          simp only [sm_val, he] at hv
          split at q
          · rename_i x kx hxl hkx
            cases q
            obtain ⟨hd, hk, hn, hc⟩ := hv
            have hc := hkx.symm.trans hc
            cases hc
            obtain ⟨pos, hpos⟩ := List.getElem?_of_mem (sm_prs_mem.mpr ⟨_, hxl, rfl⟩)
            exact lv_iinc hx hb (by rw [← hk]; exact hd) hL.has hpos rfl hn rfl (fun ls2 hl2 => ih _ _ _ _ g ad H locs cells slots ls2 (same _ _ ls2 rfl rfl rfl (sm_Lr.set1 hl2)))
          · cases q
        · rename_i off he
          simp only [sm_val, he] at hv
          cases q
          exact lv_goto hx hb hv.1 hv.2 (ih _ _ _ _ g ad H locs cells slots ls (same _ _ ls rfl rfl rfl hL))
        · rename_i k he
          simp only [sm_val, he] at hv
          split at q
          · split at q
            · rename_i qq
              cases q
              obtain ⟨hd, C, TT, NN, f1, f2, f3, f4⟩ := hv
              exact sm_Wget hx hb hts hCF hown hK hP ho qq f1 f2 f3 f4 hd (ih _ _ _ _ g ad H locs cells slots ls (same _ _ ls rfl rfl rfl hL))
            · cases q
          · cases q
        · rename_i k he
          simp only [sm_val, he] at hv
          split at q
          · split at q
            · rename_i qq
              cases q
              obtain ⟨hd, C, TT, NN, f1, f2, f3, f4, f5⟩ := hv
              have zz := sm_pf_ok ho (sm_oks_cons.mp hs).1 qq
              exact sm_Wput hx hb hts hCF hown hK hP hD hS qq f1 f2 f3 (fun ef => ⟨hisI (f5 ef).1, (f5 ef).2⟩) f4 hd (fun H1 locs1 a1 a2 a3 => ih _ _ _ _ g ad H1 locs1 cells slots ls (other H1 locs1 rfl zz.2.1 zz.2.2 a1 a2 a3))
            · cases q
          · cases q
        · rename_i he
          simp only [sm_val, he] at hv
          split at q
          · split at q
            · rename_i qq
              cases q
              exact sm_Wiald hx hb hK hP hS hst.1 qq hv (ih _ _ _ _ g ad H locs cells slots ls (same _ _ ls rfl rfl rfl hL))
            · cases q
          · cases q
        · rename_i he
          simp only [sm_val, he] at hv
          split at q
          · split at q
            · rename_i qq
              cases q
              exact sm_Wlald hx hb hK hP hS hst.2.1 qq hv (ih _ _ _ _ g ad H locs cells slots ls (same _ _ ls rfl rfl rfl hL))
            · cases q
          · cases q
        · rename_i he
          simp only [sm_val, he] at hv
          split at q
          · split at q
            · rename_i qq
              cases q
              exact sm_Wzald hx hb hK hP qq hv (ih _ _ _ _ g ad H locs cells slots ls (same _ _ ls rfl rfl rfl hL))
            · cases q
          · cases q
        · rename_i he
          simp only [sm_val, he] at hv
          split at q
          · split at q
            · rename_i qq
              cases q
              exact sm_Waald hx hb hK hP qq hv (ih _ _ _ _ g ad H locs cells slots ls (same _ _ ls rfl rfl rfl hL))
            · cases q
          · cases q
        · rename_i he
          simp only [sm_val, he] at hv
          split at q
          · split at q
            · rename_i qq
              cases q
              have zz := sm_stI_ok ho qq
              exact sm_Wiast hx hb hK hP hD hS qq hv (fun H1 locs1 a1 a2 a3 => ih _ _ _ _ g ad H1 locs1 cells slots ls (other H1 locs1 rfl zz.2.1 zz.2.2 a1 a2 a3))
            · cases q
          · cases q
        · rename_i he
          simp only [sm_val, he] at hv
          split at q
          · split at q
            · rename_i qq
              cases q
              have zz := sm_stJ_ok ho qq
              exact sm_Wlast hx hb hK hP hD hS qq hv (fun H1 locs1 a1 a2 a3 => ih _ _ _ _ g ad H1 locs1 cells slots ls (other H1 locs1 rfl zz.2.1 zz.2.2 a1 a2 a3))
            · cases q
          · cases q
        · rename_i he
          simp only [sm_val, he] at hv
          split at q
          · split at q
            · rename_i qq
              cases q
              have zz := sm_stZ_ok ho qq
              exact sm_Wzast hx hb hK hP hD hS qq hv (fun H1 locs1 a1 a2 a3 => ih _ _ _ _ g ad H1 locs1 cells slots ls (other H1 locs1 rfl zz.2.1 zz.2.2 a1 a2 a3))
            · cases q
          · cases q
        · rename_i he
          simp only [sm_val, he] at hv
          split at q
          · split at q
            · rename_i qq
              cases q
              obtain ⟨hd, TT, NN, f1⟩ := hv
              have zz := sm_stR_ok (hfr h) ho qq
              exact sm_Waast hx hb hK hP hD hS qq f1 (hCF _ _ _ _ f1).1 hd (fun H1 locs1 a1 a2 a3 => ih _ _ _ _ g ad H1 locs1 cells slots ls (other H1 locs1 rfl zz.2.1 zz.2.2 a1 a2 a3))
            · cases q
          · cases q
        · rename_i he
          simp only [sm_val, he] at hv
          split at q
          · split at q
            · rename_i qq
              cases q
              exact sm_Walen hx hb hK hP hS hst.1 hst.2.1 qq hv (ih _ _ _ _ g ad H locs cells slots ls (same _ _ ls rfl rfl rfl hL))
            · cases q
          · cases q
        · rename_i k he
          simp only [sm_val, he] at hv
          obtain ⟨hd, C, TT, f1, f2, f3, f4⟩ := hv
          cases q
          have hlt : G.1 + h.n < 1000000 := by have z2 : h.n + 1 ≤ res.2.n := zr.2.1; omega
          have hce : cells + 1 ≤ R.cells := by have z2 : h.n + 1 ≤ res.2.n := zr.2.1; omega
          have hsl : slots + i.2.2.1 ≤ R.slots := by have z2 : h.sl + i.2.2.1 ≤ res.2.sl := zr.2.2.1; omega
          have now : ∀ (qa : Nat) (H1 : Heap), va_P D CL (sm_ws G F kA (sm_mk G h i.2.1 i.2.2.1) (va_up ad (G.1 + h.n) qa)) H1 → va_D A (sm_ws G F kA (sm_mk G h i.2.1 i.2.2.1) (va_up ad (G.1 + h.n) qa)) → va_S A s.heap H1 locs → sm_Now G F kA D CL X A s nL n0 s0 b0 b1 N0 ad0 lc (.ref (G.1 + h.n) :: st) (sm_mk G h i.2.1 i.2.2.1) (va_up ad (G.1 + h.n) qa) H1 locs (cells + 1) (slots + i.2.2.1) ls := by
            intro qa H1 a1 a2 a3
            refine ⟨z.1, a1, a2, a3, hL.ext hl (sm_mk_ext hlt), fun a ha => ?_, Nat.le_trans hN0 (Nat.le_succ _), sm_stat_ext hst (fun a ha => sm_mk_ext hlt a (Or.inr ha)), ?_, ?_⟩
            · rw [sm_mk_ext hlt a (by omega)]; exact hext a ha
            · show cells + 1 + n0 = h.n + 1 + b0; omega
            · show slots + i.2.2.1 + s0 = h.sl + i.2.2.1 + b1; omega
          have stk : ∀ (qa : Nat) (r2 : List Value), sm_oks (G.1 + h.n) r2 → (Value.ref (G.1 + h.n) :: r2).map (sm_r (va_up ad (G.1 + h.n) qa)) = .ref qa :: r2.map (sm_r ad) := by
            intro qa r2 h2
            rw [List.map_cons, sm_rs_ext h2 (sm_mk_ext hlt)]
            show Value.ref (va_up ad (G.1 + h.n) qa (G.1 + h.n)) :: _ = _
            unfold va_up
            rw [if_pos rfl]
          exact sm_Wnew hx hb hts hCF hown hK hP hD hS hA ho hlt f1 f2 f3 f4 hce hsl hd (fun qa H1 a1 a2 a3 => by
            have w := ih _ _ _ _ g (va_up ad (G.1 + h.n) qa) H1 locs (cells + 1) (slots + i.2.2.1) ls (now qa H1 a1 a2 a3)
            rw [stk qa st hs] at w
            exact w)
        · rename_i k he
          simp only [sm_val, he] at hv
          split at q
          · rename_i nn r
            split at q
            · cases q
            rename_i hneg
            cases q
            have hsr := (sm_oks_cons.mp hs).2
            have hlt : G.1 + h.n < 1000000 := by have z2 : h.n + 1 ≤ res.2.n := zr.2.1; omega
            have hce : cells + 1 ≤ R.cells := by have z2 : h.n + 1 ≤ res.2.n := zr.2.1; omega
            have hsl : slots + nn.toNatClampNeg ≤ R.slots := by have z2 : h.sl + nn.toNatClampNeg ≤ res.2.sl := zr.2.2.1; omega
            have now : ∀ (qa : Nat) (H1 : Heap), va_P D CL (sm_ws G F kA (sm_mk G h i.2.1 nn.toNatClampNeg) (va_up ad (G.1 + h.n) qa)) H1 → va_D A (sm_ws G F kA (sm_mk G h i.2.1 nn.toNatClampNeg) (va_up ad (G.1 + h.n) qa)) → va_S A s.heap H1 locs → sm_Now G F kA D CL X A s nL n0 s0 b0 b1 N0 ad0 lc (.ref (G.1 + h.n) :: r) (sm_mk G h i.2.1 nn.toNatClampNeg) (va_up ad (G.1 + h.n) qa) H1 locs (cells + 1) (slots + nn.toNatClampNeg) ls := by
              intro qa H1 a1 a2 a3
              refine ⟨z.1, a1, a2, a3, hL.ext hl (sm_mk_ext hlt), fun a ha => ?_, Nat.le_trans hN0 (Nat.le_succ _), sm_stat_ext hst (fun a ha => sm_mk_ext hlt a (Or.inr ha)), ?_, ?_⟩
              · rw [sm_mk_ext hlt a (by omega)]; exact hext a ha
              · show cells + 1 + n0 = h.n + 1 + b0; omega
              · show slots + nn.toNatClampNeg + s0 = h.sl + nn.toNatClampNeg + b1; omega
            have stk : ∀ (qa : Nat) (r2 : List Value), sm_oks (G.1 + h.n) r2 → (Value.ref (G.1 + h.n) :: r2).map (sm_r (va_up ad (G.1 + h.n) qa)) = .ref qa :: r2.map (sm_r ad) := by
              intro qa r2 h2
              rw [List.map_cons, sm_rs_ext h2 (sm_mk_ext hlt)]
              show Value.ref (va_up ad (G.1 + h.n) qa (G.1 + h.n)) :: _ = _
              unfold va_up
              rw [if_pos rfl]
            obtain ⟨hd, hv⟩ := hv
            have fin : ∀ (qa : Nat) (H1 : Heap), va_P D CL (sm_ws G F kA (sm_mk G h i.2.1 nn.toNatClampNeg) (va_up ad (G.1 + h.n) qa)) H1 → va_D A (sm_ws G F kA (sm_mk G h i.2.1 nn.toNatClampNeg) (va_up ad (G.1 + h.n) qa)) → va_S A s.heap H1 locs → W p l e R s m args below meth c H1 locs (cells + 1) (slots + nn.toNatClampNeg) Q (F0 m (pc + 2) ls (.ref qa :: r.map (sm_r ad))) := by
              intro qa H1 a1 a2 a3
              have w := ih _ _ _ _ g (va_up ad (G.1 + h.n) qa) H1 locs (cells + 1) (slots + nn.toNatClampNeg) ls (now qa H1 a1 a2 a3)
              rw [stk qa r hsr] at w
              exact w
            rcases hv with ⟨rfl, e2, f1⟩ | ⟨rfl, e2, f1⟩ | ⟨rfl, e2, f1⟩
            · rw [e2] at fin
              exact sm_Wnewa (t0 := 0) (ka := 100) (at_ := .int) (ty := .int) (kA := kA) (eT := eT) hx hb (by decide) rfl rfl (fun U h => h) (fun U cA h => h) (fun cA N ad h => by show vp_cell cA (N, .inl (va_up h.1 (G.1 + h.n) (fun _ => 0) (G.1 + h.n))) = _; unfold va_up; rw [if_pos rfl]; rfl) (by decide) (hts _ f1) hK hP hD hS hA ho hlt hneg hce hsl (by omega) hd fin
            · rw [e2] at fin
              exact sm_Wnewa (t0 := 1) (ka := 101) (at_ := .long) (ty := .long) (kA := kA) (eT := eT) hx hb (by decide) rfl rfl (fun U h => h) (fun U cA h => h) (fun cA N ad h => by show vp_cell cA (N, .inr (.inl (va_up h.2.1 (G.1 + h.n) (fun _ => 0) (G.1 + h.n)))) = _; unfold va_up; rw [if_pos rfl]; rfl) (by decide) (hts _ f1) hK hP hD hS hA ho hlt hneg hce hsl (by omega) hd fin
            · rw [e2] at fin
              exact sm_Wnewa (t0 := 2) (ka := 102) (at_ := .boolean) (ty := .boolean) (kA := kA) (eT := eT) hx hb (by decide) rfl rfl (fun U h => h) (fun U cA h => h) (fun cA N ad h => by show vp_cell cA (N, .inl (va_up h.1 (G.1 + h.n) (fun _ => 0) (G.1 + h.n))) = _; unfold va_up; rw [if_pos rfl]; rfl) (by decide) (hts _ f1) hK hP hD hS hA ho hlt hneg hce hsl (by omega) hd fin
          · cases q
        · rename_i k he
          simp only [sm_val, he] at hv
          split at q
          · rename_i nn r
            split at q
            · cases q
            rename_i hneg
            cases q
            have hsr := (sm_oks_cons.mp hs).2
            have hlt : G.1 + h.n < 1000000 := by have z2 : h.n + 1 ≤ res.2.n := zr.2.1; omega
            have hce : cells + 1 ≤ R.cells := by have z2 : h.n + 1 ≤ res.2.n := zr.2.1; omega
            have hsl : slots + nn.toNatClampNeg ≤ R.slots := by have z2 : h.sl + nn.toNatClampNeg ≤ res.2.sl := zr.2.2.1; omega
            have now : ∀ (qa : Nat) (H1 : Heap), va_P D CL (sm_ws G F kA (sm_mk G h i.2.1 nn.toNatClampNeg) (va_up ad (G.1 + h.n) qa)) H1 → va_D A (sm_ws G F kA (sm_mk G h i.2.1 nn.toNatClampNeg) (va_up ad (G.1 + h.n) qa)) → va_S A s.heap H1 locs → sm_Now G F kA D CL X A s nL n0 s0 b0 b1 N0 ad0 lc (.ref (G.1 + h.n) :: r) (sm_mk G h i.2.1 nn.toNatClampNeg) (va_up ad (G.1 + h.n) qa) H1 locs (cells + 1) (slots + nn.toNatClampNeg) ls := by
              intro qa H1 a1 a2 a3
              refine ⟨z.1, a1, a2, a3, hL.ext hl (sm_mk_ext hlt), fun a ha => ?_, Nat.le_trans hN0 (Nat.le_succ _), sm_stat_ext hst (fun a ha => sm_mk_ext hlt a (Or.inr ha)), ?_, ?_⟩
              · rw [sm_mk_ext hlt a (by omega)]; exact hext a ha
              · show cells + 1 + n0 = h.n + 1 + b0; omega
              · show slots + nn.toNatClampNeg + s0 = h.sl + nn.toNatClampNeg + b1; omega
            have stk : ∀ (qa : Nat) (r2 : List Value), sm_oks (G.1 + h.n) r2 → (Value.ref (G.1 + h.n) :: r2).map (sm_r (va_up ad (G.1 + h.n) qa)) = .ref qa :: r2.map (sm_r ad) := by
              intro qa r2 h2
              rw [List.map_cons, sm_rs_ext h2 (sm_mk_ext hlt)]
              show Value.ref (va_up ad (G.1 + h.n) qa (G.1 + h.n)) :: _ = _
              unfold va_up
              rw [if_pos rfl]
            obtain ⟨hd, e2, f1, f2⟩ := hv
            have fin : ∀ (qa : Nat) (H1 : Heap), va_P D CL (sm_ws G F kA (sm_mk G h i.2.1 nn.toNatClampNeg) (va_up ad (G.1 + h.n) qa)) H1 → va_D A (sm_ws G F kA (sm_mk G h i.2.1 nn.toNatClampNeg) (va_up ad (G.1 + h.n) qa)) → va_S A s.heap H1 locs → W p l e R s m args below meth c H1 locs (cells + 1) (slots + nn.toNatClampNeg) Q (F0 m (pc + 3) ls (.ref qa :: r.map (sm_r ad))) := by
              intro qa H1 a1 a2 a3
              have w := ih _ _ _ _ g (va_up ad (G.1 + h.n) qa) H1 locs (cells + 1) (slots + nn.toNatClampNeg) ls (now qa H1 a1 a2 a3)
              rw [stk qa r hsr] at w
              exact w
            rw [e2] at fin
            exact sm_Wnewq hx hb hts hown f1 (f2 _ _ _ hst.2.2.2) hK hP hD hS hA ho hlt hneg hce hsl (by omega) hd fin
          · cases q
        · split at q
          · rename_i qq
            cases q
            exact sm_Walu hx hb qq (sm_val_alu qq hv) (ih _ _ _ _ g ad H locs cells slots ls (same _ _ ls rfl rfl rfl hL))
          · cases q
      · -- ends, calls, two ways
        have pop : ∀ (r2 : List Value) (pc2 : Nat), sm_oks (G.1 + h.n) r2 → sm_go G call T rt n pc2 lc r2 h res → W p l e R s m args below meth c H locs cells slots Q (F0 m pc2 ls (r2.map (sm_r ad))) := fun r2 pc2 h2 g2 => ih _ _ _ _ g2 ad H locs cells slots ls ⟨⟨ho, hl, h2⟩, hP, hD, hS, hL, hext, hN0, hst, hc1, hc2⟩
        have goodW : ∀ j, Cond.code (Y.1 j) (Y.2.1 j) (Y.2.2.1 j) (Y.2.2.2.1 j) ∈ Ts → GoodIn Ts (sm_W Ts Y j) := fun j hj w hw => by
          rcases List.mem_cons.mp hw with rfl | hw
          · exact ⟨hj, hgood _ hj⟩
          · exact ⟨hw, hgood _ hw⟩
        have cb : ∀ (j np idx : Nat) (h2 : sm_H) (v : Option Value), sm_yok Ts Y j np → Cond.methodLink own idx (Y.1 j) ∈ Ts → CallB R s args own idx (Y.1 j) (Y.2.1 j) (Y.2.2.1 j) (Y.2.2.2.1 j) (sm_W Ts Y j) (sm_RM d h (v, h2)) (h2.n - h.n) (h2.sl - h.sl) np := fun j np idx h2 v y1 y2 =>
          callB_of np hts (goodW j y1.1) rfl rfl rfl (hts _ y1.2.1) (hts _ y2) y1.2.2.1 ⟨by have e : (sm_RM d h (v, h2)).frames = d + 6 := rfl; omega, by have := y1.2.2.2; have e : (sm_RM d h (v, h2)).locals = 80 * (d + 6) := rfl; omega⟩
        have pre : ∀ (As : List Value) (U : State), U.heap = H → s.WarmedH U.vm → sm_Pre G F kA D CL eT X ad h As H.size (As.map (sm_r ad)).toArray U := fun As U hU hW =>
          ⟨rfl, by rw [hU], by rw [hU]; exact hP, va_K.moved hW.alike hK, hD.weaken (fun _ _ _ _ => trivial), sm_stat_call hX hst (sm_free hD hS hA) (fun q h1 h2 => by rw [hU]; exact hS.2.1 q h1 h2) hW.alike (Or.inr hW)⟩
        have after : ∀ (v : Option Value) (h2 : sm_H) (r2 : List Value) (pc2 : Nat), sm_okr G h (v, h2) → sm_oks (G.1 + h.n) r2 → sm_go G call T rt n pc2 lc (v.toList ++ r2) h2 res → ∀ (ad' : Nat → Nat) (H1 : Heap) (locs1 : List Loc), (∀ a, a < G.1 + h.n ∨ 1000000 ≤ a → ad' a = ad a) → va_P D CL (sm_ws G F kA h2 ad') H1 → va_D A (sm_ws G F kA h2 ad') → va_S A s.heap H1 locs1 → W p l e R s m args below meth c H1 locs1 (cells + (h2.n - h.n)) (slots + (h2.sl - h.sl)) Q (F0 m pc2 ls ((v.map (sm_r ad')).toList ++ r2.map (sm_r ad))) := by
          intro v h2 r2 pc2 zo hr2 g2 ad' H1 locs1 he a1 a2 a3
          have hN : G.1 + h.n ≤ G.1 + h2.n := Nat.add_le_add_left zo.2.1 _
          have e1 : (v.map (sm_r ad')).toList ++ r2.map (sm_r ad) = (v.toList ++ r2).map (sm_r ad') := by
            rw [List.map_append, sm_rs_ext hr2 he]
            cases v <;> rfl
          rw [e1]
          refine ih _ _ _ _ g2 ad' H1 locs1 _ _ ls ⟨⟨zo.1, sm_okl_mono hl hN, sm_oks_app.mpr ⟨sm_oks_opt zo.2.2.2, sm_oks_mono hr2 hN⟩⟩, a1, a2, a3, hL.ext hl he, fun a ha => ?_, Nat.le_trans hN0 hN, sm_stat_ext hst (fun a ha => he a (Or.inr ha)), ?_, ?_⟩
          · rw [he a (by omega)]; exact hext a ha
          · have : h.n ≤ h2.n := zo.2.1; omega
          · have : h.sl ≤ h2.sl := zo.2.2.1; omega
        have fit : ∀ (v : Option Value) (h2 : sm_H) (r2 : List Value) (pc2 : Nat), sm_okr G h (v, h2) → sm_oks (G.1 + h.n) r2 → sm_go G call T rt n pc2 lc (v.toList ++ r2) h2 res → (cells + (h2.n - h.n) ≤ R.cells ∧ slots + (h2.sl - h.sl) ≤ R.slots) ∧ G.1 + h2.n ≤ 1000000 ∧ h2.sl - h.sl ≤ 60000000 := by
          intro v h2 r2 pc2 zo hr2 g2
          have hN : G.1 + h.n ≤ G.1 + h2.n := Nat.add_le_add_left zo.2.1 _
          have zr := sm_go_ok hfr hcok (fun pc i q => (hT pc i q).1) n _ _ _ _ _ ⟨zo.1, sm_okl_mono hl hN, sm_oks_app.mpr ⟨sm_oks_opt zo.2.2.2, sm_oks_mono hr2 hN⟩⟩ g2
          have q1 : h.n ≤ h2.n := zo.2.1
          have q2 : h.sl ≤ h2.sl := zo.2.2.1
          have q3 : h2.n ≤ res.2.n := zr.2.1
          have q4 : h2.sl ≤ res.2.sl := zr.2.2.1
          omega
        have hcR : cells ≤ R.cells ∧ slots ≤ R.slots := by
          have zr := sm_end_ok hcok (fun pc' lc' st' h' I' k' => sm_go_ok hfr hcok (fun pc i q => (hT pc i q).1) n _ _ _ _ _ I' k') I g
          have q3 : h.n ≤ res.2.n := zr.2.1
          have q4 : h.sl ≤ res.2.sl := zr.2.2.1
          omega
        unfold sm_end at g
        split at g
        · rename_i cnd off he
          simp only [sm_val, he] at hv
          obtain ⟨x, r, rfl, g1, g2⟩ := g
          have hr := (sm_oks_cons.mp hs).2
          cases cnd with
          | eq => exact lv_if_eq hx hb hv.1 hv.2 (fun q => pop r _ hr (g1 q)) (fun q => pop r _ hr (g2 q))
          | ne => exact lv_if_ne hx hb hv.1 hv.2 (fun q => pop r _ hr (g1 q)) (fun q => pop r _ hr (g2 (fun z => z q)))
          | lt => exact lv_if_lt hx hb hv.1 hv.2 (fun q => pop r _ hr (g1 q)) (fun q => pop r _ hr (g2 q))
          | ge => exact lv_if_ge hx hb hv.1 hv.2 (fun q => pop r _ hr (g1 q)) (fun q => pop r _ hr (g2 q))
          | gt => exact lv_if_gt hx hb hv.1 hv.2 (fun q => pop r _ hr (g1 q)) (fun q => pop r _ hr (g2 q))
          | le => exact lv_if_le hx hb hv.1 hv.2 (fun q => pop r _ hr (g1 q)) (fun q => pop r _ hr (g2 q))
        · rename_i cnd off he
          simp only [sm_val, he] at hv
          obtain ⟨y, x, r, rfl, g1, g2⟩ := g
          have hr := (sm_oks_cons.mp (sm_oks_cons.mp hs).2).2
          cases cnd with
          | eq => exact lv_icmp_eq hx hb hv.1 hv.2 (fun q => pop r _ hr (g1 q)) (fun q => pop r _ hr (g2 q))
          | ne => exact lv_icmp_ne hx hb hv.1 hv.2 (fun q => pop r _ hr (g1 q)) (fun q => pop r _ hr (g2 (fun z => z q)))
          | lt => exact lv_icmp_lt hx hb hv.1 hv.2 (fun q => pop r _ hr (g1 q)) (fun q => pop r _ hr (g2 q))
          | ge => exact lv_icmp_ge hx hb hv.1 hv.2 (fun q => pop r _ hr (g1 q)) (fun q => pop r _ hr (g2 q))
          | gt => exact lv_icmp_gt hx hb hv.1 hv.2 (fun q => pop r _ hr (g1 q)) (fun q => pop r _ hr (g2 q))
          | le => exact lv_icmp_le hx hb hv.1 hv.2 (fun q => pop r _ hr (g1 q)) (fun q => pop r _ hr (g2 q))
        · rename_i off he
          simp only [sm_val, he] at hv
          obtain ⟨oo, r, rfl, g1, g2⟩ := g
          have hr := (sm_oks_cons.mp hs).2
          cases oo with
          | none => exact lv_ifnonnullN hx hb hv.1 (pop r _ hr (g2 rfl))
          | some b => exact lv_ifnonnull hx hb hv.1 hv.2 (pop r _ hr (g1 (fun z => by cases z)))
        · rename_i dd lo hi2 offs he
          simp only [sm_val, he] at hv
          obtain ⟨len, hd⟩ := hv
          obtain ⟨x, r, t, rfl, g1, g2⟩ := g
          have hr := (sm_oks_cons.mp hs).2
          rcases g1 with ⟨k1, k2⟩ | ⟨k1, k2, off, k3, k4⟩
          · exact lv_tableOut hx hb hd k1 k2 (pop r _ hr g2)
          · exact lv_tableIn hx hb hd k1 k2 k3 k4 (pop r _ hr g2)
        · rename_i dd ps he
          simp only [sm_val, he] at hv
          obtain ⟨len, hd⟩ := hv
          obtain ⟨x, r, t, rfl, g1, g2⟩ := g
          have hr := (sm_oks_cons.mp hs).2
          exact lv_lookup hx hb hd g1.1 rfl g1.2 (pop r _ hr g2)
        · rename_i idx he
          simp only [sm_val, he] at hv
          obtain ⟨hd, hv1, hv2, hv3, hv4⟩ := hv
          rcases g with ⟨k0, As, r, v, h2, rfl, k1, k2, k3, k4⟩ | ⟨k0, nn, dp, bb, sp, aa, r, h2, rfl, k2, k3, k4⟩ | ⟨k0, nn, dp, bb, sp, aa, r, h2, rfl, k2, k3, k4⟩ | ⟨k0, y, x, r, rfl, k2, k4⟩ | ⟨k0, y, x, r, rfl, k2, k4⟩
          · have hs2 := sm_oks_app.mp hs
            have hAs := sm_oks_rev.mp hs2.1
            have zo := hcok _ _ _ _ ho hAs k3
            have ft := fit v h2 r _ zo hs2.2 k4
            obtain ⟨y1, y2, y3⟩ := hv1 k0
            have est : (As.reverse ++ r).map (sm_r ad) = (As.map (sm_r ad)).reverse ++ r.map (sm_r ad) := by rw [List.map_append, List.map_reverse]
            rw [est]
            exact sm_Wcall (va_runS (As := As.map (sm_r ad)) (rest := r.map (sm_r ad)) ⟨hx, hb, hml, hown, hts⟩ (hcM _ _ _ _ k3 ho hAs ft.2.1 ft.2.2 ad H.size) ⟨cb _ _ idx h2 v y1 y2, hts _ y3⟩ ⟨sm_blind hX, pre As⟩ rfl (by rw [List.length_map]; exact k1) hL.1 rfl (lv_room (by rw [sm_rs_sum]; exact k2)) hd ft.1) hS (sm_free hD hS hA) (sm_free hD hS hA) (after v h2 r _ zo hs2.2 k4)
          · obtain ⟨y1, y2, y3, y4⟩ := hv2 (Or.inl k0)
            have hr := (sm_oks_cons.mp (sm_oks_cons.mp (sm_oks_cons.mp (sm_oks_cons.mp (sm_oks_cons.mp hs).2).2).2).2).2
            have zz := sm_cpI_ok ho k3
            exact sm_Wcopyi hx hb hts (hml.trans hL.1.symm) hown y1 y2 y3 y4 hK hP hD hS k3 (by omega) (by rw [sm_rs_sum]; omega) hd (fun H1 locs1 a1 a2 a3 => ih _ _ _ _ k4 ad H1 locs1 cells slots ls ⟨⟨zz.1, by rw [zz.2.1]; exact hl, by rw [zz.2.1]; exact hr⟩, a1, a2, a3, hL, hext, by rw [zz.2.1]; exact hN0, hst, by rw [zz.2.1]; exact hc1, by rw [zz.2.2]; exact hc2⟩)
          · obtain ⟨y1, y2, y3, y4⟩ := hv2 (Or.inr k0)
            have hr := (sm_oks_cons.mp (sm_oks_cons.mp (sm_oks_cons.mp (sm_oks_cons.mp (sm_oks_cons.mp hs).2).2).2).2).2
            have zz := sm_cpJ_ok ho k3
            exact sm_Wcopyl hx hb hts (hml.trans hL.1.symm) hown y1 y2 y3 y4 hK hP hD hS k3 (by omega) (by rw [sm_rs_sum]; omega) hd (fun H1 locs1 a1 a2 a3 => ih _ _ _ _ k4 ad H1 locs1 cells slots ls ⟨⟨zz.1, by rw [zz.2.1]; exact hl, by rw [zz.2.1]; exact hr⟩, a1, a2, a3, hL, hext, by rw [zz.2.1]; exact hN0, hst, by rw [zz.2.1]; exact hc1, by rw [zz.2.2]; exact hc2⟩)
          · obtain ⟨y1, y2, y3, y4⟩ := hv3 k0
            have hr := (sm_oks_cons.mp (sm_oks_cons.mp hs).2).2
            exact va_mmax hx hb (hml.trans hL.1.symm) hown (hts _ y1) (hts _ y2) (hts _ y3) (hts _ y4) (by omega) (by rw [sm_rs_sum]; omega) hcR.1 hcR.2 hd (pop (.int _ :: r) _ (sm_oks_cons.mpr ⟨(show sm_okv _ (.int _) from trivial), hr⟩) k4)
          · obtain ⟨y1, y2, y3, y4⟩ := hv4 k0
            have hr := (sm_oks_cons.mp (sm_oks_cons.mp hs).2).2
            exact va_mmin hx hb (hml.trans hL.1.symm) hown (hts _ y1) (hts _ y2) (hts _ y3) (hts _ y4) (by omega) (by rw [sm_rs_sum]; omega) hcR.1 hcR.2 hd (pop (.int _ :: r) _ (sm_oks_cons.mpr ⟨(show sm_okv _ (.int _) from trivial), hr⟩) k4)
        · rename_i idx he
          have hv0 := hv
          simp only [sm_val, he] at hv
          obtain ⟨hd, hv1⟩ := hv
          rcases g with ⟨k0, As, a, r, v, h2, rfl, k1, k2, k5, k3, k4⟩ | ⟨k0, x, r, rfl, k2, k4⟩
          · have hs2 := sm_oks_app.mp hs
            have hs3 := sm_oks_cons.mp hs2.2
            have hAs : sm_oks (G.1 + h.n) (.ref a :: As) := sm_oks_cons.mpr ⟨hs3.1, sm_oks_rev.mp hs2.1⟩
            have zo := hcok _ _ _ _ ho hAs k3
            have ft := fit v h2 r _ zo hs3.2 k4
            obtain ⟨TT, NN, y0, y1, y2, y3, y4⟩ := hv1 k0
            obtain ⟨hla, hcla⟩ := sm_is_lt k5
            have hea := sm_ws_get (F := F) (kA := kA) (ad := ad) hla
            rw [sm_E_obj hcla (hCF _ _ _ _ y0).1] at hea
            have est : (As.reverse ++ .ref a :: r).map (sm_r ad) = (As.map (sm_r ad)).reverse ++ .ref (ad a) :: r.map (sm_r ad) := by rw [List.map_append, List.map_reverse]; rfl
            rw [est]
            exact sm_Wcall (va_runV (As := As.map (sm_r ad)) (rest := r.map (sm_r ad)) ⟨hx, hb, hml, hown, hts⟩ (hcM _ _ _ _ k3 ho hAs ft.2.1 ft.2.2 ad H.size) ⟨cb _ _ idx h2 v y1 y2, hts _ y3, hts _ y4⟩ ⟨sm_blind hX, va_recv hK hP y0 hea, pre (.ref a :: As)⟩ rfl (by rw [List.length_map]; exact k1) hL.1 rfl (lv_room (by rw [sm_rs_sum]; exact k2)) hd ft.1) hS (sm_free hD hS hA) (sm_free hD hS hA) (after v h2 r _ zo hs3.2 k4)
          · have hr := (sm_oks_cons.mp (sm_oks_cons.mp hs).2).2
            exact hix pc i idx H locs cells slots ls ad x (r.map (sm_r ad)) hi he k0 hst hS hL.1 hcR (by rw [sm_rs_sum]; exact k2) (pop (.int _ :: r) _ (sm_oks_cons.mpr ⟨(show sm_okv _ (.int _) from trivial), hr⟩) k4)
        · rename_i idx he
          simp only [sm_val, he] at hv
          obtain ⟨hd, hv1, hv2, hv3, hv4⟩ := hv
          rcases g with ⟨k0, a, r, rfl, k2, k4⟩ | ⟨k0, As, a, r, h2, rfl, k1, k2, k3, k4⟩
          · obtain ⟨y1, y2, y3⟩ := hv1 k0
            have hr := (sm_oks_cons.mp hs).2
            refine W.objInit (rest := r.map (sm_r ad)) (a := ad a) hx hb hown (hts _ y1) (hts _ y2) (hts _ y3) rfl (hL.1.trans hml.symm) rfl hd (by omega) ?_ ?_
            · have e8 := sm_rs_sum ad r
              show 2 * 0 + ((r.map (sm_r ad)).map fun v => v.category).sum + 12 ≤ R.locals
              omega
            · exact W.eq (g2 := F0 m (pc + 3) ls (r.map (sm_r ad))) rfl (pop r _ hr k4)
          · have hs2 := sm_oks_app.mp hs
            have hs3 := sm_oks_cons.mp hs2.2
            have hAs : sm_oks (G.1 + h.n) (.ref a :: As) := sm_oks_cons.mpr ⟨hs3.1, sm_oks_rev.mp hs2.1⟩
            have zo := hcok _ _ _ _ ho hAs k3
            have ft := fit none h2 r _ zo hs3.2 k4
            obtain ⟨y1, y5, y6, y3⟩ := hv2 k0
            have est : (As.reverse ++ .ref a :: r).map (sm_r ad) = (As.map (sm_r ad)).reverse ++ .ref (ad a) :: r.map (sm_r ad) := by rw [List.map_append, List.map_reverse]; rfl
            rw [est]
            rcases k0 with k0 | k0
            · have cbb := cb _ _ idx h2 none y1 (hv3 k0)
              rw [y5] at cbb
              exact sm_Wcall (va_runI (As := As.map (sm_r ad)) (rest := r.map (sm_r ad)) ⟨hx, hb, hml, hown, hts⟩ (hcM _ _ _ _ k3 ho hAs ft.2.1 ft.2.2 ad H.size) ⟨cbb, y6, hts _ y3⟩ ⟨sm_blind hX, pre (.ref a :: As)⟩ rfl (by rw [List.length_map]; exact k1) hL.1 rfl (lv_room (by rw [sm_rs_sum]; exact k2)) hd ft.1) hS (sm_free hD hS hA) (sm_free hD hS hA) (after none h2 r _ zo hs3.2 k4)
            · obtain ⟨host, hho⟩ := hv4 k0
              have hw2 : sm_W Ts Y i.2.1 = Cond.code (Y.1 i.2.1) (Y.2.1 i.2.1) (Y.2.2.1 i.2.1) none :: Ts := by rw [← y5]; rfl
              have cbn := va_cnB (R := R) (own := own) (host := host) (index := idx) (mc := h2.n - h.n) (ms := h2.sl - h.sl) (rm := sm_RM d h (none, h2)) i.2.2.1 hts (goodW i.2.1 y1.1) hw2 rfl rfl (hho _ _ _ hst.2.2.2) (hts _ y1.2.1) y1.2.2.1 ⟨by have e : (sm_RM d h (none, h2)).frames = d + 6 := rfl; omega, by have := y1.2.2.2; have e : (sm_RM d h (none, h2)).locals = 80 * (d + 6) := rfl; omega⟩
              exact sm_Wcall (va_runIN (As := As.map (sm_r ad)) (rest := r.map (sm_r ad)) ⟨hx, hb, hml, hown, hts⟩ (hcM _ _ _ _ k3 ho hAs ft.2.1 ft.2.2 ad H.size) ⟨cbn, y6, hts _ y3⟩ ⟨sm_blind hX, pre (.ref a :: As)⟩ rfl (by rw [List.length_map]; exact k1) hL.1 rfl (lv_room (by rw [sm_rs_sum]; exact k2)) hd ft.1) hS (sm_free hD hS hA) (sm_free hD hS hA) (after none h2 r _ zo hs3.2 k4)
        · rename_i he
          simp only [sm_val, he] at hv
          obtain ⟨x, rfl, k1, rfl⟩ := g
          exact hQ pc H locs cells slots ls ad ⟨i, hi, he⟩ (fun v ev => by cases ev; exact Or.inl ⟨_, rfl⟩) hv (fun x2 ex => by cases ex; exact k1) hext hP hD hS hc1 hc2
        · rename_i he
          simp only [sm_val, he] at hv
          obtain ⟨x, rfl, rfl⟩ := g
          exact hQ pc H locs cells slots ls ad ⟨i, hi, he⟩ (fun v ev => by cases ev; exact Or.inr (Or.inl ⟨_, rfl⟩)) hv (fun x2 ex => by cases ex) hext hP hD hS hc1 hc2
        · rename_i he
          simp only [sm_val, he] at hv
          obtain ⟨x, rfl, rfl⟩ := g
          exact hQ pc H locs cells slots ls ad ⟨i, hi, he⟩ (fun v ev => by cases ev; exact Or.inr (Or.inr ⟨_, rfl⟩)) hv (fun x2 ex => by cases ex) hext hP hD hS hc1 hc2
        · rename_i he
          simp only [sm_val, he] at hv
          obtain ⟨rfl, rfl⟩ := g
          exact hQ pc H locs cells slots ls ad ⟨i, hi, he⟩ (fun v ev => by cases ev) hv (fun x2 ex => by cases ex) hext hP hD hS hc1 hc2
        · exact g.elim
end SMmain
