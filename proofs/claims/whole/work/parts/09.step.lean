/-! one step of the simple machine is steps of the machine -/
section SMalu
variable {p : Program} {l : Launch} {e : Env} {R : Room} {s : State} {m : MethodId} {args : Array Value} {below : List Frame} {meth : Method} {c : Code} {H H0 : Heap} {locs : List Loc} {cells slots : Nat} {Q : State → Prop}
variable {cc : ByteArray} {pc : Nat} {ls : Array Slot} {rest : List Value} {ad : Nat → Nat}
theorem sm_Walu (hx : p.tables.exec = Jvm.exec) (hb : c.code = cc) {ins : Instr} {st st' : List Value} (q : sm_alu ins st = some st') (hdg : decode cc pc = .ok (ins, 1)) (kk : W p l e R s m args below meth c H locs cells slots Q (F0 m (pc + 1) ls (st'.map (sm_r ad)))) : W p l e R s m args below meth c H locs cells slots Q (F0 m pc ls (st.map (sm_r ad))) := by
  unfold sm_alu at q
  split at q
  · unfold sm_ii at q
    split at q
    · cases q; exact lv_iadd hx hb hdg kk
    · cases q
  · unfold sm_ii at q
    split at q
    · cases q; exact lv_isub hx hb hdg kk
    · cases q
  · unfold sm_ii at q
    split at q
    · cases q; exact lv_imul hx hb hdg kk
    · cases q
  · unfold sm_ii at q
    split at q
    · cases q; exact lv_iand hx hb hdg kk
    · cases q
  · unfold sm_ii at q
    split at q
    · cases q; exact lv_ishl hx hb hdg kk
    · cases q
  · unfold sm_ii at q
    split at q
    · cases q; exact lv_ishr hx hb hdg kk
    · cases q
  · unfold sm_ii at q
    split at q
    · cases q; exact lv_iushr hx hb hdg rfl kk
    · cases q
  · unfold sm_i at q
    split at q
    · cases q; exact lv_ineg hx hb hdg kk
    · cases q
  · split at q
    · split at q
      · cases q
      · rename_i hy; cases q; exact lv_idiv hx hb hdg hy kk
    · cases q
  · split at q
    · split at q
      · cases q
      · rename_i hy; cases q; exact lv_irem hx hb hdg hy kk
    · cases q
  · unfold sm_jj at q
    split at q
    · cases q; exact lv_ladd hx hb hdg kk
    · cases q
  · unfold sm_jj at q
    split at q
    · cases q; exact lv_lsub hx hb hdg kk
    · cases q
  · unfold sm_jj at q
    split at q
    · cases q; exact lv_lmul hx hb hdg kk
    · cases q
  · unfold sm_jj at q
    split at q
    · cases q; exact lv_land hx hb hdg kk
    · cases q
  · unfold sm_jj at q
    split at q
    · cases q; exact lv_lor hx hb hdg kk
    · cases q
  · unfold sm_jj at q
    split at q
    · cases q; exact lv_lxor hx hb hdg kk
    · cases q
  · unfold sm_ji at q
    split at q
    · cases q; exact lv_lshl hx hb hdg rfl kk
    · cases q
  · unfold sm_ji at q
    split at q
    · cases q; exact lv_lshr hx hb hdg rfl kk
    · cases q
  · unfold sm_ji at q
    split at q
    · cases q; exact lv_lushr hx hb hdg rfl kk
    · cases q
  · unfold sm_j at q
    split at q
    · cases q; exact lv_lneg hx hb hdg kk
    · cases q
  · split at q
    · split at q
      · cases q
      · rename_i hy; cases q; exact lv_ldiv hx hb hdg hy kk
    · cases q
  · split at q
    · split at q
      · cases q
      · rename_i hy; cases q; exact lv_lrem hx hb hdg hy kk
    · cases q
  · split at q
    · cases q; exact W.lcmp hx hb hdg kk
    · cases q
  · unfold sm_i at q
    split at q
    · cases q; exact lv_i2l hx hb hdg rfl kk
    · cases q
  · unfold sm_j at q
    split at q
    · cases q; exact lv_l2i hx hb hdg rfl kk
    · cases q
  · unfold sm_i at q
    split at q
    · cases q; exact lv_i2b hx hb hdg rfl kk
    · cases q
  · unfold sm_i at q
    split at q
    · cases q; exact lv_i2s hx hb hdg rfl kk
    · cases q
  · unfold sm_i at q
    split at q
    · cases q; exact lv_i2c hx hb hdg rfl kk
    · cases q
  · split at q
    · cases q; exact lv_dup hx hb hdg rfl kk
    · cases q; exact lv_dup hx hb hdg rfl kk
    · cases q
  · split at q
    · cases q; exact lv_pop (va := .int _) hx hb hdg rfl kk
    · cases q; exact lv_pop (va := .ref _) hx hb hdg rfl kk
    · cases q
  · split at q
    · cases q; exact lv_dup2_11 hx hb hdg rfl rfl kk
    · cases q; exact lv_dup2_11 hx hb hdg rfl rfl kk
    · cases q; exact lv_dup2_2 hx hb hdg rfl kk
    · cases q
  · cases q
end SMalu
