abbrev Val : Type := Int32 × Int64
abbrev atv (l : List Val) (i : Nat) : Val := l.getD i (0, 0)
theorem atv_app1 {l m : List Val} {i : Nat} (h : i < l.length) : atv (l ++ m) i = atv l i := by
  unfold atv; rw [List.getD_eq_getElem?_getD, List.getD_eq_getElem?_getD, List.getElem?_append_left h]
theorem atv_app2 {l m : List Val} {i : Nat} (h : l.length ≤ i) : atv (l ++ m) i = atv m (i - l.length) := by
  unfold atv; rw [List.getD_eq_getElem?_getD, List.getD_eq_getElem?_getD, List.getElem?_append_right h]
def sub (l : List Val) (i n : Nat) : List Val := (l.drop i).take n
theorem sub_len {l : List Val} {i n : Nat} (h : i + n ≤ l.length) : (sub l i n).length = n := by
  unfold sub; rw [List.length_take, List.length_drop]; omega
theorem atv_sub {l : List Val} {i n k : Nat} (h : k < n) : atv (sub l i n) k = atv l (i + k) := by
  unfold sub atv; rw [List.getD_eq_getElem?_getD, List.getD_eq_getElem?_getD, List.getElem?_take_of_lt h, List.getElem?_drop]
theorem sub_all (l : List Val) : sub l 0 l.length = l := by unfold sub; rw [List.drop_zero, List.take_length]
theorem sub_0 (l : List Val) (i : Nat) : sub l i 0 = [] := rfl
theorem sub_succ {l : List Val} {i n : Nat} (h : i + n < l.length) : sub l i (n + 1) = sub l i n ++ [atv l (i + n)] := by
  unfold sub
  have h1 : n < (l.drop i).length := by rw [List.length_drop]; omega
  rw [List.take_succ_eq_append_getElem h1]
  congr 2
  unfold atv
  rw [List.getElem_drop, List.getD_eq_getElem?_getD, List.getElem?_eq_getElem h]; rfl
def stk (g : sm_H) (b : Nat) (vs : List Val) : Prop := ∀ i, i < vs.length → g.1 108 (b + i) = (atv vs i).1 ∧ g.2.1 109 (b + i) = (atv vs i).2
def frm (h : sm_H) (d : Nat) (vs : List Val) : Prop := ∀ i, i < vs.length → h.2.1 50 (16 * d + i) = (atv vs i).2 ∧ h.1 51 (16 * d + i) = tag (atv vs i).1
def tyV (g : sm_H) (ks : List Int32) (vs : List Val) : Prop := vs.length = ks.length ∧ ∀ i, i < vs.length → okV g (tn (at0 ks i)) (atv vs i).1 (atv vs i).2
theorem C_num {h : sm_H} {d i : Nat} (hd : d ≤ 100) (hi : i < 16) : F_77 (I3 d) (I3 i) h = some (h.2.1 50 (16 * d + i), h) := by
  show F_77_0 (I3 d) (I3 i) h = _
  unfold F_77_0 F_77_30
  simp only [obs]
  rw [show I3 d * 16 + I3 i = I3 (16 * d + i) by rw [I3_lit, I3_mul, I3_add, Nat.mul_comm], if_neg (I3_nn (by omega)), show sm_al G0 h 50 = some (I3 1616) from rfl]; simp only [obs]
  rw [if_neg (by rw [I3_le (by decide) (by omega)]; omega), ldJ_I (by omega) (by omega)]; simp only [obs]
theorem C_tg {h : sm_H} {d i : Nat} (hd : d ≤ 100) (hi : i < 16) : F_78 (I3 d) (I3 i) h = some (h.1 51 (16 * d + i), h) := by
  show F_78_0 (I3 d) (I3 i) h = _
  unfold F_78_0 F_78_30
  simp only [obs]
  rw [show I3 d * 16 + I3 i = I3 (16 * d + i) by rw [I3_lit, I3_mul, I3_add, Nat.mul_comm], if_neg (I3_nn (by omega)), show sm_al G0 h 51 = some (I3 1616) from rfl]; simp only [obs]
  rw [if_neg (by rw [I3_le (by decide) (by omega)]; omega), ldI_I (by omega) (by omega)]; simp only [obs]
theorem C_lay0 {h : sm_H} {d i : Nat} (hd : d ≤ 100) (hi : i < 16) (n : Int64) (t : Int32) : F_79 (I3 d) (I3 i) n t h = some (sm_wI (sm_wJ h 50 (16 * d + i) n) 51 (16 * d + i) t) := by
  show F_79_0 (I3 d) (I3 i) n t h = _
  unfold F_79_0 F_79_50
  simp only [obs]
  rw [show I3 d * 16 + I3 i = I3 (16 * d + i) by rw [I3_lit, I3_mul, I3_add, Nat.mul_comm], if_neg (I3_nn (by omega)), show sm_al G0 h 50 = some (I3 1616) from rfl]; simp only [obs]
  rw [if_neg (by rw [I3_le (by decide) (by omega)]; omega), show sm_al G0 h 51 = some (I3 1616) from rfl]; simp only [obs]
  rw [if_neg (by rw [I3_le (by decide) (by omega)]; omega), stJ_I (by omega) (by omega)]; simp only [obs]
  rw [stI_I (by omega) (by omega)]; simp only [obs]
abbrev SL (d b j : Nat) : Prop := (b = 50 ∨ b = 51) ∧ 16 * d ≤ j ∧ j < 16 * d + 16
abbrev Ly (h h' : sm_H) (d : Nat) (ws : List Val) : Prop := (agr (SL d) h h') ∧ (frm h' d ws) ∧ (h'.2.2 = h.2.2)
theorem Ly.a {h h' : sm_H} {d : Nat} {ws : List Val} (F_ : Ly h h' d ws) : agr (SL d) h h' := F_.1
theorem Ly.f {h h' : sm_H} {d : Nat} {ws : List Val} (F_ : Ly h h' d ws) : frm h' d ws := F_.2.1
theorem Ly.r {h h' : sm_H} {d : Nat} {ws : List Val} (F_ : Ly h h' d ws) : h'.2.2 = h.2.2 := F_.2.2
theorem Ly_0 (h : sm_H) (d : Nat) : Ly h h d [] := ⟨agr_rfl, (fun i hi => by cases hi), rfl⟩
theorem frm_agr {h h' : sm_H} {d d' : Nat} {vs : List Val} (F : frm h d vs) (a : agr (SL d') h h') (l : vs.length ≤ 16) (ne : d ≠ d') : frm h' d vs := fun i hi => by
  rw [a.2.1 50 _ (by unfold SL; omega), a.1 51 _ (by unfold SL; omega)]
  exact F i hi
theorem wI_1 (h : sm_H) (a k : Nat) (x : Int32) : (sm_wI h a k x).2.1 = h.2.1 := rfl
theorem C_lay1 {h h' : sm_H} {d : Nat} {ws : List Val} (L : Ly h h' d ws) (hd : d ≤ 100) (hw : ws.length < 16) (v : Val) : ∃ h2, F_79 (I3 d) (I3 ws.length) v.2 (tag v.1) h' = some h2 ∧ Ly h h2 d (ws ++ [v]) := by
  refine ⟨_, C_lay0 hd hw v.2 (tag v.1), agr_wI (agr_wJ L.a (by unfold SL; omega)) (by unfold SL; omega), fun i hi => ?_, L.r⟩
  rw [List.length_append] at hi
  have hi : i < ws.length + 1 := hi
  rw [wI_1, wI_rd, wJ_rd, show (sm_wJ h' 50 (16 * d + ws.length) v.2).1 = h'.1 from rfl]
  by_cases q : i = ws.length
  · rw [if_pos (by omega), if_pos (by omega), q, atv_app2 (Nat.le_refl _), Nat.sub_self]; exact ⟨rfl, rfl⟩
  · rw [if_neg (by omega), if_neg (by omega), atv_app1 (by omega)]; exact L.f i (by omega)
theorem C_lend {h h' : sm_H} {d i n : Nat} {vs ws : List Val} (L : Ly h h' (d + 1) ws) (F : frm h d vs) (hd : d < 100) (v16 : vs.length ≤ 16) (hi : i + n ≤ vs.length) (hw : ws.length + n ≤ 16) : ∃ h2, F_80 (I3 d) (I3 i) (I3 ws.length) (I3 n) h' = some h2 ∧ Ly h h2 (d + 1) (ws ++ sub vs i n) := by
  have LL := lp_ex (body := F_80_3B) (P := fun k s => s.1 = I3 d ∧ s.2.1 = I3 i ∧ s.2.2.1 = I3 ws.length ∧ s.2.2.2.1 = I3 n ∧ s.2.2.2.2.1 = I3 k ∧ Ly h s.2.2.2.2.2 (d + 1) (ws ++ sub vs i k)) (Q := fun h2 => Ly h h2 (d + 1) (ws ++ sub vs i n)) n (fun k s hk p1 => ?_) (fun s p1 => ?_) (I3 d, I3 i, I3 ws.length, I3 n, 0, h') 1000000 ⟨rfl, rfl, rfl, rfl, rfl, by rw [sub_0, List.append_nil]; exact L⟩ (by omega)
  · obtain ⟨h2, e1, e2⟩ := LL
    exact ⟨h2, e1, e2⟩
  · obtain ⟨s1, s2, s3, s4, s5, s6⟩ := s
    obtain ⟨p1, p2, p3, p4, p5, p6⟩ := p1
    have p1 : s1 = I3 d := p1
    have p2 : s2 = I3 i := p2
    have p3 : s3 = I3 ws.length := p3
    have p4 : s4 = I3 n := p4
    have p5 : s5 = I3 k := p5
    have p6 : Ly h s6 (d + 1) (ws ++ sub vs i k) := p6
    subst p1 p2 p3 p4 p5
    have sl : (sub vs i k).length = k := sub_len (by omega)
    have wl : (ws ++ sub vs i k).length = ws.length + k := by rw [List.length_append, sl]
    have F6 := frm_agr F p6.a v16 (by omega) (i + k) (by omega)
    obtain ⟨h2, c1, c2⟩ := C_lay1 p6 (by omega) (by omega) (atv vs (i + k))
    refine Or.inl ⟨(I3 d, I3 i, I3 ws.length, I3 n, I3 (k + 1), h2), ?_, rfl, rfl, rfl, rfl, rfl, ?_⟩
    · show F_80_3B (I3 d, I3 i, I3 ws.length, I3 n, I3 k, s6) = _
      unfold F_80_3B
      rw [if_neg (by rw [I3_le (by omega) (by omega)]; omega), if_neg (by rw [I3_lit, I3_le (by decide) (by omega)]; omega), I3_add, C_num (by omega) (by omega)]; simp only [obs]
      rw [C_tg (by omega) (by omega)]; simp only [obs]
      rw [F6.1, F6.2, show I3 d + 1 = I3 (d + 1) from I3_add d 1, I3_add, ← wl, c1]; simp only [obs]
      rw [show I3 k + 1 = I3 (k + 1) from I3_add k 1]
    · show Ly h h2 (d + 1) _
      rw [sub_succ (by omega), ← List.append_assoc]; exact c2
  · obtain ⟨s1, s2, s3, s4, s5, s6⟩ := s
    obtain ⟨p1, p2, p3, p4, p5, p6⟩ := p1
    have p4 : s4 = I3 n := p4
    have p5 : s5 = I3 n := p5
    subst p4 p5
    refine ⟨s6, ?_, p6⟩
    show F_80_3B (s1, s2, s3, I3 n, I3 n, s6) = _
    unfold F_80_3B
    rw [if_pos (by rw [I3_le (by omega) (by omega)]; omega)]; rfl
abbrev SP (T b j : Nat) : Prop := (b = 108 ∧ T ≤ j) ∨ (b = 109 ∧ T ≤ j) ∨ (b = 67 ∧ (j = 59 ∨ j = 48 ∨ j = 49))
abbrev Ph (g g' : sm_H) (T : Nat) (ws : List Val) : Prop := (agr (SP T) g g') ∧ (g'.1 67 59 = I3 (T + ws.length)) ∧ (stk g' T ws)
theorem Ph.a {g g' : sm_H} {T : Nat} {ws : List Val} (F_ : Ph g g' T ws) : agr (SP T) g g' := F_.1
theorem Ph.n {g g' : sm_H} {T : Nat} {ws : List Val} (F_ : Ph g g' T ws) : g'.1 67 59 = I3 (T + ws.length) := F_.2.1
theorem Ph.s {g g' : sm_H} {T : Nat} {ws : List Val} (F_ : Ph g g' T ws) : stk g' T ws := F_.2.2
theorem Ph_0 {g : sm_H} {T : Nat} (e : g.1 67 59 = I3 T) : Ph g g T [] := ⟨agr_rfl, e, fun i hi => by cases hi⟩
theorem R_push {g g' : sm_H} {T : Nat} {ws : List Val} (P : Ph g g' T ws) (hT : T + ws.length < 6000) (v : Val) : ∃ g2, F_342 v.1 v.2 g' = some g2 ∧ Ph g g2 T (ws ++ [v]) := by
  refine ⟨sm_wI (sm_wJ (sm_wI g' 108 (T + ws.length) v.1) 109 (T + ws.length) v.2) 67 59 (I3 (T + ws.length + 1)), ?_, agr_wI (agr_wJ (agr_wI P.a (by unfold SP; omega)) (by unfold SP; omega)) (by unfold SP; omega), ?_, fun i hi => ?_⟩
  · show F_342_0 v.1 v.2 g' = _
    unfold F_342_0
    rw [P.n, stI_I (by omega) (by omega)]; simp only [obs]
    rw [show (sm_wI g' 108 (T + ws.length) v.1).1 67 59 = g'.1 67 59 from rfl, P.n, stJ_I (by omega) (by omega)]; simp only [obs]
    rw [show (sm_wJ (sm_wI g' 108 (T + ws.length) v.1) 109 (T + ws.length) v.2).1 67 59 = g'.1 67 59 from rfl, P.n, show I3 (T + ws.length) + 1 = I3 (T + ws.length + 1) from I3_add _ 1]
  · rw [List.length_append]; rfl
  · rw [List.length_append] at hi
    have hi : i < ws.length + 1 := hi
    rw [show (sm_wI (sm_wJ (sm_wI g' 108 (T + ws.length) v.1) 109 (T + ws.length) v.2) 67 59 (I3 (T + ws.length + 1))).1 108 (T + i) = (sm_wI g' 108 (T + ws.length) v.1).1 108 (T + i) from rfl, show (sm_wI (sm_wJ (sm_wI g' 108 (T + ws.length) v.1) 109 (T + ws.length) v.2) 67 59 (I3 (T + ws.length + 1))).2.1 109 (T + i) = (sm_wJ (sm_wI g' 108 (T + ws.length) v.1) 109 (T + ws.length) v.2).2.1 109 (T + i) from rfl, wI_rd, wJ_rd]
    by_cases q : i = ws.length
    · rw [if_pos (by omega), if_pos (by omega), q, atv_app2 (Nat.le_refl _), Nat.sub_self]; exact ⟨rfl, rfl⟩
    · rw [if_neg (by omega), if_neg (by omega), atv_app1 (by omega)]; exact P.s i (by omega)
theorem stk_agr {g g' : sm_H} {T vp : Nat} {vs : List Val} (S : stk g vp vs) (a : agr (SP T) g g') (l : vp + vs.length ≤ T) : stk g' vp vs := fun i hi => by
  rw [a.1 108 _ (by unfold SP; omega), a.2.1 109 _ (by unfold SP; omega)]
  exact S i hi
theorem R_copy {g g' : sm_H} {T vp i n : Nat} {vs ws : List Val} (P : Ph g g' T ws) (S : stk g vp vs) (hv : vp + vs.length ≤ T) (hi : i + n ≤ vs.length) (hT : T + ws.length + n ≤ 6000) : ∃ g2, F_343 (I3 (vp + i)) (I3 (vp + i + n)) g' = some g2 ∧ Ph g g2 T (ws ++ sub vs i n) := by
  have LL := lp_ex (body := F_343_2B) (P := fun k s => s.1 = I3 (vp + i + n) ∧ s.2.1 = I3 (vp + i + k) ∧ Ph g s.2.2 T (ws ++ sub vs i k)) (Q := fun g2 => Ph g g2 T (ws ++ sub vs i n)) n (fun k s hk p1 => ?_) (fun s p1 => ?_) (I3 (vp + i + n), I3 (vp + i), g') 1000000 ⟨rfl, rfl, by rw [sub_0, List.append_nil]; exact P⟩ (by omega)
  · obtain ⟨g2, e1, e2⟩ := LL
    exact ⟨g2, e1, e2⟩
  · obtain ⟨s1, s2, s3⟩ := s
    obtain ⟨p1, p2, p3⟩ := p1
    have p1 : s1 = I3 (vp + i + n) := p1
    have p2 : s2 = I3 (vp + i + k) := p2
    have p3 : Ph g s3 T (ws ++ sub vs i k) := p3
    subst p1 p2
    have sl : (sub vs i k).length = k := sub_len (by omega)
    have wl : (ws ++ sub vs i k).length = ws.length + k := by rw [List.length_append, sl]
    have S3 := stk_agr S p3.a hv (i + k) (by omega)
    rw [← Nat.add_assoc] at S3
    obtain ⟨g2, c1, c2⟩ := R_push p3 (by omega) (atv vs (i + k))
    refine Or.inl ⟨(I3 (vp + i + n), I3 (vp + i + (k + 1)), g2), ?_, rfl, rfl, ?_⟩
    · show F_343_2B (I3 (vp + i + n), I3 (vp + i + k), s3) = _
      unfold F_343_2B
      rw [if_neg (by rw [I3_le (by omega) (by omega)]; omega), ldI_I (by omega) (by omega), ldJ_I (by omega) (by omega)]; simp only [obs]
      rw [S3.1, S3.2, c1]; simp only [obs]
      rw [show I3 (vp + i + k) + 1 = I3 (vp + i + (k + 1)) from I3_add (vp + i + k) 1]
    · show Ph g g2 T _
      rw [sub_succ (by omega), ← List.append_assoc]; exact c2
  · obtain ⟨s1, s2, s3⟩ := s
    obtain ⟨p1, p2, p3⟩ := p1
    have p1 : s1 = I3 (vp + i + n) := p1
    have p2 : s2 = I3 (vp + i + n) := p2
    subst p1 p2
    refine ⟨s3, ?_, p3⟩
    show F_343_2B (I3 (vp + i + n), I3 (vp + i + n), s3) = _
    unfold F_343_2B
    rw [if_pos (by rw [I3_le (by omega) (by omega)]; omega)]
