def CK (rec : Int32 → Int32 → sm_H → Option (Int32 × sm_H)) (x d i : Nat) (e : Option ((Int32 × Int32 × Int32 × Int32 × sm_H) ⊕ (Int32 × sm_H))) : Option (Int32 × sm_H) := (oK (F_95_5B rec) (1000000 - i - 1) e).bind fun q21 => if q21.1 = 0 then ((F_96 rec (I3 x) (I3 d) q21.2).bind fun q22 => F_82_311 rec q22.1 q22.2) else (F_82_311 rec q21.1 q21.2)
def CI (rec : Int32 → Int32 → sm_H → Option (Int32 × sm_H)) (x d v i : Nat) (h : sm_H) : Option (Int32 × sm_H) := (lp (F_95_5B rec) (1000000 - i) (I3 x, I3 d, I3 v, I3 (4 * i), h)).bind fun q21 => if q21.1 = 0 then ((F_96 rec (I3 x) (I3 d) q21.2).bind fun q22 => F_82_311 rec q22.1 q22.2) else (F_82_311 rec q21.1 q21.2)
theorem CI_CK {rec : Int32 → Int32 → sm_H → Option (Int32 × sm_H)} {x d v i : Nat} {h : sm_H} (hi : i ≤ 4) : CI rec x d v i h = CK rec x d i (F_95_5B rec (I3 x, I3 d, I3 v, I3 (4 * i), h)) := by
  unfold CI CK
  rw [lp_oK (by omega)]
theorem CK_bind {α : Type} {rec : Int32 → Int32 → sm_H → Option (Int32 × sm_H)} {x d i : Nat} (q : Option α) (K : α → Option ((Int32 × Int32 × Int32 × Int32 × sm_H) ⊕ (Int32 × sm_H))) : CK rec x d i (q.bind K) = q.bind fun z => CK rec x d i (K z) := by cases q <;> rfl
theorem CK_next {rec : Int32 → Int32 → sm_H → Option (Int32 × sm_H)} {x d v i : Nat} {h : sm_H} : CK rec x d i (some (.inl (I3 x, I3 d, I3 v, I3 (4 * (i + 1)), h))) = CI rec x d v (i + 1) h := by
  unfold CI CK
  rw [show 1000000 - (i + 1) = 1000000 - i - 1 by omega]; rfl
theorem CK_stop {rec : Int32 → Int32 → sm_H → Option (Int32 × sm_H)} {x d i o : Nat} {h : sm_H} (o1 : 1 ≤ o) (o2 : o ≤ 4) : CK rec x d i (some (.inr (I3 o, h))) = some (I3 o, h) := by
  show (if I3 o = 0 then _ else _) = _
  rw [if_neg (I3_ne0 o1 o2)]; rfl
theorem LV_push {d vp : Nat} {ks : List Int32} {vs us : List Val} {h g g2 : sm_H} (wK : wfK g) (V : LV d vp ks vs us h g) (k : Int32) (v : Val) (ok : okV g (tn k) v.1 v.2) (P : Ph g g2 (vp + vs.length + us.length) [v]) : LV d vp (ks ++ [k]) vs (us ++ [v]) (sm_wI (sm_wJ h 50 (16 * d + (10 + us.length)) v.2) 51 (16 * d + (10 + us.length)) (tag v.1)) (sm_wI g2 106 d (I3 (us.length + 1))) := by
  have G : grow g (sm_wI g2 106 d (I3 (us.length + 1))) := grow_N (agr_wI (agr_mono (fun b j z => by unfold SP at z; unfold SN; omega) P.a) (by unfold SN; omega))
  have ul : (us ++ [v]).length = us.length + 1 := by rw [List.length_append]; rfl
  refine ⟨fun i hi => ?_, fun i hi => ?_, tyV_grow wK G (tyV_app V.2.2.1 (tyV_1 ok)), ?_⟩
  · rw [ul] at hi
    show g2.1 108 _ = _ ∧ g2.2.1 109 _ = _
    by_cases q : i = us.length
    · rw [q, atv_app2 (Nat.le_refl _), Nat.sub_self]
      exact P.s 0 (Nat.zero_lt_succ _)
    · rw [atv_app1 (by omega)]
      exact stk_agr V.1 P.a (Nat.le_refl _) i (by omega)
  · rw [ul] at hi
    rw [wI_1, wI_rd, wJ_rd, wJ_1]
    by_cases q : i = us.length
    · rw [if_pos (by omega), if_pos (by omega), q, atv_app2 (Nat.le_refl _), Nat.sub_self]; exact ⟨rfl, rfl⟩
    · rw [if_neg (by omega), if_neg (by omega), atv_app1 (by omega)]; exact V.2.1 i (by omega)
  · rw [ul]
    show (if d = d then I3 (us.length + 1) else g2.1 106 d) = _; rw [if_pos rfl]
section
variable {d fuel s0 x vp : Nat} {vs : List Val} {h0 g0 : sm_H}
theorem Fr.l371 {p s : Nat} {h g : sm_H} (F : Fr d fuel s0 x vp vs h0 g0 h g p s) : F_371 g = lp F_371_20B 1000000 (I3 d, I3 x, g) := by
  show F_371_0 g = _
  unfold F_371_0 F_371_20
  simp only [obs]
  rw [F.c56, show I3 (d + 1) - 1 = I3 d from I3_sub (a := d + 1) (b := 1) (by omega), F.l103]; simp only [obs]
  rw [F.l305]; simp only [obs]
theorem loop_init {rec : Int32 → Int32 → sm_H → Option (Int32 × sm_H)} (IH : CallOK (d + 1) rec) {n j0 : Nat} (L : LPt g0 (prt g0 x) n)
    (fa : ∀ i, i < n → (pt (prt g0 x) i 2 ≠ -1 → hrs g0 (tn (pt (prt g0 x) i 2)) = 1) ∧ (pt (prt g0 x) i 3 ≠ -1 → hrs g0 (tn (pt (prt g0 x) i 3)) = hrs g0 x) ∧ ∀ z, 1 ≤ z → z < 4 → pt (prt g0 x) i z ≠ -1 → pre (hpl g0 (tn (pt (prt g0 x) i z))) (vrs g0 (prt g0 x) n ++ hpl g0 x))
    (fb : ∀ i, i < n → (pt (prt g0 x) i 0 ≠ -1 → pt (prt g0 x) i 1 ≠ -1 → hrs g0 (tn (pt (prt g0 x) i 0)) = hrs g0 (tn (pt (prt g0 x) i 1))) ∧ (pt (prt g0 x) i 0 ≠ -1 → pre (hpl g0 (tn (pt (prt g0 x) i 0))) (hpl g0 x)))
    (j1 : j0 < n) (j2 : pt (prt g0 x) j0 2 ≠ -1) : ∀ (k i f p s : Nat) (us : List Val) (h g : sm_H), i + k = n → k < f → Fr d fuel s0 x vp vs h0 g0 h g p s → g.1 67 59 = I3 (vp + vs.length + us.length) → LV d vp (vrs g0 (prt g0 x) i) vs us h g → g.1 107 d = I3 i →
      ∃ u, lp F_371_20B f (I3 d, I3 x, g) = some u ∧ Ends d fuel s0 vp (tn (hrs g0 x)) h0 g0 (p + 1) (CI rec x d us.length i h) u := by
  have n4 := L.n4
  have ll := L.l
  intro k
  induction k with
  | zero =>
    intro i f p s us h g hi hf F c59 V c107
    obtain rfl : i = n := by omega
    have d1 := F.d1
    have lt := F.lt
    have l107 : ldI g 107 100 (I3 d) = some (I3 i) := by rw [ldI_I d1 (by decide), c107]
    have a : agr (SG d (vp + vs.length)) g (sm_wI g 107 d 0) := agr_wI agr_rfl (by unfold SG; omega)
    have F1 := Fr_g F a
    obtain ⟨u, e1, e2⟩ := loop_round IH L fa j1 j2 ((fuel - s) * 20 + j0 + 1) 0 0 j0 1000000 p s us h _ (Or.inl ⟨by omega, by omega⟩) (by omega) (by omega) F1 c59 ⟨V.1, V.2.1, tyV_grow F.m.k.1 (grow_N (agr_mono (SG_N _ _) a)) V.2.2.1, V.2.2.2⟩ (by
      rw [if_neg (by omega)]
      show (if d = d then (0 : Int32) else g.1 107 d) = _; rw [if_pos rfl]; rfl) (by omega) (by omega)
    refine ⟨u, ?_, ?_⟩
    · refine lp_e (by omega) ?_
      unfold F_371_20B
      rw [l107]; simp only [obs]
      rw [F.l80, ll]; simp only [obs]
      rw [if_neg (by decide), div4 n4, if_pos (by rw [I3_le (by omega) (by omega)]; omega), stI_I d1 (by decide)]; simp only [obs]
      rw [F1.l374, e1]; rfl
    · have H : F_95_5B rec (I3 x, I3 d, I3 us.length, I3 (4 * i), h) = some (.inr (0, h)) := by
        unfold F_95_5B
        rw [F.f42]; simp only [obs]
        rw [if_pos (by rw [ll, I3_le (by omega) (by omega)]; omega)]
      have H2 : F_96 rec (I3 x) (I3 d) h = RC rec x d us.length 0 0 0 h := by
        show F_96_0 rec (I3 x) (I3 d) h = _
        unfold F_96_0 F_96_9
        rw [C_varsOf F L, ← V.2.2.1.1]; simp only [obs]
        rw [lp_oK (by decide)]
        have z : F_96_9B rec (I3 x, I3 d, I3 us.length, 0, h) = F_96_23 rec (I3 x) (I3 d) (I3 us.length) 0 0 0 h := by
          unfold F_96_9B
          exact if_neg (show ¬ (10000 : Int32) < 0 by decide)
        rw [z]; rfl
      rw [CI_CK n4, H]
      show Ends d fuel s0 vp (tn (hrs g0 x)) h0 g0 (p + 1) ((F_96 rec (I3 x) (I3 d) h).bind fun q22 => some (q22.1, q22.2)) u
      rw [bind_id, H2]; exact e2
  | succ k ih =>
    intro i f p s us h g hk hf F c59 V c107
    have hi : i < n := by omega
    have d1 := F.d1
    have v10 := F.v10
    have vl := F.vl
    have x500 := F.x500
    have vx := F.vx
    have u4 : us.length ≤ 4 := by rw [V.2.2.1.1]; exact Nat.le_trans (vrs_len _ _ _) (by omega)
    have u3 : us.length ≤ 3 := by
      have := vrs_len g0 (prt g0 x) i
      have := V.2.2.1.1
      omega
    have l107 : ldI g 107 100 (I3 d) = some (I3 i) := by rw [ldI_I d1 (by decide), c107]
    have e4 : I3 (4 * i) + 4 = I3 (4 * (i + 1)) := I3_add _ 4
    have h12 := F.m.k.1.2.1
    have go : ∀ (f1 p1 s1 : Nat) (h1 g1 : sm_H) (v : Val), k < f1 → Fr d fuel s0 x vp vs h0 g0 h1 g1 p1 s1 → g1.1 67 59 = I3 (vp + vs.length + us.length) → LV d vp (vrs g0 (prt g0 x) i) vs us h1 g1 → g1.1 107 d = I3 i → h1.2.1 49 9 = v.2 → h1.1 49 10 = tag v.1 → (vk g0 (prt g0 x) i ≠ 0 → okV g1 (tn (vk g0 (prt g0 x) i)) v.1 v.2) →
        ∃ u, ((if vk g0 (prt g0 x) i = 0 then some g1 else (F_342 v.1 v.2 g1).bind fun q => (ldI q 106 100 (I3 d)).bind fun w => stI q 106 100 (I3 d) (w + 1)).bind fun q => (stI q 107 100 (I3 d) (I3 (i + 1))).bind fun z => lp F_371_20B f1 (I3 d, I3 x, z)) = some u ∧ Ends d fuel s0 vp (tn (hrs g0 x)) h0 g0 (p1 + 1) (CK rec x d i (F_95_69 rec (I3 x) (I3 d) (I3 us.length) (I3 (4 * i)) (pt (prt g0 x) i 0) h1)) u := fun f1 p1 s1 h1 g1 v hf1 F1 k59 V1 k107 n9 n10 ok => by
      have C0 : F_95_69 rec (I3 x) (I3 d) (I3 us.length) (I3 (4 * i)) (pt (prt g0 x) i 0) h1 = (if vk g0 (prt g0 x) i = 0 then (F_95_113 rec (I3 x) (I3 d) (I3 us.length) (I3 (4 * i)) h1) else ((F_79 (I3 d) (10 + I3 us.length) (h1.2.1 49 9) (h1.1 49 10) h1).bind fun q4 => (some (I3 us.length + 1 : Int32)).bind fun v5 => F_95_113 rec (I3 x) (I3 d) v5 (I3 (4 * i)) q4)) := by
        unfold F_95_69
        rw [show I3 (4 * i) + 1 = I3 (4 * i + 1) from I3_add _ 1, F1.f43 (by omega)]; simp only [obs]
        rw [show F_47 (pt (prt g0 x) i 0) (at0 (prt g0 x) (4 * i + 1)) h1 = some (vk g0 (prt g0 x) i, h1) from F1.cvk L hi]; simp only [obs]
      rw [C0]
      by_cases z : vk g0 (prt g0 x) i = 0
      · rw [if_pos z, if_pos z]
        have a : agr (SG d (vp + vs.length)) g1 (sm_wI g1 107 d (I3 (i + 1))) := agr_wI agr_rfl (by unfold SG; omega)
        have F2 := Fr_g F1 a
        have V2 : LV d vp (vrs g0 (prt g0 x) (i + 1)) vs us h1 (sm_wI g1 107 d (I3 (i + 1))) := by
          rw [vrs_s, if_pos z, List.append_nil]
          exact ⟨V1.1, V1.2.1, tyV_grow F1.m.k.1 (grow_N (agr_mono (SG_N _ _) a)) V1.2.2.1, V1.2.2.2⟩
        obtain ⟨u, e1, e2⟩ := ih (i + 1) f1 p1 s1 us h1 _ (by omega) (by omega) F2 k59 V2 (by show (if d = d then I3 (i + 1) else g1.1 107 d) = _; rw [if_pos rfl])
        refine ⟨u, ?_, ?_⟩
        · simp only [obs]
          rw [stI_I d1 (by decide)]; simp only [obs]
          exact e1
        · unfold F_95_113
          simp only [obs]
          rw [e4, CK_next]; exact e2
      · rw [if_neg z, if_neg z]
        obtain ⟨g2, b2, P2⟩ := R_push (Ph_0 k59) (by simp only [List.length_nil]; omega) v
        rw [List.nil_append] at P2
        have V2 := LV_push F1.m.k.1 V1 (vk g0 (prt g0 x) i) v (ok z) P2
        have FP := Fr_Ph F1 (by omega) P2
        have F2 := Fr_g FP (g' := sm_wI (sm_wI g2 106 d (I3 (us.length + 1))) 107 d (I3 (i + 1))) (agr_wI (agr_wI agr_rfl (by unfold SG; omega)) (by unfold SG; omega))
        have F3 := Fr_h F2 (h' := sm_wI (sm_wJ h1 50 (16 * d + (10 + us.length)) v.2) 51 (16 * d + (10 + us.length)) (tag v.1)) (agr_wI (agr_wJ agr_rfl (by unfold SC1; omega)) (by unfold SC1; omega)) rfl
        have V3 : LV d vp (vrs g0 (prt g0 x) (i + 1)) vs (us ++ [v]) (sm_wI (sm_wJ h1 50 (16 * d + (10 + us.length)) v.2) 51 (16 * d + (10 + us.length)) (tag v.1)) (sm_wI (sm_wI g2 106 d (I3 (us.length + 1))) 107 d (I3 (i + 1))) := by
          rw [vrs_s, if_neg z]
          refine ⟨V2.1, V2.2.1, tyV_grow ?_ (grow_N (agr_wI agr_rfl (by unfold SN; omega))) V2.2.2.1, V2.2.2.2⟩
          exact (Fr_g FP (g' := sm_wI g2 106 d (I3 (us.length + 1))) (agr_wI agr_rfl (by unfold SG; omega))).m.k.1
        have ul : (us ++ [v]).length = us.length + 1 := by rw [List.length_append]; rfl
        obtain ⟨u, e1, e2⟩ := ih (i + 1) f1 p1 s1 (us ++ [v]) _ _ (by omega) (by omega) F3 (by
          show g2.1 67 59 = _
          rw [P2.n, ul]; rfl) V3 (by show (if d = d then I3 (i + 1) else (sm_wI g2 106 d (I3 (us.length + 1))).1 107 d) = _; rw [if_pos rfl])
        refine ⟨u, ?_, ?_⟩
        · rw [b2]; simp only [obs]
          rw [ldI_I d1 (by decide), P2.a.1 106 d (by unfold SP; omega), V1.2.2.2]; simp only [obs]
          rw [show I3 us.length + 1 = I3 (us.length + 1) from I3_add _ 1, stI_I d1 (by decide)]; simp only [obs]
          rw [stI_I d1 (by decide)]; simp only [obs]
          exact e1
        · rw [n9, n10, show (10 : Int32) + I3 us.length = I3 (10 + us.length) from I3_add 10 _, C_lay0 (by omega) (by omega)]; simp only [obs]
          unfold F_95_113
          simp only [obs]
          rw [e4, show I3 us.length + 1 = I3 (us.length + 1) from I3_add _ 1, CK_next, ← ul]; exact e2
    rw [CI_CK (by omega)]
    have a1 : agr (SC1 d) h (sm_wI (sm_wJ h 49 9 0) 49 10 0) := agr_wI (agr_wJ agr_rfl (by unfold SC1; omega)) (by unfold SC1; omega)
    have F1 := Fr_h F a1 rfl
    have V1 : LV d vp (vrs g0 (prt g0 x) i) vs us (sm_wI (sm_wJ h 49 9 0) 49 10 0) g := ⟨V.1, V.2.1, V.2.2.1, V.2.2.2⟩
    have CH : F_95_5B rec (I3 x, I3 d, I3 us.length, I3 (4 * i), h) = (if pt (prt g0 x) i 0 = (-1) then (F_95_69 rec (I3 x) (I3 d) (I3 us.length) (I3 (4 * i)) (pt (prt g0 x) i 0) (sm_wI (sm_wJ h 49 9 0) 49 10 0)) else ((F_81 (I3 d) (pt (prt g0 x) i 0) (sm_wI (sm_wJ h 49 9 0) 49 10 0)).bind fun q9 => (rec (pt (prt g0 x) i 0) (I3 d + 1) q9).bind fun q10 => if q10.1 = 0 then (F_95_69 rec (I3 x) (I3 d) (I3 us.length) (I3 (4 * i)) (pt (prt g0 x) i 0) q10.2) else (some (.inr (q10.1, q10.2))))) := by
      unfold F_95_5B
      rw [F.f42]; simp only [obs]
      rw [if_neg (by rw [ll, I3_le (by omega) (by omega)]; omega), F.f43 (by omega)]; simp only [obs]
      rw [show F_75 0 0 h = some (0, sm_wI (sm_wJ h 49 9 0) 49 10 0) from rfl]; simp only [obs]
      rfl
    rw [CH]
    refine L.c hi (show 0 < 4 by omega) (fun e => ?_) (fun y y1 y2 y3 y4 => ?_)
    · rw [if_pos e]
      obtain ⟨q, q1, q2⟩ : ∃ q, vk g0 (prt g0 x) i = I3 q ∧ q < 2147483648 := by
        have L' : LPt g (prt g0 x) n := ⟨L.l, L.n0, L.n4, fun i z hi hz => by rw [m_nH F.ar]; exact L.h i z hi hz⟩
        obtain ⟨q, q1, q2⟩ := vk_k F.m.k L' hi
        refine ⟨q, ?_, by omega⟩
        rw [← q1]
        unfold vk
        rw [m_hrs F.ar, m_hrs F.ar]
      by_cases z : vk g0 (prt g0 x) i = 0
      · obtain ⟨u, e1, e2⟩ := go (f - 1) p s _ g (0, 0) (by omega) F1 c59 V1 c107 rfl rfl (fun w => absurd z w)
        rw [if_pos z] at e1; simp only [obs] at e1
        rw [stI_I d1 (by decide)] at e1; simp only [obs] at e1
        refine ⟨u, ?_, e2⟩
        refine (lp_s (by omega) ?_).trans e1
        unfold F_371_20B F_371_154
        rw [l107]; simp only [obs]
        rw [F.l80, ll]; simp only [obs]
        rw [if_neg (by decide), div4 n4, if_neg (by rw [I3_le (by omega) (by omega)]; omega), F.q0 (by omega)]; simp only [obs]
        rw [if_pos e, F.q1 (by omega)]; simp only [obs]
        rw [F.rvk L hi]; simp only [obs]
        rw [if_pos z, l107]; simp only [obs]
        rw [show I3 i + 1 = I3 (i + 1) from I3_add i 1, stI_I d1 (by decide)]; rfl
      · have okz : okV g (tn (vk g0 (prt g0 x) i)) (zk (I3 q)) 0 := by rw [q1, tnI q2]; exact okV_zk q2
        have a48 : agr S48 g (sm_wJ (sm_wI g 67 48 (zk (I3 q))) 67 49 0) := agr_wJ (agr_wI agr_rfl (by unfold S48; omega)) (by unfold S48; omega)
        have F2 := Fr_48 F1 a48
        have G2 : grow g (sm_wJ (sm_wI g 67 48 (zk (I3 q))) 67 49 0) := grow_N (agr_wJ (agr_wI agr_rfl (by unfold SN; omega)) (by unfold SN; omega))
        obtain ⟨u, e1, e2⟩ := go (f - 1) p s _ (sm_wJ (sm_wI g 67 48 (zk (I3 q))) 67 49 0) (zk (I3 q), 0) (by omega) F2 c59 ⟨V1.1, V1.2.1, tyV_grow F.m.k.1 G2 V1.2.2.1, V1.2.2.2⟩ c107 rfl (by rw [tag_zk]; rfl) (fun _ => okV_grow F.m.k.1 G2 okz)
        rw [if_neg z] at e1
        refine ⟨u, ?_, e2⟩
        obtain ⟨g2, b2, P2⟩ := R_push (Ph_0 (g := sm_wJ (sm_wI g 67 48 (zk (I3 q))) 67 49 0) (T := vp + vs.length + us.length) c59) (by simp only [List.length_nil]; omega) (zk (I3 q), 0)
        have l106 : ldI g2 106 100 (I3 d) = some (I3 us.length) := by
          rw [ldI_I d1 (by decide), P2.a.1 106 d (by unfold SP; omega)]
          exact congrArg some V.2.2.2
        have k107 : g2.1 107 d = I3 i := (P2.a.1 107 d (by unfold SP; omega)).trans c107
        rw [b2] at e1; simp only [obs] at e1
        rw [l106] at e1; simp only [obs] at e1
        rw [stI_I d1 (by decide)] at e1; simp only [obs] at e1
        rw [stI_I d1 (by decide)] at e1; simp only [obs] at e1
        refine (lp_s (by omega) ?_).trans e1
        unfold F_371_20B F_371_154
        rw [l107]; simp only [obs]
        rw [F.l80, ll]; simp only [obs]
        rw [if_neg (by decide), div4 n4, if_neg (by rw [I3_le (by omega) (by omega)]; omega), F.q0 (by omega)]; simp only [obs]
        rw [if_pos e, F.q1 (by omega)]; simp only [obs]
        rw [F.rvk L hi]; simp only [obs]
        rw [if_neg z, q1, R_zero q2]; simp only [obs]
        rw [show F_342 ((sm_wJ (sm_wI g 67 48 (zk (I3 q))) 67 49 0).1 67 48) ((sm_wJ (sm_wI g 67 48 (zk (I3 q))) 67 49 0).2.1 67 49) (sm_wJ (sm_wI g 67 48 (zk (I3 q))) 67 49 0) = some g2 from b2]; simp only [obs]
        rw [l106]; simp only [obs]
        rw [stI_I d1 (by decide)]; simp only [obs]
        rw [ldI_I d1 (by decide), show (sm_wI g2 106 d (I3 us.length + 1)).1 107 d = g2.1 107 d from rfl, k107]; simp only [obs]
        rw [show I3 i + 1 = I3 (i + 1) from I3_add i 1, stI_I d1 (by decide)]; rfl
    · rw [if_neg y4]
      have prY := (fb i hi).2 y4
      rw [y3] at prY
      have len : (hpl g0 y).length ≤ vs.length := by rw [vx]; exact prY.1
      have vkY : vk g0 (prt g0 x) i = hrs g0 y := by
        unfold vk
        by_cases z : at0 (prt g0 x) (4 * i + 1) ≠ -1
        · rw [if_pos z]
          have := (fb i hi).1 y4 z
          rw [y3] at this; exact this.symm
        · rw [if_neg z, if_pos (show at0 (prt g0 x) (4 * i) ≠ -1 from y4), show tn (at0 (prt g0 x) (4 * i)) = y from y3]
      obtain ⟨h', c1, Ly1⟩ := C_lend (i := 0) (n := (hpl g0 y).length) (Ly_0 (sm_wI (sm_wJ h 49 9 0) 49 10 0) (d + 1)) F1.fr d1 (by omega) (by omega) (by simp only [List.length_nil]; omega)
      obtain ⟨g', b1, P⟩ := R_copy (i := 0) (n := (hpl g0 y).length) (Ph_0 c59) F.st (by omega) (by omega) (by simp only [List.length_nil]; omega)
      rw [List.nil_append] at Ly1 P
      obtain ⟨u, e1, e2⟩ := midL IH F1 (rk := tn (hrs g0 x)) 20 y1 (T := vp + vs.length + us.length) (by omega) (by omega) Ly1 P (tyV_first F.ty prY) (k := fun q10 => CK rec x d i (if q10.1 = 0 then (F_95_69 rec (I3 x) (I3 d) (I3 us.length) (I3 (4 * i)) (pt (prt g0 x) i 0) q10.2) else (some (.inr (q10.1, q10.2)))))
        (by decide) (fun o h1 o1 o2 => by
          show CK rec x d i (if I3 o = 0 then _ else _) = _
          rw [if_neg (I3_ne0 o1 o2)]; exact CK_stop o1 o2) (fun h1 g1 p1 s1 lt FN t59 t63 t62 t104 t107 rr LVt => by
          have G' := Fr_63 FN
          have V2 := LVt _ us (Nat.le_refl _) (by omega) V1
          have V3 : LV d vp (vrs g0 (prt g0 x) i) vs us h1 (sm_wI g1 67 63 0) := ⟨V2.1, V2.2.1, tyV_grow FN.m.k.1 (grow_N (agr_wI agr_rfl (by unfold SN; omega))) V2.2.2.1, V2.2.2.2⟩
          have S := go_20 FN t62 t104 (Or.inl rfl)
          have k107' : (sm_wI g1 67 63 0).1 107 d = I3 i := t107.trans c107
          have k107 : ldI (sm_wI g1 67 63 0) 107 100 (I3 d) = some (I3 i) := by rw [ldI_I d1 (by decide), k107']
          have k104 : ldI (sm_wI g1 67 63 0) 104 100 (I3 d) = some 20 := by rw [ldI_I d1 (by decide)]; exact congrArg some t104
          obtain ⟨u, w1, w2⟩ := go 1000000 p1 s1 h1 (sm_wI g1 67 63 0) (g1.1 67 60, g1.2.1 67 61) (by omega) G' t59 V3 k107' rr.1 rr.2.1 (fun _ => by rw [vkY]; exact okV_grow FN.m.k.1 (grow_N (agr_wI agr_rfl (by unfold SN; omega))) (rr.2.2.1 rfl))
          show Ends d fuel s0 vp (tn (hrs g0 x)) h0 g0 p1 (CK rec x d i (if (0 : Int32) = 0 then _ else _)) g1
          rw [if_pos rfl]
          have S2 : F_376 (I3 d) (I3 x) (sm_wI g1 67 63 0) = some u := by
            show F_376_0 (I3 d) (I3 x) (sm_wI g1 67 63 0) = _
            unfold F_376_0
            rw [k107]; simp only [obs]
            rw [G'.l105]; simp only [obs]
            rw [G'.l305]; simp only [obs]
            rw [k104]; simp only [obs]
            rw [if_pos (by decide), G'.q0 (by omega)]; simp only [obs]
            rw [y2, G'.rs y1]; simp only [obs]
            rw [vkY] at w1
            by_cases z : hrs g0 y = 0
            · rw [if_pos z] at w1; simp only [obs] at w1
              rw [stI_I d1 (by decide)] at w1; simp only [obs] at w1
              rw [if_pos z, G'.q0 (by omega)]; simp only [obs]
              rw [G'.q1 (by omega)]; simp only [obs]
              rw [G'.rvk L hi]; simp only [obs]
              rw [vkY, if_pos z]
              unfold F_376_142
              rw [k107]; simp only [obs]
              rw [show I3 i + 1 = I3 (i + 1) from I3_add i 1, stI_I d1 (by decide)]; simp only [obs]
              rw [(Fr_g G' (g' := sm_wI (sm_wI g1 67 63 0) 107 d (I3 (i + 1))) (agr_wI agr_rfl (by unfold SG; omega))).l371, w1]; rfl
            · rw [if_neg z] at w1
              rw [if_neg z]
              obtain ⟨g2, b2, P2⟩ := R_push (Ph_0 (g := sm_wI g1 67 63 0) (T := vp + vs.length + us.length) t59) (by simp only [List.length_nil]; omega) (g1.1 67 60, g1.2.1 67 61)
              rw [List.nil_append] at P2
              have FP := Fr_Ph G' (by omega) P2
              have l106 : ldI g2 106 100 (I3 d) = some (I3 us.length) := by
                rw [ldI_I d1 (by decide), P2.a.1 106 d (by unfold SP; omega)]
                exact congrArg some V3.2.2.2
              have m107 : g2.1 107 d = I3 i := (P2.a.1 107 d (by unfold SP; omega)).trans k107'
              rw [b2] at w1; simp only [obs] at w1
              rw [l106] at w1; simp only [obs] at w1
              rw [stI_I d1 (by decide)] at w1; simp only [obs] at w1
              rw [stI_I d1 (by decide)] at w1; simp only [obs] at w1
              rw [show F_342 ((sm_wI g1 67 63 0).1 67 60) ((sm_wI g1 67 63 0).2.1 67 61) (sm_wI g1 67 63 0) = some g2 from b2]; simp only [obs]
              rw [l106]; simp only [obs]
              rw [stI_I d1 (by decide)]; simp only [obs]
              unfold F_376_142
              rw [ldI_I d1 (by decide), show (sm_wI g2 106 d (I3 us.length + 1)).1 107 d = g2.1 107 d from rfl, m107]; simp only [obs]
              rw [show I3 i + 1 = I3 (i + 1) from I3_add i 1, stI_I d1 (by decide)]; simp only [obs]
              rw [(Fr_g FP (g' := sm_wI (sm_wI g2 106 d (I3 us.length + 1)) 107 d (I3 (i + 1))) (agr_wI (agr_wI agr_rfl (by unfold SG; omega)) (by unfold SG; omega))).l371, w1]; rfl
          exact Ends_step (step_goOn (by omega) FN.c64 FN.c56 t63 (S.trans S2)) w2)
      refine ⟨u, ?_, ?_⟩
      · refine lp_e (by omega) ?_
        unfold F_371_20B
        rw [l107]; simp only [obs]
        rw [F.l80, ll]; simp only [obs]
        rw [if_neg (by decide), div4 n4, if_neg (by rw [I3_le (by omega) (by omega)]; omega), F.q0 (by omega)]; simp only [obs]
        rw [if_neg y4, F.l105]; simp only [obs]
        rw [y2, F.mn y1]; simp only [obs]
        rw [I3_add, show F_343 (I3 vp) (I3 (vp + (hpl g0 y).length)) g = some g' from b1]; simp only [obs]
        rw [e1]; rfl
      · rw [y2] at e2 ⊢
        have C81 : F_81 (I3 d) (I3 y) (sm_wI (sm_wJ h 49 9 0) 49 10 0) = some h' := by
          show F_81_0 (I3 d) (I3 y) _ = _
          unfold F_81_0
          rw [F1.cmn y1]; simp only [obs]
          rw [show F_80 (I3 d) 0 0 (I3 (hpl g0 y).length) (sm_wI (sm_wJ h 49 9 0) 49 10 0) = some h' from c1]; rfl
        rw [C81]; simp only [obs]
        rw [CK_bind, show I3 d + 1 = I3 (d + 1) from I3_add d 1]; exact e2
end
theorem run_18 {rec : Int32 → Int32 → sm_H → Option (Int32 × sm_H)} {d fuel s x vp : Nat} {vs : List Val} {h0 g0 h g : sm_H} (IH : CallOK (d + 1) rec) (F : Fr d fuel s x vp vs h0 g0 h g 0 (s + 1)) (c63 : g.1 67 63 = 0) (c59 : g.1 67 59 = I3 (vp + vs.length)) (eh : sm_wI h0 49 8 (h0.1 49 8 + 1) = h) (lf : h0.1 49 8 < h0.1 49 7) (f : fm g0 x = 18) : Ends d fuel s vp (tn (hrs g0 x)) h0 g0 0 (F_82R rec (I3 x) (I3 d) h0) g := by
  have d1 := F.d1
  have v10 := F.v10
  have x500 := F.x500
  have vl := F.vl
  have vx := F.vx
  have fs := F.fs0
  rw [f] at fs
  have C := B82_18 (rec := rec) (x1 := I3 x) (x2 := I3 d) (by rw [I3_lit, I3_lt (by omega) (by decide)]; omega) lf eh (f ▸ F.f37)
  rw [C]
  have R := B370_18 F.c56 F.l103 F.l105 F.l305 F.l77 F.l78 F.l81 F.l81' (f ▸ F.l75)
  obtain ⟨t, n, t1, eb, n0, n4, pl4, ph, ⟨j0, j1, j2⟩, fc, er, el⟩ := FS_18 fs
  have w500 : nH g0 ≤ 500 := by have := F.hx; have w : nH g ≤ 500 := F.m.k.2.2.2.2.1.1.2; rw [m_nH F.ar] at w; exact w
  have L : LPt g0 (prt g0 x) n := ⟨pl4, n0, n4, fun i z hi hz => by
    rcases ph (4 * i + z) (by omega) with q | ⟨y, y1, y2⟩
    · exact Or.inl q
    · exact Or.inr ⟨y, y1, y2, by show tn (at0 (prt g0 x) (4 * i + z)) = y; rw [y2]; exact tnI (by omega), by show at0 (prt g0 x) (4 * i + z) ≠ -1; rw [y2]; exact I3_m1 (by omega)⟩⟩
  have fa : ∀ i, i < n → (pt (prt g0 x) i 2 ≠ -1 → hrs g0 (tn (pt (prt g0 x) i 2)) = 1) ∧ (pt (prt g0 x) i 3 ≠ -1 → hrs g0 (tn (pt (prt g0 x) i 3)) = hrs g0 x) ∧ ∀ z, 1 ≤ z → z < 4 → pt (prt g0 x) i z ≠ -1 → pre (hpl g0 (tn (pt (prt g0 x) i z))) (vrs g0 (prt g0 x) n ++ hpl g0 x) := fun i hi => by
    obtain ⟨q1, q2, q3, q4, q5, q6⟩ := fc i hi
    refine ⟨q3, fun z => by rw [er]; exact q4 z, fun z z1 z2 z3 => by rw [el]; exact q6 z z1 z2 z3⟩
  have fb : ∀ i, i < n → (pt (prt g0 x) i 0 ≠ -1 → pt (prt g0 x) i 1 ≠ -1 → hrs g0 (tn (pt (prt g0 x) i 0)) = hrs g0 (tn (pt (prt g0 x) i 1))) ∧ (pt (prt g0 x) i 0 ≠ -1 → pre (hpl g0 (tn (pt (prt g0 x) i 0))) (hpl g0 x)) := fun i hi => by
    obtain ⟨q1, q2, q3, q4, q5, q6⟩ := fc i hi
    exact ⟨q1, fun z => by rw [el]; exact q5 z⟩
  have a : agr (SG d (vp + vs.length)) g (sm_wI (sm_wI g 106 d 0) 107 d 0) := agr_wI (agr_wI agr_rfl (by unfold SG; omega)) (by unfold SG; omega)
  have F1 := Fr_g F a
  have V : LV d vp (vrs g0 (prt g0 x) 0) vs [] h (sm_wI (sm_wI g 106 d 0) 107 d 0) := ⟨(fun i hi => by cases hi), (fun i hi => by cases hi), tyV_0 _, by show (if d = d then (0 : Int32) else g.1 106 d) = _; rw [if_pos rfl]; rfl⟩
  obtain ⟨u, e1, e2⟩ := loop_init IH L fa fb j1 j2 n 0 1000000 0 (s + 1) [] h _ (by omega) (by omega) F1 c59 V (by show (if d = d then (0 : Int32) else (sm_wI g 106 d 0).1 107 d) = _; rw [if_pos rfl]; rfl)
  refine Ends_step (step_enter (by omega) F.c64 F.c56 c63 ?_) ?_ (u' := u)
  · rw [R, stI_I d1 (by decide)]; simp only [obs]
    rw [stI_I d1 (by decide)]; simp only [obs]
    rw [F1.l371, e1]; rfl
  · exact e2
