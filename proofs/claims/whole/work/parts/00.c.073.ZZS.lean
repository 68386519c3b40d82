theorem a32and (a b : Int64) : (a &&& b).toInt32 = a.toInt32 &&& b.toInt32 := by
  rw [← Int32.toBitVec_inj]
  show (a.toBitVec &&& b.toBitVec).signExtend 32 = a.toBitVec.signExtend 32 &&& b.toBitVec.signExtend 32
  rw [BitVec.signExtend_and]
theorem a64and (a b : Int32) : (a &&& b).toInt64 = a.toInt64 &&& b.toInt64 := by
  rw [← Int64.toBitVec_inj]
  show (a.toBitVec &&& b.toBitVec).signExtend 64 = a.toBitVec.signExtend 64 &&& b.toBitVec.signExtend 64
  rw [BitVec.signExtend_and]
theorem divm1 (x : Int64) : x / (-1) = -x := by
  rw [← Int64.toInt_inj, Int64.toInt_div, show (-1 : Int64).toInt = -1 from rfl, Int.tdiv_neg, Int.tdiv_one, Int64.toInt_neg]
theorem remm1 (x : Int64) : x - x / (-1) * (-1) = 0 := by
  rw [divm1, ← Int64.toBitVec_inj]
  show x.toBitVec - (-x.toBitVec) * (-1#64) = 0#64
  rw [BitVec.mul_neg, BitVec.mul_one, BitVec.neg_neg, BitVec.sub_self]
theorem and31 (y : Int64) : (y &&& Int32.toInt64 31).toInt32 &&& 31 = y.toInt32 &&& 31 := by
  rw [a32and, show (Int32.toInt64 31).toInt32 = 31 from rfl, Int32.and_assoc, Int32.and_self]
theorem and63 (y : Int64) : ((y &&& Int32.toInt64 63).toInt32).toInt64 &&& 63 = y.toInt32.toInt64 &&& 63 := by
  rw [a32and, show (Int32.toInt64 63).toInt32 = 63 from rfl, a64and, show (Int32.toInt64 63) = 63 from rfl, Int64.and_assoc, Int64.and_self]
theorem and31u (y : Int64) : Int32.toUInt32 (y &&& Int32.toInt64 31).toInt32 &&& Int32.toUInt32 31 = Int32.toUInt32 y.toInt32 &&& Int32.toUInt32 31 := congrArg Int32.toUInt32 (and31 y)
theorem and63u (y : Int64) : (((y &&& Int32.toInt64 63).toInt32).toInt64).toUInt64 &&& Int64.toUInt64 63 = (y.toInt32.toInt64).toUInt64 &&& Int64.toUInt64 63 := congrArg Int64.toUInt64 (and63 y)
theorem run_32 {rec : Int32 → Int32 → sm_H → Option (Int32 × sm_H)} {d fuel s x vp : Nat} {vs : List Val} {h0 g0 h g : sm_H} (IH : CallOK (d + 1) rec) (F : Fr d fuel s x vp vs h0 g0 h g 0 (s + 1)) (c63 : g.1 67 63 = 0) (c59 : g.1 67 59 = I3 (vp + vs.length)) (eh : sm_wI h0 49 8 (h0.1 49 8 + 1) = h) (lf : h0.1 49 8 < h0.1 49 7) (f : fm g0 x = 32) : Ends d fuel s vp (tn (hrs g0 x)) h0 g0 0 (F_82R rec (I3 x) (I3 d) h0) g := by
  have d1 := F.d1
  have v10 := F.v10
  have x500 := F.x500
  have vl := F.vl
  have vx := F.vx
  have fs := F.fs0
  rw [f] at fs
  have C := B82_32 (rec := rec) (x1 := I3 x) (x2 := I3 d) (by rw [I3_lit, I3_lt (by omega) (by decide)]; omega) lf eh (f ▸ F.f37)
  rw [C]
  have R := B370_32 F.c56 F.l103 F.l105 F.l305 F.l77 F.l78 F.l81 F.l81' (f ▸ F.l75)
  obtain ⟨ep, er, el⟩ := FS_32 fs
  have h12 := F.m.k.1.2.1
  have v2 : 1 < vs.length := by rw [vx, el]; exact Nat.lt_succ_self 1
  have ok0 := F.ty.2 0 (by omega)
  have ok1 := F.ty.2 1 v2
  rw [el, show at0 [(7 : Int32), 7] 0 = I3 7 from rfl, tnI (by decide)] at ok0
  rw [el, show at0 [(7 : Int32), 7] 1 = I3 7 from rfl, tnI (by decide)] at ok1
  have k0 : F_351 0 g = _ := F.k351 (i := 0) (by omega)
  have k1 : F_351 1 g = _ := F.k351 (i := 1) v2
  have n0 : F_352 0 g = _ := F.k352 (i := 0) (by omega)
  have n1 : F_352 1 g = _ := F.k352 (i := 1) v2
  have c0 : F_77 (I3 d) 0 h = _ := F.c77 (i := 0) (by omega)
  have c1 : F_77 (I3 d) 1 h = _ := F.c77 (i := 1) v2
  have t0 : F_78 (I3 d) 0 h = _ := F.c78 (i := 0) (by omega)
  have t1 : F_78 (I3 d) 1 h = _ := F.c78 (i := 1) v2
  have o0 := okV_7 F.m.k.1 (by decide) ok0
  have o1 := okV_7 F.m.k.1 (by decide) ok1
  have te : (tag (atv vs 0).1 = tag (atv vs 1).1) = ((atv vs 0).1 = (atv vs 1).1) := by
    rcases o0 with ⟨a, b⟩ | ⟨q, -, -, -, -, -, a, b⟩ <;> rcases o1 with ⟨a', b'⟩ | ⟨q', -, -, -, -, -, a', b'⟩
    · rw [a, a']; exact propext ⟨fun _ => rfl, fun _ => rfl⟩
    · rw [b, a', a]
    · rw [b', a, a']
    · rw [a, a']
  have go : ∀ b : Bool, F_102 (I3 x) (I3 d) h = F_102_426 (b2 b).toInt64 h → F_370 g = (F_345 1 (b2 b).toInt64 g).bind (fun q => some q) → Ends d fuel s vp (tn (hrs g0 x)) h0 g0 0 (F_82_367 rec (I3 x) (I3 d) h) g := fun b z1 z2 => by
    obtain ⟨u, h', e1, e2, e3⟩ := Fr_give (rk := tn (hrs g0 x)) F 1 (b2 b).toInt64 (by
      rw [er, show tn (1 : Int32) = 1 from rfl]
      refine Or.inl ⟨by decide, by decide, rfl, ⟨fun _ => by (cases b; exact Or.inl rfl; exact Or.inr rfl), (fun z => by cases z), (fun z => by cases z), (fun z => by cases z), (fun z => by cases z)⟩⟩)
    have CC : F_82_367 rec (I3 x) (I3 d) h = some (0, h') := by
      unfold F_82_367
      rw [bind_id, z1]
      unfold F_102_426
      rw [show F_75 (b2 b).toInt64 0 h = some (0, h') from e2]; rfl
    rw [CC]
    refine Ends_step (step_enter (by omega) F.c64 F.c56 c63 ?_) e3
    rw [z2, e1]; rfl
  have C103 : F_103 (I3 d) h = some (b2 (decide ((atv vs 0).2 = (atv vs 1).2) && decide ((atv vs 0).1 = (atv vs 1).1)), h) := by
    show F_103_0 (I3 d) h = _
    unfold F_103_0 F_103_35 F_103_36
    simp only [true_or, or_true, if_true]
    rw [c0]; simp only [obs]
    rw [c1]; simp only [obs, cmp_eq]
    by_cases q : (atv vs 0).2 = (atv vs 1).2
    · rw [if_pos q, decide_eq_true q, t0]; simp only [obs]
      rw [t1]; simp only [obs, te]
      by_cases q1 : (atv vs 0).1 = (atv vs 1).1
      · rw [if_pos q1, decide_eq_true q1]; rfl
      · rw [if_neg q1, decide_eq_false q1]; rfl
    · rw [if_neg q, decide_eq_false q]; rfl
  have C0 := B102_32 (x2 := I3 d) (F.f38) (f ▸ F.f37)
  rw [C103] at C0; simp only [obs] at C0
  refine go (decide ((atv vs 0).2 = (atv vs 1).2) && decide ((atv vs 0).1 = (atv vs 1).1)) ?_ ?_
  · rw [C0]
    cases decide ((atv vs 0).2 = (atv vs 1).2) && decide ((atv vs 0).1 = (atv vs 1).1) <;> rfl
  · rw [R, k0]; simp only [obs]
    rw [k1]; simp only [obs]
    unfold F_370_877 F_370_881 F_370_882
    by_cases q1 : (atv vs 0).1 = (atv vs 1).1
    · rw [if_pos q1, k0, decide_eq_true q1, Bool.and_true]; simp only [obs]
      by_cases q0 : (atv vs 0).1 = 0
      · rw [if_pos q0]
        have e0 : (atv vs 0).2 = 0 := by
          rcases o0 with ⟨a, b⟩ | ⟨q, -, -, -, -, -, a, b⟩
          · rw [a]
          · exact absurd q0 b
        have e1 : (atv vs 1).2 = 0 := by
          rcases o1 with ⟨a, b⟩ | ⟨q, -, -, -, -, -, a, b⟩
          · rw [a]
          · exact absurd (q1.symm.trans q0) b
        rw [e0, e1]; rfl
      · rw [if_neg q0, n0]; simp only [obs]
        rw [n1]; simp only [obs, cmp_eq]
        by_cases q2 : (atv vs 0).2 = (atv vs 1).2
        · rw [if_pos q2, decide_eq_true q2]; rfl
        · rw [if_neg q2, decide_eq_false q2]; rfl
    · rw [if_neg q1, decide_eq_false q1, Bool.and_false]; rfl
def opV (a : Nat) (l : Bool) (x y : Int64) : Int64 :=
  if a = 0 then x + y else if a = 1 then x - y else if a = 2 then x * y else if a = 3 then x / y else if a = 4 then x - x / y * y else if a = 5 then x &&& y else if a = 6 then x ||| y else if a = 7 then x ^^^ y
  else if a = 8 then (if l = false then Int32.toInt64 (x.toInt32 <<< (y.toInt32 &&& 31)) else x <<< (y.toInt32.toInt64 &&& 63))
  else if a = 9 then (if l = false then Int32.toInt64 (x.toInt32 >>> (y.toInt32 &&& 31)) else x >>> (y.toInt32.toInt64 &&& 63))
  else (if l = false then Int32.toInt64 (Int32.toUInt32 x.toInt32 >>> (Int32.toUInt32 y.toInt32 &&& Int32.toUInt32 31)).toInt32 else (Int64.toUInt64 x >>> ((y.toInt32.toInt64).toUInt64 &&& Int64.toUInt64 63)).toInt64)
theorem opV_0 (l : Bool) (x y : Int64) : opV 0 l x y = x + y := by
  unfold opV
  rw [if_pos rfl]
theorem opV_1 (l : Bool) (x y : Int64) : opV 1 l x y = x - y := by
  unfold opV
  rw [if_neg (by decide), if_pos rfl]
theorem opV_2 (l : Bool) (x y : Int64) : opV 2 l x y = x * y := by
  unfold opV
  rw [if_neg (by decide), if_neg (by decide), if_pos rfl]
theorem opV_3 (l : Bool) (x y : Int64) : opV 3 l x y = x / y := by
  unfold opV
  rw [if_neg (by decide), if_neg (by decide), if_neg (by decide), if_pos rfl]
theorem opV_4 (l : Bool) (x y : Int64) : opV 4 l x y = x - x / y * y := by
  unfold opV
  rw [if_neg (by decide), if_neg (by decide), if_neg (by decide), if_neg (by decide), if_pos rfl]
theorem opV_5 (l : Bool) (x y : Int64) : opV 5 l x y = x &&& y := by
  unfold opV
  rw [if_neg (by decide), if_neg (by decide), if_neg (by decide), if_neg (by decide), if_neg (by decide), if_pos rfl]
theorem opV_6 (l : Bool) (x y : Int64) : opV 6 l x y = x ||| y := by
  unfold opV
  rw [if_neg (by decide), if_neg (by decide), if_neg (by decide), if_neg (by decide), if_neg (by decide), if_neg (by decide), if_pos rfl]
theorem opV_7 (l : Bool) (x y : Int64) : opV 7 l x y = x ^^^ y := by
  unfold opV
  rw [if_neg (by decide), if_neg (by decide), if_neg (by decide), if_neg (by decide), if_neg (by decide), if_neg (by decide), if_neg (by decide), if_pos rfl]
theorem opV_8 (l : Bool) (x y : Int64) : opV 8 l x y = (if l = false then Int32.toInt64 (x.toInt32 <<< (y.toInt32 &&& 31)) else x <<< (y.toInt32.toInt64 &&& 63)) := by
  unfold opV
  rw [if_neg (by decide), if_neg (by decide), if_neg (by decide), if_neg (by decide), if_neg (by decide), if_neg (by decide), if_neg (by decide), if_neg (by decide), if_pos rfl]
theorem opV_9 (l : Bool) (x y : Int64) : opV 9 l x y = (if l = false then Int32.toInt64 (x.toInt32 >>> (y.toInt32 &&& 31)) else x >>> (y.toInt32.toInt64 &&& 63)) := by
  unfold opV
  rw [if_neg (by decide), if_neg (by decide), if_neg (by decide), if_neg (by decide), if_neg (by decide), if_neg (by decide), if_neg (by decide), if_neg (by decide), if_neg (by decide), if_pos rfl]
theorem opV_10 (l : Bool) (x y : Int64) : opV 10 l x y = (if l = false then Int32.toInt64 (Int32.toUInt32 x.toInt32 >>> (Int32.toUInt32 y.toInt32 &&& Int32.toUInt32 31)).toInt32 else (Int64.toUInt64 x >>> ((y.toInt32.toInt64).toUInt64 &&& Int64.toUInt64 63)).toInt64) := by
  unfold opV
  rw [if_neg (by decide), if_neg (by decide), if_neg (by decide), if_neg (by decide), if_neg (by decide), if_neg (by decide), if_neg (by decide), if_neg (by decide), if_neg (by decide), if_neg (by decide)]
theorem C_op (h : sm_H) {a : Nat} (ha : a ≤ 10) (l : Bool) (x y : Int64) (nz : (a = 3 ∨ a = 4) → y ≠ 0) : F_104_71 (I3 a) (b2 l) x y h = F_104_98 (b2 l) (opV a l x y) h := by
  unfold F_104_71
  rcases (show a = 0 ∨ a = 1 ∨ a = 2 ∨ a = 3 ∨ a = 4 ∨ a = 5 ∨ a = 6 ∨ a = 7 ∨ a = 8 ∨ a = 9 ∨ a = 10 by omega) with rfl | rfl | rfl | rfl | rfl | rfl | rfl | rfl | rfl | rfl | rfl
  · rw [if_pos (by decide), show F_105 (I3 0) x y h = F_105_0 (I3 0) x y h from rfl]
    unfold F_105_0
    rw [if_pos (by decide)]; simp only [obs]
    rw [opV_0]
  · rw [if_pos (by decide), show F_105 (I3 1) x y h = F_105_0 (I3 1) x y h from rfl]
    unfold F_105_0
    rw [if_neg (by decide), if_pos (by decide)]; simp only [obs]
    rw [opV_1]
  · rw [if_pos (by decide), show F_105 (I3 2) x y h = F_105_0 (I3 2) x y h from rfl]
    unfold F_105_0
    rw [if_neg (by decide), if_neg (by decide), if_pos (by decide)]; simp only [obs]
    rw [opV_2]
  · have z := nz (Or.inl rfl)
    rw [if_pos (by decide), show F_105 (I3 3) x y h = F_105_0 (I3 3) x y h from rfl]
    unfold F_105_0 F_105_74
    rw [if_neg (by decide), if_neg (by decide), if_neg (by decide), if_pos (by decide), if_neg (by rw [cmp_eq]; exact z), if_neg z]; simp only [obs]
    rw [opV_3]
  · have z := nz (Or.inr rfl)
    rw [if_pos (by decide), show F_105 (I3 4) x y h = F_105_0 (I3 4) x y h from rfl]
    unfold F_105_0 F_105_90
    rw [if_neg (by decide), if_neg (by decide), if_neg (by decide), if_neg (by decide), if_pos (by decide), if_neg (by rw [cmp_eq]; exact z), if_neg z]; simp only [obs]
    rw [opV_4]
  · rw [if_pos (by decide), show F_105 (I3 5) x y h = F_105_0 (I3 5) x y h from rfl]
    unfold F_105_0
    rw [if_neg (by decide), if_neg (by decide), if_neg (by decide), if_neg (by decide), if_neg (by decide), if_pos (by decide)]; simp only [obs]
    rw [opV_5]
  · rw [if_pos (by decide), show F_105 (I3 6) x y h = F_105_0 (I3 6) x y h from rfl]
    unfold F_105_0
    rw [if_neg (by decide), if_neg (by decide), if_neg (by decide), if_neg (by decide), if_neg (by decide), if_neg (by decide), if_pos (by decide)]; simp only [obs]
    rw [opV_6]
  · rw [if_pos (by decide), show F_105 (I3 7) x y h = F_105_0 (I3 7) x y h from rfl]
    unfold F_105_0
    rw [if_neg (by decide), if_neg (by decide), if_neg (by decide), if_neg (by decide), if_neg (by decide), if_neg (by decide), if_neg (by decide)]; simp only [obs]
    rw [opV_7]
  · rw [if_neg (by decide), show F_106 (I3 8) (b2 l) x y.toInt32 h = F_106_0 (I3 8) (b2 l) x y.toInt32 h from rfl]
    unfold F_106_0 F_106_45
    rw [opV_8, if_pos (by decide)]
    cases l with
    | false => rw [if_pos (by decide), if_pos rfl]; simp only [obs]
    | true => rw [if_neg (by decide), if_neg (by decide)]; simp only [obs]
  · rw [if_neg (by decide), show F_106 (I3 9) (b2 l) x y.toInt32 h = F_106_0 (I3 9) (b2 l) x y.toInt32 h from rfl]
    unfold F_106_0 F_106_63
    rw [opV_9, if_neg (by decide), if_pos (by decide)]
    cases l with
    | false => rw [if_pos (by decide), if_pos rfl]; simp only [obs]
    | true => rw [if_neg (by decide), if_neg (by decide)]; simp only [obs]
  · rw [if_neg (by decide), show F_106 (I3 10) (b2 l) x y.toInt32 h = F_106_0 (I3 10) (b2 l) x y.toInt32 h from rfl]
    unfold F_106_0 F_106_81
    rw [opV_10, if_neg (by decide), if_neg (by decide)]
    cases l with
    | false => rw [if_pos (by decide), if_pos rfl]; simp only [obs]
    | true => rw [if_neg (by decide), if_neg (by decide)]; simp only [obs]
theorem R_op (h : sm_H) {a : Nat} (ha : a ≤ 10) (l : Bool) (x y : Int64) (nz : (a = 3 ∨ a = 4) → y ≠ 0) : F_354 (I3 a) (b2 l) x y h = some (opV a l x y, h) := by
  have s31 := and31 y
  have s63 := and63 y
  have u31 := and31u y
  have u63 := and63u y
  have key : ∀ z0, (l = false → z0 = 31) → (l = true → z0 = 63) → F_354_11 (I3 a) (b2 l) x y z0 h = some (opV a l x y, h) := fun z0 z1 z2 => by
    unfold F_354_11
    rcases (show a = 0 ∨ a = 1 ∨ a = 2 ∨ a = 3 ∨ a = 4 ∨ a = 5 ∨ a = 6 ∨ a = 7 ∨ a = 8 ∨ a = 9 ∨ a = 10 by omega) with rfl | rfl | rfl | rfl | rfl | rfl | rfl | rfl | rfl | rfl | rfl
    · rw [opV_0, if_pos (by decide)]
    · rw [opV_1, if_neg (by decide), if_pos (by decide)]
    · rw [opV_2, if_neg (by decide), if_neg (by decide), if_pos (by decide)]
    · have z := nz (Or.inl rfl)
      rw [opV_3, if_neg (by decide), if_neg (by decide), if_neg (by decide), if_pos (by decide)]
      unfold F_354_109
      by_cases q : y = -1
      · rw [if_pos (by rw [cmp_eq]; exact q), q, divm1]
      · rw [if_neg (by rw [cmp_eq]; exact q), if_neg z]
    · have z := nz (Or.inr rfl)
      rw [opV_4, if_neg (by decide), if_neg (by decide), if_neg (by decide), if_neg (by decide), if_pos (by decide)]
      unfold F_354_127
      by_cases q : y = -1
      · rw [if_pos (by rw [cmp_eq]; exact q), q, remm1]
      · rw [if_neg (by rw [cmp_eq]; exact q), if_neg z]
    · rw [opV_5, if_neg (by decide), if_neg (by decide), if_neg (by decide), if_neg (by decide), if_neg (by decide), if_pos (by decide)]
    · rw [opV_6, if_neg (by decide), if_neg (by decide), if_neg (by decide), if_neg (by decide), if_neg (by decide), if_neg (by decide), if_pos (by decide)]
    · rw [opV_7, if_neg (by decide), if_neg (by decide), if_neg (by decide), if_neg (by decide), if_neg (by decide), if_neg (by decide), if_neg (by decide), if_pos (by decide)]
    · rw [opV_8, if_neg (by decide), if_neg (by decide), if_neg (by decide), if_neg (by decide), if_neg (by decide), if_neg (by decide), if_neg (by decide), if_neg (by decide), if_pos (by decide)]
      unfold F_354_170
      cases l with
      | false => rw [z1 rfl, if_pos (by decide), if_pos rfl, s31]
      | true => rw [z2 rfl, if_neg (by decide), if_neg (by decide), s63]
    · rw [opV_9, if_neg (by decide), if_neg (by decide), if_neg (by decide), if_neg (by decide), if_neg (by decide), if_neg (by decide), if_neg (by decide), if_neg (by decide), if_neg (by decide), if_pos (by decide)]
      unfold F_354_198
      cases l with
      | false => rw [z1 rfl, if_pos (by decide), if_pos rfl, s31]
      | true => rw [z2 rfl, if_neg (by decide), if_neg (by decide), s63]
    · rw [opV_10, if_neg (by decide), if_neg (by decide), if_neg (by decide), if_neg (by decide), if_neg (by decide), if_neg (by decide), if_neg (by decide), if_neg (by decide), if_neg (by decide), if_neg (by decide), if_pos (by decide)]
      unfold F_354_226
      cases l with
      | false => rw [z1 rfl, if_pos (by decide), if_pos rfl, u31]
      | true => rw [z2 rfl, if_neg (by decide), if_neg (by decide), u63]
  show F_354_0 (I3 a) (b2 l) x y h = _
  unfold F_354_0
  cases l with
  | false => rw [if_pos (by decide)]; exact key 31 (fun _ => rfl) (fun z => by cases z)
  | true => rw [if_neg (by decide)]; exact key 63 (fun z => by cases z) (fun _ => rfl)
theorem run_3 {rec : Int32 → Int32 → sm_H → Option (Int32 × sm_H)} {d fuel s x vp : Nat} {vs : List Val} {h0 g0 h g : sm_H} (IH : CallOK (d + 1) rec) (F : Fr d fuel s x vp vs h0 g0 h g 0 (s + 1)) (c63 : g.1 67 63 = 0) (c59 : g.1 67 59 = I3 (vp + vs.length)) (eh : sm_wI h0 49 8 (h0.1 49 8 + 1) = h) (lf : h0.1 49 8 < h0.1 49 7) (f : fm g0 x = 3) : Ends d fuel s vp (tn (hrs g0 x)) h0 g0 0 (F_82R rec (I3 x) (I3 d) h0) g := by
  have d1 := F.d1
  have v10 := F.v10
  have x500 := F.x500
  have vl := F.vl
  have vx := F.vx
  have fs := F.fs0
  rw [f] at fs
  have C := B82_3 (rec := rec) (x1 := I3 x) (x2 := I3 d) (by rw [I3_lit, I3_lt (by omega) (by decide)]; omega) lf eh (f ▸ F.f37)
  rw [C]
  have R := B370_3 F.c56 F.l103 F.l105 F.l305 F.l77 F.l78 F.l81 F.l81' (f ▸ F.l75)
  obtain ⟨ep, el, o, w, o12, ea, w56, eb, er⟩ := FS_3 fs
  have v2 : 1 < vs.length := by rw [vx, el]; exact Nat.lt_succ_self 1
  have n0 : F_352 0 g = _ := F.k352 (i := 0) (by omega)
  have n1 : F_352 1 g = _ := F.k352 (i := 1) v2
  have c0 : F_77 (I3 d) 0 h = _ := F.c77 (i := 0) (by omega)
  have c1 : F_77 (I3 d) 1 h = _ := F.c77 (i := 1) v2
  generalize (atv vs 0).2 = p at *
  generalize (atv vs 1).2 = q at *
  have C0 := B102_3 (x2 := I3 d) (F.f38) (f ▸ F.f37)
  rw [F.f39, ea, eb] at C0; simp only [obs] at C0
  have C1 : F_82_367 rec (I3 x) (I3 d) h = F_104_0 (I3 o) (b2 (decide (w = 6))) p q h := by
    unfold F_82_367
    rw [bind_id, C0]
    have e : ∀ b : Bool, F_102_267 (I3 d) (I3 o) (b2 b) h = F_104_0 (I3 o) (b2 b) p q h := fun b => by
      unfold F_102_267
      rw [c0]; simp only [obs]
      rw [c1]; simp only [obs]
      rw [bind_id]
    rcases w56 with rfl | rfl
    · rw [if_neg (by decide)]; exact e false
    · rw [if_pos (by decide)]; exact e true
  rw [C1]
  have R1 : F_370 g = (if (lg_cmp q 0) = 0 then (if I3 o = 3 then (F_355_30 g) else (if I3 o = 4 then (F_355_30 g) else (F_355_36 (I3 o) (I3 w) p q g))) else (F_355_36 (I3 o) (I3 w) p q g)) := by
    rw [R, ea, eb, bind_id1, show F_355 (I3 o) (I3 w) g = F_355_0 (I3 o) (I3 w) g from rfl]
    unfold F_355_0
    rw [n0]; simp only [obs]
    rw [n1]; simp only [obs]
  have R36 : F_355_36 (I3 o) (I3 w) p q g = F_355_48 (I3 o) (I3 w) p q (I3 o) (b2 (decide (w = 6))) g := by
    unfold F_355_36
    rcases w56 with rfl | rfl
    · rw [if_neg (by decide)]; rfl
    · rw [if_pos (by decide)]; rfl
  have give : ∀ (k : Int32) (n : Int64), tag k = 0 → okV g (tn (hrs g0 x)) k n → ∃ u h', F_345 k n g = some u ∧ F_75 n 0 h = some (0, h') ∧ Ends d fuel s vp (tn (hrs g0 x)) h0 g0 (0 + 1) (some (0, h')) u := fun k n tk ok => by
    obtain ⟨u, h', e1, e2, e3⟩ := Fr_give (rk := tn (hrs g0 x)) F k n ok
    rw [tk] at e2
    exact ⟨u, h', e1, e2, e3⟩
  by_cases q11 : 11 ≤ o
  · have rz : tn (hrs g0 x) = 1 := by rw [er, if_pos (by omega)]; rfl
    have gz : ∀ b : Bool, F_104_0 (I3 o) (b2 (decide (w = 6))) p q h = ((F_75 (b2 b).toInt64 0 h).bind fun q6 => some (q6.1, q6.2)) → F_370 g = ((F_345 1 (b2 b).toInt64 g).bind fun q3 => F_355_91 q3) → Ends d fuel s vp (tn (hrs g0 x)) h0 g0 0 (F_104_0 (I3 o) (b2 (decide (w = 6))) p q h) g := fun b z1 z2 => by
      obtain ⟨u, h', e1, e2, e3⟩ := give 1 (b2 b).toInt64 (by decide) (by
        rw [rz]
        refine Or.inl ⟨by decide, by decide, rfl, ⟨fun _ => by (cases b; exact Or.inl rfl; exact Or.inr rfl), (fun z => by cases z), (fun z => by cases z), (fun z => by cases z), (fun z => by cases z)⟩⟩)
      rw [z1, e2]
      refine Ends_step (step_enter (by omega) F.c64 F.c56 c63 ?_) e3
      rw [z2, e1]; rfl
    have Rn : F_370 g = F_355_48 (I3 o) (I3 w) p q (I3 o) (b2 (decide (w = 6))) g := by
      rw [R1, if_neg (show ¬ I3 o = 3 by rw [I3_lit, I3_inj (by omega) (by decide)]; omega), if_neg (show ¬ I3 o = 4 by rw [I3_lit, I3_inj (by omega) (by decide)]; omega), ite_self, R36]
    have R48 : ∀ n, F_354 (I3 o) (b2 (decide (w = 6))) p q g = some (n, g) → F_370 g = ((F_345 1 n g).bind fun q3 => F_355_91 q3) := fun n hn => by
      rw [Rn]
      unfold F_355_48
      rw [hn]; simp only [obs]
      rw [if_neg (by rw [I3_lit, I3_le (by omega) (by decide)]; omega)]
    rcases (show o = 11 ∨ o = 12 by omega) with rfl | rfl
    · have R354 : F_354 (I3 11) (b2 (decide (w = 6))) p q g = (if 0 ≤ (lg_cmp p q) then (F_354_239 0 g) else (F_354_239 1 g)) := by
        have key : ∀ z0, F_354_11 (I3 11) (b2 (decide (w = 6))) p q z0 g = (if 0 ≤ (lg_cmp p q) then (F_354_239 0 g) else (F_354_239 1 g)) := fun z0 => by
          unfold F_354_11
          rw [if_neg (by decide), if_neg (by decide), if_neg (by decide), if_neg (by decide), if_neg (by decide), if_neg (by decide), if_neg (by decide), if_neg (by decide), if_neg (by decide), if_neg (by decide), if_neg (by decide), if_pos (by decide)]
        show F_354_0 (I3 11) (b2 (decide (w = 6))) p q g = _
        unfold F_354_0
        split
        · exact key _
        · exact key _
      have C104 : F_104_0 (I3 11) (b2 (decide (w = 6))) p q h = (if 0 ≤ (lg_cmp p q) then (F_104_19 0 h) else (F_104_19 1 h)) := by
        unfold F_104_0; rw [if_pos (by decide)]
      by_cases z : 0 ≤ lg_cmp p q
      · rw [if_pos z] at R354 C104
        exact gz false C104 (R48 0 R354)
      · rw [if_neg z] at R354 C104
        exact gz true C104 (R48 1 R354)
    · have R354 : F_354 (I3 12) (b2 (decide (w = 6))) p q g = (if (lg_cmp p q) = 0 then (F_354_252 1 g) else (F_354_252 0 g)) := by
        have key : ∀ z0, F_354_11 (I3 12) (b2 (decide (w = 6))) p q z0 g = (if (lg_cmp p q) = 0 then (F_354_252 1 g) else (F_354_252 0 g)) := fun z0 => by
          unfold F_354_11
          rw [if_neg (by decide), if_neg (by decide), if_neg (by decide), if_neg (by decide), if_neg (by decide), if_neg (by decide), if_neg (by decide), if_neg (by decide), if_neg (by decide), if_neg (by decide), if_neg (by decide), if_neg (by decide)]
        show F_354_0 (I3 12) (b2 (decide (w = 6))) p q g = _
        unfold F_354_0
        split
        · exact key _
        · exact key _
      have C104 : F_104_0 (I3 12) (b2 (decide (w = 6))) p q h = (if (lg_cmp p q) = 0 then (F_104_43 1 h) else (F_104_43 0 h)) := by
        unfold F_104_0; rw [if_neg (by decide), if_pos (by decide)]
      by_cases z : lg_cmp p q = 0
      · rw [if_pos z] at R354 C104
        exact gz true C104 (R48 1 R354)
      · rw [if_neg z] at R354 C104
        exact gz false C104 (R48 0 R354)
  · have o10 : o ≤ 10 := by omega
    have rw' : hrs g0 x = I3 w := by rw [er, if_neg (by omega), eb]
    have rk : tn (hrs g0 x) = w := by rw [rw', tnI (by omega)]
    have C104 : F_104_0 (I3 o) (b2 (decide (w = 6))) p q h = if (o = 3 ∨ o = 4) ∧ q = 0 then ((F_76 3 h).bind fun q4 => some (q4.1, q4.2)) else F_104_71 (I3 o) (b2 (decide (w = 6))) p q h := by
      unfold F_104_0 F_104_58
      rw [if_neg (by rw [I3_lit, I3_inj (by omega) (by decide)]; omega), if_neg (by rw [I3_lit, I3_inj (by omega) (by decide)]; omega)]
      simp only [cmp_eq]
      by_cases q3 : o = 3
      · rw [if_pos (show I3 o = 3 from congrArg I3 q3)]
        by_cases z : q = 0
        · rw [if_pos z, if_pos ⟨Or.inl q3, z⟩]
        · rw [if_neg z, if_neg (fun y => z y.2)]
      · rw [if_neg (show ¬ I3 o = 3 by rw [I3_lit, I3_inj (by omega) (by decide)]; exact q3)]
        by_cases q4 : o = 4
        · rw [if_pos (show I3 o = 4 from congrArg I3 q4)]
          by_cases z : q = 0
          · rw [if_pos z, if_pos ⟨Or.inr q4, z⟩]
          · rw [if_neg z, if_neg (fun y => z y.2)]
        · rw [if_neg (show ¬ I3 o = 4 by rw [I3_lit, I3_inj (by omega) (by decide)]; exact q4), if_neg (fun y => by omega)]
    have R2 : F_370 g = if (o = 3 ∨ o = 4) ∧ q = 0 then F_355_30 g else F_355_48 (I3 o) (I3 w) p q (I3 o) (b2 (decide (w = 6))) g := by
      rw [R1, R36]
      simp only [cmp_eq]
      by_cases z : q = 0
      · rw [if_pos z]
        by_cases q3 : o = 3
        · rw [if_pos (show I3 o = 3 from congrArg I3 q3), if_pos ⟨Or.inl q3, z⟩]
        · rw [if_neg (show ¬ I3 o = 3 by rw [I3_lit, I3_inj (by omega) (by decide)]; exact q3)]
          by_cases q4 : o = 4
          · rw [if_pos (show I3 o = 4 from congrArg I3 q4), if_pos ⟨Or.inr q4, z⟩]
          · rw [if_neg (show ¬ I3 o = 4 by rw [I3_lit, I3_inj (by omega) (by decide)]; exact q4), if_neg (fun y => by omega)]
      · rw [if_neg z, if_neg (fun y => z y.2)]
    by_cases z : (o = 3 ∨ o = 4) ∧ q = 0
    · rw [if_pos z] at C104 R2
      obtain ⟨u, h', f1, f2, f3⟩ := Fr_fail (rk := tn (hrs g0 x)) F 3
      rw [C104, f2]
      refine Ends_step (step_enter (by omega) F.c64 F.c56 c63 ?_) f3
      rw [R2]
      unfold F_355_30
      rw [f1]; rfl
    · rw [if_neg z] at C104 R2
      have nz : (o = 3 ∨ o = 4) → q ≠ 0 := fun y y' => z ⟨y, y'⟩
      rw [C104, C_op h o10 _ p q nz]
      have R3 : F_370 g = F_355_88 (I3 w) (if w = 5 then Int32.toInt64 (Int64.toInt32 (opV o (decide (w = 6)) p q)) else opV o (decide (w = 6)) p q) g := by
        rw [R2]
        unfold F_355_48
        rw [R_op g o10 _ p q nz]; simp only [obs]
        rw [if_pos (by rw [I3_lit, I3_le (by omega) (by decide)]; exact o10)]
        rcases w56 with rfl | rfl
        · rw [if_pos (by decide), if_pos rfl]
        · rw [if_neg (by decide), if_neg (by decide)]
      have C3 : F_104_98 (b2 (decide (w = 6))) (opV o (decide (w = 6)) p q) h = F_104_114 (if w = 5 then Int32.toInt64 (Int64.toInt32 (opV o (decide (w = 6)) p q)) else opV o (decide (w = 6)) p q) h := by
        unfold F_104_98
        rcases w56 with rfl | rfl
        · rw [if_pos (by decide), if_pos rfl]
        · rw [if_neg (by decide), if_neg (by decide)]
      obtain ⟨u, h', e1, e2, e3⟩ := give (I3 w) (if w = 5 then Int32.toInt64 (Int64.toInt32 (opV o (decide (w = 6)) p q)) else opV o (decide (w = 6)) p q) (tag_p (by omega) (by omega)) (by
        rw [rk]
        refine Or.inl ⟨by omega, by omega, rfl, ⟨fun y => by omega, fun y => by omega, fun y => by omega, fun y => by omega, fun y => ?_⟩⟩
        rw [if_pos y, toI64]
        have := b32 (Int64.toInt32 (opV o (decide (w = 6)) p q))
        omega)
      rw [C3]
      unfold F_104_114
      rw [e2]
      refine Ends_step (step_enter (by omega) F.c64 F.c56 c63 ?_) e3
      rw [R3]
      unfold F_355_88
      rw [e1]; rfl
