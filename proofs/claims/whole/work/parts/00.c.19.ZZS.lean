theorem a32and (a b : Int64) : (a &&& b).toInt32 = a.toInt32 &&& b.toInt32 := by
  rw [← Int32.toBitVec_inj]
  show (a.toBitVec &&& b.toBitVec).signExtend 32 = a.toBitVec.signExtend 32 &&& b.toBitVec.signExtend 32
  rw [BitVec.signExtend_and]
theorem a64and (a b : Int32) : (a &&& b).toInt64 = a.toInt64 &&& b.toInt64 := by
  rw [← Int64.toBitVec_inj]
  show (a.toBitVec &&& b.toBitVec).signExtend 64 = a.toBitVec.signExtend 64 &&& b.toBitVec.signExtend 64
  rw [BitVec.signExtend_and]
theorem divm1 (x : Int64) : x / (-1) = -x := by
  rw [← Int64.toInt_inj, Int64.toInt_div, show (-1 : Int64).toInt = -1 from rfl, Int.tdiv_neg, Int.tdiv_one, Int64.toInt_neg]
theorem remm1 (x : Int64) : x - x / (-1) * (-1) = 0 := by
  rw [divm1, ← Int64.toBitVec_inj]
  show x.toBitVec - (-x.toBitVec) * (-1#64) = 0#64
  rw [BitVec.mul_neg, BitVec.mul_one, BitVec.neg_neg, BitVec.sub_self]
theorem and31 (y : Int64) : (y &&& Int32.toInt64 31).toInt32 &&& 31 = y.toInt32 &&& 31 := by
  rw [a32and, show (Int32.toInt64 31).toInt32 = 31 from rfl, Int32.and_assoc, Int32.and_self]
theorem and63 (y : Int64) : ((y &&& Int32.toInt64 63).toInt32).toInt64 &&& 63 = y.toInt32.toInt64 &&& 63 := by
  rw [a32and, show (Int32.toInt64 63).toInt32 = 63 from rfl, a64and, show (Int32.toInt64 63) = 63 from rfl, Int64.and_assoc, Int64.and_self]
theorem and31u (y : Int64) : Int32.toUInt32 (y &&& Int32.toInt64 31).toInt32 &&& Int32.toUInt32 31 = Int32.toUInt32 y.toInt32 &&& Int32.toUInt32 31 := congrArg Int32.toUInt32 (and31 y)
theorem and63u (y : Int64) : (((y &&& Int32.toInt64 63).toInt32).toInt64).toUInt64 &&& Int64.toUInt64 63 = (y.toInt32.toInt64).toUInt64 &&& Int64.toUInt64 63 := congrArg Int64.toUInt64 (and63 y)
theorem run_32 {rec : Int32 → Int32 → sm_H → Option (Int32 × sm_H)} {d fuel s x vp : Nat} {vs : List Val} {h0 g0 h g : sm_H} (IH : CallOK (d + 1) rec) (F : Fr d fuel s x vp vs h0 g0 h g 0 (s + 1)) (c63 : g.1 67 63 = 0) (c59 : g.1 67 59 = I3 (vp + vs.length)) (eh : sm_wI h0 49 8 (h0.1 49 8 + 1) = h) (lf : h0.1 49 8 < h0.1 49 7) (f : fm g0 x = 32) : Ends d fuel s vp (tn (hrs g0 x)) h0 g0 0 (F_82R rec (I3 x) (I3 d) h0) g := by
  have d1 := F.d1
  have v10 := F.v10
  have x500 := F.x500
  have vl := F.vl
  have vx := F.vx
  have fs := F.fs0
  rw [f] at fs
  have C := B82_32 (rec := rec) (x1 := I3 x) (x2 := I3 d) (by rw [I3_lit, I3_lt (by omega) (by decide)]; omega) lf eh (f ▸ F.f37)
  rw [C]
  have R := B370_32 F.c56 F.l103 F.l105 F.l305 F.l77 F.l78 F.l81 F.l81' (f ▸ F.l75)
  obtain ⟨ep, er, el⟩ := FS_32 fs
  have h12 := F.m.k.1.2.1
  have v2 : 1 < vs.length := by rw [vx, el]; exact Nat.lt_succ_self 1
  have ok0 := F.ty.2 0 (by omega)
  have ok1 := F.ty.2 1 v2
  rw [el, show at0 [(7 : Int32), 7] 0 = I3 7 from rfl, tnI (by decide)] at ok0
  rw [el, show at0 [(7 : Int32), 7] 1 = I3 7 from rfl, tnI (by decide)] at ok1
  have k0 : F_351 0 g = _ := F.k351 (i := 0) (by omega)
  have k1 : F_351 1 g = _ := F.k351 (i := 1) v2
  have n0 : F_352 0 g = _ := F.k352 (i := 0) (by omega)
  have n1 : F_352 1 g = _ := F.k352 (i := 1) v2
  have c0 : F_77 (I3 d) 0 h = _ := F.c77 (i := 0) (by omega)
  have c1 : F_77 (I3 d) 1 h = _ := F.c77 (i := 1) v2
  have t0 : F_78 (I3 d) 0 h = _ := F.c78 (i := 0) (by omega)
  have t1 : F_78 (I3 d) 1 h = _ := F.c78 (i := 1) v2
  have o0 := okV_7 F.m.k.1 (by decide) ok0
  have o1 := okV_7 F.m.k.1 (by decide) ok1
  have te : (tag (atv vs 0).1 = tag (atv vs 1).1) = ((atv vs 0).1 = (atv vs 1).1) := by
    rcases o0 with ⟨a, b⟩ | ⟨q, -, -, -, -, -, a, b⟩ <;> rcases o1 with ⟨a', b'⟩ | ⟨q', -, -, -, -, -, a', b'⟩
    · rw [a, a']; exact propext ⟨fun _ => rfl, fun _ => rfl⟩
    · rw [b, a', a]
    · rw [b', a, a']
    · rw [a, a']
  have go : ∀ b : Bool, F_102 (I3 x) (I3 d) h = F_102_426 (b2 b).toInt64 h → F_370 g = (F_345 1 (b2 b).toInt64 g).bind (fun q => some q) → Ends d fuel s vp (tn (hrs g0 x)) h0 g0 0 (F_82_367 rec (I3 x) (I3 d) h) g := fun b z1 z2 => by
    obtain ⟨u, h', e1, e2, e3⟩ := Fr_give (rk := tn (hrs g0 x)) F 1 (b2 b).toInt64 (by
      rw [er, show tn (1 : Int32) = 1 from rfl]
      refine Or.inl ⟨by decide, by decide, rfl, ⟨fun _ => by (cases b; exact Or.inl rfl; exact Or.inr rfl), (fun z => by cases z), (fun z => by cases z), (fun z => by cases z), (fun z => by cases z)⟩⟩)
    have CC : F_82_367 rec (I3 x) (I3 d) h = some (0, h') := by
      unfold F_82_367
      rw [bind_id, z1]
      unfold F_102_426
      rw [show F_75 (b2 b).toInt64 0 h = some (0, h') from e2]; rfl
    rw [CC]
    refine Ends_step (step_enter (by omega) F.c64 F.c56 c63 ?_) e3
    rw [z2, e1]; rfl
  have C103 : F_103 (I3 d) h = some (b2 (decide ((atv vs 0).2 = (atv vs 1).2) && decide ((atv vs 0).1 = (atv vs 1).1)), h) := by
    show F_103_0 (I3 d) h = _
    unfold F_103_0 F_103_35 F_103_36
    simp only [true_or, or_true, if_true]
    rw [c0]; simp only [obs]
    rw [c1]; simp only [obs, cmp_eq]
    by_cases q : (atv vs 0).2 = (atv vs 1).2
    · rw [if_pos q, decide_eq_true q, t0]; simp only [obs]
      rw [t1]; simp only [obs, te]
      by_cases q1 : (atv vs 0).1 = (atv vs 1).1
      · rw [if_pos q1, decide_eq_true q1]; rfl
      · rw [if_neg q1, decide_eq_false q1]; rfl
    · rw [if_neg q, decide_eq_false q]; rfl
  have C0 := B102_32 (x2 := I3 d) (F.f38) (f ▸ F.f37)
  rw [C103] at C0; simp only [obs] at C0
  refine go (decide ((atv vs 0).2 = (atv vs 1).2) && decide ((atv vs 0).1 = (atv vs 1).1)) ?_ ?_
  · rw [C0]
    cases decide ((atv vs 0).2 = (atv vs 1).2) && decide ((atv vs 0).1 = (atv vs 1).1) <;> rfl
  · rw [R, k0]; simp only [obs]
    rw [k1]; simp only [obs]
    unfold F_370_877 F_370_881 F_370_882
    by_cases q1 : (atv vs 0).1 = (atv vs 1).1
    · rw [if_pos q1, k0, decide_eq_true q1, Bool.and_true]; simp only [obs]
      by_cases q0 : (atv vs 0).1 = 0
      · rw [if_pos q0]
        have e0 : (atv vs 0).2 = 0 := by
          rcases o0 with ⟨a, b⟩ | ⟨q, -, -, -, -, -, a, b⟩
          · rw [a]
          · exact absurd q0 b
        have e1 : (atv vs 1).2 = 0 := by
          rcases o1 with ⟨a, b⟩ | ⟨q, -, -, -, -, -, a, b⟩
          · rw [a]
          · exact absurd (q1.symm.trans q0) b
        rw [e0, e1]; rfl
      · rw [if_neg q0, n0]; simp only [obs]
        rw [n1]; simp only [obs, cmp_eq]
        by_cases q2 : (atv vs 0).2 = (atv vs 1).2
        · rw [if_pos q2, decide_eq_true q2]; rfl
        · rw [if_neg q2, decide_eq_false q2]; rfl
    · rw [if_neg q1, decide_eq_false q1, Bool.and_false]; rfl
def opV (a : Nat) (l : Bool) (x y : Int64) : Int64 :=
  if a = 0 then x + y else if a = 1 then x - y else if a = 2 then x * y else if a = 3 then x / y else if a = 4 then x - x / y * y else if a = 5 then x &&& y else if a = 6 then x ||| y else if a = 7 then x ^^^ y
  else if a = 8 then (if l = false then Int32.toInt64 (x.toInt32 <<< (y.toInt32 &&& 31)) else x <<< (y.toInt32.toInt64 &&& 63))
  else if a = 9 then (if l = false then Int32.toInt64 (x.toInt32 >>> (y.toInt32 &&& 31)) else x >>> (y.toInt32.toInt64 &&& 63))
  else (if l = false then Int32.toInt64 (Int32.toUInt32 x.toInt32 >>> (Int32.toUInt32 y.toInt32 &&& Int32.toUInt32 31)).toInt32 else (Int64.toUInt64 x >>> ((y.toInt32.toInt64).toUInt64 &&& Int64.toUInt64 63)).toInt64)
theorem opV_0 (l : Bool) (x y : Int64) : opV 0 l x y = x + y := by
  unfold opV
  rw [if_pos rfl]
theorem opV_1 (l : Bool) (x y : Int64) : opV 1 l x y = x - y := by
  unfold opV
  rw [if_neg (by decide), if_pos rfl]
theorem opV_2 (l : Bool) (x y : Int64) : opV 2 l x y = x * y := by
  unfold opV
  rw [if_neg (by decide), if_neg (by decide), if_pos rfl]
theorem opV_3 (l : Bool) (x y : Int64) : opV 3 l x y = x / y := by
  unfold opV
  rw [if_neg (by decide), if_neg (by decide), if_neg (by decide), if_pos rfl]
theorem opV_4 (l : Bool) (x y : Int64) : opV 4 l x y = x - x / y * y := by
  unfold opV
  rw [if_neg (by decide), if_neg (by decide), if_neg (by decide), if_neg (by decide), if_pos rfl]
theorem opV_5 (l : Bool) (x y : Int64) : opV 5 l x y = x &&& y := by
  unfold opV
  rw [if_neg (by decide), if_neg (by decide), if_neg (by decide), if_neg (by decide), if_neg (by decide), if_pos rfl]
theorem opV_6 (l : Bool) (x y : Int64) : opV 6 l x y = x ||| y := by
  unfold opV
  rw [if_neg (by decide), if_neg (by decide), if_neg (by decide), if_neg (by decide), if_neg (by decide), if_neg (by decide), if_pos rfl]
theorem opV_7 (l : Bool) (x y : Int64) : opV 7 l x y = x ^^^ y := by
  unfold opV
  rw [if_neg (by decide), if_neg (by decide), if_neg (by decide), if_neg (by decide), if_neg (by decide), if_neg (by decide), if_neg (by decide), if_pos rfl]
theorem opV_8 (l : Bool) (x y : Int64) : opV 8 l x y = (if l = false then Int32.toInt64 (x.toInt32 <<< (y.toInt32 &&& 31)) else x <<< (y.toInt32.toInt64 &&& 63)) := by
  unfold opV
  rw [if_neg (by decide), if_neg (by decide), if_neg (by decide), if_neg (by decide), if_neg (by decide), if_neg (by decide), if_neg (by decide), if_neg (by decide), if_pos rfl]
theorem opV_9 (l : Bool) (x y : Int64) : opV 9 l x y = (if l = false then Int32.toInt64 (x.toInt32 >>> (y.toInt32 &&& 31)) else x >>> (y.toInt32.toInt64 &&& 63)) := by
  unfold opV
  rw [if_neg (by decide), if_neg (by decide), if_neg (by decide), if_neg (by decide), if_neg (by decide), if_neg (by decide), if_neg (by decide), if_neg (by decide), if_neg (by decide), if_pos rfl]
theorem opV_10 (l : Bool) (x y : Int64) : opV 10 l x y = (if l = false then Int32.toInt64 (Int32.toUInt32 x.toInt32 >>> (Int32.toUInt32 y.toInt32 &&& Int32.toUInt32 31)).toInt32 else (Int64.toUInt64 x >>> ((y.toInt32.toInt64).toUInt64 &&& Int64.toUInt64 63)).toInt64) := by
  unfold opV
  rw [if_neg (by decide), if_neg (by decide), if_neg (by decide), if_neg (by decide), if_neg (by decide), if_neg (by decide), if_neg (by decide), if_neg (by decide), if_neg (by decide), if_neg (by decide)]
theorem C_op (h : sm_H) {a : Nat} (ha : a ≤ 10) (l : Bool) (x y : Int64) (nz : (a = 3 ∨ a = 4) → y ≠ 0) : F_104_71 (I3 a) (b2 l) x y h = F_104_98 (b2 l) (opV a l x y) h := by
  unfold F_104_71
  rcases (show a = 0 ∨ a = 1 ∨ a = 2 ∨ a = 3 ∨ a = 4 ∨ a = 5 ∨ a = 6 ∨ a = 7 ∨ a = 8 ∨ a = 9 ∨ a = 10 by omega) with rfl | rfl | rfl | rfl | rfl | rfl | rfl | rfl | rfl | rfl | rfl
  · rw [if_pos (by decide), show F_105 (I3 0) x y h = F_105_0 (I3 0) x y h from rfl]
    unfold F_105_0
    rw [if_pos (by decide)]; simp only [obs]
    rw [opV_0]
  · rw [if_pos (by decide), show F_105 (I3 1) x y h = F_105_0 (I3 1) x y h from rfl]
    unfold F_105_0
    rw [if_neg (by decide), if_pos (by decide)]; simp only [obs]
    rw [opV_1]
  · rw [if_pos (by decide), show F_105 (I3 2) x y h = F_105_0 (I3 2) x y h from rfl]
    unfold F_105_0
    rw [if_neg (by decide), if_neg (by decide), if_pos (by decide)]; simp only [obs]
    rw [opV_2]
  · have z := nz (Or.inl rfl)
    rw [if_pos (by decide), show F_105 (I3 3) x y h = F_105_0 (I3 3) x y h from rfl]
    unfold F_105_0 F_105_74
    rw [if_neg (by decide), if_neg (by decide), if_neg (by decide), if_pos (by decide), if_neg (by rw [cmp_eq]; exact z), if_neg z]; simp only [obs]
    rw [opV_3]
  · have z := nz (Or.inr rfl)
    rw [if_pos (by decide), show F_105 (I3 4) x y h = F_105_0 (I3 4) x y h from rfl]
    unfold F_105_0 F_105_90
    rw [if_neg (by decide), if_neg (by decide), if_neg (by decide), if_neg (by decide), if_pos (by decide), if_neg (by rw [cmp_eq]; exact z), if_neg z]; simp only [obs]
    rw [opV_4]
  · rw [if_pos (by decide), show F_105 (I3 5) x y h = F_105_0 (I3 5) x y h from rfl]
    unfold F_105_0
    rw [if_neg (by decide), if_neg (by decide), if_neg (by decide), if_neg (by decide), if_neg (by decide), if_pos (by decide)]; simp only [obs]
    rw [opV_5]
  · rw [if_pos (by decide), show F_105 (I3 6) x y h = F_105_0 (I3 6) x y h from rfl]
    unfold F_105_0
    rw [if_neg (by decide), if_neg (by decide), if_neg (by decide), if_neg (by decide), if_neg (by decide), if_neg (by decide), if_pos (by decide)]; simp only [obs]
    rw [opV_6]
  · rw [if_pos (by decide), show F_105 (I3 7) x y h = F_105_0 (I3 7) x y h from rfl]
    unfold F_105_0
    rw [if_neg (by decide), if_neg (by decide), if_neg (by decide), if_neg (by decide), if_neg (by decide), if_neg (by decide), if_neg (by decide)]; simp only [obs]
    rw [opV_7]
  · rw [if_neg (by decide), show F_106 (I3 8) (b2 l) x y.toInt32 h = F_106_0 (I3 8) (b2 l) x y.toInt32 h from rfl]
    unfold F_106_0 F_106_45
    rw [opV_8, if_pos (by decide)]
    cases l with
    | false => rw [if_pos (by decide), if_pos rfl]; simp only [obs]
    | true => rw [if_neg (by decide), if_neg (by decide)]; simp only [obs]
  · rw [if_neg (by decide), show F_106 (I3 9) (b2 l) x y.toInt32 h = F_106_0 (I3 9) (b2 l) x y.toInt32 h from rfl]
    unfold F_106_0 F_106_63
    rw [opV_9, if_neg (by decide), if_pos (by decide)]
    cases l with
    | false => rw [if_pos (by decide), if_pos rfl]; simp only [obs]
    | true => rw [if_neg (by decide), if_neg (by decide)]; simp only [obs]
  · rw [if_neg (by decide), show F_106 (I3 10) (b2 l) x y.toInt32 h = F_106_0 (I3 10) (b2 l) x y.toInt32 h from rfl]
    unfold F_106_0 F_106_81
    rw [opV_10, if_neg (by decide), if_neg (by decide)]
    cases l with
    | false => rw [if_pos (by decide), if_pos rfl]; simp only [obs]
    | true => rw [if_neg (by decide), if_neg (by decide)]; simp only [obs]
theorem R_op (h : sm_H) {a : Nat} (ha : a ≤ 10) (l : Bool) (x y : Int64) (nz : (a = 3 ∨ a = 4) → y ≠ 0) : F_354 (I3 a) (b2 l) x y h = some (opV a l x y, h) := by
  have s31 := and31 y
  have s63 := and63 y
  have u31 := and31u y
  have u63 := and63u y
  have key : ∀ z0, (l = false → z0 = 31) → (l = true → z0 = 63) → F_354_11 (I3 a) (b2 l) x y z0 h = some (opV a l x y, h) := fun z0 z1 z2 => by
    unfold F_354_11
    rcases (show a = 0 ∨ a = 1 ∨ a = 2 ∨ a = 3 ∨ a = 4 ∨ a = 5 ∨ a = 6 ∨ a = 7 ∨ a = 8 ∨ a = 9 ∨ a = 10 by omega) with rfl | rfl | rfl | rfl | rfl | rfl | rfl | rfl | rfl | rfl | rfl
    · rw [opV_0, if_pos (by decide)]
    · rw [opV_1, if_neg (by decide), if_pos (by decide)]
    · rw [opV_2, if_neg (by decide), if_neg (by decide), if_pos (by decide)]
    · have z := nz (Or.inl rfl)
      rw [opV_3, if_neg (by decide), if_neg (by decide), if_neg (by decide), if_pos (by decide)]
      unfold F_354_109
      by_cases q : y = -1
      · rw [if_pos (by rw [cmp_eq]; exact q), q, divm1]
      · rw [if_neg (by rw [cmp_eq]; exact q), if_neg z]
    · have z := nz (Or.inr rfl)
      rw [opV_4, if_neg (by decide), if_neg (by decide), if_neg (by decide), if_neg (by decide), if_pos (by decide)]
      unfold F_354_127
      by_cases q : y = -1
      · rw [if_pos (by rw [cmp_eq]; exact q), q, remm1]
      · rw [if_neg (by rw [cmp_eq]; exact q), if_neg z]
    · rw [opV_5, if_neg (by decide), if_neg (by decide), if_neg (by decide), if_neg (by decide), if_neg (by decide), if_pos (by decide)]
    · rw [opV_6, if_neg (by decide), if_neg (by decide), if_neg (by decide), if_neg (by decide), if_neg (by decide), if_neg (by decide), if_pos (by decide)]
    · rw [opV_7, if_neg (by decide), if_neg (by decide), if_neg (by decide), if_neg (by decide), if_neg (by decide), if_neg (by decide), if_neg (by decide), if_pos (by decide)]
    · rw [opV_8, if_neg (by decide), if_neg (by decide), if_neg (by decide), if_neg (by decide), if_neg (by decide), if_neg (by decide), if_neg (by decide), if_neg (by decide), if_pos (by decide)]
      unfold F_354_170
      cases l with
      | false => rw [z1 rfl, if_pos (by decide), if_pos rfl, s31]
      | true => rw [z2 rfl, if_neg (by decide), if_neg (by decide), s63]
    · rw [opV_9, if_neg (by decide), if_neg (by decide), if_neg (by decide), if_neg (by decide), if_neg (by decide), if_neg (by decide), if_neg (by decide), if_neg (by decide), if_neg (by decide), if_pos (by decide)]
      unfold F_354_198
      cases l with
      | false => rw [z1 rfl, if_pos (by decide), if_pos rfl, s31]
      | true => rw [z2 rfl, if_neg (by decide), if_neg (by decide), s63]
    · rw [opV_10, if_neg (by decide), if_neg (by decide), if_neg (by decide), if_neg (by decide), if_neg (by decide), if_neg (by decide), if_neg (by decide), if_neg (by decide), if_neg (by decide), if_neg (by decide), if_pos (by decide)]
      unfold F_354_226
      cases l with
      | false => rw [z1 rfl, if_pos (by decide), if_pos rfl, u31]
      | true => rw [z2 rfl, if_neg (by decide), if_neg (by decide), u63]
  show F_354_0 (I3 a) (b2 l) x y h = _
  unfold F_354_0
  cases l with
  | false => rw [if_pos (by decide)]; exact key 31 (fun _ => rfl) (fun z => by cases z)
  | true => rw [if_neg (by decide)]; exact key 63 (fun z => by cases z) (fun _ => rfl)
theorem run_3 {rec : Int32 → Int32 → sm_H → Option (Int32 × sm_H)} {d fuel s x vp : Nat} {vs : List Val} {h0 g0 h g : sm_H} (IH : CallOK (d + 1) rec) (F : Fr d fuel s x vp vs h0 g0 h g 0 (s + 1)) (c63 : g.1 67 63 = 0) (c59 : g.1 67 59 = I3 (vp + vs.length)) (eh : sm_wI h0 49 8 (h0.1 49 8 + 1) = h) (lf : h0.1 49 8 < h0.1 49 7) (f : fm g0 x = 3) : Ends d fuel s vp (tn (hrs g0 x)) h0 g0 0 (F_82R rec (I3 x) (I3 d) h0) g := by
  have d1 := F.d1
  have v10 := F.v10
  have x500 := F.x500
  have vl := F.vl
  have vx := F.vx
  have fs := F.fs0
  rw [f] at fs
  have C := B82_3 (rec := rec) (x1 := I3 x) (x2 := I3 d) (by rw [I3_lit, I3_lt (by omega) (by decide)]; omega) lf eh (f ▸ F.f37)
  rw [C]
  have R := B370_3 F.c56 F.l103 F.l105 F.l305 F.l77 F.l78 F.l81 F.l81' (f ▸ F.l75)
  obtain ⟨ep, el, o, w, o12, ea, w56, eb, er⟩ := FS_3 fs
  have v2 : 1 < vs.length := by rw [vx, el]; exact Nat.lt_succ_self 1
  have n0 : F_352 0 g = _ := F.k352 (i := 0) (by omega)
  have n1 : F_352 1 g = _ := F.k352 (i := 1) v2
  have c0 : F_77 (I3 d) 0 h = _ := F.c77 (i := 0) (by omega)
  have c1 : F_77 (I3 d) 1 h = _ := F.c77 (i := 1) v2
  generalize (atv vs 0).2 = p at *
  generalize (atv vs 1).2 = q at *
  have C0 := B102_3 (x2 := I3 d) (F.f38) (f ▸ F.f37)
  rw [F.f39, ea, eb] at C0; simp only [obs] at C0
  have C1 : F_82_367 rec (I3 x) (I3 d) h = F_104_0 (I3 o) (b2 (decide (w = 6))) p q h := by
    unfold F_82_367
    rw [bind_id, C0]
    have e : ∀ b : Bool, F_102_267 (I3 d) (I3 o) (b2 b) h = F_104_0 (I3 o) (b2 b) p q h := fun b => by
      unfold F_102_267
      rw [c0]; simp only [obs]
      rw [c1]; simp only [obs]
      rw [bind_id]
    rcases w56 with rfl | rfl
    · rw [if_neg (by decide)]; exact e false
    · rw [if_pos (by decide)]; exact e true
  rw [C1]
  have R1 : F_370 g = (if (lg_cmp q 0) = 0 then (if I3 o = 3 then (F_355_30 g) else (if I3 o = 4 then (F_355_30 g) else (F_355_36 (I3 o) (I3 w) p q g))) else (F_355_36 (I3 o) (I3 w) p q g)) := by
    rw [R, ea, eb, bind_id1, show F_355 (I3 o) (I3 w) g = F_355_0 (I3 o) (I3 w) g from rfl]
    unfold F_355_0
    rw [n0]; simp only [obs]
    rw [n1]; simp only [obs]
  have R36 : F_355_36 (I3 o) (I3 w) p q g = F_355_48 (I3 o) (I3 w) p q (I3 o) (b2 (decide (w = 6))) g := by
    unfold F_355_36
    rcases w56 with rfl | rfl
    · rw [if_neg (by decide)]; rfl
    · rw [if_pos (by decide)]; rfl
  have give : ∀ (k : Int32) (n : Int64), tag k = 0 → okV g (tn (hrs g0 x)) k n → ∃ u h', F_345 k n g = some u ∧ F_75 n 0 h = some (0, h') ∧ Ends d fuel s vp (tn (hrs g0 x)) h0 g0 (0 + 1) (some (0, h')) u := fun k n tk ok => by
    obtain ⟨u, h', e1, e2, e3⟩ := Fr_give (rk := tn (hrs g0 x)) F k n ok
    rw [tk] at e2
    exact ⟨u, h', e1, e2, e3⟩
  by_cases q11 : 11 ≤ o
  · have rz : tn (hrs g0 x) = 1 := by rw [er, if_pos (by omega)]; rfl
    have gz : ∀ b : Bool, F_104_0 (I3 o) (b2 (decide (w = 6))) p q h = ((F_75 (b2 b).toInt64 0 h).bind fun q6 => some (q6.1, q6.2)) → F_370 g = ((F_345 1 (b2 b).toInt64 g).bind fun q3 => F_355_91 q3) → Ends d fuel s vp (tn (hrs g0 x)) h0 g0 0 (F_104_0 (I3 o) (b2 (decide (w = 6))) p q h) g := fun b z1 z2 => by
      obtain ⟨u, h', e1, e2, e3⟩ := give 1 (b2 b).toInt64 (by decide) (by
        rw [rz]
        refine Or.inl ⟨by decide, by decide, rfl, ⟨fun _ => by (cases b; exact Or.inl rfl; exact Or.inr rfl), (fun z => by cases z), (fun z => by cases z), (fun z => by cases z), (fun z => by cases z)⟩⟩)
      rw [z1, e2]
      refine Ends_step (step_enter (by omega) F.c64 F.c56 c63 ?_) e3
      rw [z2, e1]; rfl
    have Rn : F_370 g = F_355_48 (I3 o) (I3 w) p q (I3 o) (b2 (decide (w = 6))) g := by
      rw [R1, if_neg (show ¬ I3 o = 3 by rw [I3_lit, I3_inj (by omega) (by decide)]; omega), if_neg (show ¬ I3 o = 4 by rw [I3_lit, I3_inj (by omega) (by decide)]; omega), ite_self, R36]
    have R48 : ∀ n, F_354 (I3 o) (b2 (decide (w = 6))) p q g = some (n, g) → F_370 g = ((F_345 1 n g).bind fun q3 => F_355_91 q3) := fun n hn => by
      rw [Rn]
      unfold F_355_48
      rw [hn]; simp only [obs]
      rw [if_neg (by rw [I3_lit, I3_le (by omega) (by decide)]; omega)]
    rcases (show o = 11 ∨ o = 12 by omega) with rfl | rfl
    · have R354 : F_354 (I3 11) (b2 (decide (w = 6))) p q g = (if 0 ≤ (lg_cmp p q) then (F_354_239 0 g) else (F_354_239 1 g)) := by
        have key : ∀ z0, F_354_11 (I3 11) (b2 (decide (w = 6))) p q z0 g = (if 0 ≤ (lg_cmp p q) then (F_354_239 0 g) else (F_354_239 1 g)) := fun z0 => by
          unfold F_354_11
          rw [if_neg (by decide), if_neg (by decide), if_neg (by decide), if_neg (by decide), if_neg (by decide), if_neg (by decide), if_neg (by decide), if_neg (by decide), if_neg (by decide), if_neg (by decide), if_neg (by decide), if_pos (by decide)]
        show F_354_0 (I3 11) (b2 (decide (w = 6))) p q g = _
        unfold F_354_0
        split
        · exact key _
        · exact key _
      have C104 : F_104_0 (I3 11) (b2 (decide (w = 6))) p q h = (if 0 ≤ (lg_cmp p q) then (F_104_19 0 h) else (F_104_19 1 h)) := by
        unfold F_104_0; rw [if_pos (by decide)]
      by_cases z : 0 ≤ lg_cmp p q
      · rw [if_pos z] at R354 C104
        exact gz false C104 (R48 0 R354)
      · rw [if_neg z] at R354 C104
        exact gz true C104 (R48 1 R354)
    · have R354 : F_354 (I3 12) (b2 (decide (w = 6))) p q g = (if (lg_cmp p q) = 0 then (F_354_252 1 g) else (F_354_252 0 g)) := by
        have key : ∀ z0, F_354_11 (I3 12) (b2 (decide (w = 6))) p q z0 g = (if (lg_cmp p q) = 0 then (F_354_252 1 g) else (F_354_252 0 g)) := fun z0 => by
          unfold F_354_11
          rw [if_neg (by decide), if_neg (by decide), if_neg (by decide), if_neg (by decide), if_neg (by decide), if_neg (by decide), if_neg (by decide), if_neg (by decide), if_neg (by decide), if_neg (by decide), if_neg (by decide), if_neg (by decide)]
        show F_354_0 (I3 12) (b2 (decide (w = 6))) p q g = _
        unfold F_354_0
        split
        · exact key _
        · exact key _
      have C104 : F_104_0 (I3 12) (b2 (decide (w = 6))) p q h = (if (lg_cmp p q) = 0 then (F_104_43 1 h) else (F_104_43 0 h)) := by
        unfold F_104_0; rw [if_neg (by decide), if_pos (by decide)]
      by_cases z : lg_cmp p q = 0
      · rw [if_pos z] at R354 C104
        exact gz true C104 (R48 1 R354)
      · rw [if_neg z] at R354 C104
        exact gz false C104 (R48 0 R354)
  · have o10 : o ≤ 10 := by omega
    have rw' : hrs g0 x = I3 w := by rw [er, if_neg (by omega), eb]
    have rk : tn (hrs g0 x) = w := by rw [rw', tnI (by omega)]
    have C104 : F_104_0 (I3 o) (b2 (decide (w = 6))) p q h = if (o = 3 ∨ o = 4) ∧ q = 0 then ((F_76 3 h).bind fun q4 => some (q4.1, q4.2)) else F_104_71 (I3 o) (b2 (decide (w = 6))) p q h := by
      unfold F_104_0 F_104_58
      rw [if_neg (by rw [I3_lit, I3_inj (by omega) (by decide)]; omega), if_neg (by rw [I3_lit, I3_inj (by omega) (by decide)]; omega)]
      simp only [cmp_eq]
      by_cases q3 : o = 3
      · rw [if_pos (show I3 o = 3 from congrArg I3 q3)]
        by_cases z : q = 0
        · rw [if_pos z, if_pos ⟨Or.inl q3, z⟩]
        · rw [if_neg z, if_neg (fun y => z y.2)]
      · rw [if_neg (show ¬ I3 o = 3 by rw [I3_lit, I3_inj (by omega) (by decide)]; exact q3)]
        by_cases q4 : o = 4
        · rw [if_pos (show I3 o = 4 from congrArg I3 q4)]
          by_cases z : q = 0
          · rw [if_pos z, if_pos ⟨Or.inr q4, z⟩]
          · rw [if_neg z, if_neg (fun y => z y.2)]
        · rw [if_neg (show ¬ I3 o = 4 by rw [I3_lit, I3_inj (by omega) (by decide)]; exact q4), if_neg (fun y => by omega)]
    have R2 : F_370 g = if (o = 3 ∨ o = 4) ∧ q = 0 then F_355_30 g else F_355_48 (I3 o) (I3 w) p q (I3 o) (b2 (decide (w = 6))) g := by
      rw [R1, R36]
      simp only [cmp_eq]
      by_cases z : q = 0
      · rw [if_pos z]
        by_cases q3 : o = 3
        · rw [if_pos (show I3 o = 3 from congrArg I3 q3), if_pos ⟨Or.inl q3, z⟩]
        · rw [if_neg (show ¬ I3 o = 3 by rw [I3_lit, I3_inj (by omega) (by decide)]; exact q3)]
          by_cases q4 : o = 4
          · rw [if_pos (show I3 o = 4 from congrArg I3 q4), if_pos ⟨Or.inr q4, z⟩]
          · rw [if_neg (show ¬ I3 o = 4 by rw [I3_lit, I3_inj (by omega) (by decide)]; exact q4), if_neg (fun y => by omega)]
      · rw [if_neg z, if_neg (fun y => z y.2)]
    by_cases z : (o = 3 ∨ o = 4) ∧ q = 0
    · rw [if_pos z] at C104 R2
      obtain ⟨u, h', f1, f2, f3⟩ := Fr_fail (rk := tn (hrs g0 x)) F 3
      rw [C104, f2]
      refine Ends_step (step_enter (by omega) F.c64 F.c56 c63 ?_) f3
      rw [R2]
      unfold F_355_30
      rw [f1]; rfl
    · rw [if_neg z] at C104 R2
      have nz : (o = 3 ∨ o = 4) → q ≠ 0 := fun y y' => z ⟨y, y'⟩
      rw [C104, C_op h o10 _ p q nz]
      have R3 : F_370 g = F_355_88 (I3 w) (if w = 5 then Int32.toInt64 (Int64.toInt32 (opV o (decide (w = 6)) p q)) else opV o (decide (w = 6)) p q) g := by
        rw [R2]
        unfold F_355_48
        rw [R_op g o10 _ p q nz]; simp only [obs]
        rw [if_pos (by rw [I3_lit, I3_le (by omega) (by decide)]; exact o10)]
        rcases w56 with rfl | rfl
        · rw [if_pos (by decide), if_pos rfl]
        · rw [if_neg (by decide), if_neg (by decide)]
      have C3 : F_104_98 (b2 (decide (w = 6))) (opV o (decide (w = 6)) p q) h = F_104_114 (if w = 5 then Int32.toInt64 (Int64.toInt32 (opV o (decide (w = 6)) p q)) else opV o (decide (w = 6)) p q) h := by
        unfold F_104_98
        rcases w56 with rfl | rfl
        · rw [if_pos (by decide), if_pos rfl]
        · rw [if_neg (by decide), if_neg (by decide)]
      obtain ⟨u, h', e1, e2, e3⟩ := give (I3 w) (if w = 5 then Int32.toInt64 (Int64.toInt32 (opV o (decide (w = 6)) p q)) else opV o (decide (w = 6)) p q) (tag_p (by omega) (by omega)) (by
        rw [rk]
        refine Or.inl ⟨by omega, by omega, rfl, ⟨fun y => by omega, fun y => by omega, fun y => by omega, fun y => by omega, fun y => ?_⟩⟩
        rw [if_pos y, toI64]
        have := b32 (Int64.toInt32 (opV o (decide (w = 6)) p q))
        omega)
      rw [C3]
      unfold F_104_114
      rw [e2]
      refine Ends_step (step_enter (by omega) F.c64 F.c56 c63 ?_) e3
      rw [R3]
      unfold F_355_88
      rw [e1]; rfl
theorem nar_id {k : Nat} {n : Int64} (h1 : 1 ≤ k) (h2 : k ≤ 6) (ok : okN k n) : nar k n = n := by
  have hb := b64 n
  unfold nar
  rcases (show k = 1 ∨ k = 2 ∨ k = 3 ∨ k = 4 ∨ k = 5 ∨ k = 6 by omega) with rfl | rfl | rfl | rfl | rfl | rfl
  · rw [if_pos rfl]; exact (and1_iff n).mpr (ok.1 rfl)
  · have r := ok.2.1 rfl
    rw [if_neg (by decide), if_pos rfl, ← Int64.toInt_inj, toI64, Int8.toInt_toInt32, Int32.toInt_toInt8, Int64.toInt_toInt32]
    rw [Int.bmod_eq_of_le (n := n.toInt) (by omega) (by omega), Int.bmod_eq_of_le (by omega) (by omega)]
  · have r := ok.2.2.1 rfl
    rw [if_neg (by decide), if_neg (by decide), if_pos rfl, ← Int64.toInt_inj, toI64, Int16.toInt_toInt32, Int32.toInt_toInt16, Int64.toInt_toInt32]
    rw [Int.bmod_eq_of_le (n := n.toInt) (by omega) (by omega), Int.bmod_eq_of_le (by omega) (by omega)]
  · have r := ok.2.2.2.1 rfl
    rw [if_neg (by decide), if_neg (by decide), if_neg (by decide), if_pos rfl, and65535]
    have e : n.toBitVec.toNat = n.toInt.toNat := by
      have : n.toInt = n.toBitVec.toInt := rfl
      rw [this, BitVec.toInt_eq_toNat_of_lt]
      · rfl
      · rw [this, BitVec.toInt_eq_toNat_cond] at r
        split at r
        · assumption
        · have := n.toBitVec.isLt; omega
    rw [← Int64.toInt_inj, I6_toInt (by omega)]; omega
  · have r := ok.2.2.2.2 rfl
    rw [if_neg (by decide), if_neg (by decide), if_neg (by decide), if_neg (by decide), if_pos rfl, ← Int64.toInt_inj, toI64, Int64.toInt_toInt32]
    rw [Int.bmod_eq_of_le (by omega) (by omega)]
  · rw [if_neg (by decide), if_neg (by decide), if_neg (by decide), if_neg (by decide), if_neg (by decide)]
theorem okN_wid {a b : Nat} {n : Int64} (w : widB a b = true) (ok : okN a n) : 1 ≤ b ∧ b ≤ 6 ∧ okN b n := by
  unfold widB at w
  have w := of_decide_eq_true w
  have r2 := ok.2.1
  have r3 := ok.2.2.1
  have r4 := ok.2.2.2.1
  have r5 := ok.2.2.2.2
  have b14 : b ≠ 1 ∧ b ≠ 2 ∧ b ≠ 4 ∧ 3 ≤ b ∧ b ≤ 6 := by omega
  refine ⟨by omega, by omega, fun z => by omega, fun z => by omega, fun z => ?_, fun z => by omega, fun z => ?_⟩
  · rcases w with ⟨e, _⟩ | ⟨e, _⟩ | ⟨e, _⟩
    · have := r2 e; omega
    · rcases e with e | e
      · omega
      · omega
    · omega
  · rcases w with ⟨e, _⟩ | ⟨e, _⟩ | ⟨e, _⟩
    · have := r2 e; omega
    · rcases e with e | e
      · have := r3 e; omega
      · have := r4 e; omega
    · omega
abbrev S910 (b j : Nat) : Prop := b = 49 ∧ (j = 9 ∨ j = 10)
abbrev Cv (h g h' g' : sm_H) (b : Nat) : Prop := (agr S48 g g') ∧ (agr S910 h h') ∧ (h'.2.2 = h.2.2) ∧ (h'.2.1 49 9 = g'.2.1 67 49) ∧ (h'.1 49 10 = tag (g'.1 67 48)) ∧ (okV g b (g'.1 67 48) (g'.2.1 67 49))
theorem Cv.a {h g h' g' : sm_H} {b : Nat} (F_ : Cv h g h' g' b) : agr S48 g g' := F_.1
theorem Cv.c {h g h' g' : sm_H} {b : Nat} (F_ : Cv h g h' g' b) : agr S910 h h' := F_.2.1
theorem Cv.r {h g h' g' : sm_H} {b : Nat} (F_ : Cv h g h' g' b) : h'.2.2 = h.2.2 := F_.2.2.1
theorem Cv.n {h g h' g' : sm_H} {b : Nat} (F_ : Cv h g h' g' b) : h'.2.1 49 9 = g'.2.1 67 49 := F_.2.2.2.1
theorem Cv.t {h g h' g' : sm_H} {b : Nat} (F_ : Cv h g h' g' b) : h'.1 49 10 = tag (g'.1 67 48) := F_.2.2.2.2.1
theorem Cv.ok {h g h' g' : sm_H} {b : Nat} (F_ : Cv h g h' g' b) : okV g b (g'.1 67 48) (g'.2.1 67 49) := F_.2.2.2.2.2
theorem conv {h g : sm_H} (K : K1 h g) {a b : Nat} (ha : a < 20 + nC g) (hb : b < 20 + nC g) {k : Int32} {n : Int64} (f : Bool) (ok : okV g a k n) {r : Bool} (may : mayB g a b f r = true) (h9 : h.2.1 49 9 = n) (h10 : h.1 49 10 = tag k) :
    (∃ h' g', F_90 (I3 a) (I3 b) (b2 f) h = some (0, h') ∧ F_300 (I3 a) (I3 b) k n (b2 f) g = some (0, g') ∧ Cv h g h' g' b) ∨ (∃ (e : Int32) (h' g' : sm_H), (e = 1 ∨ e = 2) ∧ F_90 (I3 a) (I3 b) (b2 f) h = some (e, h') ∧ F_300 (I3 a) (I3 b) k n (b2 f) g = some (e, g') ∧ agr S48 g g' ∧ agr S910 h h' ∧ h'.2.2 = h.2.2) := by
  have wK := K.1
  have h12 := wK.2.1
  have a0 : ∀ u v : Int32, ∀ w : Int64, agr S48 g (sm_wJ (sm_wI g 67 48 u) 67 49 w) := fun u v w => agr_wJ (agr_wI agr_rfl (by unfold S48; omega)) (by unfold S48; omega)
  have c0 : ∀ (u : Int32) (w : Int64), agr S910 h (sm_wI (sm_wJ h 49 9 w) 49 10 u) := fun u w => agr_wI (agr_wJ agr_rfl (by unfold S910; omega)) (by unfold S910; omega)
  have g13 : ∀ {α : Type} (X : sm_H → α), X (sm_wJ (sm_wI g 67 48 k) 67 49 n) = X (sm_wJ (sm_wI g 67 48 k) 67 49 n) := fun _ => rfl
  have I0a : (I3 a = 0) = (a = 0) := propext (by rw [I3_lit]; exact I3_inj (by omega) (by decide))
  have I0b : (I3 b = 0) = (b = 0) := propext (by rw [I3_lit]; exact I3_inj (by omega) (by decide))
  have Iab : (I3 a = I3 b) = (a = b) := propext (I3_inj (by omega) (by omega))
  have C90 : F_90 (I3 a) (I3 b) (b2 f) h = F_90_0 (I3 a) (I3 b) (b2 f) h := rfl
  have R300 : F_300 (I3 a) (I3 b) k n (b2 f) g = F_300_0 (I3 a) (I3 b) k n (b2 f) g := rfl
  unfold F_90_0 F_90_8 at C90
  unfold F_300_0 at R300
  simp only [obs, I0a, I0b, Iab] at C90 R300
  have giv : ((F_75 0 0 h).bind fun q1 => some ((0 : Int32), q1.2)) = some (0, sm_wI (sm_wJ h 49 9 0) 49 10 0) := rfl
  by_cases qab : a = b
  · rw [if_pos qab] at R300
    left
    by_cases qa : a = 0
    · rw [if_pos qa, giv] at C90
      have e0 : k = 0 ∧ n = 0 := by
        rcases ok with ⟨z, _⟩ | ⟨_, z1, z2⟩ | ⟨z, _⟩
        · omega
        · exact ⟨z1, z2⟩
        · omega
      refine ⟨_, _, C90, R300, a0 k k n, c0 _ _, rfl, ?_, ?_, ?_⟩
      · show (0 : Int64) = n; exact e0.2.symm
      · show (0 : Int32) = tag k; rw [e0.1]; decide
      · rw [← qab]; exact ok
    · rw [if_neg qa, if_neg (by omega), if_pos qab] at C90
      refine ⟨_, _, C90, R300, a0 k k n, agr_rfl, rfl, h9, h10, ?_⟩
      rw [← qab]; exact ok
  · rw [if_neg qab] at R300
    by_cases qb : b = 0
    · left
      have C1 : F_90 (I3 a) (I3 b) (b2 f) h = some (0, sm_wI (sm_wJ h 49 9 0) 49 10 0) := by
        rw [C90, if_neg (by omega), if_pos qb, giv]
      rw [if_pos qb, show F_299 0 (sm_wJ (sm_wI g 67 48 k) 67 49 n) = _ from R_zero (q := 0) (by decide)] at R300; simp only [obs] at R300
      refine ⟨_, _, C1, R300, agr_trans (a0 k k n) (agr_wJ (agr_wI agr_rfl (by unfold S48; omega)) (by unfold S48; omega)), c0 _ _, rfl, rfl, rfl, ?_⟩
      rw [qb]; exact Or.inr (Or.inl ⟨Or.inl rfl, rfl, rfl⟩)
    · rw [if_neg qb] at R300
      by_cases qa : a = 0
      · left
        rw [if_pos qa, giv] at C90
        rw [if_pos qa, R_zero (by omega)] at R300; simp only [obs] at R300
        refine ⟨_, _, C90, R300, agr_trans (a0 k k n) (agr_wJ (agr_wI agr_rfl (by unfold S48; omega)) (by unfold S48; omega)), c0 _ _, rfl, rfl, ?_, okV_zk (by omega)⟩
        show (0 : Int32) = tag (zk (I3 b)); rw [tag_zk]
      · rw [if_neg qa] at C90 R300
        rw [if_neg qb, if_neg qab] at C90
        have KN : K1 h (sm_wJ (sm_wI g 67 48 k) 67 49 n) := K1_N K (agr_mono (fun b j z => by unfold S48 at z; unfold SN; omega) (a0 k k n))
        rw [C_plain (by omega)] at C90; simp only [obs] at C90
        rw [R_plain (by omega)] at R300; simp only [obs] at R300
        have mB : mayB g a b f r = (if a ≤ 6 then (if b ≤ 6 then f || widB a b else B g (a + 8) b) else if 7 ≤ b then true else if a = 7 then true else if a = 8 then f || decide (b = 2 ∨ b = 3 ∨ b = 5 ∨ b = 6) else if 9 ≤ a ∧ a ≤ 14 then f || (decide (a - 8 = b) || widB (a - 8) b) else false) := by
          unfold mayB; rw [if_neg qab, if_neg qa, if_neg qb]
        rw [mB] at may
        by_cases q6 : a ≤ 6
        · obtain ⟨ek, okn⟩ := okV_6 (v := (k, n)) (by omega) q6 ok
          have ek : k = I3 a := ek
          rw [decide_eq_true (show 1 ≤ a ∧ a ≤ 6 by omega), if_neg (by decide)] at C90 R300
          rw [C_plain (by omega)] at C90; simp only [obs] at C90
          rw [R_plain (by omega)] at R300; simp only [obs] at R300
          rw [if_pos q6] at may
          left
          by_cases p6 : b ≤ 6
          · rw [decide_eq_true (show 1 ≤ b ∧ b ≤ 6 by omega), if_neg (by decide)] at C90 R300
            rw [if_pos p6] at may
            rw [C_nar h (by omega), h9] at C90; simp only [obs] at C90
            have C1 : F_90 (I3 a) (I3 b) (b2 f) h = some (0, sm_wI (sm_wJ h 49 9 (nar b n)) 49 10 0) := C90
            have R1 : F_300 (I3 a) (I3 b) k n (b2 f) g = some (0, sm_wJ (sm_wI (sm_wJ (sm_wI g 67 48 k) 67 49 n) 67 48 (I3 b)) 67 49 (nar b n)) := by
              rw [R300]
              unfold F_300_76
              cases f with
              | false =>
                rw [Bool.false_or] at may
                obtain ⟨w1, w2, w3⟩ := okN_wid may okn
                rw [if_pos (by decide), nar_id w1 w2 w3]; simp only [obs]
              | true => rw [if_neg (by decide), R_nar _ (by omega)]; simp only [obs]
            refine ⟨_, _, C1, R1, agr_trans (a0 k k n) (agr_wJ (agr_wI agr_rfl (by unfold S48; omega)) (by unfold S48; omega)), c0 _ _, rfl, rfl, ?_, Or.inl ⟨by omega, p6, rfl, nar_ok b n⟩⟩
            show (0 : Int32) = tag (I3 b); rw [tag_p (by omega) p6]
          · rw [decide_eq_false (show ¬ (1 ≤ b ∧ b ≤ 6) by omega), if_pos (by decide)] at C90 R300
            rw [if_neg p6] at may
            rw [h9, show F_75 n (I3 a + 8) h = some (0, sm_wI (sm_wJ h 49 9 n) 49 10 (I3 a + 8)) from rfl] at C90; simp only [obs] at C90
            unfold F_300_81 at R300
            rw [R_plain (by omega), decide_eq_true (show 1 ≤ a ∧ a ≤ 6 by omega)] at R300; simp only [obs] at R300
            rw [if_neg (by decide)] at R300
            have e8 : I3 a + 8 = I3 (a + 8) := I3_add a 8
            rw [e8] at C90 R300
            refine ⟨_, _, C90, R300, agr_wI (a0 k k n) (by unfold S48; omega), c0 _ _, rfl, rfl, ?_, ?_⟩
            · show I3 (a + 8) = tag (I3 (a + 8)); rw [tag_I (by omega) (by omega)]
            · refine Or.inr (Or.inr ⟨by omega, a + 8, rfl, by omega, may, Or.inl ⟨by omega, by omega, ?_⟩⟩)
              rw [Nat.add_sub_cancel]; exact okn
        · rw [decide_eq_false (show ¬ (1 ≤ a ∧ a ≤ 6) by omega), if_pos (by decide)] at C90 R300
          rw [C_plain (by omega)] at C90; simp only [obs] at C90
          unfold F_300_81 at R300
          rw [R_plain (by omega), decide_eq_false (show ¬ (1 ≤ a ∧ a ≤ 6) by omega)] at R300; simp only [obs] at R300
          rw [if_pos (by decide), R_ref (by omega)] at R300; simp only [obs] at R300
          have o7 := okV_7 (v := (k, n)) wK (by omega) ok
          by_cases p6 : b ≤ 6
          · rw [decide_eq_true (show 1 ≤ b ∧ b ≤ 6 by omega), if_neg (by decide), show F_91 (I3 b) (b2 f) h = F_91_0 (I3 b) (b2 f) h from rfl] at C90
            rw [decide_eq_false (show ¬ 7 ≤ b by omega), if_pos (by decide)] at R300
            unfold F_91_0 at C90
            rw [h10] at C90
            rcases o7 with ⟨z1, z2⟩ | ⟨q, z1, z2, z3, z4, z5, z6, z7⟩
            · have zk' : k = 0 := congrArg Prod.fst z1
              have zn : n = 0 := congrArg Prod.snd z1
              rw [if_pos (show tag k = 0 from z2)] at C90
              rw [if_pos zk', R_zero (by omega)] at R300; simp only [obs] at R300
              cases f with
              | false =>
                rw [if_pos (show b2 false = 0 from rfl)] at C90 R300
                exact Or.inr ⟨1, _, _, Or.inl rfl, C90, R300, agr_trans (a0 k k n) (agr_wJ (agr_wI agr_rfl (by unfold S48; omega)) (by unfold S48; omega)), agr_rfl, rfl⟩
              | true =>
                rw [if_neg (show ¬ b2 true = 0 by decide)] at C90 R300
                refine Or.inl ⟨_, _, C90, R300, agr_trans (a0 k k n) (agr_wJ (agr_wI agr_rfl (by unfold S48; omega)) (by unfold S48; omega)), agr_rfl, rfl, ?_, ?_, okV_zk (by omega)⟩
                · rw [h9, zn]; rfl
                · rw [h10, zk']; show tag 0 = tag (zk (I3 b)); rw [tag_zk]; decide
            · have ek : k = I3 q := z1
              have tk : tag k = I3 q := by rw [show tag k = k from z6, ek]
              rw [tk, if_neg (by rw [I3_lit, I3_inj (by omega) (by decide)]; omega), C_isBox (by omega)] at C90; simp only [obs] at C90
              rw [if_neg (show ¬ k = 0 from z7), ek, R_isBox (by omega)] at R300; simp only [obs] at R300
              by_cases bx : 9 ≤ q ∧ q ≤ 14
              · rw [decide_eq_true bx, if_neg (by decide)] at C90 R300
                have okn : okN (q - 8) n := by
                  rcases z5 with w | w | w | w
                  · exact w.2.2
                  · omega
                  · omega
                  · omega
                have fin : ∀ (cC : F_90 (I3 a) (I3 b) (b2 f) h = F_91_52 (I3 b) h) (cR : F_300 (I3 a) (I3 b) k n (b2 f) g = F_300_169 (I3 b) n (b2 f) (sm_wJ (sm_wI g 67 48 (I3 q)) 67 49 n)) (w : f = false → okN b n), ∃ h' g', F_90 (I3 a) (I3 b) (b2 f) h = some (0, h') ∧ F_300 (I3 a) (I3 b) k n (b2 f) g = some (0, g') ∧ Cv h g h' g' b := fun cC cR w => by
                  have C1 : F_90 (I3 a) (I3 b) (b2 f) h = some (0, sm_wI (sm_wJ h 49 9 (nar b n)) 49 10 0) := by
                    rw [cC]
                    unfold F_91_52
                    rw [h9, C_nar h (by omega)]; rfl
                  have R1 : F_300 (I3 a) (I3 b) k n (b2 f) g = some (0, sm_wJ (sm_wI (sm_wJ (sm_wI g 67 48 (I3 q)) 67 49 n) 67 48 (I3 b)) 67 49 (nar b n)) := by
                    rw [cR]
                    unfold F_300_169 F_300_191
                    simp only [obs]
                    cases f with
                    | false => rw [if_pos (by decide), nar_id (by omega) p6 (w rfl)]
                    | true => rw [if_neg (by decide), R_nar _ (by omega)]; simp only [obs]
                  refine ⟨_, _, C1, R1, agr_trans (a0 (I3 q) k n) (agr_wJ (agr_wI agr_rfl (by unfold S48; omega)) (by unfold S48; omega)), c0 _ _, rfl, rfl, ?_, Or.inl ⟨by omega, p6, rfl, nar_ok b n⟩⟩
                  show (0 : Int32) = tag (I3 b); rw [tag_p (by omega) p6]
                rw [ek] at fin
                cases f with
                | true =>
                  rw [if_neg (by decide)] at C90 R300
                  left; rw [ek]
                  obtain ⟨h', g', f1, f2, f3⟩ := fin (by rw [C90]; cases F_91_52 (I3 b) h <;> rfl) R300 (fun z => by cases z)
                  exact ⟨h', g', f1, f2, f3⟩
                | false =>
                  rw [if_pos (by decide)] at C90 R300
                  have C66 : F_66 (I3 q) (I3 b) h = some (b2 (decide (q - 8 = b) || widB (q - 8) b), h) := by
                    show F_66_0 (I3 q) (I3 b) h = _
                    unfold F_66_0 F_66_28 F_66_32 F_66_33
                    simp only [true_or, or_true, if_true]
                    rw [C_isBox (by omega), decide_eq_true bx]; simp only [obs]
                    rw [if_neg (by decide), show I3 q - 8 = I3 (q - 8) from I3_sub (b := 8) (by omega)]
                    by_cases e : q - 8 = b
                    · rw [if_pos (by rw [e]), decide_eq_true e]; rfl
                    · rw [if_neg (by rw [I3_inj (by omega) (by omega)]; exact e), decide_eq_false e, C_widN (by omega) (by omega)]; simp only [obs]
                      cases widB (q - 8) b <;> rfl
                  rw [h10, tk, C66] at C90; simp only [obs] at C90
                  rw [show I3 q - 8 = I3 (q - 8) from I3_sub (b := 8) (by omega), R_wid (by omega) (by omega)] at R300; simp only [obs] at R300
                  cases w : decide (q - 8 = b) || widB (q - 8) b with
                  | false =>
                    rw [w, if_pos (by decide)] at C90 R300
                    right; rw [ek]
                    exact ⟨2, _, _, Or.inr rfl, C90, R300, a0 (I3 q) k n, agr_rfl, rfl⟩
                  | true =>
                    rw [w, if_neg (by decide)] at C90 R300
                    left; rw [ek]
                    have okb : okN b n := by
                      rw [Bool.or_eq_true, decide_eq_true_eq] at w
                      rcases w with w | w
                      · rw [← w]; exact okn
                      · exact (okN_wid w okn).2.2
                    obtain ⟨h', g', f1, f2, f3⟩ := fin (by rw [C90]; cases F_91_52 (I3 b) h <;> rfl) R300 (fun _ => okb)
                    exact ⟨h', g', f1, f2, f3⟩
              · rw [decide_eq_false bx, if_pos (by decide)] at C90 R300
                right; rw [ek]
                exact ⟨2, _, _, Or.inr rfl, C90, R300, a0 (I3 q) k n, agr_rfl, rfl⟩
          · rw [decide_eq_false (show ¬ (1 ≤ b ∧ b ≤ 6) by omega), if_pos (by decide), h10] at C90
            rw [decide_eq_true (show 7 ≤ b by omega), if_neg (by decide)] at R300
            rcases o7 with ⟨z1, z2⟩ | ⟨q, z1, z2, z3, z4, z5, z6, z7⟩
            · have zk' : k = 0 := congrArg Prod.fst z1
              have zn : n = 0 := congrArg Prod.snd z1
              rw [if_pos (show tag k = 0 from z2)] at C90
              rw [if_pos zk'] at R300
              exact Or.inl ⟨_, _, C90, R300, a0 k k n, agr_rfl, rfl, h9, h10, by rw [show (sm_wJ (sm_wI g 67 48 k) 67 49 n).1 67 48 = k from rfl, show (sm_wJ (sm_wI g 67 48 k) 67 49 n).2.1 67 49 = n from rfl, zk', zn]; exact okV_null (by omega)⟩
            · have ek : k = I3 q := z1
              have tk : tag k = I3 q := by rw [show tag k = k from z6, ek]
              rw [tk, if_neg (by rw [I3_lit, I3_inj (by omega) (by decide)]; omega), C_belowN wK K.2.1 z3 hb] at C90; simp only [obs] at C90
              rw [if_neg (show ¬ k = 0 from z7), ek, R_below (g := sm_wJ (sm_wI g 67 48 (I3 q)) 67 49 n) wK z3 (by omega)] at R300; simp only [obs] at R300
              have eB : B (sm_wJ (sm_wI g 67 48 (I3 q)) 67 49 n) q b = B g q b := rfl
              rw [eB] at R300
              cases w : B g q b with
              | false =>
                rw [w, if_pos (by decide)] at C90 R300
                right; rw [ek]
                exact ⟨2, _, _, Or.inr rfl, C90, R300, a0 (I3 q) k n, agr_rfl, rfl⟩
              | true =>
                rw [w, if_neg (by decide)] at C90 R300
                left; rw [ek]
                exact ⟨_, _, C90, R300, a0 (I3 q) k n, agr_rfl, rfl, h9, by rw [h10, ek]; rfl, Or.inr (Or.inr ⟨by omega, q, rfl, z3, w, z5⟩)⟩
abbrev SZ (d b j : Nat) : Prop := S910 b j ∨ SL (d + 1) b j
abbrev Lz (h h' : sm_H) (d : Nat) (ws : List Val) : Prop := (agr (SZ d) h h') ∧ (frm h' (d + 1) ws) ∧ (h'.2.2 = h.2.2)
theorem Lz.a {h h' : sm_H} {d : Nat} {ws : List Val} (F_ : Lz h h' d ws) : agr (SZ d) h h' := F_.1
theorem Lz.f {h h' : sm_H} {d : Nat} {ws : List Val} (F_ : Lz h h' d ws) : frm h' (d + 1) ws := F_.2.1
theorem Lz.r {h h' : sm_H} {d : Nat} {ws : List Val} (F_ : Lz h h' d ws) : h'.2.2 = h.2.2 := F_.2.2
theorem SZ_1 (d b j : Nat) (z : SZ d b j) : SC1 d b j := by unfold SZ S910 SL at z; unfold SC1; omega
def contA (rec : Int32 → Int32 → sm_H → Option (Int32 × sm_H)) (y t d : Nat) (f : Bool) (h : sm_H) : Option (Int32 × sm_H) :=
  (rec (I3 y) (I3 (d + 1)) h).bind fun q2 => if q2.1 = 0 then ((F_44 (I3 y) q2.2).bind fun q3 => (F_225 (I3 t) q3.2).bind fun q4 => (F_90 q3.1 q4.1 (b2 f) q4.2).bind fun q5 => if q5.1 = 0 then some (0, q5.2) else ((F_76 q5.1 q5.2).bind fun q6 => some (q6.1, q6.2))) else some (q2.1, q2.2)
section
variable {d fuel s0 x vp p s : Nat} {vs : List Val} {h0 g0 h g : sm_H}
theorem Fr_Lz (F : Fr d fuel s0 x vp vs h0 g0 h g p s) {h' : sm_H} {ws : List Val} (L : Lz h h' d ws) : Fr d fuel s0 x vp vs h0 g0 h' g p s := Fr_h F (agr_mono (SZ_1 d) L.a) L.r
theorem Lz_Ly {h h' : sm_H} {ws : List Val} (L : Lz h h' d ws) : Ly h' h' (d + 1) ws := ⟨agr_rfl, L.f, rfl⟩
theorem Lz_0 (h : sm_H) (d : Nat) : Lz h h d [] := ⟨agr_rfl, (fun i hi => by cases hi), rfl⟩
theorem Lz_cv {h h' h2 : sm_H} {d : Nat} {ws : List Val} (L : Lz h h' d ws) (c : agr S910 h' h2) (r : h2.2.2 = h'.2.2) : Lz h h2 d ws := ⟨agr_trans L.a (agr_mono (fun _ _ z => Or.inl z) c), fun i hi => by rw [c.2.1 50 _ (by unfold S910; omega), c.1 51 _ (by unfold S910; omega)]; exact L.f i hi, r.trans L.r⟩
theorem Lz_lay {h h' : sm_H} {d : Nat} {ws : List Val} (L : Lz h h' d ws) (hd : d < 100) (hw : ws.length < 16) (v : Val) : ∃ h2, F_79 (I3 (d + 1)) (I3 ws.length) v.2 (tag v.1) h' = some h2 ∧ Lz h h2 d (ws ++ [v]) := by
  obtain ⟨h2, a1, L2⟩ := C_lay1 (Lz_Ly L) (by omega) hw v
  exact ⟨h2, a1, ⟨agr_trans L.a (agr_mono (fun _ _ z => Or.inr z) L2.a), L2.f, L2.r.trans L.r⟩⟩
theorem asLoop (rec : Int32 → Int32 → sm_H → Option (Int32 × sm_H)) (F : Fr d fuel s0 x vp vs h0 g0 h g p s) (c59 : g.1 67 59 = I3 (vp + vs.length)) {y t i : Nat} (f : Bool) (y1 : y < nH g0) (t1 : t < nT g0) (lt : tM g0 t = (hpl g0 y).length) (hi : i + (hpl g0 y).length ≤ vs.length) (ks : ∀ k, k < (hpl g0 y).length → at0 (hpl g0 x) (i + k) = at0 (pl g0 t) k) (may : ∀ k, k < (hpl g0 y).length → mayB g0 (tP g0 t k) (tn (at0 (hpl g0 y) k)) f false = true) :
    (∃ h' g' ws, F_89 rec (I3 y) (I3 t) (I3 i) (I3 d) (b2 f) h = contA rec y t d f h' ∧ F_356 (I3 y) (I3 t) (b2 f) (I3 i) g = some (1, g') ∧ Lz h h' d ws ∧ Ph g g' (vp + vs.length) ws ∧ tyV g (hpl g0 y) ws) ∨
    (∃ (e : Int32) (h' g' : sm_H) (ws us : List Val), (e = 1 ∨ e = 2) ∧ F_89 rec (I3 y) (I3 t) (I3 i) (I3 d) (b2 f) h = ((F_76 e h').bind fun q15 => some (q15.1, q15.2)) ∧ F_356 (I3 y) (I3 t) (b2 f) (I3 i) g = ((F_348 e g').bind fun q9 => some (0, q9)) ∧ Lz h h' d ws ∧ Ph g g' (vp + vs.length) us) := by
  have d1 := F.d1
  have v10 := F.v10
  have vl := F.vl
  have h12 := F.m.k.1.2.1
  have wT := F.m.k.2.2.1
  have w300 : nT g ≤ 300 := wT.1.2
  have t1' : t < nT g := by rw [m_nT F.ar]; exact t1
  have y1' : y < nH g := by rw [m_nH F.ar]; exact y1
  have kt : ∀ k, k < (hpl g0 y).length → ∃ a, at0 (pl g0 t) k = I3 a ∧ a < 20 + nC g ∧ tP g0 t k = a := fun k hk => by
    obtain ⟨a, a1, a2, a3⟩ := kL_pl wT t1' k (by rw [m_pl F.ar, pl_len]; omega)
    rw [m_pl F.ar] at a1
    refine ⟨a, a1, a3, ?_⟩
    rw [at0_lst (by omega)] at a1
    show tn (g0.1 74 (10 * t + k)) = a
    rw [a1, tnI (by omega)]
  have ky : ∀ k, k < (hpl g0 y).length → ∃ b, at0 (hpl g0 y) k = I3 b ∧ b < 20 + nC g := fun k hk => by
    obtain ⟨a, a1, a2, a3⟩ := kL_h F.m.k y1' k (by rw [m_hpl F.ar]; exact hk)
    rw [m_hpl F.ar] at a1
    exact ⟨a, a1, a3⟩
  have mg : ∀ a b, mayB g a b f false = mayB g0 a b f false := fun a b => by unfold mayB; rw [m_B F.ar]
  have LL : ∀ k, k ≤ (hpl g0 y).length → (∃ h' g' ws, F_89 rec (I3 y) (I3 t) (I3 i) (I3 d) (b2 f) h = lp (F_89_3B rec) (1000000 - k) (I3 y, I3 t, I3 i, I3 d, b2 f, I3 k, h') ∧ F_356 (I3 y) (I3 t) (b2 f) (I3 i) g = lp F_356_19B (1000000 - k) (I3 y, I3 t, b2 f, I3 (vp + i), I3 k, g') ∧ Lz h h' d ws ∧ Ph g g' (vp + vs.length) ws ∧ ws.length = k ∧ (∀ j, j < k → okV g (tn (at0 (hpl g0 y) j)) (atv ws j).1 (atv ws j).2)) ∨ (∃ (e : Int32) (h' g' : sm_H) (ws us : List Val), (e = 1 ∨ e = 2) ∧ F_89 rec (I3 y) (I3 t) (I3 i) (I3 d) (b2 f) h = ((F_76 e h').bind fun q15 => some (q15.1, q15.2)) ∧ F_356 (I3 y) (I3 t) (b2 f) (I3 i) g = ((F_348 e g').bind fun q9 => some (0, q9)) ∧ Lz h h' d ws ∧ Ph g g' (vp + vs.length) us) := by
    intro k
    induction k with
    | zero =>
      intro _
      left
      refine ⟨h, g, [], rfl, ?_, Lz_0 h d, Ph_0 c59, rfl, fun j hj => by omega⟩
      show F_356_0 (I3 y) (I3 t) (b2 f) (I3 i) g = _
      unfold F_356_0
      rw [F.c56, show I3 (d + 1) - 1 = I3 d from I3_sub (a := d + 1) (b := 1) (by omega), F.l105]; simp only [obs]
      rw [I3_add]; rfl
    | succ k ih =>
      intro hk
      rcases ih (by omega) with good | bad
      rotate_left
      · exact Or.inr bad
      obtain ⟨h', g', ws, e1, e2, L, P, wl, wt⟩ := good
      obtain ⟨a, a1, a2, a3⟩ := kt k (by omega)
      obtain ⟨b, b1, b2'⟩ := ky k (by omega)
      have Fh := Fr_Lz F L
      have Fg := Fr_Ph Fh (Nat.le_refl _) P
      have Fg0 := Fr_Ph F (Nat.le_refl _) P
      have mk := may k (by omega)
      rw [a3, b1, tnI (by omega)] at mk
      have okx := F.ty.2 (i + k) (by omega)
      rw [ks k (by omega), a1, tnI (by omega)] at okx
      have ha9 : agr S910 h' (sm_wI (sm_wJ h' 49 9 (atv vs (i + k)).2) 49 10 (tag (atv vs (i + k)).1)) := agr_wI (agr_wJ agr_rfl (by unfold S910; omega)) (by unfold S910; omega)
      have Fh2 := Fr_Lz F (Lz_cv L ha9 rfl)
      have gg' : grow g g' := grow_N (agr_mono (fun b j z => by unfold SP at z; unfold SN; omega) P.a)
      have K2 : K1 (sm_wI (sm_wJ h' 49 9 (atv vs (i + k)).2) 49 10 (tag (atv vs (i + k)).1)) g' := (Fr_Ph Fh2 (Nat.le_refl _) P).m.k
      have nC' : nC g' = nC g := by rw [m_nC Fg0.ar, m_nC F.ar]
      have hB : (F_89_3B rec (I3 y, I3 t, I3 i, I3 d, b2 f, I3 k, h')) = ((F_90 (I3 a) (I3 b) (b2 f) (sm_wI (sm_wJ h' 49 9 (atv vs (i + k)).2) 49 10 (tag (atv vs (i + k)).1))).bind fun q12 => if q12.1 = 0 then ((F_79 (I3 (d + 1)) (I3 k) (q12.2.2.1 49 9) (q12.2.1 49 10) q12.2).bind fun q13 => some (.inl (I3 y, I3 t, I3 i, I3 d, b2 f, I3 (k + 1), q13))) else ((F_76 q12.1 q12.2).bind fun q15 => some (.inr (q15.1, q15.2)))) := by
        unfold F_89_3B
        rw [Fh.cmn y1]; simp only [obs]
        rw [if_neg (by rw [I3_le (by omega) (by omega)]; omega), I3_add, Fh.c77 (by omega)]; simp only [obs]
        rw [Fh.c78 (by omega)]; simp only [obs]
        rw [show F_75 (atv vs (i + k)).2 (tag (atv vs (i + k)).1) h' = some (0, sm_wI (sm_wJ h' 49 9 (atv vs (i + k)).2) 49 10 (tag (atv vs (i + k)).1)) from rfl]; simp only [obs]
        rw [C_tplace Fh2.m.k.2.2.1 Fh2.m.k.2.2.2.1 t1' (by rw [m_tM F.ar]; omega)]; simp only [obs]
        rw [C_pc Fh2.m.k y1' (by rw [m_hpl F.ar]; omega), m_hpl F.ar, b1, (m_c F.ar (show 70 ≤ 74 by decide) (by decide)).1]
        have : g0.1 74 (10 * t + k) = I3 a := by rw [at0_lst (by omega)] at a1; exact a1
        rw [this]; simp only [obs]
        rw [show I3 d + 1 = I3 (d + 1) from I3_add d 1, show I3 k + 1 = I3 (k + 1) from I3_add k 1]
      have gB : F_356_19B (I3 y, I3 t, b2 f, I3 (vp + i), I3 k, g') = ((F_300 (I3 a) (I3 b) (atv vs (i + k)).1 (atv vs (i + k)).2 (b2 f) g').bind fun q6 => if q6.1 = 0 then ((F_342 (q6.2.1 67 48) (q6.2.2.1 67 49) q6.2).bind fun q7 => some (.inl (I3 y, I3 t, b2 f, I3 (vp + i), I3 (k + 1), q7))) else ((F_348 q6.1 q6.2).bind fun q9 => some (.inr (0, q9)))) := by
        unfold F_356_19B
        rw [Fg.mn y1]; simp only [obs]
        rw [if_neg (by rw [I3_le (by omega) (by omega)]; omega), show (10 : Int32) * I3 t + I3 k = I3 (10 * t + k) by rw [I3_lit, I3_mul, I3_add], ldI_I (show 10 * t + k < 3000 by omega) (by decide), (m_c Fg.ar (show 70 ≤ 74 by decide) (by decide)).1]
        have : g0.1 74 (10 * t + k) = I3 a := by rw [at0_lst (by omega)] at a1; exact a1
        rw [this]; simp only [obs]
        rw [R_pc Fg.m.k (by rw [m_nH Fg.ar]; exact y1) (by rw [m_hpl Fg.ar]; omega), m_hpl Fg.ar, b1]; simp only [obs]
        have S2 := Fg.st (i + k) (by omega)
        rw [I3_add, ldI_I (by omega) (by decide), ldJ_I (by omega) (by decide), show vp + i + k = vp + (i + k) by omega, S2.1, S2.2]; simp only [obs]
        rw [show I3 k + 1 = I3 (k + 1) from I3_add k 1]
      rcases conv K2 (a := a) (b := b) (by omega) (by omega) f (okV_grow F.m.k.1 gg' okx) (r := false) (by rw [show mayB g' a b f false = mayB g0 a b f false by unfold mayB; rw [m_B Fg0.ar]]; exact mk) rfl rfl with ⟨h3, g3, z1, z2, z3⟩ | ⟨e, h3, g3, ee, z1, z2, z3, z4, z5⟩
      · left
        have L3 := Lz_cv (Lz_cv L ha9 rfl) z3.c z3.r
        obtain ⟨h4, a4, L4⟩ := Lz_lay L3 d1 (by omega) (g3.1 67 48, g3.2.1 67 49)
        obtain ⟨g4, b4, P4⟩ := R_push (Ph_48 P z3.a) (by omega) (g3.1 67 48, g3.2.1 67 49)
        refine ⟨h4, g4, _, ?_, ?_, L4, P4, by rw [List.length_append, wl]; rfl, fun j hj => ?_⟩
        · rw [e1, lp_s (n := 1000000 - k) (s' := (I3 y, I3 t, I3 i, I3 d, b2 f, I3 (k + 1), h4)) (by omega) ?_]
          · rw [show 1000000 - k - 1 = 1000000 - (k + 1) by omega]
          · rw [hB, z1]; simp only [obs]
            rw [if_pos trivial, z3.n, z3.t]
            rw [wl] at a4
            rw [a4]; simp only [obs]
        · rw [e2, lp_s (n := 1000000 - k) (s' := (I3 y, I3 t, b2 f, I3 (vp + i), I3 (k + 1), g4)) (by omega) ?_]
          · rw [show 1000000 - k - 1 = 1000000 - (k + 1) by omega]
          · rw [gB, z2]; simp only [obs]
            rw [if_pos trivial, b4]; simp only [obs]
        · by_cases q : j < k
          · rw [atv_app1 (by omega)]; exact wt j q
          · have : j = k := by omega
            subst this
            rw [atv_app2 (by omega), wl, Nat.sub_self, b1, tnI (by omega)]
            have ok3 := z3.ok
            refine okV_grow Fg.m.k.1 ?_ ok3
            exact ⟨by rw [nC']; exact Nat.le_refl _, by show tn (g'.1 67 45) ≤ tn (g.1 67 45); rw [P.a.1 67 45 (by unfold SP; omega)]; exact Nat.le_refl _, by rw [m_nH Fg0.ar, m_nH F.ar]; exact Nat.le_refl _, fun t ht => (P.a.1 96 t (by unfold SP; omega)).symm, fun c hc => (P.a.1 70 c (by unfold SP; omega)).symm⟩
      · right
        refine ⟨e, h3, g3, ws, ws, ee, ?_, ?_, Lz_cv (Lz_cv L ha9 rfl) z4 z5, Ph_48 P z3⟩
        · have ne : ¬ e = 0 := by rcases ee with rfl | rfl <;> decide
          rw [e1]
          rw [z1] at hB; simp only [obs] at hB
          rw [if_neg ne] at hB
          exact lp_e (by omega) hB
        · have ne : ¬ e = 0 := by rcases ee with rfl | rfl <;> decide
          rw [e2]
          rw [z2] at gB; simp only [obs] at gB
          rw [if_neg ne] at gB
          cases q : F_348 e g3 with
          | none =>
            rw [q] at gB
            have := lp_n (n := 1000000 - k - 1) gB
            rw [show 1000000 - k - 1 + 1 = 1000000 - k by omega] at this; exact this
          | some u => rw [q] at gB; exact lp_e (by omega) gB
  rcases LL _ (Nat.le_refl _) with ⟨h', g', ws, e1, e2, L, P, wl, wt⟩ | bad
  · left
    have Fh := Fr_Lz F L
    have Fg := Fr_Ph Fh (Nat.le_refl _) P
    refine ⟨h', g', ws, ?_, ?_, L, P, ⟨wl, fun j hj => wt j (by omega)⟩⟩
    · rw [e1]
      have fin : ∀ (r : Option (Int32 × sm_H)), F_89_3B rec (I3 y, I3 t, I3 i, I3 d, b2 f, I3 (hpl g0 y).length, h') = r.map (fun q => .inr q) → lp (F_89_3B rec) (1000000 - (hpl g0 y).length) (I3 y, I3 t, I3 i, I3 d, b2 f, I3 (hpl g0 y).length, h') = r := fun r z => by
        cases r with
        | none =>
          have := lp_n (n := 1000000 - (hpl g0 y).length - 1) z
          rw [show 1000000 - (hpl g0 y).length - 1 + 1 = 1000000 - (hpl g0 y).length by omega] at this; exact this
        | some r => exact lp_e (by omega) z
      refine fin _ ?_
      unfold F_89_3B contA F_89_163
      rw [Fh.cmn y1]; simp only [obs]
      rw [if_pos (by rw [I3_le (by omega) (by omega)]; omega), show I3 d + 1 = I3 (d + 1) from I3_add d 1]
      cases rec (I3 y) (I3 (d + 1)) h' with
      | none => rfl
      | some q2 =>
        simp only [obs]
        by_cases q0 : q2.1 = 0
        · rw [if_pos q0, if_pos q0]
          cases F_44 (I3 y) q2.2 with
          | none => rfl
          | some q3 =>
            simp only [obs]
            cases F_225 (I3 t) q3.2 with
            | none => rfl
            | some q4 =>
              simp only [obs]
              cases F_90 q3.1 q4.1 (b2 f) q4.2 with
              | none => rfl
              | some q5 =>
                simp only [obs]
                by_cases q1 : q5.1 = 0
                · rw [if_pos q1, if_pos q1]; first | rfl | done
                · rw [if_neg q1, if_neg q1]; rfl
        · rw [if_neg q0, if_neg q0]; rfl
    · rw [e2]
      refine lp_e (by omega) ?_
      unfold F_356_19B
      rw [Fg.mn y1]; simp only [obs]
      rw [if_pos (by rw [I3_le (by omega) (by omega)]; omega)]
  · exact Or.inr bad
end
theorem run_12 {rec : Int32 → Int32 → sm_H → Option (Int32 × sm_H)} {d fuel s x vp : Nat} {vs : List Val} {h0 g0 h g : sm_H} (IH : CallOK (d + 1) rec) (F : Fr d fuel s x vp vs h0 g0 h g 0 (s + 1)) (c63 : g.1 67 63 = 0) (c59 : g.1 67 59 = I3 (vp + vs.length)) (eh : sm_wI h0 49 8 (h0.1 49 8 + 1) = h) (lf : h0.1 49 8 < h0.1 49 7) (f : fm g0 x = 12) : Ends d fuel s vp (tn (hrs g0 x)) h0 g0 0 (F_82R rec (I3 x) (I3 d) h0) g := by
  have d1 := F.d1
  have v10 := F.v10
  have x500 := F.x500
  have vl := F.vl
  have vx := F.vx
  have fs := F.fs0
  rw [f] at fs
  have C := B82_12 (rec := rec) (x1 := I3 x) (x2 := I3 d) (by rw [I3_lit, I3_lt (by omega) (by decide)]; omega) lf eh (f ▸ F.f37)
  rw [C]
  have R := B370_12 F.c56 F.l103 F.l105 F.l305 F.l77 F.l78 F.l81 F.l81' (f ▸ F.l75)
  obtain ⟨y, t, y1, ep, t1, eb, ms, er, el⟩ := FS_12 fs
  obtain ⟨m1, m2, m3⟩ := ms
  have h12 := F.m.k.1.2.1
  have t1' : t < nT g := by rw [m_nT F.ar]; exact t1
  have pl1 : (prt g0 x).length = 1 := by rw [ep]; rfl
  have e81 : g0.1 81 (24 * x) = I3 y := by have := F.at81 (k := 0) (by omega); rw [ep] at this; exact this
  have ly := hpl_len g0 y
  have lt := pl_len g0 t
  have lx : vs.length = (hpl g0 y).length := by rw [vx, el]; omega
  have hI : ∀ u, u < nT g0 → g0.1 72 u = I3 (tR g0 u) ∧ tR g0 u < 20 + nC g := fun u hu => by
    have z := (F.m.k.2.2.1.2.1 u (by rw [m_nT F.ar]; exact hu)).1
    rw [(m_c F.ar (show 70 ≤ 72 by decide) (by decide)).1] at z
    exact ⟨z.1, by have := z.2; show tn _ < _; omega⟩
  have tyy : ty g0 y < nT g0 := by rw [← m_nT F.ar, ← m_ty F.ar]; exact ty_lt F.m.k (by rw [m_nH F.ar]; exact y1)
  have CC : F_82_227 rec (I3 x) (I3 d) h = F_89 rec (I3 y) (I3 t) (I3 0) (I3 d) (b2 false) h := by
    unfold F_82_227 F_82_265
    rw [show F_43 (I3 x) 0 h = some (I3 y, h) by have := F.f43 (k := 0) (by omega); rw [ep] at this; exact this]; simp only [obs]
    rw [F.f39, eb]; simp only [obs]
    rw [F.f37, f]; simp only [obs]
    rw [if_neg (show ¬ (I3 12 : Int32) = 13 by decide), bind_id]; rfl
  have RR : F_370 g = F_370_570 (I3 y) (I3 y) (I3 t) (b2 false) g := by
    rw [R, eb, e81]
    unfold F_370_549
    rw [F.l75, f]; simp only [obs]
    rw [if_neg (show ¬ (I3 12 : Int32) = 13 by decide)]; rfl
  rw [CC]
  rcases asLoop rec F c59 (i := 0) false y1 t1 (by omega) (by omega) (fun k hk => by rw [Nat.zero_add, el]) (fun k hk => by have z := m2 k (by omega); rw [show tn (at0 (hpl g0 y) k) = tP g0 (ty g0 y) k by rw [at0_lst (by omega)]]; exact z) with ⟨h', g', ws, e1, e2, L, P, tw⟩ | ⟨e, h', g', ws, us, ee, e1, e2, L, P⟩
  · rw [e1]
    have Fh := Fr_Lz F L
    have M : ∃ u, F_350 (I3 y) 1 g' = some u ∧ Ends d fuel s vp (tn (hrs g0 x)) h0 g0 (0 + 1) (contA rec y t d false h') u := by
      refine midG IH Fh 1 y1 (Nat.le_refl _) (by omega) (Lz_Ly L) P tw (rk := tn (hrs g0 x)) (fun o h1 o1 o2 => if_neg (I3_ne0 (by omega) o2)) (fun out h1 g1 p1 s1 o1 G t59 t63 t62 t104 r kp _ => ?_)
      rcases (show out = 0 ∨ out = 1 by omega) with rfl | rfl
      · have G' := Fr_63 G
        rw [if_pos (show I3 0 = (0 : Int32) from rfl), show F_44 (I3 y) (I3 0, h1).2 = some (hrs g0 y, h1) from G.crs y1]; simp only [obs]
        rw [C_tres G.m.k.2.2.1 G.m.k.2.2.2.1 (by rw [m_nT G.ar]; exact t1), (m_c G.ar (show 70 ≤ 72 by decide) (by decide)).1]; simp only [obs]
        have iy := hI _ tyy
        have it := hI t t1
        have nC1 : nC g1 = nC g := by rw [m_nC G.ar, m_nC F.ar]
        have gx : F_377 g1 = F_377_497 (hrs g0 y) (hrs g0 x) (g1.1 67 60) (g1.2.1 67 61) (b2 false) (sm_wI g1 67 63 0) := by
          refine (go_1 G t62 t104 (X := fun h27 => F_377_465 (I3 x) (g0.1 81 (24 * x)) (g1.1 67 60) (g1.2.1 67 61) h27) (fun h27 _ v45 hv => by rw [← hv, f, if_neg (by decide), if_neg (by decide), if_neg (by decide), if_pos (by decide)])).trans ?_
          show F_377_465 (I3 x) (g0.1 81 (24 * x)) (g1.1 67 60) (g1.2.1 67 61) (sm_wI g1 67 63 0) = _
          unfold F_377_465
          rw [e81, G'.rs y1]; simp only [obs]
          rw [G'.rs F.x1]; simp only [obs]
          rw [G'.l75, f]; simp only [obs]
          rw [if_neg (show ¬ (I3 12 : Int32) = 13 by decide)]; rfl
        have okr := okV_grow G.m.k.1 (grow_N (agr_wI agr_rfl (show SN 67 63 by unfold SN; omega)) : grow g1 (sm_wI g1 67 63 0)) (r.2.2.1 rfl)
        rw [show tn (hrs g0 y) = tR g0 (ty g0 y) from rfl] at okr
        have mg : mayB (sm_wI g1 67 63 0) (tR g0 (ty g0 y)) (tR g0 t) false true = true := by
          have : ∀ a b, B (sm_wI g1 67 63 0) a b = B g0 a b := m_B G'.ar
          unfold mayB; unfold mayB at m3; simp only [this]; exact m3
        rw [show hrs g0 y = I3 (tR g0 (ty g0 y)) from iy.1, it.1]
        rw [show hrs g0 y = I3 (tR g0 (ty g0 y)) from iy.1, er, show rs g0 t = I3 (tR g0 t) from it.1] at gx
        have rkx : tn (hrs g0 x) = tR g0 t := by rw [er]
        rcases conv G'.m.k (a := tR g0 (ty g0 y)) (b := tR g0 t) (by show _ < 20 + nC g1; omega) (by show _ < 20 + nC g1; omega) false okr mg r.1 r.2.1 with ⟨h3, g3, z1, z2, z3⟩ | ⟨e, h3, g3, ee, z1, z2, z3, z4, z5⟩
        · rw [z1]; simp only [obs]
          rw [if_pos trivial]
          have G3 := Fr_48 (Fr_h G' (agr_mono (fun b j z => by unfold S910 at z; unfold SC1; omega) z3.c) z3.r) z3.a
          obtain ⟨u', f1, f2⟩ := Fr_pass (rk := tn (hrs g0 x)) G3 (g3.1 67 48) (g3.2.1 67 49) z3.n z3.t (by rw [rkx]; exact okV_grow G'.m.k.1 (grow_N (agr_mono (fun b j z => by unfold S48 at z; unfold SN; omega) z3.a)) z3.ok)
          refine Ends_step (step_goOn (by omega) G.c64 G.c56 t63 ?_) f2
          rw [gx]
          unfold F_377_497
          rw [z2]; simp only [obs]
          rw [if_pos trivial, f1]; rfl
        · have ne : ¬ e = 0 := by rcases ee with rfl | rfl <;> decide
          rw [z1]; simp only [obs]
          rw [if_neg ne]
          have G3 := Fr_48 (Fr_h G' (agr_mono (fun b j z => by unfold S910 at z; unfold SC1; omega) z4) z5) z3
          obtain ⟨u', h5, f1, f2, f3⟩ := Fr_fail (rk := tn (hrs g0 x)) G3 e (by rcases ee with rfl | rfl <;> decide)
          rw [f2]; simp only [obs]
          refine Ends_step (step_goOn (by omega) G.c64 G.c56 t63 ?_) f3
          rw [gx]
          unfold F_377_497
          rw [z2]; simp only [obs]
          rw [if_neg ne, f1]; rfl
      · rw [if_neg (I3_ne0 (o := 1) (by omega) (by omega))]
        exact thru G (Nat.le_refl 1) t63 t62 ⟨r.1, r.2.1, fun z => by (cases z), r.2.2.2⟩ (fun z => by cases z) (fun _ => Or.inr (by omega))
    obtain ⟨u, f1, f2⟩ := M
    refine Ends_step (step_enter (by omega) F.c64 F.c56 c63 ?_) f2
    rw [RR]
    unfold F_370_570
    rw [show F_356 (I3 y) (I3 t) (b2 false) 0 g = some (1, g') from e2]; simp only [obs]
    rw [if_neg (by decide), f1]; rfl
  · rw [e1]
    obtain ⟨u', h5, f1, f2, f3⟩ := Fr_fail (rk := tn (hrs g0 x)) (Fr_Ph (Fr_Lz F L) (Nat.le_refl _) P) e (by rcases ee with rfl | rfl <;> decide)
    rw [f2]; simp only [obs]
    refine Ends_step (step_enter (by omega) F.c64 F.c56 c63 ?_) f3
    rw [RR]
    unfold F_370_570
    rw [show F_356 (I3 y) (I3 t) (b2 false) 0 g = _ from e2, f1]; rfl
theorem run_13 {rec : Int32 → Int32 → sm_H → Option (Int32 × sm_H)} {d fuel s x vp : Nat} {vs : List Val} {h0 g0 h g : sm_H} (IH : CallOK (d + 1) rec) (F : Fr d fuel s x vp vs h0 g0 h g 0 (s + 1)) (c63 : g.1 67 63 = 0) (c59 : g.1 67 59 = I3 (vp + vs.length)) (eh : sm_wI h0 49 8 (h0.1 49 8 + 1) = h) (lf : h0.1 49 8 < h0.1 49 7) (f : fm g0 x = 13) : Ends d fuel s vp (tn (hrs g0 x)) h0 g0 0 (F_82R rec (I3 x) (I3 d) h0) g := by
  have d1 := F.d1
  have v10 := F.v10
  have x500 := F.x500
  have vl := F.vl
  have vx := F.vx
  have fs := F.fs0
  rw [f] at fs
  have C := B82_13 (rec := rec) (x1 := I3 x) (x2 := I3 d) (by rw [I3_lit, I3_lt (by omega) (by decide)]; omega) lf eh (f ▸ F.f37)
  rw [C]
  have R := B370_13 F.c56 F.l103 F.l105 F.l305 F.l77 F.l78 F.l81 F.l81' (f ▸ F.l75)
  obtain ⟨y, t, y1, ep, t1, eb, ms, er, el⟩ := FS_13 fs
  obtain ⟨m1, m2, m3⟩ := ms
  have h12 := F.m.k.1.2.1
  have t1' : t < nT g := by rw [m_nT F.ar]; exact t1
  have pl1 : (prt g0 x).length = 1 := by rw [ep]; rfl
  have e81 : g0.1 81 (24 * x) = I3 y := by have := F.at81 (k := 0) (by omega); rw [ep] at this; exact this
  have ly := hpl_len g0 y
  have lt := pl_len g0 t
  have lx : vs.length = (hpl g0 y).length := by rw [vx, el]; omega
  have hI : ∀ u, u < nT g0 → g0.1 72 u = I3 (tR g0 u) ∧ tR g0 u < 20 + nC g := fun u hu => by
    have z := (F.m.k.2.2.1.2.1 u (by rw [m_nT F.ar]; exact hu)).1
    rw [(m_c F.ar (show 70 ≤ 72 by decide) (by decide)).1] at z
    exact ⟨z.1, by have := z.2; show tn _ < _; omega⟩
  have tyy : ty g0 y < nT g0 := by rw [← m_nT F.ar, ← m_ty F.ar]; exact ty_lt F.m.k (by rw [m_nH F.ar]; exact y1)
  have CC : F_82_227 rec (I3 x) (I3 d) h = F_89 rec (I3 y) (I3 t) (I3 0) (I3 d) (b2 true) h := by
    unfold F_82_227 F_82_265
    rw [show F_43 (I3 x) 0 h = some (I3 y, h) by have := F.f43 (k := 0) (by omega); rw [ep] at this; exact this]; simp only [obs]
    rw [F.f39, eb]; simp only [obs]
    rw [F.f37, f]; simp only [obs]
    rw [if_pos (show (I3 13 : Int32) = 13 by decide), bind_id]; rfl
  have RR : F_370 g = F_370_570 (I3 y) (I3 y) (I3 t) (b2 true) g := by
    rw [R, eb, e81]
    unfold F_370_549
    rw [F.l75, f]; simp only [obs]
    rw [if_pos (show (I3 13 : Int32) = 13 by decide)]; rfl
  rw [CC]
  rcases asLoop rec F c59 (i := 0) true y1 t1 (by omega) (by omega) (fun k hk => by rw [Nat.zero_add, el]) (fun k hk => by have z := m2 k (by omega); rw [show tn (at0 (hpl g0 y) k) = tP g0 (ty g0 y) k by rw [at0_lst (by omega)]]; exact z) with ⟨h', g', ws, e1, e2, L, P, tw⟩ | ⟨e, h', g', ws, us, ee, e1, e2, L, P⟩
  · rw [e1]
    have Fh := Fr_Lz F L
    have M : ∃ u, F_350 (I3 y) 1 g' = some u ∧ Ends d fuel s vp (tn (hrs g0 x)) h0 g0 (0 + 1) (contA rec y t d true h') u := by
      refine midG IH Fh 1 y1 (Nat.le_refl _) (by omega) (Lz_Ly L) P tw (rk := tn (hrs g0 x)) (fun o h1 o1 o2 => if_neg (I3_ne0 (by omega) o2)) (fun out h1 g1 p1 s1 o1 G t59 t63 t62 t104 r kp _ => ?_)
      rcases (show out = 0 ∨ out = 1 by omega) with rfl | rfl
      · have G' := Fr_63 G
        rw [if_pos (show I3 0 = (0 : Int32) from rfl), show F_44 (I3 y) (I3 0, h1).2 = some (hrs g0 y, h1) from G.crs y1]; simp only [obs]
        rw [C_tres G.m.k.2.2.1 G.m.k.2.2.2.1 (by rw [m_nT G.ar]; exact t1), (m_c G.ar (show 70 ≤ 72 by decide) (by decide)).1]; simp only [obs]
        have iy := hI _ tyy
        have it := hI t t1
        have nC1 : nC g1 = nC g := by rw [m_nC G.ar, m_nC F.ar]
        have gx : F_377 g1 = F_377_497 (hrs g0 y) (hrs g0 x) (g1.1 67 60) (g1.2.1 67 61) (b2 true) (sm_wI g1 67 63 0) := by
          refine (go_1 G t62 t104 (X := fun h27 => F_377_465 (I3 x) (g0.1 81 (24 * x)) (g1.1 67 60) (g1.2.1 67 61) h27) (fun h27 _ v45 hv => by rw [← hv, f, if_neg (by decide), if_neg (by decide), if_neg (by decide), if_neg (by decide), if_pos (by decide)])).trans ?_
          show F_377_465 (I3 x) (g0.1 81 (24 * x)) (g1.1 67 60) (g1.2.1 67 61) (sm_wI g1 67 63 0) = _
          unfold F_377_465
          rw [e81, G'.rs y1]; simp only [obs]
          rw [G'.rs F.x1]; simp only [obs]
          rw [G'.l75, f]; simp only [obs]
          rw [if_pos (show (I3 13 : Int32) = 13 by decide)]; rfl
        have okr := okV_grow G.m.k.1 (grow_N (agr_wI agr_rfl (show SN 67 63 by unfold SN; omega)) : grow g1 (sm_wI g1 67 63 0)) (r.2.2.1 rfl)
        rw [show tn (hrs g0 y) = tR g0 (ty g0 y) from rfl] at okr
        have mg : mayB (sm_wI g1 67 63 0) (tR g0 (ty g0 y)) (tR g0 t) true true = true := by
          have : ∀ a b, B (sm_wI g1 67 63 0) a b = B g0 a b := m_B G'.ar
          unfold mayB; unfold mayB at m3; simp only [this]; exact m3
        rw [show hrs g0 y = I3 (tR g0 (ty g0 y)) from iy.1, it.1]
        rw [show hrs g0 y = I3 (tR g0 (ty g0 y)) from iy.1, er, show rs g0 t = I3 (tR g0 t) from it.1] at gx
        have rkx : tn (hrs g0 x) = tR g0 t := by rw [er]
        rcases conv G'.m.k (a := tR g0 (ty g0 y)) (b := tR g0 t) (by show _ < 20 + nC g1; omega) (by show _ < 20 + nC g1; omega) true okr mg r.1 r.2.1 with ⟨h3, g3, z1, z2, z3⟩ | ⟨e, h3, g3, ee, z1, z2, z3, z4, z5⟩
        · rw [z1]; simp only [obs]
          rw [if_pos trivial]
          have G3 := Fr_48 (Fr_h G' (agr_mono (fun b j z => by unfold S910 at z; unfold SC1; omega) z3.c) z3.r) z3.a
          obtain ⟨u', f1, f2⟩ := Fr_pass (rk := tn (hrs g0 x)) G3 (g3.1 67 48) (g3.2.1 67 49) z3.n z3.t (by rw [rkx]; exact okV_grow G'.m.k.1 (grow_N (agr_mono (fun b j z => by unfold S48 at z; unfold SN; omega) z3.a)) z3.ok)
          refine Ends_step (step_goOn (by omega) G.c64 G.c56 t63 ?_) f2
          rw [gx]
          unfold F_377_497
          rw [z2]; simp only [obs]
          rw [if_pos trivial, f1]; rfl
        · have ne : ¬ e = 0 := by rcases ee with rfl | rfl <;> decide
          rw [z1]; simp only [obs]
          rw [if_neg ne]
          have G3 := Fr_48 (Fr_h G' (agr_mono (fun b j z => by unfold S910 at z; unfold SC1; omega) z4) z5) z3
          obtain ⟨u', h5, f1, f2, f3⟩ := Fr_fail (rk := tn (hrs g0 x)) G3 e (by rcases ee with rfl | rfl <;> decide)
          rw [f2]; simp only [obs]
          refine Ends_step (step_goOn (by omega) G.c64 G.c56 t63 ?_) f3
          rw [gx]
          unfold F_377_497
          rw [z2]; simp only [obs]
          rw [if_neg ne, f1]; rfl
      · rw [if_neg (I3_ne0 (o := 1) (by omega) (by omega))]
        exact thru G (Nat.le_refl 1) t63 t62 ⟨r.1, r.2.1, fun z => by (cases z), r.2.2.2⟩ (fun z => by cases z) (fun _ => Or.inr (by omega))
    obtain ⟨u, f1, f2⟩ := M
    refine Ends_step (step_enter (by omega) F.c64 F.c56 c63 ?_) f2
    rw [RR]
    unfold F_370_570
    rw [show F_356 (I3 y) (I3 t) (b2 true) 0 g = some (1, g') from e2]; simp only [obs]
    rw [if_neg (by decide), f1]; rfl
  · rw [e1]
    obtain ⟨u', h5, f1, f2, f3⟩ := Fr_fail (rk := tn (hrs g0 x)) (Fr_Ph (Fr_Lz F L) (Nat.le_refl _) P) e (by rcases ee with rfl | rfl <;> decide)
    rw [f2]; simp only [obs]
    refine Ends_step (step_enter (by omega) F.c64 F.c56 c63 ?_) f3
    rw [RR]
    unfold F_370_570
    rw [show F_356 (I3 y) (I3 t) (b2 true) 0 g = _ from e2, f1]; rfl
