theorem B102_0 {x1 x2 a : Int32} {h : sm_H} (e38 : F_38 x1 h = some (a, h)) (e37 : F_37 x1 h = some (I3 0, h)) : F_102 x1 x2 h = ((F_40 x1 h).bind fun q11 =>
  (F_153 a q11.1 q11.2).bind fun q12 =>
  (F_40 x1 q12.2).bind fun q13 =>
  (F_154 a q13.1 q13.2).bind fun q14 =>
  (F_75 q12.1 q14.1 q14.2).bind fun q15 =>
  some (q15.1, q15.2)) := by
  show F_102_0 x1 x2 h = _
  unfold F_102_0
  rw [e38]; simp only [obs]
  rw [e37]; simp only [obs]
  rw [if_pos (show (I3 0 : Int32) = 0 by decide)]
theorem B102_1 {x1 x2 a : Int32} {h : sm_H} (e38 : F_38 x1 h = some (a, h)) (e37 : F_37 x1 h = some (I3 1, h)) : F_102 x1 x2 h = ((F_43 x1 0 h).bind fun q16 =>
  (F_75 (Int32.toInt64 q16.1) 18 q16.2).bind fun q17 =>
  some (q17.1, q17.2)) := by
  show F_102_0 x1 x2 h = _
  unfold F_102_0
  rw [e38]; simp only [obs]
  rw [e37]; simp only [obs]
  rw [if_neg (show ¬ (I3 1 : Int32) = 0 by decide), if_pos (show (I3 1 : Int32) = 1 by decide)]
theorem B102_2 {x1 x2 a : Int32} {h : sm_H} (e38 : F_38 x1 h = some (a, h)) (e37 : F_37 x1 h = some (I3 2, h)) : F_102 x1 x2 h = ((F_77 x2 0 h).bind fun q18 =>
  (F_78 x2 0 q18.2).bind fun q19 =>
  (F_75 q18.1 q19.1 q19.2).bind fun q20 =>
  some (q20.1, q20.2)) := by
  show F_102_0 x1 x2 h = _
  unfold F_102_0
  rw [e38]; simp only [obs]
  rw [e37]; simp only [obs]
  rw [if_neg (show ¬ (I3 2 : Int32) = 0 by decide), if_neg (show ¬ (I3 2 : Int32) = 1 by decide), if_pos (show (I3 2 : Int32) = 2 by decide)]
theorem B102_3 {x1 x2 a : Int32} {h : sm_H} (e38 : F_38 x1 h = some (a, h)) (e37 : F_37 x1 h = some (I3 3, h)) : F_102 x1 x2 h = ((F_39 x1 h).bind fun q21 =>
  if q21.1 = 6 then (F_102_267  x2 a 1 q21.2)
  else (F_102_267  x2 a 0 q21.2)) := by
  show F_102_0 x1 x2 h = _
  unfold F_102_0
  rw [e38]; simp only [obs]
  rw [e37]; simp only [obs]
  rw [if_neg (show ¬ (I3 3 : Int32) = 0 by decide), if_neg (show ¬ (I3 3 : Int32) = 1 by decide), if_neg (show ¬ (I3 3 : Int32) = 2 by decide), if_pos (show (I3 3 : Int32) = 3 by decide)]
theorem B102_19 {x1 x2 a : Int32} {h : sm_H} (e38 : F_38 x1 h = some (a, h)) (e37 : F_37 x1 h = some (I3 19, h)) : F_102 x1 x2 h = ((F_77 x2 0 h).bind fun q22 =>
  (F_78 x2 0 q22.2).bind fun q23 =>
  (F_75 q22.1 q23.1 q23.2).bind fun q24 =>
  if (q24.2.1 49 10) = 0 then ((F_76 1 q24.2).bind fun q25 =>
  F_102_316  q25.1 q25.2)
  else (F_102_316  1 q24.2)) := by
  show F_102_0 x1 x2 h = _
  unfold F_102_0
  rw [e38]; simp only [obs]
  rw [e37]; simp only [obs]
  rw [if_neg (show ¬ (I3 19 : Int32) = 0 by decide), if_neg (show ¬ (I3 19 : Int32) = 1 by decide), if_neg (show ¬ (I3 19 : Int32) = 2 by decide), if_neg (show ¬ (I3 19 : Int32) = 3 by decide), if_pos (show (I3 19 : Int32) = 19 by decide)]
theorem B102_20 {x1 x2 a : Int32} {h : sm_H} (e38 : F_38 x1 h = some (a, h)) (e37 : F_37 x1 h = some (I3 20, h)) : F_102 x1 x2 h = ((F_77 x2 0 h).bind fun q26 =>
  (F_107 a (Int64.toInt32 q26.1) q26.2).bind fun q27 =>
  some (q27.1, q27.2)) := by
  show F_102_0 x1 x2 h = _
  unfold F_102_0
  rw [e38]; simp only [obs]
  rw [e37]; simp only [obs]
  rw [if_neg (show ¬ (I3 20 : Int32) = 0 by decide), if_neg (show ¬ (I3 20 : Int32) = 1 by decide), if_neg (show ¬ (I3 20 : Int32) = 2 by decide), if_neg (show ¬ (I3 20 : Int32) = 3 by decide), if_neg (show ¬ (I3 20 : Int32) = 19 by decide), if_pos (show (I3 20 : Int32) = 20 by decide)]
theorem B102_21 {x1 x2 a : Int32} {h : sm_H} (e38 : F_38 x1 h = some (a, h)) (e37 : F_37 x1 h = some (I3 21, h)) : F_102 x1 x2 h = ((F_78 x2 0 h).bind fun q28 =>
  if q28.1 = 0 then ((F_76 1 q28.2).bind fun q34 =>
  some (q34.1, q34.2))
  else ((F_77 x2 0 q28.2).bind fun q29 =>
  (F_147 q29.1 q29.2).bind fun q30 =>
  if ¬ (sm_is G0 q30.2 q30.1 8 = true) then none else (F_216 q30.1 q30.2).bind fun q31 =>
  (F_75 (Int32.toInt64 q31.1) 0 q31.2).bind fun q33 =>
  some (q33.1, q33.2))) := by
  show F_102_0 x1 x2 h = _
  unfold F_102_0
  rw [e38]; simp only [obs]
  rw [e37]; simp only [obs]
  rw [if_neg (show ¬ (I3 21 : Int32) = 0 by decide), if_neg (show ¬ (I3 21 : Int32) = 1 by decide), if_neg (show ¬ (I3 21 : Int32) = 2 by decide), if_neg (show ¬ (I3 21 : Int32) = 3 by decide), if_neg (show ¬ (I3 21 : Int32) = 19 by decide), if_neg (show ¬ (I3 21 : Int32) = 20 by decide), if_pos (show (I3 21 : Int32) = 21 by decide)]
theorem B102_22 {x1 x2 a : Int32} {h : sm_H} (e38 : F_38 x1 h = some (a, h)) (e37 : F_37 x1 h = some (I3 22, h)) : F_102 x1 x2 h = (F_102_368  x1 x2 h) := by
  show F_102_0 x1 x2 h = _
  unfold F_102_0
  rw [e38]; simp only [obs]
  rw [e37]; simp only [obs]
  rw [if_neg (show ¬ (I3 22 : Int32) = 0 by decide), if_neg (show ¬ (I3 22 : Int32) = 1 by decide), if_neg (show ¬ (I3 22 : Int32) = 2 by decide), if_neg (show ¬ (I3 22 : Int32) = 3 by decide), if_neg (show ¬ (I3 22 : Int32) = 19 by decide), if_neg (show ¬ (I3 22 : Int32) = 20 by decide), if_neg (show ¬ (I3 22 : Int32) = 21 by decide), if_pos (show (I3 22 : Int32) = 22 by decide)]
theorem B102_23 {x1 x2 a : Int32} {h : sm_H} (e38 : F_38 x1 h = some (a, h)) (e37 : F_37 x1 h = some (I3 23, h)) : F_102 x1 x2 h = (F_102_368  x1 x2 h) := by
  show F_102_0 x1 x2 h = _
  unfold F_102_0
  rw [e38]; simp only [obs]
  rw [e37]; simp only [obs]
  rw [if_neg (show ¬ (I3 23 : Int32) = 0 by decide), if_neg (show ¬ (I3 23 : Int32) = 1 by decide), if_neg (show ¬ (I3 23 : Int32) = 2 by decide), if_neg (show ¬ (I3 23 : Int32) = 3 by decide), if_neg (show ¬ (I3 23 : Int32) = 19 by decide), if_neg (show ¬ (I3 23 : Int32) = 20 by decide), if_neg (show ¬ (I3 23 : Int32) = 21 by decide), if_neg (show ¬ (I3 23 : Int32) = 22 by decide), if_pos (show (I3 23 : Int32) = 23 by decide)]
theorem B102_24 {x1 x2 a : Int32} {h : sm_H} (e38 : F_38 x1 h = some (a, h)) (e37 : F_37 x1 h = some (I3 24, h)) : F_102 x1 x2 h = (F_102_368  x1 x2 h) := by
  show F_102_0 x1 x2 h = _
  unfold F_102_0
  rw [e38]; simp only [obs]
  rw [e37]; simp only [obs]
  rw [if_neg (show ¬ (I3 24 : Int32) = 0 by decide), if_neg (show ¬ (I3 24 : Int32) = 1 by decide), if_neg (show ¬ (I3 24 : Int32) = 2 by decide), if_neg (show ¬ (I3 24 : Int32) = 3 by decide), if_neg (show ¬ (I3 24 : Int32) = 19 by decide), if_neg (show ¬ (I3 24 : Int32) = 20 by decide), if_neg (show ¬ (I3 24 : Int32) = 21 by decide), if_neg (show ¬ (I3 24 : Int32) = 22 by decide), if_neg (show ¬ (I3 24 : Int32) = 23 by decide), if_pos (show (I3 24 : Int32) = 24 by decide)]
theorem B102_25 {x1 x2 a : Int32} {h : sm_H} (e38 : F_38 x1 h = some (a, h)) (e37 : F_37 x1 h = some (I3 25, h)) : F_102 x1 x2 h = (F_102_368  x1 x2 h) := by
  show F_102_0 x1 x2 h = _
  unfold F_102_0
  rw [e38]; simp only [obs]
  rw [e37]; simp only [obs]
  rw [if_neg (show ¬ (I3 25 : Int32) = 0 by decide), if_neg (show ¬ (I3 25 : Int32) = 1 by decide), if_neg (show ¬ (I3 25 : Int32) = 2 by decide), if_neg (show ¬ (I3 25 : Int32) = 3 by decide), if_neg (show ¬ (I3 25 : Int32) = 19 by decide), if_neg (show ¬ (I3 25 : Int32) = 20 by decide), if_neg (show ¬ (I3 25 : Int32) = 21 by decide), if_neg (show ¬ (I3 25 : Int32) = 22 by decide), if_neg (show ¬ (I3 25 : Int32) = 23 by decide), if_neg (show ¬ (I3 25 : Int32) = 24 by decide), if_pos (show (I3 25 : Int32) = 25 by decide)]
theorem B102_26 {x1 x2 a : Int32} {h : sm_H} (e38 : F_38 x1 h = some (a, h)) (e37 : F_37 x1 h = some (I3 26, h)) : F_102 x1 x2 h = (F_102_368  x1 x2 h) := by
  show F_102_0 x1 x2 h = _
  unfold F_102_0
  rw [e38]; simp only [obs]
  rw [e37]; simp only [obs]
  rw [if_neg (show ¬ (I3 26 : Int32) = 0 by decide), if_neg (show ¬ (I3 26 : Int32) = 1 by decide), if_neg (show ¬ (I3 26 : Int32) = 2 by decide), if_neg (show ¬ (I3 26 : Int32) = 3 by decide), if_neg (show ¬ (I3 26 : Int32) = 19 by decide), if_neg (show ¬ (I3 26 : Int32) = 20 by decide), if_neg (show ¬ (I3 26 : Int32) = 21 by decide), if_neg (show ¬ (I3 26 : Int32) = 22 by decide), if_neg (show ¬ (I3 26 : Int32) = 23 by decide), if_neg (show ¬ (I3 26 : Int32) = 24 by decide), if_neg (show ¬ (I3 26 : Int32) = 25 by decide), if_pos (show (I3 26 : Int32) = 26 by decide)]
theorem B102_31 {x1 x2 a : Int32} {h : sm_H} (e38 : F_38 x1 h = some (a, h)) (e37 : F_37 x1 h = some (I3 31, h)) : F_102 x1 x2 h = ((F_78 x2 0 h).bind fun q35 =>
  if q35.1 = 0 then (F_102_406  q35.2)
  else ((F_78 x2 0 q35.2).bind fun q36 =>
  (F_60 q36.1 a q36.2).bind fun q37 =>
  if q37.1 = 0 then (F_102_406  q37.2)
  else (F_102_407  1 q37.2))) := by
  show F_102_0 x1 x2 h = _
  unfold F_102_0
  rw [e38]; simp only [obs]
  rw [e37]; simp only [obs]
  rw [if_neg (show ¬ (I3 31 : Int32) = 0 by decide), if_neg (show ¬ (I3 31 : Int32) = 1 by decide), if_neg (show ¬ (I3 31 : Int32) = 2 by decide), if_neg (show ¬ (I3 31 : Int32) = 3 by decide), if_neg (show ¬ (I3 31 : Int32) = 19 by decide), if_neg (show ¬ (I3 31 : Int32) = 20 by decide), if_neg (show ¬ (I3 31 : Int32) = 21 by decide), if_neg (show ¬ (I3 31 : Int32) = 22 by decide), if_neg (show ¬ (I3 31 : Int32) = 23 by decide), if_neg (show ¬ (I3 31 : Int32) = 24 by decide), if_neg (show ¬ (I3 31 : Int32) = 25 by decide), if_neg (show ¬ (I3 31 : Int32) = 26 by decide), if_pos (show (I3 31 : Int32) = 31 by decide)]
theorem B102_32 {x1 x2 a : Int32} {h : sm_H} (e38 : F_38 x1 h = some (a, h)) (e37 : F_37 x1 h = some (I3 32, h)) : F_102 x1 x2 h = ((F_103 x2 h).bind fun q38 =>
  if q38.1 = 0 then (F_102_426  0 q38.2)
  else (F_102_426  1 q38.2)) := by
  show F_102_0 x1 x2 h = _
  unfold F_102_0
  rw [e38]; simp only [obs]
  rw [e37]; simp only [obs]
  rw [if_neg (show ¬ (I3 32 : Int32) = 0 by decide), if_neg (show ¬ (I3 32 : Int32) = 1 by decide), if_neg (show ¬ (I3 32 : Int32) = 2 by decide), if_neg (show ¬ (I3 32 : Int32) = 3 by decide), if_neg (show ¬ (I3 32 : Int32) = 19 by decide), if_neg (show ¬ (I3 32 : Int32) = 20 by decide), if_neg (show ¬ (I3 32 : Int32) = 21 by decide), if_neg (show ¬ (I3 32 : Int32) = 22 by decide), if_neg (show ¬ (I3 32 : Int32) = 23 by decide), if_neg (show ¬ (I3 32 : Int32) = 24 by decide), if_neg (show ¬ (I3 32 : Int32) = 25 by decide), if_neg (show ¬ (I3 32 : Int32) = 26 by decide), if_neg (show ¬ (I3 32 : Int32) = 31 by decide), if_pos (show (I3 32 : Int32) = 32 by decide)]
theorem B102_33 {x1 x2 a : Int32} {h : sm_H} (e38 : F_38 x1 h = some (a, h)) (e37 : F_37 x1 h = some (I3 33, h)) : F_102 x1 x2 h = ((F_78 x2 0 h).bind fun q39 =>
  if q39.1 = 0 then ((F_76 1 q39.2).bind fun q42 =>
  some (q42.1, q42.2))
  else ((F_78 x2 0 q39.2).bind fun q40 =>
  if q40.1 = 19 then ((F_77 x2 0 q40.2).bind fun q41 =>
  F_102_468  q41.1 q41.2)
  else (F_102_468  0 q40.2))) := by
  show F_102_0 x1 x2 h = _
  unfold F_102_0
  rw [e38]; simp only [obs]
  rw [e37]; simp only [obs]
  rw [if_neg (show ¬ (I3 33 : Int32) = 0 by decide), if_neg (show ¬ (I3 33 : Int32) = 1 by decide), if_neg (show ¬ (I3 33 : Int32) = 2 by decide), if_neg (show ¬ (I3 33 : Int32) = 3 by decide), if_neg (show ¬ (I3 33 : Int32) = 19 by decide), if_neg (show ¬ (I3 33 : Int32) = 20 by decide), if_neg (show ¬ (I3 33 : Int32) = 21 by decide), if_neg (show ¬ (I3 33 : Int32) = 22 by decide), if_neg (show ¬ (I3 33 : Int32) = 23 by decide), if_neg (show ¬ (I3 33 : Int32) = 24 by decide), if_neg (show ¬ (I3 33 : Int32) = 25 by decide), if_neg (show ¬ (I3 33 : Int32) = 26 by decide), if_neg (show ¬ (I3 33 : Int32) = 31 by decide), if_neg (show ¬ (I3 33 : Int32) = 32 by decide), if_pos (show (I3 33 : Int32) = 33 by decide)]
theorem B102_34 {x1 x2 a : Int32} {h : sm_H} (e38 : F_38 x1 h = some (a, h)) (e37 : F_37 x1 h = some (I3 34, h)) : F_102 x1 x2 h = (F_102_480  h) := by
  show F_102_0 x1 x2 h = _
  unfold F_102_0
  rw [e38]; simp only [obs]
  rw [e37]; simp only [obs]
  rw [if_neg (show ¬ (I3 34 : Int32) = 0 by decide), if_neg (show ¬ (I3 34 : Int32) = 1 by decide), if_neg (show ¬ (I3 34 : Int32) = 2 by decide), if_neg (show ¬ (I3 34 : Int32) = 3 by decide), if_neg (show ¬ (I3 34 : Int32) = 19 by decide), if_neg (show ¬ (I3 34 : Int32) = 20 by decide), if_neg (show ¬ (I3 34 : Int32) = 21 by decide), if_neg (show ¬ (I3 34 : Int32) = 22 by decide), if_neg (show ¬ (I3 34 : Int32) = 23 by decide), if_neg (show ¬ (I3 34 : Int32) = 24 by decide), if_neg (show ¬ (I3 34 : Int32) = 25 by decide), if_neg (show ¬ (I3 34 : Int32) = 26 by decide), if_neg (show ¬ (I3 34 : Int32) = 31 by decide), if_neg (show ¬ (I3 34 : Int32) = 32 by decide), if_neg (show ¬ (I3 34 : Int32) = 33 by decide), if_neg (show ¬ (I3 34 : Int32) = 35 by decide)]
theorem B102_35 {x1 x2 a : Int32} {h : sm_H} (e38 : F_38 x1 h = some (a, h)) (e37 : F_37 x1 h = some (I3 35, h)) : F_102 x1 x2 h = ((F_109 x1 x2 h).bind fun q43 =>
  some (q43.1, q43.2)) := by
  show F_102_0 x1 x2 h = _
  unfold F_102_0
  rw [e38]; simp only [obs]
  rw [e37]; simp only [obs]
  rw [if_neg (show ¬ (I3 35 : Int32) = 0 by decide), if_neg (show ¬ (I3 35 : Int32) = 1 by decide), if_neg (show ¬ (I3 35 : Int32) = 2 by decide), if_neg (show ¬ (I3 35 : Int32) = 3 by decide), if_neg (show ¬ (I3 35 : Int32) = 19 by decide), if_neg (show ¬ (I3 35 : Int32) = 20 by decide), if_neg (show ¬ (I3 35 : Int32) = 21 by decide), if_neg (show ¬ (I3 35 : Int32) = 22 by decide), if_neg (show ¬ (I3 35 : Int32) = 23 by decide), if_neg (show ¬ (I3 35 : Int32) = 24 by decide), if_neg (show ¬ (I3 35 : Int32) = 25 by decide), if_neg (show ¬ (I3 35 : Int32) = 26 by decide), if_neg (show ¬ (I3 35 : Int32) = 31 by decide), if_neg (show ¬ (I3 35 : Int32) = 32 by decide), if_neg (show ¬ (I3 35 : Int32) = 33 by decide), if_pos (show (I3 35 : Int32) = 35 by decide)]
theorem okV_6 {g : sm_H} {v : Val} {k : Nat} (h1 : 1 ≤ k) (h2 : k ≤ 6) (h : okV g k v.1 v.2) : v.1 = I3 k ∧ okN k v.2 := by
  rcases h with ⟨a, b, c, e⟩ | ⟨a, b, c⟩ | ⟨a, b⟩
  · exact ⟨c, e⟩
  · omega
  · omega
theorem okV_7 {g : sm_H} {v : Val} {k : Nat} (wK : wfK g) (h7 : 7 ≤ k) (h : okV g k v.1 v.2) : (v = (0, 0) ∧ tag v.1 = 0) ∨ ∃ q, v.1 = I3 q ∧ 9 ≤ q ∧ q < 20 + nC g ∧ B g q k = true ∧ okO g q v.2 ∧ tag v.1 = v.1 ∧ v.1 ≠ 0 := by
  have h12 := wK.2.1
  rcases h with ⟨a, b, c, e⟩ | ⟨a, b, c⟩ | ⟨a, q, b, c, e, o⟩
  · omega
  · left; exact ⟨Prod.ext b c, by rw [b]; decide⟩
  · right
    have q9 := okO_7 o
    refine ⟨q, b, q9, c, e, o, ?_, ?_⟩
    · rw [b, tag_I (by omega) (by omega)]
    · rw [b, Ne, I3_lit, I3_inj (by omega) (by decide)]; omega
theorem run_0 {rec : Int32 → Int32 → sm_H → Option (Int32 × sm_H)} {d fuel s x vp : Nat} {vs : List Val} {h0 g0 h g : sm_H} (IH : CallOK (d + 1) rec) (F : Fr d fuel s x vp vs h0 g0 h g 0 (s + 1)) (c63 : g.1 67 63 = 0) (c59 : g.1 67 59 = I3 (vp + vs.length)) (eh : sm_wI h0 49 8 (h0.1 49 8 + 1) = h) (lf : h0.1 49 8 < h0.1 49 7) (f : fm g0 x = 0) : Ends d fuel s vp (tn (hrs g0 x)) h0 g0 0 (F_82R rec (I3 x) (I3 d) h0) g := by
  have d1 := F.d1
  have v10 := F.v10
  have x500 := F.x500
  have vl := F.vl
  have vx := F.vx
  have fs := F.fs0
  rw [f] at fs
  have C := B82_0 (rec := rec) (x1 := I3 x) (x2 := I3 d) (by rw [I3_lit, I3_lt (by omega) (by decide)]; omega) lf eh (f ▸ F.f37)
  rw [C]
  have R := B370_0 F.c56 F.l103 F.l105 F.l305 F.l77 F.l78 F.l81 F.l81' (f ▸ F.l75)
  obtain ⟨ep, el, er, k, k0, k1, ea, ok⟩ := FS_0 fs
  have kg : k < 20 + nC g := by rw [m_nC F.ar]; exact k1
  obtain ⟨v1, v2, v3, g2, w4, w5, w6, w7⟩ := constV F.m.k (c := g0.2.1 79 x) kg (okK_m F.ar ok)
  have h12 := F.m.k.1.2.1
  have rk : tn (hrs g0 x) = k := by rw [er, ea, tnI (by omega)]
  have F2 := Fr_48 F w5
  obtain ⟨u, h', e1, e2, e3⟩ := Fr_give (rk := tn (hrs g0 x)) F2 (conV g k (g0.2.1 79 x)).1 (conV g k (g0.2.1 79 x)).2 (by rw [rk]; exact okV_grow F.m.k.1 (grow_N (agr_mono (fun b j z => by unfold S48 at z; unfold SN; omega) w5)) v1)
  have CC : F_82_367 rec (I3 x) (I3 d) h = some (0, h') := by
    unfold F_82_367
    rw [bind_id, B102_0 (F.f38) (f ▸ F.f37), F.f40, ea]; simp only [obs]
    rw [v2]; simp only [obs]
    rw [F.f40]; simp only [obs]
    rw [v3]; simp only [obs]
    rw [e2]; rfl
  rw [CC]
  refine Ends_step (step_enter (by omega) F.c64 F.c56 c63 ?_) e3
  rw [R, F.l79]; simp only [obs]
  rw [ea, w4]; simp only [obs]
  rw [w6, w7, e1]; rfl
theorem run_1 {rec : Int32 → Int32 → sm_H → Option (Int32 × sm_H)} {d fuel s x vp : Nat} {vs : List Val} {h0 g0 h g : sm_H} (IH : CallOK (d + 1) rec) (F : Fr d fuel s x vp vs h0 g0 h g 0 (s + 1)) (c63 : g.1 67 63 = 0) (c59 : g.1 67 59 = I3 (vp + vs.length)) (eh : sm_wI h0 49 8 (h0.1 49 8 + 1) = h) (lf : h0.1 49 8 < h0.1 49 7) (f : fm g0 x = 1) : Ends d fuel s vp (tn (hrs g0 x)) h0 g0 0 (F_82R rec (I3 x) (I3 d) h0) g := by
  have d1 := F.d1
  have v10 := F.v10
  have x500 := F.x500
  have vl := F.vl
  have vx := F.vx
  have fs := F.fs0
  rw [f] at fs
  have C := B82_1 (rec := rec) (x1 := I3 x) (x2 := I3 d) (by rw [I3_lit, I3_lt (by omega) (by decide)]; omega) lf eh (f ▸ F.f37)
  rw [C]
  have R := B370_1 F.c56 F.l103 F.l105 F.l305 F.l77 F.l78 F.l81 F.l81' (f ▸ F.l75)
  obtain ⟨⟨y, y1, ep⟩, er, el⟩ := FS_1 fs
  have w500 : nH g ≤ 500 := F.m.k.2.2.2.2.1.1.2
  have y1' : y < nH g := by rw [m_nH F.ar]; exact y1
  have pl1 : (prt g0 x).length = 1 := by rw [ep]; rfl
  have e81 : g0.1 81 (24 * x) = I3 y := by have := F.at81 (k := 0) (by omega); rw [ep] at this; exact this
  obtain ⟨u, h', e1, e2, e3⟩ := Fr_give (rk := tn (hrs g0 x)) F 18 (Int32.toInt64 (I3 y)) (by
    rw [er, show tn (18 : Int32) = 18 from rfl]
    exact Or.inr (Or.inr ⟨by decide, 18, rfl, by omega, B_self g 12 18, Or.inr (Or.inr (Or.inl ⟨rfl, y, y1', I3_64 (by omega)⟩))⟩))
  have CC : F_82_367 rec (I3 x) (I3 d) h = some (0, h') := by
    unfold F_82_367
    rw [bind_id, B102_1 (F.f38) (f ▸ F.f37), show F_43 (I3 x) 0 h = some (I3 y, h) by have := F.f43 (k := 0) (by omega); rw [ep] at this; exact this]; simp only [obs]
    rw [show F_75 (Int32.toInt64 (I3 y)) 18 h = some (0, h') from e2]; rfl
  rw [CC]
  refine Ends_step (step_enter (by omega) F.c64 F.c56 c63 ?_) e3
  rw [R, e81, e1]; rfl
theorem run_2 {rec : Int32 → Int32 → sm_H → Option (Int32 × sm_H)} {d fuel s x vp : Nat} {vs : List Val} {h0 g0 h g : sm_H} (IH : CallOK (d + 1) rec) (F : Fr d fuel s x vp vs h0 g0 h g 0 (s + 1)) (c63 : g.1 67 63 = 0) (c59 : g.1 67 59 = I3 (vp + vs.length)) (eh : sm_wI h0 49 8 (h0.1 49 8 + 1) = h) (lf : h0.1 49 8 < h0.1 49 7) (f : fm g0 x = 2) : Ends d fuel s vp (tn (hrs g0 x)) h0 g0 0 (F_82R rec (I3 x) (I3 d) h0) g := by
  have d1 := F.d1
  have v10 := F.v10
  have x500 := F.x500
  have vl := F.vl
  have vx := F.vx
  have fs := F.fs0
  rw [f] at fs
  have C := B82_2 (rec := rec) (x1 := I3 x) (x2 := I3 d) (by rw [I3_lit, I3_lt (by omega) (by decide)]; omega) lf eh (f ▸ F.f37)
  rw [C]
  have R := B370_2 F.c56 F.l103 F.l105 F.l305 F.l77 F.l78 F.l81 F.l81' (f ▸ F.l75)
  obtain ⟨ep, el, er, k, k0, k1, ea⟩ := FS_2 fs
  have v1 : 0 < vs.length := by rw [vx, el]; exact Nat.zero_lt_succ _
  have ok := F.ty.2 0 v1
  rw [el, show at0 [g0.1 77 x] 0 = g0.1 77 x from rfl, ← er] at ok
  obtain ⟨u, h', e1, e2, e3⟩ := Fr_give (rk := tn (hrs g0 x)) F (atv vs 0).1 (atv vs 0).2 ok
  have CC : F_82_367 rec (I3 x) (I3 d) h = some (0, h') := by
    unfold F_82_367
    rw [bind_id, B102_2 (F.f38) (f ▸ F.f37), show F_77 (I3 d) 0 h = _ from F.c77 (i := 0) v1]; simp only [obs]
    rw [show F_78 (I3 d) 0 h = _ from F.c78 (i := 0) v1]; simp only [obs]
    rw [e2]; rfl
  rw [CC]
  refine Ends_step (step_enter (by omega) F.c64 F.c56 c63 ?_) e3
  rw [R, show F_351 0 g = _ from F.k351 (i := 0) v1]; simp only [obs]
  rw [show F_352 0 g = _ from F.k352 (i := 0) v1]; simp only [obs]
  rw [e1]; rfl
theorem run_34 {rec : Int32 → Int32 → sm_H → Option (Int32 × sm_H)} {d fuel s x vp : Nat} {vs : List Val} {h0 g0 h g : sm_H} (IH : CallOK (d + 1) rec) (F : Fr d fuel s x vp vs h0 g0 h g 0 (s + 1)) (c63 : g.1 67 63 = 0) (c59 : g.1 67 59 = I3 (vp + vs.length)) (eh : sm_wI h0 49 8 (h0.1 49 8 + 1) = h) (lf : h0.1 49 8 < h0.1 49 7) (f : fm g0 x = 34) : Ends d fuel s vp (tn (hrs g0 x)) h0 g0 0 (F_82R rec (I3 x) (I3 d) h0) g := by
  have d1 := F.d1
  have v10 := F.v10
  have x500 := F.x500
  have vl := F.vl
  have vx := F.vx
  have fs := F.fs0
  rw [f] at fs
  have C := B82_34 (rec := rec) (x1 := I3 x) (x2 := I3 d) (by rw [I3_lit, I3_lt (by omega) (by decide)]; omega) lf eh (f ▸ F.f37)
  rw [C]
  have R := B370_34 F.c56 F.l103 F.l105 F.l305 F.l77 F.l78 F.l81 F.l81' (f ▸ F.l75)
  obtain ⟨ep, t, t1, eb, er, el⟩ := FS_34 fs
  have h12 := F.m.k.1.2.1
  obtain ⟨q, q1, q2⟩ := rs_k F.m.k F.hx
  rw [m_hrs F.ar] at q1
  have z := okV_zk (g := g) (q := q) (by omega)
  obtain ⟨u, h', e1, e2, e3⟩ := Fr_give (rk := tn (hrs g0 x)) (Fr_48 F (g' := sm_wJ (sm_wI g 67 48 (zk (I3 q))) 67 49 0) (agr_wJ (agr_wI agr_rfl (by unfold S48; omega)) (by unfold S48; omega))) (zk (I3 q)) 0 (by rw [q1, tnI (by omega)]; exact okV_grow F.m.k.1 (grow_N (agr_wJ (agr_wI agr_rfl (by unfold SN; omega)) (by unfold SN; omega))) z)
  rw [tag_zk] at e2
  have CC : F_82_367 rec (I3 x) (I3 d) h = some (0, h') := by
    unfold F_82_367
    rw [bind_id, B102_34 (F.f38) (f ▸ F.f37)]
    unfold F_102_480
    rw [e2]; rfl
  rw [CC]
  refine Ends_step (step_enter (by omega) F.c64 F.c56 c63 ?_) e3
  rw [R, F.rs F.x1, q1]; simp only [obs]
  rw [show F_346 (I3 q) g = F_346_0 (I3 q) g from rfl]
  unfold F_346_0
  rw [R_zero (by omega)]; simp only [obs]
  rw [show F_345 ((sm_wJ (sm_wI g 67 48 (zk (I3 q))) 67 49 0).1 67 48) ((sm_wJ (sm_wI g 67 48 (zk (I3 q))) 67 49 0).2.1 67 49) (sm_wJ (sm_wI g 67 48 (zk (I3 q))) 67 49 0) = some u from e1]; rfl
theorem run_19 {rec : Int32 → Int32 → sm_H → Option (Int32 × sm_H)} {d fuel s x vp : Nat} {vs : List Val} {h0 g0 h g : sm_H} (IH : CallOK (d + 1) rec) (F : Fr d fuel s x vp vs h0 g0 h g 0 (s + 1)) (c63 : g.1 67 63 = 0) (c59 : g.1 67 59 = I3 (vp + vs.length)) (eh : sm_wI h0 49 8 (h0.1 49 8 + 1) = h) (lf : h0.1 49 8 < h0.1 49 7) (f : fm g0 x = 19) : Ends d fuel s vp (tn (hrs g0 x)) h0 g0 0 (F_82R rec (I3 x) (I3 d) h0) g := by
  have d1 := F.d1
  have v10 := F.v10
  have x500 := F.x500
  have vl := F.vl
  have vx := F.vx
  have fs := F.fs0
  rw [f] at fs
  have C := B82_19 (rec := rec) (x1 := I3 x) (x2 := I3 d) (by rw [I3_lit, I3_lt (by omega) (by decide)]; omega) lf eh (f ▸ F.f37)
  rw [C]
  have R := B370_19 F.c56 F.l103 F.l105 F.l305 F.l77 F.l78 F.l81 F.l81' (f ▸ F.l75)
  obtain ⟨ep, k, e, k1, ea, e1', eb, be, er, el⟩ := FS_19 fs
  have h12 := F.m.k.1.2.1
  have nC0 : nC g0 = nC g := (m_nC F.ar).symm
  have v1 : 0 < vs.length := by rw [vx, el]; exact Nat.zero_lt_succ _
  have ok := F.ty.2 0 v1
  rw [el, show at0 [g0.1 78 x] 0 = g0.1 78 x from rfl, eb, tnI (by omega)] at ok
  have e19 : e = 19 ∨ 20 ≤ e := by
    by_cases q : 20 ≤ e
    · exact Or.inr q
    · have z : B g0 e 19 = kBase e 19 := bel_lt20 g0 12 e 19 (by omega)
      rw [be, kB_eq (by decide) (by decide), eq_comm, decide_eq_true_eq] at z
      exact Or.inl z
  have e7 : 7 ≤ e := by omega
  have a : agr (SC1 d) h (sm_wI (sm_wJ h 49 9 (atv vs 0).2) 49 10 (tag (atv vs 0).1)) := agr_wI (agr_wJ agr_rfl (by unfold SC1; omega)) (by unfold SC1; omega)
  have F2 := Fr_h F a rfl
  have C0 : F_82_367 rec (I3 x) (I3 d) h = (if tag (atv vs 0).1 = 0 then ((F_76 1 (sm_wI (sm_wJ h 49 9 (atv vs 0).2) 49 10 (tag (atv vs 0).1))).bind fun q25 => F_102_316 q25.1 q25.2) else (F_102_316 1 (sm_wI (sm_wJ h 49 9 (atv vs 0).2) 49 10 (tag (atv vs 0).1)))) := by
    unfold F_82_367
    rw [bind_id, B102_19 (F.f38) (f ▸ F.f37), show F_77 (I3 d) 0 h = _ from F.c77 (i := 0) v1]; simp only [obs]
    rw [show F_78 (I3 d) 0 h = _ from F.c78 (i := 0) v1]; simp only [obs]
    rw [show F_75 (atv vs 0).2 (tag (atv vs 0).1) h = some (0, sm_wI (sm_wJ h 49 9 (atv vs 0).2) 49 10 (tag (atv vs 0).1)) from rfl]; simp only [obs]
    rfl
  rw [C0]
  have k0 := F.k351 (i := 0) v1
  rcases okV_7 F.m.k.1 e7 ok with ⟨z1, z2⟩ | ⟨q, z1, z2, z3, z4, z5, z6, z7⟩
  · rw [if_pos z2]
    obtain ⟨u, h', f1, f2, f3⟩ := Fr_fail (rk := tn (hrs g0 x)) F2 1
    rw [f2]; simp only [obs]
    refine Ends_step (step_enter (by omega) F.c64 F.c56 c63 ?_) f3
    rw [R, show F_351 0 g = _ from k0, z1]; simp only [obs]
    rw [if_pos trivial, f1]; rfl
  · rw [if_neg (by rw [z6]; exact z7)]
    have bq : B g q 19 = true := by
      rcases e19 with z | z
      · rw [z] at z4; exact z4
      · exact B_trans F.m.k.1 z (by rw [m_B F.ar]; exact be) q z3 z4
    obtain ⟨u, f1, f2⟩ := Fr_threw (rk := tn (hrs g0 x)) F2 (atv vs 0).1 (atv vs 0).2 rfl rfl ⟨q, z1, z3, bq, z5⟩
    refine Ends_step (step_enter (by omega) F.c64 F.c56 c63 ?_) f2
    rw [R, show F_351 0 g = _ from k0]; simp only [obs]
    rw [if_neg z7, show F_351 0 g = _ from k0]; simp only [obs]
    rw [show F_352 0 g = _ from F.k352 (i := 0) v1]; simp only [obs]
    rw [f1]; rfl
theorem run_31 {rec : Int32 → Int32 → sm_H → Option (Int32 × sm_H)} {d fuel s x vp : Nat} {vs : List Val} {h0 g0 h g : sm_H} (IH : CallOK (d + 1) rec) (F : Fr d fuel s x vp vs h0 g0 h g 0 (s + 1)) (c63 : g.1 67 63 = 0) (c59 : g.1 67 59 = I3 (vp + vs.length)) (eh : sm_wI h0 49 8 (h0.1 49 8 + 1) = h) (lf : h0.1 49 8 < h0.1 49 7) (f : fm g0 x = 31) : Ends d fuel s vp (tn (hrs g0 x)) h0 g0 0 (F_82R rec (I3 x) (I3 d) h0) g := by
  have d1 := F.d1
  have v10 := F.v10
  have x500 := F.x500
  have vl := F.vl
  have vx := F.vx
  have fs := F.fs0
  rw [f] at fs
  have C := B82_31 (rec := rec) (x1 := I3 x) (x2 := I3 d) (by rw [I3_lit, I3_lt (by omega) (by decide)]; omega) lf eh (f ▸ F.f37)
  rw [C]
  have R := B370_31 F.c56 F.l103 F.l105 F.l305 F.l77 F.l78 F.l81 F.l81' (f ▸ F.l75)
  obtain ⟨ep, ⟨k, k7, k1, ea⟩, er, el⟩ := FS_31 fs
  have h12 := F.m.k.1.2.1
  have nC0 : nC g0 = nC g := (m_nC F.ar).symm
  have v1 : 0 < vs.length := by rw [vx, el]; exact Nat.zero_lt_succ _
  have ok := F.ty.2 0 v1
  rw [el, show at0 [(7 : Int32)] 0 = I3 7 from rfl, tnI (by decide)] at ok
  have k0 := F.k351 (i := 0) v1
  have t0 := F.c78 (i := 0) v1
  have C0 := B102_31 (x2 := I3 d) (F.f38) (f ▸ F.f37)
  rw [show F_78 (I3 d) 0 h = _ from t0, ea] at C0; simp only [obs] at C0
  have go : ∀ b : Bool, F_102 (I3 x) (I3 d) h = F_102_407 (b2 b).toInt64 h → F_370 g = (F_345 1 (b2 b).toInt64 g).bind (fun q => some q) → Ends d fuel s vp (tn (hrs g0 x)) h0 g0 0 (F_82_367 rec (I3 x) (I3 d) h) g := fun b z1 z2 => by
    obtain ⟨u, h', e1, e2, e3⟩ := Fr_give (rk := tn (hrs g0 x)) F 1 (b2 b).toInt64 (by
      rw [er, show tn (1 : Int32) = 1 from rfl]
      refine Or.inl ⟨by decide, by decide, rfl, ⟨fun _ => by (cases b; exact Or.inl rfl; exact Or.inr rfl), (fun z => by cases z), (fun z => by cases z), (fun z => by cases z), (fun z => by cases z)⟩⟩)
    have CC : F_82_367 rec (I3 x) (I3 d) h = some (0, h') := by
      unfold F_82_367
      rw [bind_id, z1]
      unfold F_102_407
      rw [show F_75 (b2 b).toInt64 0 h = some (0, h') from e2]; rfl
    rw [CC]
    refine Ends_step (step_enter (by omega) F.c64 F.c56 c63 ?_) e3
    rw [z2, e1]; rfl
  rcases okV_7 F.m.k.1 (by decide) ok with ⟨z1, z2⟩ | ⟨q, z1, z2, z3, z4, z5, z6, z7⟩
  · refine go false ?_ ?_
    · rw [C0, if_pos z2]; rfl
    · rw [R, show F_351 0 g = _ from k0, z1]; simp only [obs]
      rw [if_pos trivial]; rfl
  · have CB := C_belowN F.m.k.1 F.m.k.2.1 z3 (y := k) (by omega)
    have RB := R_below F.m.k.1 (x := q) (o := k) z3 (by omega)
    refine go (B g q k) ?_ ?_
    · rw [C0, if_neg (by rw [z6]; exact z7), show F_78 (I3 d) 0 h = _ from t0]; simp only [obs]
      rw [z6, z1, CB]; simp only [obs]
      cases B g q k <;> rfl
    · rw [R, show F_351 0 g = _ from k0]; simp only [obs]
      rw [if_neg z7, show F_351 0 g = _ from k0]; simp only [obs]
      rw [z1, ea, RB]; simp only [obs]
      cases B g q k <;> rfl
theorem run_33 {rec : Int32 → Int32 → sm_H → Option (Int32 × sm_H)} {d fuel s x vp : Nat} {vs : List Val} {h0 g0 h g : sm_H} (IH : CallOK (d + 1) rec) (F : Fr d fuel s x vp vs h0 g0 h g 0 (s + 1)) (c63 : g.1 67 63 = 0) (c59 : g.1 67 59 = I3 (vp + vs.length)) (eh : sm_wI h0 49 8 (h0.1 49 8 + 1) = h) (lf : h0.1 49 8 < h0.1 49 7) (f : fm g0 x = 33) : Ends d fuel s vp (tn (hrs g0 x)) h0 g0 0 (F_82R rec (I3 x) (I3 d) h0) g := by
  have d1 := F.d1
  have v10 := F.v10
  have x500 := F.x500
  have vl := F.vl
  have vx := F.vx
  have fs := F.fs0
  rw [f] at fs
  have C := B82_33 (rec := rec) (x1 := I3 x) (x2 := I3 d) (by rw [I3_lit, I3_lt (by omega) (by decide)]; omega) lf eh (f ▸ F.f37)
  rw [C]
  have R := B370_33 F.c56 F.l103 F.l105 F.l305 F.l77 F.l78 F.l81 F.l81' (f ▸ F.l75)
  obtain ⟨ep, er, el⟩ := FS_33 fs
  have h12 := F.m.k.1.2.1
  have v1 : 0 < vs.length := by rw [vx, el]; exact Nat.zero_lt_succ _
  have ok := F.ty.2 0 v1
  rw [el, show at0 [(19 : Int32)] 0 = I3 19 from rfl, tnI (by decide)] at ok
  have k0 := F.k351 (i := 0) v1
  have t0 := F.c78 (i := 0) v1
  have C0 := B102_33 (x2 := I3 d) (F.f38) (f ▸ F.f37)
  rw [show F_78 (I3 d) 0 h = _ from t0] at C0; simp only [obs] at C0
  rcases okV_7 F.m.k.1 (by decide) ok with ⟨z1, z2⟩ | ⟨q, z1, z2, z3, z4, z5, z6, z7⟩
  · rw [if_pos z2] at C0
    obtain ⟨u, h', f1, f2, f3⟩ := Fr_fail (rk := tn (hrs g0 x)) F 1
    rw [f2] at C0; simp only [obs] at C0
    have CC : F_82_367 rec (I3 x) (I3 d) h = some (1, h') := by unfold F_82_367; rw [bind_id, C0]
    rw [CC]
    refine Ends_step (step_enter (by omega) F.c64 F.c56 c63 ?_) f3
    rw [R, show F_351 0 g = _ from k0, z1]; simp only [obs]
    rw [if_pos trivial, f1]; rfl
  · rw [if_neg (by rw [z6]; exact z7), show F_78 (I3 d) 0 h = _ from t0] at C0; simp only [obs] at C0
    rw [z6] at C0
    have go : ∀ n : Int64, F_102 (I3 x) (I3 d) h = F_102_468 n h → okN 5 n → F_370 g = F_370_923 5 n g → Ends d fuel s vp (tn (hrs g0 x)) h0 g0 0 (F_82_367 rec (I3 x) (I3 d) h) g := fun n w1 w2 w3 => by
      obtain ⟨u, h', e1, e2, e3⟩ := Fr_give (rk := tn (hrs g0 x)) F 5 n (by rw [er, show tn (5 : Int32) = 5 from rfl]; exact Or.inl ⟨by decide, by decide, rfl, w2⟩)
      have CC : F_82_367 rec (I3 x) (I3 d) h = some (0, h') := by
        unfold F_82_367
        rw [bind_id, w1]
        unfold F_102_468
        rw [show F_75 n 0 h = some (0, h') from e2]; rfl
      rw [CC]
      refine Ends_step (step_enter (by omega) F.c64 F.c56 c63 ?_) e3
      rw [w3]
      unfold F_370_923
      rw [e1]; rfl
    by_cases q19 : (atv vs 0).1 = 19
    · rw [if_pos q19, show F_77 (I3 d) 0 h = _ from F.c77 (i := 0) v1] at C0; simp only [obs] at C0
      have qq : q = 19 := by rw [z1] at q19; exact (I3_inj (by omega) (by decide)).mp q19
      have rg : 0 ≤ (atv vs 0).2.toInt ∧ (atv vs 0).2.toInt ≤ 100 := by
        rcases z5 with w | w | w | w
        · omega
        · omega
        · omega
        · exact w.2
      refine go (atv vs 0).2 C0 ⟨fun z => by (cases z), fun z => by (cases z), fun z => by (cases z), fun z => by (cases z), fun _ => by omega⟩ ?_
      rw [R, show F_351 0 g = _ from k0]; simp only [obs]
      rw [if_neg z7, show F_351 0 g = _ from k0]; simp only [obs]
      rw [if_pos q19, show F_352 0 g = _ from F.k352 (i := 0) v1]; simp only [obs]
    · rw [if_neg q19] at C0
      refine go 0 C0 ⟨fun z => by (cases z), fun z => by (cases z), fun z => by (cases z), fun z => by (cases z), fun _ => by decide⟩ ?_
      rw [R, show F_351 0 g = _ from k0]; simp only [obs]
      rw [if_neg z7, show F_351 0 g = _ from k0]; simp only [obs]
      rw [if_neg q19]
