theorem B9_0 {h : sm_H} (e7 : h.1 34 7 = I3 0) : F_9 h = ((F_54 (h.1 34 8) h).bind fun q3 =>
  if q3.1 = 0 then (F_9_193 q3.2)
  else ((F_152 (q3.2.1 34 8) (q3.2.2.1 34 10) q3.2).bind fun q4 =>
  if q4.1 = 1 then (F_9_193 q4.2)
  else (F_9_198 0 q4.2))) := by
  show F_9_0 h = _
  unfold F_9_0
  rw [e7, if_pos (show (I3 0 : Int32) = 0 by decide)]
theorem B9_1 {h : sm_H} (e7 : h.1 34 7 = I3 1) : F_9 h = (F_9_454 h) := by
  show F_9_0 h = _
  unfold F_9_0
  rw [e7, if_neg (show ¬ (I3 1 : Int32) = 0 by decide), if_neg (show ¬ (I3 1 : Int32) = 2 by decide), if_neg (show ¬ (I3 1 : Int32) = 3 by decide), if_neg (show ¬ (I3 1 : Int32) = 4 by decide), if_neg (show ¬ (I3 1 : Int32) = 5 by decide), if_neg (show ¬ (I3 1 : Int32) = 6 by decide), if_neg (show ¬ (I3 1 : Int32) = 10 by decide), if_neg (show ¬ (I3 1 : Int32) = 12 by decide), if_neg (show ¬ (I3 1 : Int32) = 13 by decide), if_neg (show ¬ (I3 1 : Int32) = 15 by decide), if_neg (show ¬ (I3 1 : Int32) = 18 by decide), if_neg (show ¬ (I3 1 : Int32) = 19 by decide), if_neg (show ¬ (I3 1 : Int32) = 20 by decide), if_neg (show ¬ (I3 1 : Int32) = 21 by decide), if_neg (show ¬ (I3 1 : Int32) = 22 by decide), if_neg (show ¬ (I3 1 : Int32) = 23 by decide), if_neg (show ¬ (I3 1 : Int32) = 24 by decide), if_neg (show ¬ (I3 1 : Int32) = 25 by decide), if_neg (show ¬ (I3 1 : Int32) = 26 by decide), if_neg (show ¬ (I3 1 : Int32) = 27 by decide), if_neg (show ¬ (I3 1 : Int32) = 28 by decide), if_neg (show ¬ (I3 1 : Int32) = 29 by decide), if_neg (show ¬ (I3 1 : Int32) = 30 by decide), if_neg (show ¬ (I3 1 : Int32) = 31 by decide), if_neg (show ¬ (I3 1 : Int32) = 34 by decide)]
theorem B9_2 {h : sm_H} (e7 : h.1 34 7 = I3 2) : F_9 h = ((F_54 (h.1 34 8) h).bind fun q5 =>
  if q5.1 = 0 then (F_9_218 1 q5.2)
  else (F_9_218 0 q5.2)) := by
  show F_9_0 h = _
  unfold F_9_0
  rw [e7, if_neg (show ¬ (I3 2 : Int32) = 0 by decide), if_pos (show (I3 2 : Int32) = 2 by decide)]
theorem B9_3 {h : sm_H} (e7 : h.1 34 7 = I3 3) : F_9 h = (if (h.1 34 8) < 0 then (F_9_252 h)
  else (if 12 < (h.1 34 8) then (F_9_252 h)
  else (if (h.1 34 9) = 5 then (F_9_256 h)
  else (if (h.1 34 9) = 6 then (F_9_256 h)
  else (F_9_252 h))))) := by
  show F_9_0 h = _
  unfold F_9_0
  rw [e7, if_neg (show ¬ (I3 3 : Int32) = 0 by decide), if_neg (show ¬ (I3 3 : Int32) = 2 by decide), if_pos (show (I3 3 : Int32) = 3 by decide)]
theorem B9_4 {h : sm_H} (e7 : h.1 34 7 = I3 4) : F_9 h = (F_9_272 h) := by
  show F_9_0 h = _
  unfold F_9_0
  rw [e7, if_neg (show ¬ (I3 4 : Int32) = 0 by decide), if_neg (show ¬ (I3 4 : Int32) = 2 by decide), if_neg (show ¬ (I3 4 : Int32) = 3 by decide), if_pos (show (I3 4 : Int32) = 4 by decide)]
theorem B9_5 {h : sm_H} (e7 : h.1 34 7 = I3 5) : F_9 h = (F_9_272 h) := by
  show F_9_0 h = _
  unfold F_9_0
  rw [e7, if_neg (show ¬ (I3 5 : Int32) = 0 by decide), if_neg (show ¬ (I3 5 : Int32) = 2 by decide), if_neg (show ¬ (I3 5 : Int32) = 3 by decide), if_neg (show ¬ (I3 5 : Int32) = 4 by decide), if_pos (show (I3 5 : Int32) = 5 by decide)]
theorem B9_6 {h : sm_H} (e7 : h.1 34 7 = I3 6) : F_9 h = ((F_10 h).bind fun q6 =>
  if q6.1 = 1 then (F_9_271 1 q6.2)
  else (F_9_271 0 q6.2)) := by
  show F_9_0 h = _
  unfold F_9_0
  rw [e7, if_neg (show ¬ (I3 6 : Int32) = 0 by decide), if_neg (show ¬ (I3 6 : Int32) = 2 by decide), if_neg (show ¬ (I3 6 : Int32) = 3 by decide), if_neg (show ¬ (I3 6 : Int32) = 4 by decide), if_neg (show ¬ (I3 6 : Int32) = 5 by decide), if_pos (show (I3 6 : Int32) = 6 by decide)]
theorem B9_7 {h : sm_H} (e7 : h.1 34 7 = I3 7) : F_9 h = (F_9_454 h) := by
  show F_9_0 h = _
  unfold F_9_0
  rw [e7, if_neg (show ¬ (I3 7 : Int32) = 0 by decide), if_neg (show ¬ (I3 7 : Int32) = 2 by decide), if_neg (show ¬ (I3 7 : Int32) = 3 by decide), if_neg (show ¬ (I3 7 : Int32) = 4 by decide), if_neg (show ¬ (I3 7 : Int32) = 5 by decide), if_neg (show ¬ (I3 7 : Int32) = 6 by decide), if_neg (show ¬ (I3 7 : Int32) = 10 by decide), if_neg (show ¬ (I3 7 : Int32) = 12 by decide), if_neg (show ¬ (I3 7 : Int32) = 13 by decide), if_neg (show ¬ (I3 7 : Int32) = 15 by decide), if_neg (show ¬ (I3 7 : Int32) = 18 by decide), if_neg (show ¬ (I3 7 : Int32) = 19 by decide), if_neg (show ¬ (I3 7 : Int32) = 20 by decide), if_neg (show ¬ (I3 7 : Int32) = 21 by decide), if_neg (show ¬ (I3 7 : Int32) = 22 by decide), if_neg (show ¬ (I3 7 : Int32) = 23 by decide), if_neg (show ¬ (I3 7 : Int32) = 24 by decide), if_neg (show ¬ (I3 7 : Int32) = 25 by decide), if_neg (show ¬ (I3 7 : Int32) = 26 by decide), if_neg (show ¬ (I3 7 : Int32) = 27 by decide), if_neg (show ¬ (I3 7 : Int32) = 28 by decide), if_neg (show ¬ (I3 7 : Int32) = 29 by decide), if_neg (show ¬ (I3 7 : Int32) = 30 by decide), if_neg (show ¬ (I3 7 : Int32) = 31 by decide), if_neg (show ¬ (I3 7 : Int32) = 34 by decide)]
theorem B9_8 {h : sm_H} (e7 : h.1 34 7 = I3 8) : F_9 h = (F_9_454 h) := by
  show F_9_0 h = _
  unfold F_9_0
  rw [e7, if_neg (show ¬ (I3 8 : Int32) = 0 by decide), if_neg (show ¬ (I3 8 : Int32) = 2 by decide), if_neg (show ¬ (I3 8 : Int32) = 3 by decide), if_neg (show ¬ (I3 8 : Int32) = 4 by decide), if_neg (show ¬ (I3 8 : Int32) = 5 by decide), if_neg (show ¬ (I3 8 : Int32) = 6 by decide), if_neg (show ¬ (I3 8 : Int32) = 10 by decide), if_neg (show ¬ (I3 8 : Int32) = 12 by decide), if_neg (show ¬ (I3 8 : Int32) = 13 by decide), if_neg (show ¬ (I3 8 : Int32) = 15 by decide), if_neg (show ¬ (I3 8 : Int32) = 18 by decide), if_neg (show ¬ (I3 8 : Int32) = 19 by decide), if_neg (show ¬ (I3 8 : Int32) = 20 by decide), if_neg (show ¬ (I3 8 : Int32) = 21 by decide), if_neg (show ¬ (I3 8 : Int32) = 22 by decide), if_neg (show ¬ (I3 8 : Int32) = 23 by decide), if_neg (show ¬ (I3 8 : Int32) = 24 by decide), if_neg (show ¬ (I3 8 : Int32) = 25 by decide), if_neg (show ¬ (I3 8 : Int32) = 26 by decide), if_neg (show ¬ (I3 8 : Int32) = 27 by decide), if_neg (show ¬ (I3 8 : Int32) = 28 by decide), if_neg (show ¬ (I3 8 : Int32) = 29 by decide), if_neg (show ¬ (I3 8 : Int32) = 30 by decide), if_neg (show ¬ (I3 8 : Int32) = 31 by decide), if_neg (show ¬ (I3 8 : Int32) = 34 by decide)]
theorem B9_9 {h : sm_H} (e7 : h.1 34 7 = I3 9) : F_9 h = (F_9_454 h) := by
  show F_9_0 h = _
  unfold F_9_0
  rw [e7, if_neg (show ¬ (I3 9 : Int32) = 0 by decide), if_neg (show ¬ (I3 9 : Int32) = 2 by decide), if_neg (show ¬ (I3 9 : Int32) = 3 by decide), if_neg (show ¬ (I3 9 : Int32) = 4 by decide), if_neg (show ¬ (I3 9 : Int32) = 5 by decide), if_neg (show ¬ (I3 9 : Int32) = 6 by decide), if_neg (show ¬ (I3 9 : Int32) = 10 by decide), if_neg (show ¬ (I3 9 : Int32) = 12 by decide), if_neg (show ¬ (I3 9 : Int32) = 13 by decide), if_neg (show ¬ (I3 9 : Int32) = 15 by decide), if_neg (show ¬ (I3 9 : Int32) = 18 by decide), if_neg (show ¬ (I3 9 : Int32) = 19 by decide), if_neg (show ¬ (I3 9 : Int32) = 20 by decide), if_neg (show ¬ (I3 9 : Int32) = 21 by decide), if_neg (show ¬ (I3 9 : Int32) = 22 by decide), if_neg (show ¬ (I3 9 : Int32) = 23 by decide), if_neg (show ¬ (I3 9 : Int32) = 24 by decide), if_neg (show ¬ (I3 9 : Int32) = 25 by decide), if_neg (show ¬ (I3 9 : Int32) = 26 by decide), if_neg (show ¬ (I3 9 : Int32) = 27 by decide), if_neg (show ¬ (I3 9 : Int32) = 28 by decide), if_neg (show ¬ (I3 9 : Int32) = 29 by decide), if_neg (show ¬ (I3 9 : Int32) = 30 by decide), if_neg (show ¬ (I3 9 : Int32) = 31 by decide), if_neg (show ¬ (I3 9 : Int32) = 34 by decide)]
theorem B9_10 {h : sm_H} (e7 : h.1 34 7 = I3 10) : F_9 h = (F_9_350 h) := by
  show F_9_0 h = _
  unfold F_9_0
  rw [e7, if_neg (show ¬ (I3 10 : Int32) = 0 by decide), if_neg (show ¬ (I3 10 : Int32) = 2 by decide), if_neg (show ¬ (I3 10 : Int32) = 3 by decide), if_neg (show ¬ (I3 10 : Int32) = 4 by decide), if_neg (show ¬ (I3 10 : Int32) = 5 by decide), if_neg (show ¬ (I3 10 : Int32) = 6 by decide), if_pos (show (I3 10 : Int32) = 10 by decide)]
theorem B9_11 {h : sm_H} (e7 : h.1 34 7 = I3 11) : F_9 h = (F_9_454 h) := by
  show F_9_0 h = _
  unfold F_9_0
  rw [e7, if_neg (show ¬ (I3 11 : Int32) = 0 by decide), if_neg (show ¬ (I3 11 : Int32) = 2 by decide), if_neg (show ¬ (I3 11 : Int32) = 3 by decide), if_neg (show ¬ (I3 11 : Int32) = 4 by decide), if_neg (show ¬ (I3 11 : Int32) = 5 by decide), if_neg (show ¬ (I3 11 : Int32) = 6 by decide), if_neg (show ¬ (I3 11 : Int32) = 10 by decide), if_neg (show ¬ (I3 11 : Int32) = 12 by decide), if_neg (show ¬ (I3 11 : Int32) = 13 by decide), if_neg (show ¬ (I3 11 : Int32) = 15 by decide), if_neg (show ¬ (I3 11 : Int32) = 18 by decide), if_neg (show ¬ (I3 11 : Int32) = 19 by decide), if_neg (show ¬ (I3 11 : Int32) = 20 by decide), if_neg (show ¬ (I3 11 : Int32) = 21 by decide), if_neg (show ¬ (I3 11 : Int32) = 22 by decide), if_neg (show ¬ (I3 11 : Int32) = 23 by decide), if_neg (show ¬ (I3 11 : Int32) = 24 by decide), if_neg (show ¬ (I3 11 : Int32) = 25 by decide), if_neg (show ¬ (I3 11 : Int32) = 26 by decide), if_neg (show ¬ (I3 11 : Int32) = 27 by decide), if_neg (show ¬ (I3 11 : Int32) = 28 by decide), if_neg (show ¬ (I3 11 : Int32) = 29 by decide), if_neg (show ¬ (I3 11 : Int32) = 30 by decide), if_neg (show ¬ (I3 11 : Int32) = 31 by decide), if_neg (show ¬ (I3 11 : Int32) = 34 by decide)]
theorem B9_12 {h : sm_H} (e7 : h.1 34 7 = I3 12) : F_9 h = (F_9_272 h) := by
  show F_9_0 h = _
  unfold F_9_0
  rw [e7, if_neg (show ¬ (I3 12 : Int32) = 0 by decide), if_neg (show ¬ (I3 12 : Int32) = 2 by decide), if_neg (show ¬ (I3 12 : Int32) = 3 by decide), if_neg (show ¬ (I3 12 : Int32) = 4 by decide), if_neg (show ¬ (I3 12 : Int32) = 5 by decide), if_neg (show ¬ (I3 12 : Int32) = 6 by decide), if_neg (show ¬ (I3 12 : Int32) = 10 by decide), if_pos (show (I3 12 : Int32) = 12 by decide)]
theorem B9_13 {h : sm_H} (e7 : h.1 34 7 = I3 13) : F_9 h = (F_9_272 h) := by
  show F_9_0 h = _
  unfold F_9_0
  rw [e7, if_neg (show ¬ (I3 13 : Int32) = 0 by decide), if_neg (show ¬ (I3 13 : Int32) = 2 by decide), if_neg (show ¬ (I3 13 : Int32) = 3 by decide), if_neg (show ¬ (I3 13 : Int32) = 4 by decide), if_neg (show ¬ (I3 13 : Int32) = 5 by decide), if_neg (show ¬ (I3 13 : Int32) = 6 by decide), if_neg (show ¬ (I3 13 : Int32) = 10 by decide), if_neg (show ¬ (I3 13 : Int32) = 12 by decide), if_pos (show (I3 13 : Int32) = 13 by decide)]
theorem B9_14 {h : sm_H} (e7 : h.1 34 7 = I3 14) : F_9 h = (F_9_454 h) := by
  show F_9_0 h = _
  unfold F_9_0
  rw [e7, if_neg (show ¬ (I3 14 : Int32) = 0 by decide), if_neg (show ¬ (I3 14 : Int32) = 2 by decide), if_neg (show ¬ (I3 14 : Int32) = 3 by decide), if_neg (show ¬ (I3 14 : Int32) = 4 by decide), if_neg (show ¬ (I3 14 : Int32) = 5 by decide), if_neg (show ¬ (I3 14 : Int32) = 6 by decide), if_neg (show ¬ (I3 14 : Int32) = 10 by decide), if_neg (show ¬ (I3 14 : Int32) = 12 by decide), if_neg (show ¬ (I3 14 : Int32) = 13 by decide), if_neg (show ¬ (I3 14 : Int32) = 15 by decide), if_neg (show ¬ (I3 14 : Int32) = 18 by decide), if_neg (show ¬ (I3 14 : Int32) = 19 by decide), if_neg (show ¬ (I3 14 : Int32) = 20 by decide), if_neg (show ¬ (I3 14 : Int32) = 21 by decide), if_neg (show ¬ (I3 14 : Int32) = 22 by decide), if_neg (show ¬ (I3 14 : Int32) = 23 by decide), if_neg (show ¬ (I3 14 : Int32) = 24 by decide), if_neg (show ¬ (I3 14 : Int32) = 25 by decide), if_neg (show ¬ (I3 14 : Int32) = 26 by decide), if_neg (show ¬ (I3 14 : Int32) = 27 by decide), if_neg (show ¬ (I3 14 : Int32) = 28 by decide), if_neg (show ¬ (I3 14 : Int32) = 29 by decide), if_neg (show ¬ (I3 14 : Int32) = 30 by decide), if_neg (show ¬ (I3 14 : Int32) = 31 by decide), if_neg (show ¬ (I3 14 : Int32) = 34 by decide)]
theorem B9_15 {h : sm_H} (e7 : h.1 34 7 = I3 15) : F_9 h = ((F_60 (h.1 34 8) 19 h).bind fun q7 =>
  if q7.1 = 0 then (F_9_313 1 q7.2)
  else (F_9_313 0 q7.2)) := by
  show F_9_0 h = _
  unfold F_9_0
  rw [e7, if_neg (show ¬ (I3 15 : Int32) = 0 by decide), if_neg (show ¬ (I3 15 : Int32) = 2 by decide), if_neg (show ¬ (I3 15 : Int32) = 3 by decide), if_neg (show ¬ (I3 15 : Int32) = 4 by decide), if_neg (show ¬ (I3 15 : Int32) = 5 by decide), if_neg (show ¬ (I3 15 : Int32) = 6 by decide), if_neg (show ¬ (I3 15 : Int32) = 10 by decide), if_neg (show ¬ (I3 15 : Int32) = 12 by decide), if_neg (show ¬ (I3 15 : Int32) = 13 by decide), if_pos (show (I3 15 : Int32) = 15 by decide)]
theorem B9_16 {h : sm_H} (e7 : h.1 34 7 = I3 16) : F_9 h = (F_9_454 h) := by
  show F_9_0 h = _
  unfold F_9_0
  rw [e7, if_neg (show ¬ (I3 16 : Int32) = 0 by decide), if_neg (show ¬ (I3 16 : Int32) = 2 by decide), if_neg (show ¬ (I3 16 : Int32) = 3 by decide), if_neg (show ¬ (I3 16 : Int32) = 4 by decide), if_neg (show ¬ (I3 16 : Int32) = 5 by decide), if_neg (show ¬ (I3 16 : Int32) = 6 by decide), if_neg (show ¬ (I3 16 : Int32) = 10 by decide), if_neg (show ¬ (I3 16 : Int32) = 12 by decide), if_neg (show ¬ (I3 16 : Int32) = 13 by decide), if_neg (show ¬ (I3 16 : Int32) = 15 by decide), if_neg (show ¬ (I3 16 : Int32) = 18 by decide), if_neg (show ¬ (I3 16 : Int32) = 19 by decide), if_neg (show ¬ (I3 16 : Int32) = 20 by decide), if_neg (show ¬ (I3 16 : Int32) = 21 by decide), if_neg (show ¬ (I3 16 : Int32) = 22 by decide), if_neg (show ¬ (I3 16 : Int32) = 23 by decide), if_neg (show ¬ (I3 16 : Int32) = 24 by decide), if_neg (show ¬ (I3 16 : Int32) = 25 by decide), if_neg (show ¬ (I3 16 : Int32) = 26 by decide), if_neg (show ¬ (I3 16 : Int32) = 27 by decide), if_neg (show ¬ (I3 16 : Int32) = 28 by decide), if_neg (show ¬ (I3 16 : Int32) = 29 by decide), if_neg (show ¬ (I3 16 : Int32) = 30 by decide), if_neg (show ¬ (I3 16 : Int32) = 31 by decide), if_neg (show ¬ (I3 16 : Int32) = 34 by decide)]
theorem B9_17 {h : sm_H} (e7 : h.1 34 7 = I3 17) : F_9 h = (F_9_454 h) := by
  show F_9_0 h = _
  unfold F_9_0
  rw [e7, if_neg (show ¬ (I3 17 : Int32) = 0 by decide), if_neg (show ¬ (I3 17 : Int32) = 2 by decide), if_neg (show ¬ (I3 17 : Int32) = 3 by decide), if_neg (show ¬ (I3 17 : Int32) = 4 by decide), if_neg (show ¬ (I3 17 : Int32) = 5 by decide), if_neg (show ¬ (I3 17 : Int32) = 6 by decide), if_neg (show ¬ (I3 17 : Int32) = 10 by decide), if_neg (show ¬ (I3 17 : Int32) = 12 by decide), if_neg (show ¬ (I3 17 : Int32) = 13 by decide), if_neg (show ¬ (I3 17 : Int32) = 15 by decide), if_neg (show ¬ (I3 17 : Int32) = 18 by decide), if_neg (show ¬ (I3 17 : Int32) = 19 by decide), if_neg (show ¬ (I3 17 : Int32) = 20 by decide), if_neg (show ¬ (I3 17 : Int32) = 21 by decide), if_neg (show ¬ (I3 17 : Int32) = 22 by decide), if_neg (show ¬ (I3 17 : Int32) = 23 by decide), if_neg (show ¬ (I3 17 : Int32) = 24 by decide), if_neg (show ¬ (I3 17 : Int32) = 25 by decide), if_neg (show ¬ (I3 17 : Int32) = 26 by decide), if_neg (show ¬ (I3 17 : Int32) = 27 by decide), if_neg (show ¬ (I3 17 : Int32) = 28 by decide), if_neg (show ¬ (I3 17 : Int32) = 29 by decide), if_neg (show ¬ (I3 17 : Int32) = 30 by decide), if_neg (show ¬ (I3 17 : Int32) = 31 by decide), if_neg (show ¬ (I3 17 : Int32) = 34 by decide)]
theorem B9_18 {h : sm_H} (e7 : h.1 34 7 = I3 18) : F_9 h = (F_9_272 h) := by
  show F_9_0 h = _
  unfold F_9_0
  rw [e7, if_neg (show ¬ (I3 18 : Int32) = 0 by decide), if_neg (show ¬ (I3 18 : Int32) = 2 by decide), if_neg (show ¬ (I3 18 : Int32) = 3 by decide), if_neg (show ¬ (I3 18 : Int32) = 4 by decide), if_neg (show ¬ (I3 18 : Int32) = 5 by decide), if_neg (show ¬ (I3 18 : Int32) = 6 by decide), if_neg (show ¬ (I3 18 : Int32) = 10 by decide), if_neg (show ¬ (I3 18 : Int32) = 12 by decide), if_neg (show ¬ (I3 18 : Int32) = 13 by decide), if_neg (show ¬ (I3 18 : Int32) = 15 by decide), if_pos (show (I3 18 : Int32) = 18 by decide)]
theorem B9_19 {h : sm_H} (e7 : h.1 34 7 = I3 19) : F_9 h = ((F_53 (h.1 34 8) h).bind fun q8 =>
  if q8.1 = 0 then (F_9_344 q8.2)
  else ((F_60 (q8.2.1 34 9) 19 q8.2).bind fun q9 =>
  if q9.1 = 0 then (F_9_344 q9.2)
  else (F_9_349 0 q9.2))) := by
  show F_9_0 h = _
  unfold F_9_0
  rw [e7, if_neg (show ¬ (I3 19 : Int32) = 0 by decide), if_neg (show ¬ (I3 19 : Int32) = 2 by decide), if_neg (show ¬ (I3 19 : Int32) = 3 by decide), if_neg (show ¬ (I3 19 : Int32) = 4 by decide), if_neg (show ¬ (I3 19 : Int32) = 5 by decide), if_neg (show ¬ (I3 19 : Int32) = 6 by decide), if_neg (show ¬ (I3 19 : Int32) = 10 by decide), if_neg (show ¬ (I3 19 : Int32) = 12 by decide), if_neg (show ¬ (I3 19 : Int32) = 13 by decide), if_neg (show ¬ (I3 19 : Int32) = 15 by decide), if_neg (show ¬ (I3 19 : Int32) = 18 by decide), if_pos (show (I3 19 : Int32) = 19 by decide)]
theorem B9_20 {h : sm_H} (e7 : h.1 34 7 = I3 20) : F_9 h = (F_9_350 h) := by
  show F_9_0 h = _
  unfold F_9_0
  rw [e7, if_neg (show ¬ (I3 20 : Int32) = 0 by decide), if_neg (show ¬ (I3 20 : Int32) = 2 by decide), if_neg (show ¬ (I3 20 : Int32) = 3 by decide), if_neg (show ¬ (I3 20 : Int32) = 4 by decide), if_neg (show ¬ (I3 20 : Int32) = 5 by decide), if_neg (show ¬ (I3 20 : Int32) = 6 by decide), if_neg (show ¬ (I3 20 : Int32) = 10 by decide), if_neg (show ¬ (I3 20 : Int32) = 12 by decide), if_neg (show ¬ (I3 20 : Int32) = 13 by decide), if_neg (show ¬ (I3 20 : Int32) = 15 by decide), if_neg (show ¬ (I3 20 : Int32) = 18 by decide), if_neg (show ¬ (I3 20 : Int32) = 19 by decide), if_pos (show (I3 20 : Int32) = 20 by decide)]
theorem B9_21 {h : sm_H} (e7 : h.1 34 7 = I3 21) : F_9 h = (F_9_350 h) := by
  show F_9_0 h = _
  unfold F_9_0
  rw [e7, if_neg (show ¬ (I3 21 : Int32) = 0 by decide), if_neg (show ¬ (I3 21 : Int32) = 2 by decide), if_neg (show ¬ (I3 21 : Int32) = 3 by decide), if_neg (show ¬ (I3 21 : Int32) = 4 by decide), if_neg (show ¬ (I3 21 : Int32) = 5 by decide), if_neg (show ¬ (I3 21 : Int32) = 6 by decide), if_neg (show ¬ (I3 21 : Int32) = 10 by decide), if_neg (show ¬ (I3 21 : Int32) = 12 by decide), if_neg (show ¬ (I3 21 : Int32) = 13 by decide), if_neg (show ¬ (I3 21 : Int32) = 15 by decide), if_neg (show ¬ (I3 21 : Int32) = 18 by decide), if_neg (show ¬ (I3 21 : Int32) = 19 by decide), if_neg (show ¬ (I3 21 : Int32) = 20 by decide), if_pos (show (I3 21 : Int32) = 21 by decide)]
theorem B9_22 {h : sm_H} (e7 : h.1 34 7 = I3 22) : F_9 h = (F_9_350 h) := by
  show F_9_0 h = _
  unfold F_9_0
  rw [e7, if_neg (show ¬ (I3 22 : Int32) = 0 by decide), if_neg (show ¬ (I3 22 : Int32) = 2 by decide), if_neg (show ¬ (I3 22 : Int32) = 3 by decide), if_neg (show ¬ (I3 22 : Int32) = 4 by decide), if_neg (show ¬ (I3 22 : Int32) = 5 by decide), if_neg (show ¬ (I3 22 : Int32) = 6 by decide), if_neg (show ¬ (I3 22 : Int32) = 10 by decide), if_neg (show ¬ (I3 22 : Int32) = 12 by decide), if_neg (show ¬ (I3 22 : Int32) = 13 by decide), if_neg (show ¬ (I3 22 : Int32) = 15 by decide), if_neg (show ¬ (I3 22 : Int32) = 18 by decide), if_neg (show ¬ (I3 22 : Int32) = 19 by decide), if_neg (show ¬ (I3 22 : Int32) = 20 by decide), if_neg (show ¬ (I3 22 : Int32) = 21 by decide), if_pos (show (I3 22 : Int32) = 22 by decide)]
theorem B9_23 {h : sm_H} (e7 : h.1 34 7 = I3 23) : F_9 h = (F_9_350 h) := by
  show F_9_0 h = _
  unfold F_9_0
  rw [e7, if_neg (show ¬ (I3 23 : Int32) = 0 by decide), if_neg (show ¬ (I3 23 : Int32) = 2 by decide), if_neg (show ¬ (I3 23 : Int32) = 3 by decide), if_neg (show ¬ (I3 23 : Int32) = 4 by decide), if_neg (show ¬ (I3 23 : Int32) = 5 by decide), if_neg (show ¬ (I3 23 : Int32) = 6 by decide), if_neg (show ¬ (I3 23 : Int32) = 10 by decide), if_neg (show ¬ (I3 23 : Int32) = 12 by decide), if_neg (show ¬ (I3 23 : Int32) = 13 by decide), if_neg (show ¬ (I3 23 : Int32) = 15 by decide), if_neg (show ¬ (I3 23 : Int32) = 18 by decide), if_neg (show ¬ (I3 23 : Int32) = 19 by decide), if_neg (show ¬ (I3 23 : Int32) = 20 by decide), if_neg (show ¬ (I3 23 : Int32) = 21 by decide), if_neg (show ¬ (I3 23 : Int32) = 22 by decide), if_pos (show (I3 23 : Int32) = 23 by decide)]
theorem B9_24 {h : sm_H} (e7 : h.1 34 7 = I3 24) : F_9 h = (F_9_350 h) := by
  show F_9_0 h = _
  unfold F_9_0
  rw [e7, if_neg (show ¬ (I3 24 : Int32) = 0 by decide), if_neg (show ¬ (I3 24 : Int32) = 2 by decide), if_neg (show ¬ (I3 24 : Int32) = 3 by decide), if_neg (show ¬ (I3 24 : Int32) = 4 by decide), if_neg (show ¬ (I3 24 : Int32) = 5 by decide), if_neg (show ¬ (I3 24 : Int32) = 6 by decide), if_neg (show ¬ (I3 24 : Int32) = 10 by decide), if_neg (show ¬ (I3 24 : Int32) = 12 by decide), if_neg (show ¬ (I3 24 : Int32) = 13 by decide), if_neg (show ¬ (I3 24 : Int32) = 15 by decide), if_neg (show ¬ (I3 24 : Int32) = 18 by decide), if_neg (show ¬ (I3 24 : Int32) = 19 by decide), if_neg (show ¬ (I3 24 : Int32) = 20 by decide), if_neg (show ¬ (I3 24 : Int32) = 21 by decide), if_neg (show ¬ (I3 24 : Int32) = 22 by decide), if_neg (show ¬ (I3 24 : Int32) = 23 by decide), if_pos (show (I3 24 : Int32) = 24 by decide)]
theorem B9_25 {h : sm_H} (e7 : h.1 34 7 = I3 25) : F_9 h = (F_9_350 h) := by
  show F_9_0 h = _
  unfold F_9_0
  rw [e7, if_neg (show ¬ (I3 25 : Int32) = 0 by decide), if_neg (show ¬ (I3 25 : Int32) = 2 by decide), if_neg (show ¬ (I3 25 : Int32) = 3 by decide), if_neg (show ¬ (I3 25 : Int32) = 4 by decide), if_neg (show ¬ (I3 25 : Int32) = 5 by decide), if_neg (show ¬ (I3 25 : Int32) = 6 by decide), if_neg (show ¬ (I3 25 : Int32) = 10 by decide), if_neg (show ¬ (I3 25 : Int32) = 12 by decide), if_neg (show ¬ (I3 25 : Int32) = 13 by decide), if_neg (show ¬ (I3 25 : Int32) = 15 by decide), if_neg (show ¬ (I3 25 : Int32) = 18 by decide), if_neg (show ¬ (I3 25 : Int32) = 19 by decide), if_neg (show ¬ (I3 25 : Int32) = 20 by decide), if_neg (show ¬ (I3 25 : Int32) = 21 by decide), if_neg (show ¬ (I3 25 : Int32) = 22 by decide), if_neg (show ¬ (I3 25 : Int32) = 23 by decide), if_neg (show ¬ (I3 25 : Int32) = 24 by decide), if_pos (show (I3 25 : Int32) = 25 by decide)]
theorem B9_26 {h : sm_H} (e7 : h.1 34 7 = I3 26) : F_9 h = (if (h.1 34 8) = 15 then (F_9_392 h)
  else (if (h.1 34 8) = 16 then (F_9_392 h)
  else (F_9_393 1 h))) := by
  show F_9_0 h = _
  unfold F_9_0
  rw [e7, if_neg (show ¬ (I3 26 : Int32) = 0 by decide), if_neg (show ¬ (I3 26 : Int32) = 2 by decide), if_neg (show ¬ (I3 26 : Int32) = 3 by decide), if_neg (show ¬ (I3 26 : Int32) = 4 by decide), if_neg (show ¬ (I3 26 : Int32) = 5 by decide), if_neg (show ¬ (I3 26 : Int32) = 6 by decide), if_neg (show ¬ (I3 26 : Int32) = 10 by decide), if_neg (show ¬ (I3 26 : Int32) = 12 by decide), if_neg (show ¬ (I3 26 : Int32) = 13 by decide), if_neg (show ¬ (I3 26 : Int32) = 15 by decide), if_neg (show ¬ (I3 26 : Int32) = 18 by decide), if_neg (show ¬ (I3 26 : Int32) = 19 by decide), if_neg (show ¬ (I3 26 : Int32) = 20 by decide), if_neg (show ¬ (I3 26 : Int32) = 21 by decide), if_neg (show ¬ (I3 26 : Int32) = 22 by decide), if_neg (show ¬ (I3 26 : Int32) = 23 by decide), if_neg (show ¬ (I3 26 : Int32) = 24 by decide), if_neg (show ¬ (I3 26 : Int32) = 25 by decide), if_pos (show (I3 26 : Int32) = 26 by decide)]
theorem B9_27 {h : sm_H} (e7 : h.1 34 7 = I3 27) : F_9 h = (F_9_272 h) := by
  show F_9_0 h = _
  unfold F_9_0
  rw [e7, if_neg (show ¬ (I3 27 : Int32) = 0 by decide), if_neg (show ¬ (I3 27 : Int32) = 2 by decide), if_neg (show ¬ (I3 27 : Int32) = 3 by decide), if_neg (show ¬ (I3 27 : Int32) = 4 by decide), if_neg (show ¬ (I3 27 : Int32) = 5 by decide), if_neg (show ¬ (I3 27 : Int32) = 6 by decide), if_neg (show ¬ (I3 27 : Int32) = 10 by decide), if_neg (show ¬ (I3 27 : Int32) = 12 by decide), if_neg (show ¬ (I3 27 : Int32) = 13 by decide), if_neg (show ¬ (I3 27 : Int32) = 15 by decide), if_neg (show ¬ (I3 27 : Int32) = 18 by decide), if_neg (show ¬ (I3 27 : Int32) = 19 by decide), if_neg (show ¬ (I3 27 : Int32) = 20 by decide), if_neg (show ¬ (I3 27 : Int32) = 21 by decide), if_neg (show ¬ (I3 27 : Int32) = 22 by decide), if_neg (show ¬ (I3 27 : Int32) = 23 by decide), if_neg (show ¬ (I3 27 : Int32) = 24 by decide), if_neg (show ¬ (I3 27 : Int32) = 25 by decide), if_neg (show ¬ (I3 27 : Int32) = 26 by decide), if_pos (show (I3 27 : Int32) = 27 by decide)]
theorem B9_28 {h : sm_H} (e7 : h.1 34 7 = I3 28) : F_9 h = (F_9_272 h) := by
  show F_9_0 h = _
  unfold F_9_0
  rw [e7, if_neg (show ¬ (I3 28 : Int32) = 0 by decide), if_neg (show ¬ (I3 28 : Int32) = 2 by decide), if_neg (show ¬ (I3 28 : Int32) = 3 by decide), if_neg (show ¬ (I3 28 : Int32) = 4 by decide), if_neg (show ¬ (I3 28 : Int32) = 5 by decide), if_neg (show ¬ (I3 28 : Int32) = 6 by decide), if_neg (show ¬ (I3 28 : Int32) = 10 by decide), if_neg (show ¬ (I3 28 : Int32) = 12 by decide), if_neg (show ¬ (I3 28 : Int32) = 13 by decide), if_neg (show ¬ (I3 28 : Int32) = 15 by decide), if_neg (show ¬ (I3 28 : Int32) = 18 by decide), if_neg (show ¬ (I3 28 : Int32) = 19 by decide), if_neg (show ¬ (I3 28 : Int32) = 20 by decide), if_neg (show ¬ (I3 28 : Int32) = 21 by decide), if_neg (show ¬ (I3 28 : Int32) = 22 by decide), if_neg (show ¬ (I3 28 : Int32) = 23 by decide), if_neg (show ¬ (I3 28 : Int32) = 24 by decide), if_neg (show ¬ (I3 28 : Int32) = 25 by decide), if_neg (show ¬ (I3 28 : Int32) = 26 by decide), if_neg (show ¬ (I3 28 : Int32) = 27 by decide), if_pos (show (I3 28 : Int32) = 28 by decide)]
theorem B9_29 {h : sm_H} (e7 : h.1 34 7 = I3 29) : F_9 h = ((F_156 (h.1 34 8) h).bind fun q10 =>
  if q10.1 = 0 then (F_9_413 1 q10.2)
  else (F_9_413 0 q10.2)) := by
  show F_9_0 h = _
  unfold F_9_0
  rw [e7, if_neg (show ¬ (I3 29 : Int32) = 0 by decide), if_neg (show ¬ (I3 29 : Int32) = 2 by decide), if_neg (show ¬ (I3 29 : Int32) = 3 by decide), if_neg (show ¬ (I3 29 : Int32) = 4 by decide), if_neg (show ¬ (I3 29 : Int32) = 5 by decide), if_neg (show ¬ (I3 29 : Int32) = 6 by decide), if_neg (show ¬ (I3 29 : Int32) = 10 by decide), if_neg (show ¬ (I3 29 : Int32) = 12 by decide), if_neg (show ¬ (I3 29 : Int32) = 13 by decide), if_neg (show ¬ (I3 29 : Int32) = 15 by decide), if_neg (show ¬ (I3 29 : Int32) = 18 by decide), if_neg (show ¬ (I3 29 : Int32) = 19 by decide), if_neg (show ¬ (I3 29 : Int32) = 20 by decide), if_neg (show ¬ (I3 29 : Int32) = 21 by decide), if_neg (show ¬ (I3 29 : Int32) = 22 by decide), if_neg (show ¬ (I3 29 : Int32) = 23 by decide), if_neg (show ¬ (I3 29 : Int32) = 24 by decide), if_neg (show ¬ (I3 29 : Int32) = 25 by decide), if_neg (show ¬ (I3 29 : Int32) = 26 by decide), if_neg (show ¬ (I3 29 : Int32) = 27 by decide), if_neg (show ¬ (I3 29 : Int32) = 28 by decide), if_pos (show (I3 29 : Int32) = 29 by decide)]
theorem B9_30 {h : sm_H} (e7 : h.1 34 7 = I3 30) : F_9 h = ((F_160 (h.1 34 8) h).bind fun q11 =>
  if q11.1 = 0 then (F_9_433 1 q11.2)
  else (F_9_433 0 q11.2)) := by
  show F_9_0 h = _
  unfold F_9_0
  rw [e7, if_neg (show ¬ (I3 30 : Int32) = 0 by decide), if_neg (show ¬ (I3 30 : Int32) = 2 by decide), if_neg (show ¬ (I3 30 : Int32) = 3 by decide), if_neg (show ¬ (I3 30 : Int32) = 4 by decide), if_neg (show ¬ (I3 30 : Int32) = 5 by decide), if_neg (show ¬ (I3 30 : Int32) = 6 by decide), if_neg (show ¬ (I3 30 : Int32) = 10 by decide), if_neg (show ¬ (I3 30 : Int32) = 12 by decide), if_neg (show ¬ (I3 30 : Int32) = 13 by decide), if_neg (show ¬ (I3 30 : Int32) = 15 by decide), if_neg (show ¬ (I3 30 : Int32) = 18 by decide), if_neg (show ¬ (I3 30 : Int32) = 19 by decide), if_neg (show ¬ (I3 30 : Int32) = 20 by decide), if_neg (show ¬ (I3 30 : Int32) = 21 by decide), if_neg (show ¬ (I3 30 : Int32) = 22 by decide), if_neg (show ¬ (I3 30 : Int32) = 23 by decide), if_neg (show ¬ (I3 30 : Int32) = 24 by decide), if_neg (show ¬ (I3 30 : Int32) = 25 by decide), if_neg (show ¬ (I3 30 : Int32) = 26 by decide), if_neg (show ¬ (I3 30 : Int32) = 27 by decide), if_neg (show ¬ (I3 30 : Int32) = 28 by decide), if_neg (show ¬ (I3 30 : Int32) = 29 by decide), if_pos (show (I3 30 : Int32) = 30 by decide)]
theorem B9_31 {h : sm_H} (e7 : h.1 34 7 = I3 31) : F_9 h = ((F_57 (h.1 34 8) h).bind fun q12 =>
  if q12.1 = 0 then (F_9_453 1 q12.2)
  else (F_9_453 0 q12.2)) := by
  show F_9_0 h = _
  unfold F_9_0
  rw [e7, if_neg (show ¬ (I3 31 : Int32) = 0 by decide), if_neg (show ¬ (I3 31 : Int32) = 2 by decide), if_neg (show ¬ (I3 31 : Int32) = 3 by decide), if_neg (show ¬ (I3 31 : Int32) = 4 by decide), if_neg (show ¬ (I3 31 : Int32) = 5 by decide), if_neg (show ¬ (I3 31 : Int32) = 6 by decide), if_neg (show ¬ (I3 31 : Int32) = 10 by decide), if_neg (show ¬ (I3 31 : Int32) = 12 by decide), if_neg (show ¬ (I3 31 : Int32) = 13 by decide), if_neg (show ¬ (I3 31 : Int32) = 15 by decide), if_neg (show ¬ (I3 31 : Int32) = 18 by decide), if_neg (show ¬ (I3 31 : Int32) = 19 by decide), if_neg (show ¬ (I3 31 : Int32) = 20 by decide), if_neg (show ¬ (I3 31 : Int32) = 21 by decide), if_neg (show ¬ (I3 31 : Int32) = 22 by decide), if_neg (show ¬ (I3 31 : Int32) = 23 by decide), if_neg (show ¬ (I3 31 : Int32) = 24 by decide), if_neg (show ¬ (I3 31 : Int32) = 25 by decide), if_neg (show ¬ (I3 31 : Int32) = 26 by decide), if_neg (show ¬ (I3 31 : Int32) = 27 by decide), if_neg (show ¬ (I3 31 : Int32) = 28 by decide), if_neg (show ¬ (I3 31 : Int32) = 29 by decide), if_neg (show ¬ (I3 31 : Int32) = 30 by decide), if_pos (show (I3 31 : Int32) = 31 by decide)]
theorem B9_32 {h : sm_H} (e7 : h.1 34 7 = I3 32) : F_9 h = (F_9_454 h) := by
  show F_9_0 h = _
  unfold F_9_0
  rw [e7, if_neg (show ¬ (I3 32 : Int32) = 0 by decide), if_neg (show ¬ (I3 32 : Int32) = 2 by decide), if_neg (show ¬ (I3 32 : Int32) = 3 by decide), if_neg (show ¬ (I3 32 : Int32) = 4 by decide), if_neg (show ¬ (I3 32 : Int32) = 5 by decide), if_neg (show ¬ (I3 32 : Int32) = 6 by decide), if_neg (show ¬ (I3 32 : Int32) = 10 by decide), if_neg (show ¬ (I3 32 : Int32) = 12 by decide), if_neg (show ¬ (I3 32 : Int32) = 13 by decide), if_neg (show ¬ (I3 32 : Int32) = 15 by decide), if_neg (show ¬ (I3 32 : Int32) = 18 by decide), if_neg (show ¬ (I3 32 : Int32) = 19 by decide), if_neg (show ¬ (I3 32 : Int32) = 20 by decide), if_neg (show ¬ (I3 32 : Int32) = 21 by decide), if_neg (show ¬ (I3 32 : Int32) = 22 by decide), if_neg (show ¬ (I3 32 : Int32) = 23 by decide), if_neg (show ¬ (I3 32 : Int32) = 24 by decide), if_neg (show ¬ (I3 32 : Int32) = 25 by decide), if_neg (show ¬ (I3 32 : Int32) = 26 by decide), if_neg (show ¬ (I3 32 : Int32) = 27 by decide), if_neg (show ¬ (I3 32 : Int32) = 28 by decide), if_neg (show ¬ (I3 32 : Int32) = 29 by decide), if_neg (show ¬ (I3 32 : Int32) = 30 by decide), if_neg (show ¬ (I3 32 : Int32) = 31 by decide), if_neg (show ¬ (I3 32 : Int32) = 34 by decide)]
theorem B9_33 {h : sm_H} (e7 : h.1 34 7 = I3 33) : F_9 h = (F_9_454 h) := by
  show F_9_0 h = _
  unfold F_9_0
  rw [e7, if_neg (show ¬ (I3 33 : Int32) = 0 by decide), if_neg (show ¬ (I3 33 : Int32) = 2 by decide), if_neg (show ¬ (I3 33 : Int32) = 3 by decide), if_neg (show ¬ (I3 33 : Int32) = 4 by decide), if_neg (show ¬ (I3 33 : Int32) = 5 by decide), if_neg (show ¬ (I3 33 : Int32) = 6 by decide), if_neg (show ¬ (I3 33 : Int32) = 10 by decide), if_neg (show ¬ (I3 33 : Int32) = 12 by decide), if_neg (show ¬ (I3 33 : Int32) = 13 by decide), if_neg (show ¬ (I3 33 : Int32) = 15 by decide), if_neg (show ¬ (I3 33 : Int32) = 18 by decide), if_neg (show ¬ (I3 33 : Int32) = 19 by decide), if_neg (show ¬ (I3 33 : Int32) = 20 by decide), if_neg (show ¬ (I3 33 : Int32) = 21 by decide), if_neg (show ¬ (I3 33 : Int32) = 22 by decide), if_neg (show ¬ (I3 33 : Int32) = 23 by decide), if_neg (show ¬ (I3 33 : Int32) = 24 by decide), if_neg (show ¬ (I3 33 : Int32) = 25 by decide), if_neg (show ¬ (I3 33 : Int32) = 26 by decide), if_neg (show ¬ (I3 33 : Int32) = 27 by decide), if_neg (show ¬ (I3 33 : Int32) = 28 by decide), if_neg (show ¬ (I3 33 : Int32) = 29 by decide), if_neg (show ¬ (I3 33 : Int32) = 30 by decide), if_neg (show ¬ (I3 33 : Int32) = 31 by decide), if_neg (show ¬ (I3 33 : Int32) = 34 by decide)]
theorem B9_34 {h : sm_H} (e7 : h.1 34 7 = I3 34) : F_9 h = (F_9_272 h) := by
  show F_9_0 h = _
  unfold F_9_0
  rw [e7, if_neg (show ¬ (I3 34 : Int32) = 0 by decide), if_neg (show ¬ (I3 34 : Int32) = 2 by decide), if_neg (show ¬ (I3 34 : Int32) = 3 by decide), if_neg (show ¬ (I3 34 : Int32) = 4 by decide), if_neg (show ¬ (I3 34 : Int32) = 5 by decide), if_neg (show ¬ (I3 34 : Int32) = 6 by decide), if_neg (show ¬ (I3 34 : Int32) = 10 by decide), if_neg (show ¬ (I3 34 : Int32) = 12 by decide), if_neg (show ¬ (I3 34 : Int32) = 13 by decide), if_neg (show ¬ (I3 34 : Int32) = 15 by decide), if_neg (show ¬ (I3 34 : Int32) = 18 by decide), if_neg (show ¬ (I3 34 : Int32) = 19 by decide), if_neg (show ¬ (I3 34 : Int32) = 20 by decide), if_neg (show ¬ (I3 34 : Int32) = 21 by decide), if_neg (show ¬ (I3 34 : Int32) = 22 by decide), if_neg (show ¬ (I3 34 : Int32) = 23 by decide), if_neg (show ¬ (I3 34 : Int32) = 24 by decide), if_neg (show ¬ (I3 34 : Int32) = 25 by decide), if_neg (show ¬ (I3 34 : Int32) = 26 by decide), if_neg (show ¬ (I3 34 : Int32) = 27 by decide), if_neg (show ¬ (I3 34 : Int32) = 28 by decide), if_neg (show ¬ (I3 34 : Int32) = 29 by decide), if_neg (show ¬ (I3 34 : Int32) = 30 by decide), if_neg (show ¬ (I3 34 : Int32) = 31 by decide), if_pos (show (I3 34 : Int32) = 34 by decide)]
theorem B14_0 {h : sm_H} (e7 : h.1 34 7 = I3 0) : F_14 h = ((F_152 (h.1 34 8) (h.2.1 34 10) h).bind fun q6 =>
  if q6.1 = 3 then (F_14_168 1 q6.2)
  else (F_14_168 0 q6.2)) := by
  show F_14_0 h = _
  unfold F_14_0
  rw [e7, if_pos (show (I3 0 : Int32) = 0 by decide)]
theorem B14_1 {h : sm_H} (e7 : h.1 34 7 = I3 1) : F_14 h = (F_14_578 h) := by
  show F_14_0 h = _
  unfold F_14_0
  rw [e7, if_neg (show ¬ (I3 1 : Int32) = 0 by decide), if_neg (show ¬ (I3 1 : Int32) = 5 by decide), if_neg (show ¬ (I3 1 : Int32) = 6 by decide), if_neg (show ¬ (I3 1 : Int32) = 7 by decide), if_neg (show ¬ (I3 1 : Int32) = 8 by decide), if_neg (show ¬ (I3 1 : Int32) = 9 by decide), if_neg (show ¬ (I3 1 : Int32) = 10 by decide), if_neg (show ¬ (I3 1 : Int32) = 11 by decide), if_neg (show ¬ (I3 1 : Int32) = 12 by decide), if_neg (show ¬ (I3 1 : Int32) = 13 by decide), if_neg (show ¬ (I3 1 : Int32) = 14 by decide), if_neg (show ¬ (I3 1 : Int32) = 15 by decide), if_neg (show ¬ (I3 1 : Int32) = 16 by decide), if_neg (show ¬ (I3 1 : Int32) = 17 by decide), if_neg (show ¬ (I3 1 : Int32) = 18 by decide), if_neg (show ¬ (I3 1 : Int32) = 30 by decide)]
theorem B14_2 {h : sm_H} (e7 : h.1 34 7 = I3 2) : F_14 h = (F_14_578 h) := by
  show F_14_0 h = _
  unfold F_14_0
  rw [e7, if_neg (show ¬ (I3 2 : Int32) = 0 by decide), if_neg (show ¬ (I3 2 : Int32) = 5 by decide), if_neg (show ¬ (I3 2 : Int32) = 6 by decide), if_neg (show ¬ (I3 2 : Int32) = 7 by decide), if_neg (show ¬ (I3 2 : Int32) = 8 by decide), if_neg (show ¬ (I3 2 : Int32) = 9 by decide), if_neg (show ¬ (I3 2 : Int32) = 10 by decide), if_neg (show ¬ (I3 2 : Int32) = 11 by decide), if_neg (show ¬ (I3 2 : Int32) = 12 by decide), if_neg (show ¬ (I3 2 : Int32) = 13 by decide), if_neg (show ¬ (I3 2 : Int32) = 14 by decide), if_neg (show ¬ (I3 2 : Int32) = 15 by decide), if_neg (show ¬ (I3 2 : Int32) = 16 by decide), if_neg (show ¬ (I3 2 : Int32) = 17 by decide), if_neg (show ¬ (I3 2 : Int32) = 18 by decide), if_neg (show ¬ (I3 2 : Int32) = 30 by decide)]
theorem B14_3 {h : sm_H} (e7 : h.1 34 7 = I3 3) : F_14 h = (F_14_578 h) := by
  show F_14_0 h = _
  unfold F_14_0
  rw [e7, if_neg (show ¬ (I3 3 : Int32) = 0 by decide), if_neg (show ¬ (I3 3 : Int32) = 5 by decide), if_neg (show ¬ (I3 3 : Int32) = 6 by decide), if_neg (show ¬ (I3 3 : Int32) = 7 by decide), if_neg (show ¬ (I3 3 : Int32) = 8 by decide), if_neg (show ¬ (I3 3 : Int32) = 9 by decide), if_neg (show ¬ (I3 3 : Int32) = 10 by decide), if_neg (show ¬ (I3 3 : Int32) = 11 by decide), if_neg (show ¬ (I3 3 : Int32) = 12 by decide), if_neg (show ¬ (I3 3 : Int32) = 13 by decide), if_neg (show ¬ (I3 3 : Int32) = 14 by decide), if_neg (show ¬ (I3 3 : Int32) = 15 by decide), if_neg (show ¬ (I3 3 : Int32) = 16 by decide), if_neg (show ¬ (I3 3 : Int32) = 17 by decide), if_neg (show ¬ (I3 3 : Int32) = 18 by decide), if_neg (show ¬ (I3 3 : Int32) = 30 by decide)]
theorem B14_4 {h : sm_H} (e7 : h.1 34 7 = I3 4) : F_14 h = (F_14_578 h) := by
  show F_14_0 h = _
  unfold F_14_0
  rw [e7, if_neg (show ¬ (I3 4 : Int32) = 0 by decide), if_neg (show ¬ (I3 4 : Int32) = 5 by decide), if_neg (show ¬ (I3 4 : Int32) = 6 by decide), if_neg (show ¬ (I3 4 : Int32) = 7 by decide), if_neg (show ¬ (I3 4 : Int32) = 8 by decide), if_neg (show ¬ (I3 4 : Int32) = 9 by decide), if_neg (show ¬ (I3 4 : Int32) = 10 by decide), if_neg (show ¬ (I3 4 : Int32) = 11 by decide), if_neg (show ¬ (I3 4 : Int32) = 12 by decide), if_neg (show ¬ (I3 4 : Int32) = 13 by decide), if_neg (show ¬ (I3 4 : Int32) = 14 by decide), if_neg (show ¬ (I3 4 : Int32) = 15 by decide), if_neg (show ¬ (I3 4 : Int32) = 16 by decide), if_neg (show ¬ (I3 4 : Int32) = 17 by decide), if_neg (show ¬ (I3 4 : Int32) = 18 by decide), if_neg (show ¬ (I3 4 : Int32) = 30 by decide)]
theorem B14_5 {h : sm_H} (e7 : h.1 34 7 = I3 5) : F_14 h = ((F_16 h).bind fun q7 =>
  if q7.1 = 0 ∨ q7.1 = 1 then some (q7.1, q7.2) else none) := by
  show F_14_0 h = _
  unfold F_14_0
  rw [e7, if_neg (show ¬ (I3 5 : Int32) = 0 by decide), if_pos (show (I3 5 : Int32) = 5 by decide)]
theorem B14_6 {h : sm_H} (e7 : h.1 34 7 = I3 6) : F_14 h = ((F_10 h).bind fun q8 =>
  if q8.1 = 3 then (F_14_187 1 q8.2)
  else (F_14_187 0 q8.2)) := by
  show F_14_0 h = _
  unfold F_14_0
  rw [e7, if_neg (show ¬ (I3 6 : Int32) = 0 by decide), if_neg (show ¬ (I3 6 : Int32) = 5 by decide), if_pos (show (I3 6 : Int32) = 6 by decide)]
theorem B14_7 {h : sm_H} (e7 : h.1 34 7 = I3 7) : F_14 h = ((F_17 h).bind fun q9 =>
  if q9.1 = 0 ∨ q9.1 = 1 then some (q9.1, q9.2) else none) := by
  show F_14_0 h = _
  unfold F_14_0
  rw [e7, if_neg (show ¬ (I3 7 : Int32) = 0 by decide), if_neg (show ¬ (I3 7 : Int32) = 5 by decide), if_neg (show ¬ (I3 7 : Int32) = 6 by decide), if_pos (show (I3 7 : Int32) = 7 by decide)]
theorem B14_8 {h : sm_H} (e7 : h.1 34 7 = I3 8) : F_14 h = ((F_17 h).bind fun q10 =>
  if q10.1 = 0 then ((F_41 (q10.2.1 34 13) q10.2).bind fun q11 =>
  (F_41 (q11.2.1 34 12) q11.2).bind fun q12 =>
  (F_12 q12.2).bind fun q13 =>
  (F_45 (q13.2.1 34 13) q13.2).bind fun q14 =>
  (F_235 q11.1 0 q12.1 ((q12.2.1 34 8) + q13.1) q14.1 q14.2).bind fun q15 =>
  if q15.1 = 0 then (F_14_253 q15.2)
  else (F_14_258 0 q15.2))
  else (F_14_253 q10.2)) := by
  show F_14_0 h = _
  unfold F_14_0
  rw [e7, if_neg (show ¬ (I3 8 : Int32) = 0 by decide), if_neg (show ¬ (I3 8 : Int32) = 5 by decide), if_neg (show ¬ (I3 8 : Int32) = 6 by decide), if_neg (show ¬ (I3 8 : Int32) = 7 by decide), if_pos (show (I3 8 : Int32) = 8 by decide)]
theorem B14_9 {h : sm_H} (e7 : h.1 34 7 = I3 9) : F_14 h = ((F_45 (h.1 34 13) h).bind fun q16 =>
  (F_44 (q16.2.1 34 12) q16.2).bind fun q17 =>
  if q17.1 = 0 then (F_14_289 q16.1 0 q17.2)
  else (F_14_289 q16.1 1 q17.2)) := by
  show F_14_0 h = _
  unfold F_14_0
  rw [e7, if_neg (show ¬ (I3 9 : Int32) = 0 by decide), if_neg (show ¬ (I3 9 : Int32) = 5 by decide), if_neg (show ¬ (I3 9 : Int32) = 6 by decide), if_neg (show ¬ (I3 9 : Int32) = 7 by decide), if_neg (show ¬ (I3 9 : Int32) = 8 by decide), if_pos (show (I3 9 : Int32) = 9 by decide)]
theorem B14_10 {h : sm_H} (e7 : h.1 34 7 = I3 10) : F_14 h = ((F_18 h).bind fun q18 =>
  if q18.1 = 0 ∨ q18.1 = 1 then some (q18.1, q18.2) else none) := by
  show F_14_0 h = _
  unfold F_14_0
  rw [e7, if_neg (show ¬ (I3 10 : Int32) = 0 by decide), if_neg (show ¬ (I3 10 : Int32) = 5 by decide), if_neg (show ¬ (I3 10 : Int32) = 6 by decide), if_neg (show ¬ (I3 10 : Int32) = 7 by decide), if_neg (show ¬ (I3 10 : Int32) = 8 by decide), if_neg (show ¬ (I3 10 : Int32) = 9 by decide), if_pos (show (I3 10 : Int32) = 10 by decide)]
theorem B14_11 {h : sm_H} (e7 : h.1 34 7 = I3 11) : F_14 h = ((F_15 h).bind fun q19 =>
  (F_59 q19.1 q19.2).bind fun q20 =>
  if q20.1 = 0 then (F_14_362 1 q20.2)
  else (F_14_362 0 q20.2)) := by
  show F_14_0 h = _
  unfold F_14_0
  rw [e7, if_neg (show ¬ (I3 11 : Int32) = 0 by decide), if_neg (show ¬ (I3 11 : Int32) = 5 by decide), if_neg (show ¬ (I3 11 : Int32) = 6 by decide), if_neg (show ¬ (I3 11 : Int32) = 7 by decide), if_neg (show ¬ (I3 11 : Int32) = 8 by decide), if_neg (show ¬ (I3 11 : Int32) = 9 by decide), if_neg (show ¬ (I3 11 : Int32) = 10 by decide), if_pos (show (I3 11 : Int32) = 11 by decide)]
theorem B14_12 {h : sm_H} (e7 : h.1 34 7 = I3 12) : F_14 h = (F_14_363 h) := by
  show F_14_0 h = _
  unfold F_14_0
  rw [e7, if_neg (show ¬ (I3 12 : Int32) = 0 by decide), if_neg (show ¬ (I3 12 : Int32) = 5 by decide), if_neg (show ¬ (I3 12 : Int32) = 6 by decide), if_neg (show ¬ (I3 12 : Int32) = 7 by decide), if_neg (show ¬ (I3 12 : Int32) = 8 by decide), if_neg (show ¬ (I3 12 : Int32) = 9 by decide), if_neg (show ¬ (I3 12 : Int32) = 10 by decide), if_neg (show ¬ (I3 12 : Int32) = 11 by decide), if_pos (show (I3 12 : Int32) = 12 by decide)]
theorem B14_13 {h : sm_H} (e7 : h.1 34 7 = I3 13) : F_14 h = (F_14_363 h) := by
  show F_14_0 h = _
  unfold F_14_0
  rw [e7, if_neg (show ¬ (I3 13 : Int32) = 0 by decide), if_neg (show ¬ (I3 13 : Int32) = 5 by decide), if_neg (show ¬ (I3 13 : Int32) = 6 by decide), if_neg (show ¬ (I3 13 : Int32) = 7 by decide), if_neg (show ¬ (I3 13 : Int32) = 8 by decide), if_neg (show ¬ (I3 13 : Int32) = 9 by decide), if_neg (show ¬ (I3 13 : Int32) = 10 by decide), if_neg (show ¬ (I3 13 : Int32) = 11 by decide), if_neg (show ¬ (I3 13 : Int32) = 12 by decide), if_pos (show (I3 13 : Int32) = 13 by decide)]
theorem B14_14 {h : sm_H} (e7 : h.1 34 7 = I3 14) : F_14 h = ((F_41 (h.1 34 13) h).bind fun q21 =>
  (F_41 (q21.2.1 34 14) q21.2).bind fun q22 =>
  if q21.1 = q22.1 then ((F_44 (q22.2.1 34 12) q22.2).bind fun q23 =>
  if q23.1 = 1 then ((F_41 (q23.2.1 34 12) q23.2).bind fun q24 =>
  (F_41 (q24.2.1 34 13) q24.2).bind fun q25 =>
  (F_45 (q25.2.1 34 12) q25.2).bind fun q26 =>
  (F_235 q24.1 0 q25.1 0 q26.1 q26.2).bind fun q27 =>
  if q27.1 = 0 then (F_14_493 q27.2)
  else (F_14_498 0 q27.2))
  else (F_14_493 q23.2))
  else (F_14_493 q22.2)) := by
  show F_14_0 h = _
  unfold F_14_0
  rw [e7, if_neg (show ¬ (I3 14 : Int32) = 0 by decide), if_neg (show ¬ (I3 14 : Int32) = 5 by decide), if_neg (show ¬ (I3 14 : Int32) = 6 by decide), if_neg (show ¬ (I3 14 : Int32) = 7 by decide), if_neg (show ¬ (I3 14 : Int32) = 8 by decide), if_neg (show ¬ (I3 14 : Int32) = 9 by decide), if_neg (show ¬ (I3 14 : Int32) = 10 by decide), if_neg (show ¬ (I3 14 : Int32) = 11 by decide), if_neg (show ¬ (I3 14 : Int32) = 12 by decide), if_neg (show ¬ (I3 14 : Int32) = 13 by decide), if_pos (show (I3 14 : Int32) = 14 by decide)]
theorem B14_15 {h : sm_H} (e7 : h.1 34 7 = I3 15) : F_14 h = ((F_46 (h.1 34 13) 0 h).bind fun q28 =>
  if q28.1 = (q28.2.1 34 8) then ((F_19 1 q28.2).bind fun q29 =>
  if q29.1 = 0 then (F_14_531 0 q29.2)
  else (F_14_526 q29.2))
  else (F_14_526 q28.2)) := by
  show F_14_0 h = _
  unfold F_14_0
  rw [e7, if_neg (show ¬ (I3 15 : Int32) = 0 by decide), if_neg (show ¬ (I3 15 : Int32) = 5 by decide), if_neg (show ¬ (I3 15 : Int32) = 6 by decide), if_neg (show ¬ (I3 15 : Int32) = 7 by decide), if_neg (show ¬ (I3 15 : Int32) = 8 by decide), if_neg (show ¬ (I3 15 : Int32) = 9 by decide), if_neg (show ¬ (I3 15 : Int32) = 10 by decide), if_neg (show ¬ (I3 15 : Int32) = 11 by decide), if_neg (show ¬ (I3 15 : Int32) = 12 by decide), if_neg (show ¬ (I3 15 : Int32) = 13 by decide), if_neg (show ¬ (I3 15 : Int32) = 14 by decide), if_pos (show (I3 15 : Int32) = 15 by decide)]
theorem B14_16 {h : sm_H} (e7 : h.1 34 7 = I3 16) : F_14 h = ((F_20 h).bind fun q30 =>
  if q30.1 = 0 ∨ q30.1 = 1 then some (q30.1, q30.2) else none) := by
  show F_14_0 h = _
  unfold F_14_0
  rw [e7, if_neg (show ¬ (I3 16 : Int32) = 0 by decide), if_neg (show ¬ (I3 16 : Int32) = 5 by decide), if_neg (show ¬ (I3 16 : Int32) = 6 by decide), if_neg (show ¬ (I3 16 : Int32) = 7 by decide), if_neg (show ¬ (I3 16 : Int32) = 8 by decide), if_neg (show ¬ (I3 16 : Int32) = 9 by decide), if_neg (show ¬ (I3 16 : Int32) = 10 by decide), if_neg (show ¬ (I3 16 : Int32) = 11 by decide), if_neg (show ¬ (I3 16 : Int32) = 12 by decide), if_neg (show ¬ (I3 16 : Int32) = 13 by decide), if_neg (show ¬ (I3 16 : Int32) = 14 by decide), if_neg (show ¬ (I3 16 : Int32) = 15 by decide), if_pos (show (I3 16 : Int32) = 16 by decide)]
theorem B14_17 {h : sm_H} (e7 : h.1 34 7 = I3 17) : F_14 h = ((F_21 h).bind fun q31 =>
  if q31.1 = 0 ∨ q31.1 = 1 then some (q31.1, q31.2) else none) := by
  show F_14_0 h = _
  unfold F_14_0
  rw [e7, if_neg (show ¬ (I3 17 : Int32) = 0 by decide), if_neg (show ¬ (I3 17 : Int32) = 5 by decide), if_neg (show ¬ (I3 17 : Int32) = 6 by decide), if_neg (show ¬ (I3 17 : Int32) = 7 by decide), if_neg (show ¬ (I3 17 : Int32) = 8 by decide), if_neg (show ¬ (I3 17 : Int32) = 9 by decide), if_neg (show ¬ (I3 17 : Int32) = 10 by decide), if_neg (show ¬ (I3 17 : Int32) = 11 by decide), if_neg (show ¬ (I3 17 : Int32) = 12 by decide), if_neg (show ¬ (I3 17 : Int32) = 13 by decide), if_neg (show ¬ (I3 17 : Int32) = 14 by decide), if_neg (show ¬ (I3 17 : Int32) = 15 by decide), if_neg (show ¬ (I3 17 : Int32) = 16 by decide), if_pos (show (I3 17 : Int32) = 17 by decide)]
theorem B14_18 {h : sm_H} (e7 : h.1 34 7 = I3 18) : F_14 h = ((F_22 h).bind fun q32 =>
  if q32.1 = 0 ∨ q32.1 = 1 then some (q32.1, q32.2) else none) := by
  show F_14_0 h = _
  unfold F_14_0
  rw [e7, if_neg (show ¬ (I3 18 : Int32) = 0 by decide), if_neg (show ¬ (I3 18 : Int32) = 5 by decide), if_neg (show ¬ (I3 18 : Int32) = 6 by decide), if_neg (show ¬ (I3 18 : Int32) = 7 by decide), if_neg (show ¬ (I3 18 : Int32) = 8 by decide), if_neg (show ¬ (I3 18 : Int32) = 9 by decide), if_neg (show ¬ (I3 18 : Int32) = 10 by decide), if_neg (show ¬ (I3 18 : Int32) = 11 by decide), if_neg (show ¬ (I3 18 : Int32) = 12 by decide), if_neg (show ¬ (I3 18 : Int32) = 13 by decide), if_neg (show ¬ (I3 18 : Int32) = 14 by decide), if_neg (show ¬ (I3 18 : Int32) = 15 by decide), if_neg (show ¬ (I3 18 : Int32) = 16 by decide), if_neg (show ¬ (I3 18 : Int32) = 17 by decide), if_pos (show (I3 18 : Int32) = 18 by decide)]
theorem B14_19 {h : sm_H} (e7 : h.1 34 7 = I3 19) : F_14 h = (F_14_578 h) := by
  show F_14_0 h = _
  unfold F_14_0
  rw [e7, if_neg (show ¬ (I3 19 : Int32) = 0 by decide), if_neg (show ¬ (I3 19 : Int32) = 5 by decide), if_neg (show ¬ (I3 19 : Int32) = 6 by decide), if_neg (show ¬ (I3 19 : Int32) = 7 by decide), if_neg (show ¬ (I3 19 : Int32) = 8 by decide), if_neg (show ¬ (I3 19 : Int32) = 9 by decide), if_neg (show ¬ (I3 19 : Int32) = 10 by decide), if_neg (show ¬ (I3 19 : Int32) = 11 by decide), if_neg (show ¬ (I3 19 : Int32) = 12 by decide), if_neg (show ¬ (I3 19 : Int32) = 13 by decide), if_neg (show ¬ (I3 19 : Int32) = 14 by decide), if_neg (show ¬ (I3 19 : Int32) = 15 by decide), if_neg (show ¬ (I3 19 : Int32) = 16 by decide), if_neg (show ¬ (I3 19 : Int32) = 17 by decide), if_neg (show ¬ (I3 19 : Int32) = 18 by decide), if_neg (show ¬ (I3 19 : Int32) = 30 by decide)]
theorem B14_20 {h : sm_H} (e7 : h.1 34 7 = I3 20) : F_14 h = (F_14_578 h) := by
  show F_14_0 h = _
  unfold F_14_0
  rw [e7, if_neg (show ¬ (I3 20 : Int32) = 0 by decide), if_neg (show ¬ (I3 20 : Int32) = 5 by decide), if_neg (show ¬ (I3 20 : Int32) = 6 by decide), if_neg (show ¬ (I3 20 : Int32) = 7 by decide), if_neg (show ¬ (I3 20 : Int32) = 8 by decide), if_neg (show ¬ (I3 20 : Int32) = 9 by decide), if_neg (show ¬ (I3 20 : Int32) = 10 by decide), if_neg (show ¬ (I3 20 : Int32) = 11 by decide), if_neg (show ¬ (I3 20 : Int32) = 12 by decide), if_neg (show ¬ (I3 20 : Int32) = 13 by decide), if_neg (show ¬ (I3 20 : Int32) = 14 by decide), if_neg (show ¬ (I3 20 : Int32) = 15 by decide), if_neg (show ¬ (I3 20 : Int32) = 16 by decide), if_neg (show ¬ (I3 20 : Int32) = 17 by decide), if_neg (show ¬ (I3 20 : Int32) = 18 by decide), if_neg (show ¬ (I3 20 : Int32) = 30 by decide)]
theorem B14_21 {h : sm_H} (e7 : h.1 34 7 = I3 21) : F_14 h = (F_14_578 h) := by
  show F_14_0 h = _
  unfold F_14_0
  rw [e7, if_neg (show ¬ (I3 21 : Int32) = 0 by decide), if_neg (show ¬ (I3 21 : Int32) = 5 by decide), if_neg (show ¬ (I3 21 : Int32) = 6 by decide), if_neg (show ¬ (I3 21 : Int32) = 7 by decide), if_neg (show ¬ (I3 21 : Int32) = 8 by decide), if_neg (show ¬ (I3 21 : Int32) = 9 by decide), if_neg (show ¬ (I3 21 : Int32) = 10 by decide), if_neg (show ¬ (I3 21 : Int32) = 11 by decide), if_neg (show ¬ (I3 21 : Int32) = 12 by decide), if_neg (show ¬ (I3 21 : Int32) = 13 by decide), if_neg (show ¬ (I3 21 : Int32) = 14 by decide), if_neg (show ¬ (I3 21 : Int32) = 15 by decide), if_neg (show ¬ (I3 21 : Int32) = 16 by decide), if_neg (show ¬ (I3 21 : Int32) = 17 by decide), if_neg (show ¬ (I3 21 : Int32) = 18 by decide), if_neg (show ¬ (I3 21 : Int32) = 30 by decide)]
theorem B14_22 {h : sm_H} (e7 : h.1 34 7 = I3 22) : F_14 h = (F_14_578 h) := by
  show F_14_0 h = _
  unfold F_14_0
  rw [e7, if_neg (show ¬ (I3 22 : Int32) = 0 by decide), if_neg (show ¬ (I3 22 : Int32) = 5 by decide), if_neg (show ¬ (I3 22 : Int32) = 6 by decide), if_neg (show ¬ (I3 22 : Int32) = 7 by decide), if_neg (show ¬ (I3 22 : Int32) = 8 by decide), if_neg (show ¬ (I3 22 : Int32) = 9 by decide), if_neg (show ¬ (I3 22 : Int32) = 10 by decide), if_neg (show ¬ (I3 22 : Int32) = 11 by decide), if_neg (show ¬ (I3 22 : Int32) = 12 by decide), if_neg (show ¬ (I3 22 : Int32) = 13 by decide), if_neg (show ¬ (I3 22 : Int32) = 14 by decide), if_neg (show ¬ (I3 22 : Int32) = 15 by decide), if_neg (show ¬ (I3 22 : Int32) = 16 by decide), if_neg (show ¬ (I3 22 : Int32) = 17 by decide), if_neg (show ¬ (I3 22 : Int32) = 18 by decide), if_neg (show ¬ (I3 22 : Int32) = 30 by decide)]
theorem B14_23 {h : sm_H} (e7 : h.1 34 7 = I3 23) : F_14 h = (F_14_578 h) := by
  show F_14_0 h = _
  unfold F_14_0
  rw [e7, if_neg (show ¬ (I3 23 : Int32) = 0 by decide), if_neg (show ¬ (I3 23 : Int32) = 5 by decide), if_neg (show ¬ (I3 23 : Int32) = 6 by decide), if_neg (show ¬ (I3 23 : Int32) = 7 by decide), if_neg (show ¬ (I3 23 : Int32) = 8 by decide), if_neg (show ¬ (I3 23 : Int32) = 9 by decide), if_neg (show ¬ (I3 23 : Int32) = 10 by decide), if_neg (show ¬ (I3 23 : Int32) = 11 by decide), if_neg (show ¬ (I3 23 : Int32) = 12 by decide), if_neg (show ¬ (I3 23 : Int32) = 13 by decide), if_neg (show ¬ (I3 23 : Int32) = 14 by decide), if_neg (show ¬ (I3 23 : Int32) = 15 by decide), if_neg (show ¬ (I3 23 : Int32) = 16 by decide), if_neg (show ¬ (I3 23 : Int32) = 17 by decide), if_neg (show ¬ (I3 23 : Int32) = 18 by decide), if_neg (show ¬ (I3 23 : Int32) = 30 by decide)]
theorem B14_24 {h : sm_H} (e7 : h.1 34 7 = I3 24) : F_14 h = (F_14_578 h) := by
  show F_14_0 h = _
  unfold F_14_0
  rw [e7, if_neg (show ¬ (I3 24 : Int32) = 0 by decide), if_neg (show ¬ (I3 24 : Int32) = 5 by decide), if_neg (show ¬ (I3 24 : Int32) = 6 by decide), if_neg (show ¬ (I3 24 : Int32) = 7 by decide), if_neg (show ¬ (I3 24 : Int32) = 8 by decide), if_neg (show ¬ (I3 24 : Int32) = 9 by decide), if_neg (show ¬ (I3 24 : Int32) = 10 by decide), if_neg (show ¬ (I3 24 : Int32) = 11 by decide), if_neg (show ¬ (I3 24 : Int32) = 12 by decide), if_neg (show ¬ (I3 24 : Int32) = 13 by decide), if_neg (show ¬ (I3 24 : Int32) = 14 by decide), if_neg (show ¬ (I3 24 : Int32) = 15 by decide), if_neg (show ¬ (I3 24 : Int32) = 16 by decide), if_neg (show ¬ (I3 24 : Int32) = 17 by decide), if_neg (show ¬ (I3 24 : Int32) = 18 by decide), if_neg (show ¬ (I3 24 : Int32) = 30 by decide)]
theorem B14_25 {h : sm_H} (e7 : h.1 34 7 = I3 25) : F_14 h = (F_14_578 h) := by
  show F_14_0 h = _
  unfold F_14_0
  rw [e7, if_neg (show ¬ (I3 25 : Int32) = 0 by decide), if_neg (show ¬ (I3 25 : Int32) = 5 by decide), if_neg (show ¬ (I3 25 : Int32) = 6 by decide), if_neg (show ¬ (I3 25 : Int32) = 7 by decide), if_neg (show ¬ (I3 25 : Int32) = 8 by decide), if_neg (show ¬ (I3 25 : Int32) = 9 by decide), if_neg (show ¬ (I3 25 : Int32) = 10 by decide), if_neg (show ¬ (I3 25 : Int32) = 11 by decide), if_neg (show ¬ (I3 25 : Int32) = 12 by decide), if_neg (show ¬ (I3 25 : Int32) = 13 by decide), if_neg (show ¬ (I3 25 : Int32) = 14 by decide), if_neg (show ¬ (I3 25 : Int32) = 15 by decide), if_neg (show ¬ (I3 25 : Int32) = 16 by decide), if_neg (show ¬ (I3 25 : Int32) = 17 by decide), if_neg (show ¬ (I3 25 : Int32) = 18 by decide), if_neg (show ¬ (I3 25 : Int32) = 30 by decide)]
theorem B14_26 {h : sm_H} (e7 : h.1 34 7 = I3 26) : F_14 h = (F_14_578 h) := by
  show F_14_0 h = _
  unfold F_14_0
  rw [e7, if_neg (show ¬ (I3 26 : Int32) = 0 by decide), if_neg (show ¬ (I3 26 : Int32) = 5 by decide), if_neg (show ¬ (I3 26 : Int32) = 6 by decide), if_neg (show ¬ (I3 26 : Int32) = 7 by decide), if_neg (show ¬ (I3 26 : Int32) = 8 by decide), if_neg (show ¬ (I3 26 : Int32) = 9 by decide), if_neg (show ¬ (I3 26 : Int32) = 10 by decide), if_neg (show ¬ (I3 26 : Int32) = 11 by decide), if_neg (show ¬ (I3 26 : Int32) = 12 by decide), if_neg (show ¬ (I3 26 : Int32) = 13 by decide), if_neg (show ¬ (I3 26 : Int32) = 14 by decide), if_neg (show ¬ (I3 26 : Int32) = 15 by decide), if_neg (show ¬ (I3 26 : Int32) = 16 by decide), if_neg (show ¬ (I3 26 : Int32) = 17 by decide), if_neg (show ¬ (I3 26 : Int32) = 18 by decide), if_neg (show ¬ (I3 26 : Int32) = 30 by decide)]
theorem B14_27 {h : sm_H} (e7 : h.1 34 7 = I3 27) : F_14 h = (F_14_578 h) := by
  show F_14_0 h = _
  unfold F_14_0
  rw [e7, if_neg (show ¬ (I3 27 : Int32) = 0 by decide), if_neg (show ¬ (I3 27 : Int32) = 5 by decide), if_neg (show ¬ (I3 27 : Int32) = 6 by decide), if_neg (show ¬ (I3 27 : Int32) = 7 by decide), if_neg (show ¬ (I3 27 : Int32) = 8 by decide), if_neg (show ¬ (I3 27 : Int32) = 9 by decide), if_neg (show ¬ (I3 27 : Int32) = 10 by decide), if_neg (show ¬ (I3 27 : Int32) = 11 by decide), if_neg (show ¬ (I3 27 : Int32) = 12 by decide), if_neg (show ¬ (I3 27 : Int32) = 13 by decide), if_neg (show ¬ (I3 27 : Int32) = 14 by decide), if_neg (show ¬ (I3 27 : Int32) = 15 by decide), if_neg (show ¬ (I3 27 : Int32) = 16 by decide), if_neg (show ¬ (I3 27 : Int32) = 17 by decide), if_neg (show ¬ (I3 27 : Int32) = 18 by decide), if_neg (show ¬ (I3 27 : Int32) = 30 by decide)]
theorem B14_28 {h : sm_H} (e7 : h.1 34 7 = I3 28) : F_14 h = (F_14_578 h) := by
  show F_14_0 h = _
  unfold F_14_0
  rw [e7, if_neg (show ¬ (I3 28 : Int32) = 0 by decide), if_neg (show ¬ (I3 28 : Int32) = 5 by decide), if_neg (show ¬ (I3 28 : Int32) = 6 by decide), if_neg (show ¬ (I3 28 : Int32) = 7 by decide), if_neg (show ¬ (I3 28 : Int32) = 8 by decide), if_neg (show ¬ (I3 28 : Int32) = 9 by decide), if_neg (show ¬ (I3 28 : Int32) = 10 by decide), if_neg (show ¬ (I3 28 : Int32) = 11 by decide), if_neg (show ¬ (I3 28 : Int32) = 12 by decide), if_neg (show ¬ (I3 28 : Int32) = 13 by decide), if_neg (show ¬ (I3 28 : Int32) = 14 by decide), if_neg (show ¬ (I3 28 : Int32) = 15 by decide), if_neg (show ¬ (I3 28 : Int32) = 16 by decide), if_neg (show ¬ (I3 28 : Int32) = 17 by decide), if_neg (show ¬ (I3 28 : Int32) = 18 by decide), if_neg (show ¬ (I3 28 : Int32) = 30 by decide)]
theorem B14_29 {h : sm_H} (e7 : h.1 34 7 = I3 29) : F_14 h = (F_14_578 h) := by
  show F_14_0 h = _
  unfold F_14_0
  rw [e7, if_neg (show ¬ (I3 29 : Int32) = 0 by decide), if_neg (show ¬ (I3 29 : Int32) = 5 by decide), if_neg (show ¬ (I3 29 : Int32) = 6 by decide), if_neg (show ¬ (I3 29 : Int32) = 7 by decide), if_neg (show ¬ (I3 29 : Int32) = 8 by decide), if_neg (show ¬ (I3 29 : Int32) = 9 by decide), if_neg (show ¬ (I3 29 : Int32) = 10 by decide), if_neg (show ¬ (I3 29 : Int32) = 11 by decide), if_neg (show ¬ (I3 29 : Int32) = 12 by decide), if_neg (show ¬ (I3 29 : Int32) = 13 by decide), if_neg (show ¬ (I3 29 : Int32) = 14 by decide), if_neg (show ¬ (I3 29 : Int32) = 15 by decide), if_neg (show ¬ (I3 29 : Int32) = 16 by decide), if_neg (show ¬ (I3 29 : Int32) = 17 by decide), if_neg (show ¬ (I3 29 : Int32) = 18 by decide), if_neg (show ¬ (I3 29 : Int32) = 30 by decide)]
theorem B14_30 {h : sm_H} (e7 : h.1 34 7 = I3 30) : F_14 h = ((F_41 (h.1 34 12) h).bind fun q33 =>
  (F_41 (q33.2.1 34 13) q33.2).bind fun q34 =>
  if q33.1 = q34.1 then (F_14_577 0 q34.2)
  else (F_14_577 1 q34.2)) := by
  show F_14_0 h = _
  unfold F_14_0
  rw [e7, if_neg (show ¬ (I3 30 : Int32) = 0 by decide), if_neg (show ¬ (I3 30 : Int32) = 5 by decide), if_neg (show ¬ (I3 30 : Int32) = 6 by decide), if_neg (show ¬ (I3 30 : Int32) = 7 by decide), if_neg (show ¬ (I3 30 : Int32) = 8 by decide), if_neg (show ¬ (I3 30 : Int32) = 9 by decide), if_neg (show ¬ (I3 30 : Int32) = 10 by decide), if_neg (show ¬ (I3 30 : Int32) = 11 by decide), if_neg (show ¬ (I3 30 : Int32) = 12 by decide), if_neg (show ¬ (I3 30 : Int32) = 13 by decide), if_neg (show ¬ (I3 30 : Int32) = 14 by decide), if_neg (show ¬ (I3 30 : Int32) = 15 by decide), if_neg (show ¬ (I3 30 : Int32) = 16 by decide), if_neg (show ¬ (I3 30 : Int32) = 17 by decide), if_neg (show ¬ (I3 30 : Int32) = 18 by decide), if_pos (show (I3 30 : Int32) = 30 by decide)]
theorem B14_31 {h : sm_H} (e7 : h.1 34 7 = I3 31) : F_14 h = (F_14_578 h) := by
  show F_14_0 h = _
  unfold F_14_0
  rw [e7, if_neg (show ¬ (I3 31 : Int32) = 0 by decide), if_neg (show ¬ (I3 31 : Int32) = 5 by decide), if_neg (show ¬ (I3 31 : Int32) = 6 by decide), if_neg (show ¬ (I3 31 : Int32) = 7 by decide), if_neg (show ¬ (I3 31 : Int32) = 8 by decide), if_neg (show ¬ (I3 31 : Int32) = 9 by decide), if_neg (show ¬ (I3 31 : Int32) = 10 by decide), if_neg (show ¬ (I3 31 : Int32) = 11 by decide), if_neg (show ¬ (I3 31 : Int32) = 12 by decide), if_neg (show ¬ (I3 31 : Int32) = 13 by decide), if_neg (show ¬ (I3 31 : Int32) = 14 by decide), if_neg (show ¬ (I3 31 : Int32) = 15 by decide), if_neg (show ¬ (I3 31 : Int32) = 16 by decide), if_neg (show ¬ (I3 31 : Int32) = 17 by decide), if_neg (show ¬ (I3 31 : Int32) = 18 by decide), if_neg (show ¬ (I3 31 : Int32) = 30 by decide)]
theorem B14_32 {h : sm_H} (e7 : h.1 34 7 = I3 32) : F_14 h = (F_14_578 h) := by
  show F_14_0 h = _
  unfold F_14_0
  rw [e7, if_neg (show ¬ (I3 32 : Int32) = 0 by decide), if_neg (show ¬ (I3 32 : Int32) = 5 by decide), if_neg (show ¬ (I3 32 : Int32) = 6 by decide), if_neg (show ¬ (I3 32 : Int32) = 7 by decide), if_neg (show ¬ (I3 32 : Int32) = 8 by decide), if_neg (show ¬ (I3 32 : Int32) = 9 by decide), if_neg (show ¬ (I3 32 : Int32) = 10 by decide), if_neg (show ¬ (I3 32 : Int32) = 11 by decide), if_neg (show ¬ (I3 32 : Int32) = 12 by decide), if_neg (show ¬ (I3 32 : Int32) = 13 by decide), if_neg (show ¬ (I3 32 : Int32) = 14 by decide), if_neg (show ¬ (I3 32 : Int32) = 15 by decide), if_neg (show ¬ (I3 32 : Int32) = 16 by decide), if_neg (show ¬ (I3 32 : Int32) = 17 by decide), if_neg (show ¬ (I3 32 : Int32) = 18 by decide), if_neg (show ¬ (I3 32 : Int32) = 30 by decide)]
theorem B14_33 {h : sm_H} (e7 : h.1 34 7 = I3 33) : F_14 h = (F_14_578 h) := by
  show F_14_0 h = _
  unfold F_14_0
  rw [e7, if_neg (show ¬ (I3 33 : Int32) = 0 by decide), if_neg (show ¬ (I3 33 : Int32) = 5 by decide), if_neg (show ¬ (I3 33 : Int32) = 6 by decide), if_neg (show ¬ (I3 33 : Int32) = 7 by decide), if_neg (show ¬ (I3 33 : Int32) = 8 by decide), if_neg (show ¬ (I3 33 : Int32) = 9 by decide), if_neg (show ¬ (I3 33 : Int32) = 10 by decide), if_neg (show ¬ (I3 33 : Int32) = 11 by decide), if_neg (show ¬ (I3 33 : Int32) = 12 by decide), if_neg (show ¬ (I3 33 : Int32) = 13 by decide), if_neg (show ¬ (I3 33 : Int32) = 14 by decide), if_neg (show ¬ (I3 33 : Int32) = 15 by decide), if_neg (show ¬ (I3 33 : Int32) = 16 by decide), if_neg (show ¬ (I3 33 : Int32) = 17 by decide), if_neg (show ¬ (I3 33 : Int32) = 18 by decide), if_neg (show ¬ (I3 33 : Int32) = 30 by decide)]
theorem B14_34 {h : sm_H} (e7 : h.1 34 7 = I3 34) : F_14 h = (F_14_578 h) := by
  show F_14_0 h = _
  unfold F_14_0
  rw [e7, if_neg (show ¬ (I3 34 : Int32) = 0 by decide), if_neg (show ¬ (I3 34 : Int32) = 5 by decide), if_neg (show ¬ (I3 34 : Int32) = 6 by decide), if_neg (show ¬ (I3 34 : Int32) = 7 by decide), if_neg (show ¬ (I3 34 : Int32) = 8 by decide), if_neg (show ¬ (I3 34 : Int32) = 9 by decide), if_neg (show ¬ (I3 34 : Int32) = 10 by decide), if_neg (show ¬ (I3 34 : Int32) = 11 by decide), if_neg (show ¬ (I3 34 : Int32) = 12 by decide), if_neg (show ¬ (I3 34 : Int32) = 13 by decide), if_neg (show ¬ (I3 34 : Int32) = 14 by decide), if_neg (show ¬ (I3 34 : Int32) = 15 by decide), if_neg (show ¬ (I3 34 : Int32) = 16 by decide), if_neg (show ¬ (I3 34 : Int32) = 17 by decide), if_neg (show ¬ (I3 34 : Int32) = 18 by decide), if_neg (show ¬ (I3 34 : Int32) = 30 by decide)]
theorem B26_0 {h : sm_H} (e7 : h.1 34 7 = I3 0) : F_26 h = (F_26_172 h) := by
  show F_26_0 h = _
  unfold F_26_0
  rw [e7, if_neg (show ¬ (I3 0 : Int32) = 4 by decide), if_neg (show ¬ (I3 0 : Int32) = 5 by decide), if_neg (show ¬ (I3 0 : Int32) = 7 by decide), if_neg (show ¬ (I3 0 : Int32) = 9 by decide), if_neg (show ¬ (I3 0 : Int32) = 12 by decide), if_neg (show ¬ (I3 0 : Int32) = 13 by decide)]
theorem B26_1 {h : sm_H} (e7 : h.1 34 7 = I3 1) : F_26 h = (F_26_172 h) := by
  show F_26_0 h = _
  unfold F_26_0
  rw [e7, if_neg (show ¬ (I3 1 : Int32) = 4 by decide), if_neg (show ¬ (I3 1 : Int32) = 5 by decide), if_neg (show ¬ (I3 1 : Int32) = 7 by decide), if_neg (show ¬ (I3 1 : Int32) = 9 by decide), if_neg (show ¬ (I3 1 : Int32) = 12 by decide), if_neg (show ¬ (I3 1 : Int32) = 13 by decide)]
theorem B26_2 {h : sm_H} (e7 : h.1 34 7 = I3 2) : F_26 h = (F_26_172 h) := by
  show F_26_0 h = _
  unfold F_26_0
  rw [e7, if_neg (show ¬ (I3 2 : Int32) = 4 by decide), if_neg (show ¬ (I3 2 : Int32) = 5 by decide), if_neg (show ¬ (I3 2 : Int32) = 7 by decide), if_neg (show ¬ (I3 2 : Int32) = 9 by decide), if_neg (show ¬ (I3 2 : Int32) = 12 by decide), if_neg (show ¬ (I3 2 : Int32) = 13 by decide)]
theorem B26_3 {h : sm_H} (e7 : h.1 34 7 = I3 3) : F_26 h = (F_26_172 h) := by
  show F_26_0 h = _
  unfold F_26_0
  rw [e7, if_neg (show ¬ (I3 3 : Int32) = 4 by decide), if_neg (show ¬ (I3 3 : Int32) = 5 by decide), if_neg (show ¬ (I3 3 : Int32) = 7 by decide), if_neg (show ¬ (I3 3 : Int32) = 9 by decide), if_neg (show ¬ (I3 3 : Int32) = 12 by decide), if_neg (show ¬ (I3 3 : Int32) = 13 by decide)]
theorem B26_4 {h : sm_H} (e7 : h.1 34 7 = I3 4) : F_26 h = ((F_226 (h.1 34 9) h).bind fun q3 =>
  if q3.1 = 0 then (F_26_82 (q3.2.1 34 12) q3.2)
  else (F_26_82 (-1) q3.2)) := by
  show F_26_0 h = _
  unfold F_26_0
  rw [e7, if_pos (show (I3 4 : Int32) = 4 by decide)]
theorem B26_5 {h : sm_H} (e7 : h.1 34 7 = I3 5) : F_26 h = ((F_27 h).bind fun q4 =>
  (F_41 (q4.1 34 12) q4).bind fun q5 =>
  if (q4.1 34 9) = q5.1 then ((F_28 q5.2).bind fun q6 =>
  if q6.1 = 0 then (F_26_119 q6.2)
  else (F_26_120 (q6.2.1 34 12) q6.2))
  else (F_26_119 q5.2)) := by
  show F_26_0 h = _
  unfold F_26_0
  rw [e7, if_neg (show ¬ (I3 5 : Int32) = 4 by decide), if_pos (show (I3 5 : Int32) = 5 by decide)]
theorem B26_6 {h : sm_H} (e7 : h.1 34 7 = I3 6) : F_26 h = (F_26_172 h) := by
  show F_26_0 h = _
  unfold F_26_0
  rw [e7, if_neg (show ¬ (I3 6 : Int32) = 4 by decide), if_neg (show ¬ (I3 6 : Int32) = 5 by decide), if_neg (show ¬ (I3 6 : Int32) = 7 by decide), if_neg (show ¬ (I3 6 : Int32) = 9 by decide), if_neg (show ¬ (I3 6 : Int32) = 12 by decide), if_neg (show ¬ (I3 6 : Int32) = 13 by decide)]
theorem B26_7 {h : sm_H} (e7 : h.1 34 7 = I3 7) : F_26 h = (F_26_148 h) := by
  show F_26_0 h = _
  unfold F_26_0
  rw [e7, if_neg (show ¬ (I3 7 : Int32) = 4 by decide), if_neg (show ¬ (I3 7 : Int32) = 5 by decide), if_pos (show (I3 7 : Int32) = 7 by decide)]
theorem B26_8 {h : sm_H} (e7 : h.1 34 7 = I3 8) : F_26 h = (F_26_172 h) := by
  show F_26_0 h = _
  unfold F_26_0
  rw [e7, if_neg (show ¬ (I3 8 : Int32) = 4 by decide), if_neg (show ¬ (I3 8 : Int32) = 5 by decide), if_neg (show ¬ (I3 8 : Int32) = 7 by decide), if_neg (show ¬ (I3 8 : Int32) = 9 by decide), if_neg (show ¬ (I3 8 : Int32) = 12 by decide), if_neg (show ¬ (I3 8 : Int32) = 13 by decide)]
theorem B26_9 {h : sm_H} (e7 : h.1 34 7 = I3 9) : F_26 h = (F_26_148 h) := by
  show F_26_0 h = _
  unfold F_26_0
  rw [e7, if_neg (show ¬ (I3 9 : Int32) = 4 by decide), if_neg (show ¬ (I3 9 : Int32) = 5 by decide), if_neg (show ¬ (I3 9 : Int32) = 7 by decide), if_pos (show (I3 9 : Int32) = 9 by decide)]
theorem B26_10 {h : sm_H} (e7 : h.1 34 7 = I3 10) : F_26 h = (F_26_172 h) := by
  show F_26_0 h = _
  unfold F_26_0
  rw [e7, if_neg (show ¬ (I3 10 : Int32) = 4 by decide), if_neg (show ¬ (I3 10 : Int32) = 5 by decide), if_neg (show ¬ (I3 10 : Int32) = 7 by decide), if_neg (show ¬ (I3 10 : Int32) = 9 by decide), if_neg (show ¬ (I3 10 : Int32) = 12 by decide), if_neg (show ¬ (I3 10 : Int32) = 13 by decide)]
theorem B26_11 {h : sm_H} (e7 : h.1 34 7 = I3 11) : F_26 h = (F_26_172 h) := by
  show F_26_0 h = _
  unfold F_26_0
  rw [e7, if_neg (show ¬ (I3 11 : Int32) = 4 by decide), if_neg (show ¬ (I3 11 : Int32) = 5 by decide), if_neg (show ¬ (I3 11 : Int32) = 7 by decide), if_neg (show ¬ (I3 11 : Int32) = 9 by decide), if_neg (show ¬ (I3 11 : Int32) = 12 by decide), if_neg (show ¬ (I3 11 : Int32) = 13 by decide)]
theorem B26_12 {h : sm_H} (e7 : h.1 34 7 = I3 12) : F_26 h = (F_26_121 h) := by
  show F_26_0 h = _
  unfold F_26_0
  rw [e7, if_neg (show ¬ (I3 12 : Int32) = 4 by decide), if_neg (show ¬ (I3 12 : Int32) = 5 by decide), if_neg (show ¬ (I3 12 : Int32) = 7 by decide), if_neg (show ¬ (I3 12 : Int32) = 9 by decide), if_pos (show (I3 12 : Int32) = 12 by decide)]
theorem B26_13 {h : sm_H} (e7 : h.1 34 7 = I3 13) : F_26 h = (F_26_121 h) := by
  show F_26_0 h = _
  unfold F_26_0
  rw [e7, if_neg (show ¬ (I3 13 : Int32) = 4 by decide), if_neg (show ¬ (I3 13 : Int32) = 5 by decide), if_neg (show ¬ (I3 13 : Int32) = 7 by decide), if_neg (show ¬ (I3 13 : Int32) = 9 by decide), if_neg (show ¬ (I3 13 : Int32) = 12 by decide), if_pos (show (I3 13 : Int32) = 13 by decide)]
theorem B26_14 {h : sm_H} (e7 : h.1 34 7 = I3 14) : F_26 h = (F_26_172 h) := by
  show F_26_0 h = _
  unfold F_26_0
  rw [e7, if_neg (show ¬ (I3 14 : Int32) = 4 by decide), if_neg (show ¬ (I3 14 : Int32) = 5 by decide), if_neg (show ¬ (I3 14 : Int32) = 7 by decide), if_neg (show ¬ (I3 14 : Int32) = 9 by decide), if_neg (show ¬ (I3 14 : Int32) = 12 by decide), if_neg (show ¬ (I3 14 : Int32) = 13 by decide)]
theorem B26_15 {h : sm_H} (e7 : h.1 34 7 = I3 15) : F_26 h = (F_26_172 h) := by
  show F_26_0 h = _
  unfold F_26_0
  rw [e7, if_neg (show ¬ (I3 15 : Int32) = 4 by decide), if_neg (show ¬ (I3 15 : Int32) = 5 by decide), if_neg (show ¬ (I3 15 : Int32) = 7 by decide), if_neg (show ¬ (I3 15 : Int32) = 9 by decide), if_neg (show ¬ (I3 15 : Int32) = 12 by decide), if_neg (show ¬ (I3 15 : Int32) = 13 by decide)]
theorem B26_16 {h : sm_H} (e7 : h.1 34 7 = I3 16) : F_26 h = (F_26_172 h) := by
  show F_26_0 h = _
  unfold F_26_0
  rw [e7, if_neg (show ¬ (I3 16 : Int32) = 4 by decide), if_neg (show ¬ (I3 16 : Int32) = 5 by decide), if_neg (show ¬ (I3 16 : Int32) = 7 by decide), if_neg (show ¬ (I3 16 : Int32) = 9 by decide), if_neg (show ¬ (I3 16 : Int32) = 12 by decide), if_neg (show ¬ (I3 16 : Int32) = 13 by decide)]
theorem B26_17 {h : sm_H} (e7 : h.1 34 7 = I3 17) : F_26 h = (F_26_172 h) := by
  show F_26_0 h = _
  unfold F_26_0
  rw [e7, if_neg (show ¬ (I3 17 : Int32) = 4 by decide), if_neg (show ¬ (I3 17 : Int32) = 5 by decide), if_neg (show ¬ (I3 17 : Int32) = 7 by decide), if_neg (show ¬ (I3 17 : Int32) = 9 by decide), if_neg (show ¬ (I3 17 : Int32) = 12 by decide), if_neg (show ¬ (I3 17 : Int32) = 13 by decide)]
theorem B26_18 {h : sm_H} (e7 : h.1 34 7 = I3 18) : F_26 h = (F_26_172 h) := by
  show F_26_0 h = _
  unfold F_26_0
  rw [e7, if_neg (show ¬ (I3 18 : Int32) = 4 by decide), if_neg (show ¬ (I3 18 : Int32) = 5 by decide), if_neg (show ¬ (I3 18 : Int32) = 7 by decide), if_neg (show ¬ (I3 18 : Int32) = 9 by decide), if_neg (show ¬ (I3 18 : Int32) = 12 by decide), if_neg (show ¬ (I3 18 : Int32) = 13 by decide)]
theorem B26_19 {h : sm_H} (e7 : h.1 34 7 = I3 19) : F_26 h = (F_26_172 h) := by
  show F_26_0 h = _
  unfold F_26_0
  rw [e7, if_neg (show ¬ (I3 19 : Int32) = 4 by decide), if_neg (show ¬ (I3 19 : Int32) = 5 by decide), if_neg (show ¬ (I3 19 : Int32) = 7 by decide), if_neg (show ¬ (I3 19 : Int32) = 9 by decide), if_neg (show ¬ (I3 19 : Int32) = 12 by decide), if_neg (show ¬ (I3 19 : Int32) = 13 by decide)]
theorem B26_20 {h : sm_H} (e7 : h.1 34 7 = I3 20) : F_26 h = (F_26_172 h) := by
  show F_26_0 h = _
  unfold F_26_0
  rw [e7, if_neg (show ¬ (I3 20 : Int32) = 4 by decide), if_neg (show ¬ (I3 20 : Int32) = 5 by decide), if_neg (show ¬ (I3 20 : Int32) = 7 by decide), if_neg (show ¬ (I3 20 : Int32) = 9 by decide), if_neg (show ¬ (I3 20 : Int32) = 12 by decide), if_neg (show ¬ (I3 20 : Int32) = 13 by decide)]
theorem B26_21 {h : sm_H} (e7 : h.1 34 7 = I3 21) : F_26 h = (F_26_172 h) := by
  show F_26_0 h = _
  unfold F_26_0
  rw [e7, if_neg (show ¬ (I3 21 : Int32) = 4 by decide), if_neg (show ¬ (I3 21 : Int32) = 5 by decide), if_neg (show ¬ (I3 21 : Int32) = 7 by decide), if_neg (show ¬ (I3 21 : Int32) = 9 by decide), if_neg (show ¬ (I3 21 : Int32) = 12 by decide), if_neg (show ¬ (I3 21 : Int32) = 13 by decide)]
theorem B26_22 {h : sm_H} (e7 : h.1 34 7 = I3 22) : F_26 h = (F_26_172 h) := by
  show F_26_0 h = _
  unfold F_26_0
  rw [e7, if_neg (show ¬ (I3 22 : Int32) = 4 by decide), if_neg (show ¬ (I3 22 : Int32) = 5 by decide), if_neg (show ¬ (I3 22 : Int32) = 7 by decide), if_neg (show ¬ (I3 22 : Int32) = 9 by decide), if_neg (show ¬ (I3 22 : Int32) = 12 by decide), if_neg (show ¬ (I3 22 : Int32) = 13 by decide)]
theorem B26_23 {h : sm_H} (e7 : h.1 34 7 = I3 23) : F_26 h = (F_26_172 h) := by
  show F_26_0 h = _
  unfold F_26_0
  rw [e7, if_neg (show ¬ (I3 23 : Int32) = 4 by decide), if_neg (show ¬ (I3 23 : Int32) = 5 by decide), if_neg (show ¬ (I3 23 : Int32) = 7 by decide), if_neg (show ¬ (I3 23 : Int32) = 9 by decide), if_neg (show ¬ (I3 23 : Int32) = 12 by decide), if_neg (show ¬ (I3 23 : Int32) = 13 by decide)]
theorem B26_24 {h : sm_H} (e7 : h.1 34 7 = I3 24) : F_26 h = (F_26_172 h) := by
  show F_26_0 h = _
  unfold F_26_0
  rw [e7, if_neg (show ¬ (I3 24 : Int32) = 4 by decide), if_neg (show ¬ (I3 24 : Int32) = 5 by decide), if_neg (show ¬ (I3 24 : Int32) = 7 by decide), if_neg (show ¬ (I3 24 : Int32) = 9 by decide), if_neg (show ¬ (I3 24 : Int32) = 12 by decide), if_neg (show ¬ (I3 24 : Int32) = 13 by decide)]
theorem B26_25 {h : sm_H} (e7 : h.1 34 7 = I3 25) : F_26 h = (F_26_172 h) := by
  show F_26_0 h = _
  unfold F_26_0
  rw [e7, if_neg (show ¬ (I3 25 : Int32) = 4 by decide), if_neg (show ¬ (I3 25 : Int32) = 5 by decide), if_neg (show ¬ (I3 25 : Int32) = 7 by decide), if_neg (show ¬ (I3 25 : Int32) = 9 by decide), if_neg (show ¬ (I3 25 : Int32) = 12 by decide), if_neg (show ¬ (I3 25 : Int32) = 13 by decide)]
theorem B26_26 {h : sm_H} (e7 : h.1 34 7 = I3 26) : F_26 h = (F_26_172 h) := by
  show F_26_0 h = _
  unfold F_26_0
  rw [e7, if_neg (show ¬ (I3 26 : Int32) = 4 by decide), if_neg (show ¬ (I3 26 : Int32) = 5 by decide), if_neg (show ¬ (I3 26 : Int32) = 7 by decide), if_neg (show ¬ (I3 26 : Int32) = 9 by decide), if_neg (show ¬ (I3 26 : Int32) = 12 by decide), if_neg (show ¬ (I3 26 : Int32) = 13 by decide)]
theorem B26_27 {h : sm_H} (e7 : h.1 34 7 = I3 27) : F_26 h = (F_26_172 h) := by
  show F_26_0 h = _
  unfold F_26_0
  rw [e7, if_neg (show ¬ (I3 27 : Int32) = 4 by decide), if_neg (show ¬ (I3 27 : Int32) = 5 by decide), if_neg (show ¬ (I3 27 : Int32) = 7 by decide), if_neg (show ¬ (I3 27 : Int32) = 9 by decide), if_neg (show ¬ (I3 27 : Int32) = 12 by decide), if_neg (show ¬ (I3 27 : Int32) = 13 by decide)]
theorem B26_28 {h : sm_H} (e7 : h.1 34 7 = I3 28) : F_26 h = (F_26_172 h) := by
  show F_26_0 h = _
  unfold F_26_0
  rw [e7, if_neg (show ¬ (I3 28 : Int32) = 4 by decide), if_neg (show ¬ (I3 28 : Int32) = 5 by decide), if_neg (show ¬ (I3 28 : Int32) = 7 by decide), if_neg (show ¬ (I3 28 : Int32) = 9 by decide), if_neg (show ¬ (I3 28 : Int32) = 12 by decide), if_neg (show ¬ (I3 28 : Int32) = 13 by decide)]
theorem B26_29 {h : sm_H} (e7 : h.1 34 7 = I3 29) : F_26 h = (F_26_172 h) := by
  show F_26_0 h = _
  unfold F_26_0
  rw [e7, if_neg (show ¬ (I3 29 : Int32) = 4 by decide), if_neg (show ¬ (I3 29 : Int32) = 5 by decide), if_neg (show ¬ (I3 29 : Int32) = 7 by decide), if_neg (show ¬ (I3 29 : Int32) = 9 by decide), if_neg (show ¬ (I3 29 : Int32) = 12 by decide), if_neg (show ¬ (I3 29 : Int32) = 13 by decide)]
theorem B26_30 {h : sm_H} (e7 : h.1 34 7 = I3 30) : F_26 h = (F_26_172 h) := by
  show F_26_0 h = _
  unfold F_26_0
  rw [e7, if_neg (show ¬ (I3 30 : Int32) = 4 by decide), if_neg (show ¬ (I3 30 : Int32) = 5 by decide), if_neg (show ¬ (I3 30 : Int32) = 7 by decide), if_neg (show ¬ (I3 30 : Int32) = 9 by decide), if_neg (show ¬ (I3 30 : Int32) = 12 by decide), if_neg (show ¬ (I3 30 : Int32) = 13 by decide)]
theorem B26_31 {h : sm_H} (e7 : h.1 34 7 = I3 31) : F_26 h = (F_26_172 h) := by
  show F_26_0 h = _
  unfold F_26_0
  rw [e7, if_neg (show ¬ (I3 31 : Int32) = 4 by decide), if_neg (show ¬ (I3 31 : Int32) = 5 by decide), if_neg (show ¬ (I3 31 : Int32) = 7 by decide), if_neg (show ¬ (I3 31 : Int32) = 9 by decide), if_neg (show ¬ (I3 31 : Int32) = 12 by decide), if_neg (show ¬ (I3 31 : Int32) = 13 by decide)]
theorem B26_32 {h : sm_H} (e7 : h.1 34 7 = I3 32) : F_26 h = (F_26_172 h) := by
  show F_26_0 h = _
  unfold F_26_0
  rw [e7, if_neg (show ¬ (I3 32 : Int32) = 4 by decide), if_neg (show ¬ (I3 32 : Int32) = 5 by decide), if_neg (show ¬ (I3 32 : Int32) = 7 by decide), if_neg (show ¬ (I3 32 : Int32) = 9 by decide), if_neg (show ¬ (I3 32 : Int32) = 12 by decide), if_neg (show ¬ (I3 32 : Int32) = 13 by decide)]
theorem B26_33 {h : sm_H} (e7 : h.1 34 7 = I3 33) : F_26 h = (F_26_172 h) := by
  show F_26_0 h = _
  unfold F_26_0
  rw [e7, if_neg (show ¬ (I3 33 : Int32) = 4 by decide), if_neg (show ¬ (I3 33 : Int32) = 5 by decide), if_neg (show ¬ (I3 33 : Int32) = 7 by decide), if_neg (show ¬ (I3 33 : Int32) = 9 by decide), if_neg (show ¬ (I3 33 : Int32) = 12 by decide), if_neg (show ¬ (I3 33 : Int32) = 13 by decide)]
theorem B26_34 {h : sm_H} (e7 : h.1 34 7 = I3 34) : F_26 h = (F_26_172 h) := by
  show F_26_0 h = _
  unfold F_26_0
  rw [e7, if_neg (show ¬ (I3 34 : Int32) = 4 by decide), if_neg (show ¬ (I3 34 : Int32) = 5 by decide), if_neg (show ¬ (I3 34 : Int32) = 7 by decide), if_neg (show ¬ (I3 34 : Int32) = 9 by decide), if_neg (show ¬ (I3 34 : Int32) = 12 by decide), if_neg (show ¬ (I3 34 : Int32) = 13 by decide)]
theorem B32_0 {h : sm_H} (e7 : h.1 34 7 = I3 0) : F_32 h = (some ((h.1 34 8), h)) := by
  show F_32_0 h = _
  unfold F_32_0
  rw [e7, if_pos (show (I3 0 : Int32) = 0 by decide)]
theorem B32_1 {h : sm_H} (e7 : h.1 34 7 = I3 1) : F_32 h = (some (18, h)) := by
  show F_32_0 h = _
  unfold F_32_0
  rw [e7, if_neg (show ¬ (I3 1 : Int32) = 0 by decide), if_pos (show (I3 1 : Int32) = 1 by decide)]
theorem B32_2 {h : sm_H} (e7 : h.1 34 7 = I3 2) : F_32 h = ((F_229 (h.1 34 8) h).bind fun q5 =>
  some ((q5.1 34 8), q5)) := by
  show F_32_0 h = _
  unfold F_32_0
  rw [e7, if_neg (show ¬ (I3 2 : Int32) = 0 by decide), if_neg (show ¬ (I3 2 : Int32) = 1 by decide), if_pos (show (I3 2 : Int32) = 2 by decide)]
theorem B32_3 {h : sm_H} (e7 : h.1 34 7 = I3 3) : F_32 h = ((F_229 (h.1 34 9) h).bind fun q6 =>
  (F_229 (q6.1 34 9) q6).bind fun q7 =>
  if (q7.1 34 8) < 11 then (F_32_219 (q7.1 34 9) q7)
  else (F_32_219 1 q7)) := by
  show F_32_0 h = _
  unfold F_32_0
  rw [e7, if_neg (show ¬ (I3 3 : Int32) = 0 by decide), if_neg (show ¬ (I3 3 : Int32) = 1 by decide), if_neg (show ¬ (I3 3 : Int32) = 2 by decide), if_pos (show (I3 3 : Int32) = 3 by decide)]
theorem B32_4 {h : sm_H} (e7 : h.1 34 7 = I3 4) : F_32 h = (F_32_304 h) := by
  show F_32_0 h = _
  unfold F_32_0
  rw [e7, if_neg (show ¬ (I3 4 : Int32) = 0 by decide), if_neg (show ¬ (I3 4 : Int32) = 1 by decide), if_neg (show ¬ (I3 4 : Int32) = 2 by decide), if_neg (show ¬ (I3 4 : Int32) = 3 by decide), if_neg (show ¬ (I3 4 : Int32) = 19 by decide), if_neg (show ¬ (I3 4 : Int32) = 20 by decide), if_neg (show ¬ (I3 4 : Int32) = 21 by decide), if_neg (show ¬ (I3 4 : Int32) = 31 by decide), if_neg (show ¬ (I3 4 : Int32) = 32 by decide), if_neg (show ¬ (I3 4 : Int32) = 33 by decide)]
theorem B32_5 {h : sm_H} (e7 : h.1 34 7 = I3 5) : F_32 h = (F_32_304 h) := by
  show F_32_0 h = _
  unfold F_32_0
  rw [e7, if_neg (show ¬ (I3 5 : Int32) = 0 by decide), if_neg (show ¬ (I3 5 : Int32) = 1 by decide), if_neg (show ¬ (I3 5 : Int32) = 2 by decide), if_neg (show ¬ (I3 5 : Int32) = 3 by decide), if_neg (show ¬ (I3 5 : Int32) = 19 by decide), if_neg (show ¬ (I3 5 : Int32) = 20 by decide), if_neg (show ¬ (I3 5 : Int32) = 21 by decide), if_neg (show ¬ (I3 5 : Int32) = 31 by decide), if_neg (show ¬ (I3 5 : Int32) = 32 by decide), if_neg (show ¬ (I3 5 : Int32) = 33 by decide)]
theorem B32_6 {h : sm_H} (e7 : h.1 34 7 = I3 6) : F_32 h = (F_32_304 h) := by
  show F_32_0 h = _
  unfold F_32_0
  rw [e7, if_neg (show ¬ (I3 6 : Int32) = 0 by decide), if_neg (show ¬ (I3 6 : Int32) = 1 by decide), if_neg (show ¬ (I3 6 : Int32) = 2 by decide), if_neg (show ¬ (I3 6 : Int32) = 3 by decide), if_neg (show ¬ (I3 6 : Int32) = 19 by decide), if_neg (show ¬ (I3 6 : Int32) = 20 by decide), if_neg (show ¬ (I3 6 : Int32) = 21 by decide), if_neg (show ¬ (I3 6 : Int32) = 31 by decide), if_neg (show ¬ (I3 6 : Int32) = 32 by decide), if_neg (show ¬ (I3 6 : Int32) = 33 by decide)]
theorem B32_7 {h : sm_H} (e7 : h.1 34 7 = I3 7) : F_32 h = (F_32_304 h) := by
  show F_32_0 h = _
  unfold F_32_0
  rw [e7, if_neg (show ¬ (I3 7 : Int32) = 0 by decide), if_neg (show ¬ (I3 7 : Int32) = 1 by decide), if_neg (show ¬ (I3 7 : Int32) = 2 by decide), if_neg (show ¬ (I3 7 : Int32) = 3 by decide), if_neg (show ¬ (I3 7 : Int32) = 19 by decide), if_neg (show ¬ (I3 7 : Int32) = 20 by decide), if_neg (show ¬ (I3 7 : Int32) = 21 by decide), if_neg (show ¬ (I3 7 : Int32) = 31 by decide), if_neg (show ¬ (I3 7 : Int32) = 32 by decide), if_neg (show ¬ (I3 7 : Int32) = 33 by decide)]
theorem B32_8 {h : sm_H} (e7 : h.1 34 7 = I3 8) : F_32 h = (F_32_304 h) := by
  show F_32_0 h = _
  unfold F_32_0
  rw [e7, if_neg (show ¬ (I3 8 : Int32) = 0 by decide), if_neg (show ¬ (I3 8 : Int32) = 1 by decide), if_neg (show ¬ (I3 8 : Int32) = 2 by decide), if_neg (show ¬ (I3 8 : Int32) = 3 by decide), if_neg (show ¬ (I3 8 : Int32) = 19 by decide), if_neg (show ¬ (I3 8 : Int32) = 20 by decide), if_neg (show ¬ (I3 8 : Int32) = 21 by decide), if_neg (show ¬ (I3 8 : Int32) = 31 by decide), if_neg (show ¬ (I3 8 : Int32) = 32 by decide), if_neg (show ¬ (I3 8 : Int32) = 33 by decide)]
theorem B32_9 {h : sm_H} (e7 : h.1 34 7 = I3 9) : F_32 h = (F_32_304 h) := by
  show F_32_0 h = _
  unfold F_32_0
  rw [e7, if_neg (show ¬ (I3 9 : Int32) = 0 by decide), if_neg (show ¬ (I3 9 : Int32) = 1 by decide), if_neg (show ¬ (I3 9 : Int32) = 2 by decide), if_neg (show ¬ (I3 9 : Int32) = 3 by decide), if_neg (show ¬ (I3 9 : Int32) = 19 by decide), if_neg (show ¬ (I3 9 : Int32) = 20 by decide), if_neg (show ¬ (I3 9 : Int32) = 21 by decide), if_neg (show ¬ (I3 9 : Int32) = 31 by decide), if_neg (show ¬ (I3 9 : Int32) = 32 by decide), if_neg (show ¬ (I3 9 : Int32) = 33 by decide)]
theorem B32_10 {h : sm_H} (e7 : h.1 34 7 = I3 10) : F_32 h = (F_32_304 h) := by
  show F_32_0 h = _
  unfold F_32_0
  rw [e7, if_neg (show ¬ (I3 10 : Int32) = 0 by decide), if_neg (show ¬ (I3 10 : Int32) = 1 by decide), if_neg (show ¬ (I3 10 : Int32) = 2 by decide), if_neg (show ¬ (I3 10 : Int32) = 3 by decide), if_neg (show ¬ (I3 10 : Int32) = 19 by decide), if_neg (show ¬ (I3 10 : Int32) = 20 by decide), if_neg (show ¬ (I3 10 : Int32) = 21 by decide), if_neg (show ¬ (I3 10 : Int32) = 31 by decide), if_neg (show ¬ (I3 10 : Int32) = 32 by decide), if_neg (show ¬ (I3 10 : Int32) = 33 by decide)]
theorem B32_11 {h : sm_H} (e7 : h.1 34 7 = I3 11) : F_32 h = (F_32_304 h) := by
  show F_32_0 h = _
  unfold F_32_0
  rw [e7, if_neg (show ¬ (I3 11 : Int32) = 0 by decide), if_neg (show ¬ (I3 11 : Int32) = 1 by decide), if_neg (show ¬ (I3 11 : Int32) = 2 by decide), if_neg (show ¬ (I3 11 : Int32) = 3 by decide), if_neg (show ¬ (I3 11 : Int32) = 19 by decide), if_neg (show ¬ (I3 11 : Int32) = 20 by decide), if_neg (show ¬ (I3 11 : Int32) = 21 by decide), if_neg (show ¬ (I3 11 : Int32) = 31 by decide), if_neg (show ¬ (I3 11 : Int32) = 32 by decide), if_neg (show ¬ (I3 11 : Int32) = 33 by decide)]
theorem B32_12 {h : sm_H} (e7 : h.1 34 7 = I3 12) : F_32 h = (F_32_304 h) := by
  show F_32_0 h = _
  unfold F_32_0
  rw [e7, if_neg (show ¬ (I3 12 : Int32) = 0 by decide), if_neg (show ¬ (I3 12 : Int32) = 1 by decide), if_neg (show ¬ (I3 12 : Int32) = 2 by decide), if_neg (show ¬ (I3 12 : Int32) = 3 by decide), if_neg (show ¬ (I3 12 : Int32) = 19 by decide), if_neg (show ¬ (I3 12 : Int32) = 20 by decide), if_neg (show ¬ (I3 12 : Int32) = 21 by decide), if_neg (show ¬ (I3 12 : Int32) = 31 by decide), if_neg (show ¬ (I3 12 : Int32) = 32 by decide), if_neg (show ¬ (I3 12 : Int32) = 33 by decide)]
theorem B32_13 {h : sm_H} (e7 : h.1 34 7 = I3 13) : F_32 h = (F_32_304 h) := by
  show F_32_0 h = _
  unfold F_32_0
  rw [e7, if_neg (show ¬ (I3 13 : Int32) = 0 by decide), if_neg (show ¬ (I3 13 : Int32) = 1 by decide), if_neg (show ¬ (I3 13 : Int32) = 2 by decide), if_neg (show ¬ (I3 13 : Int32) = 3 by decide), if_neg (show ¬ (I3 13 : Int32) = 19 by decide), if_neg (show ¬ (I3 13 : Int32) = 20 by decide), if_neg (show ¬ (I3 13 : Int32) = 21 by decide), if_neg (show ¬ (I3 13 : Int32) = 31 by decide), if_neg (show ¬ (I3 13 : Int32) = 32 by decide), if_neg (show ¬ (I3 13 : Int32) = 33 by decide)]
theorem B32_14 {h : sm_H} (e7 : h.1 34 7 = I3 14) : F_32 h = (F_32_304 h) := by
  show F_32_0 h = _
  unfold F_32_0
  rw [e7, if_neg (show ¬ (I3 14 : Int32) = 0 by decide), if_neg (show ¬ (I3 14 : Int32) = 1 by decide), if_neg (show ¬ (I3 14 : Int32) = 2 by decide), if_neg (show ¬ (I3 14 : Int32) = 3 by decide), if_neg (show ¬ (I3 14 : Int32) = 19 by decide), if_neg (show ¬ (I3 14 : Int32) = 20 by decide), if_neg (show ¬ (I3 14 : Int32) = 21 by decide), if_neg (show ¬ (I3 14 : Int32) = 31 by decide), if_neg (show ¬ (I3 14 : Int32) = 32 by decide), if_neg (show ¬ (I3 14 : Int32) = 33 by decide)]
theorem B32_15 {h : sm_H} (e7 : h.1 34 7 = I3 15) : F_32 h = (F_32_304 h) := by
  show F_32_0 h = _
  unfold F_32_0
  rw [e7, if_neg (show ¬ (I3 15 : Int32) = 0 by decide), if_neg (show ¬ (I3 15 : Int32) = 1 by decide), if_neg (show ¬ (I3 15 : Int32) = 2 by decide), if_neg (show ¬ (I3 15 : Int32) = 3 by decide), if_neg (show ¬ (I3 15 : Int32) = 19 by decide), if_neg (show ¬ (I3 15 : Int32) = 20 by decide), if_neg (show ¬ (I3 15 : Int32) = 21 by decide), if_neg (show ¬ (I3 15 : Int32) = 31 by decide), if_neg (show ¬ (I3 15 : Int32) = 32 by decide), if_neg (show ¬ (I3 15 : Int32) = 33 by decide)]
theorem B32_16 {h : sm_H} (e7 : h.1 34 7 = I3 16) : F_32 h = (F_32_304 h) := by
  show F_32_0 h = _
  unfold F_32_0
  rw [e7, if_neg (show ¬ (I3 16 : Int32) = 0 by decide), if_neg (show ¬ (I3 16 : Int32) = 1 by decide), if_neg (show ¬ (I3 16 : Int32) = 2 by decide), if_neg (show ¬ (I3 16 : Int32) = 3 by decide), if_neg (show ¬ (I3 16 : Int32) = 19 by decide), if_neg (show ¬ (I3 16 : Int32) = 20 by decide), if_neg (show ¬ (I3 16 : Int32) = 21 by decide), if_neg (show ¬ (I3 16 : Int32) = 31 by decide), if_neg (show ¬ (I3 16 : Int32) = 32 by decide), if_neg (show ¬ (I3 16 : Int32) = 33 by decide)]
theorem B32_17 {h : sm_H} (e7 : h.1 34 7 = I3 17) : F_32 h = (F_32_304 h) := by
  show F_32_0 h = _
  unfold F_32_0
  rw [e7, if_neg (show ¬ (I3 17 : Int32) = 0 by decide), if_neg (show ¬ (I3 17 : Int32) = 1 by decide), if_neg (show ¬ (I3 17 : Int32) = 2 by decide), if_neg (show ¬ (I3 17 : Int32) = 3 by decide), if_neg (show ¬ (I3 17 : Int32) = 19 by decide), if_neg (show ¬ (I3 17 : Int32) = 20 by decide), if_neg (show ¬ (I3 17 : Int32) = 21 by decide), if_neg (show ¬ (I3 17 : Int32) = 31 by decide), if_neg (show ¬ (I3 17 : Int32) = 32 by decide), if_neg (show ¬ (I3 17 : Int32) = 33 by decide)]
theorem B32_18 {h : sm_H} (e7 : h.1 34 7 = I3 18) : F_32 h = (F_32_304 h) := by
  show F_32_0 h = _
  unfold F_32_0
  rw [e7, if_neg (show ¬ (I3 18 : Int32) = 0 by decide), if_neg (show ¬ (I3 18 : Int32) = 1 by decide), if_neg (show ¬ (I3 18 : Int32) = 2 by decide), if_neg (show ¬ (I3 18 : Int32) = 3 by decide), if_neg (show ¬ (I3 18 : Int32) = 19 by decide), if_neg (show ¬ (I3 18 : Int32) = 20 by decide), if_neg (show ¬ (I3 18 : Int32) = 21 by decide), if_neg (show ¬ (I3 18 : Int32) = 31 by decide), if_neg (show ¬ (I3 18 : Int32) = 32 by decide), if_neg (show ¬ (I3 18 : Int32) = 33 by decide)]
theorem B32_19 {h : sm_H} (e7 : h.1 34 7 = I3 19) : F_32 h = ((F_229 (h.1 34 9) h).bind fun q8 =>
  some ((q8.1 34 8), q8)) := by
  show F_32_0 h = _
  unfold F_32_0
  rw [e7, if_neg (show ¬ (I3 19 : Int32) = 0 by decide), if_neg (show ¬ (I3 19 : Int32) = 1 by decide), if_neg (show ¬ (I3 19 : Int32) = 2 by decide), if_neg (show ¬ (I3 19 : Int32) = 3 by decide), if_pos (show (I3 19 : Int32) = 19 by decide)]
theorem B32_20 {h : sm_H} (e7 : h.1 34 7 = I3 20) : F_32 h = ((F_229 5 h).bind fun q9 =>
  some ((q9.1 34 8), q9)) := by
  show F_32_0 h = _
  unfold F_32_0
  rw [e7, if_neg (show ¬ (I3 20 : Int32) = 0 by decide), if_neg (show ¬ (I3 20 : Int32) = 1 by decide), if_neg (show ¬ (I3 20 : Int32) = 2 by decide), if_neg (show ¬ (I3 20 : Int32) = 3 by decide), if_neg (show ¬ (I3 20 : Int32) = 19 by decide), if_pos (show (I3 20 : Int32) = 20 by decide)]
theorem B32_21 {h : sm_H} (e7 : h.1 34 7 = I3 21) : F_32 h = ((F_229 (h.1 34 8) h).bind fun q10 =>
  some (5, q10)) := by
  show F_32_0 h = _
  unfold F_32_0
  rw [e7, if_neg (show ¬ (I3 21 : Int32) = 0 by decide), if_neg (show ¬ (I3 21 : Int32) = 1 by decide), if_neg (show ¬ (I3 21 : Int32) = 2 by decide), if_neg (show ¬ (I3 21 : Int32) = 3 by decide), if_neg (show ¬ (I3 21 : Int32) = 19 by decide), if_neg (show ¬ (I3 21 : Int32) = 20 by decide), if_pos (show (I3 21 : Int32) = 21 by decide)]
theorem B32_22 {h : sm_H} (e7 : h.1 34 7 = I3 22) : F_32 h = (F_32_304 h) := by
  show F_32_0 h = _
  unfold F_32_0
  rw [e7, if_neg (show ¬ (I3 22 : Int32) = 0 by decide), if_neg (show ¬ (I3 22 : Int32) = 1 by decide), if_neg (show ¬ (I3 22 : Int32) = 2 by decide), if_neg (show ¬ (I3 22 : Int32) = 3 by decide), if_neg (show ¬ (I3 22 : Int32) = 19 by decide), if_neg (show ¬ (I3 22 : Int32) = 20 by decide), if_neg (show ¬ (I3 22 : Int32) = 21 by decide), if_neg (show ¬ (I3 22 : Int32) = 31 by decide), if_neg (show ¬ (I3 22 : Int32) = 32 by decide), if_neg (show ¬ (I3 22 : Int32) = 33 by decide)]
theorem B32_23 {h : sm_H} (e7 : h.1 34 7 = I3 23) : F_32 h = (F_32_304 h) := by
  show F_32_0 h = _
  unfold F_32_0
  rw [e7, if_neg (show ¬ (I3 23 : Int32) = 0 by decide), if_neg (show ¬ (I3 23 : Int32) = 1 by decide), if_neg (show ¬ (I3 23 : Int32) = 2 by decide), if_neg (show ¬ (I3 23 : Int32) = 3 by decide), if_neg (show ¬ (I3 23 : Int32) = 19 by decide), if_neg (show ¬ (I3 23 : Int32) = 20 by decide), if_neg (show ¬ (I3 23 : Int32) = 21 by decide), if_neg (show ¬ (I3 23 : Int32) = 31 by decide), if_neg (show ¬ (I3 23 : Int32) = 32 by decide), if_neg (show ¬ (I3 23 : Int32) = 33 by decide)]
theorem B32_24 {h : sm_H} (e7 : h.1 34 7 = I3 24) : F_32 h = (F_32_304 h) := by
  show F_32_0 h = _
  unfold F_32_0
  rw [e7, if_neg (show ¬ (I3 24 : Int32) = 0 by decide), if_neg (show ¬ (I3 24 : Int32) = 1 by decide), if_neg (show ¬ (I3 24 : Int32) = 2 by decide), if_neg (show ¬ (I3 24 : Int32) = 3 by decide), if_neg (show ¬ (I3 24 : Int32) = 19 by decide), if_neg (show ¬ (I3 24 : Int32) = 20 by decide), if_neg (show ¬ (I3 24 : Int32) = 21 by decide), if_neg (show ¬ (I3 24 : Int32) = 31 by decide), if_neg (show ¬ (I3 24 : Int32) = 32 by decide), if_neg (show ¬ (I3 24 : Int32) = 33 by decide)]
theorem B32_25 {h : sm_H} (e7 : h.1 34 7 = I3 25) : F_32 h = (F_32_304 h) := by
  show F_32_0 h = _
  unfold F_32_0
  rw [e7, if_neg (show ¬ (I3 25 : Int32) = 0 by decide), if_neg (show ¬ (I3 25 : Int32) = 1 by decide), if_neg (show ¬ (I3 25 : Int32) = 2 by decide), if_neg (show ¬ (I3 25 : Int32) = 3 by decide), if_neg (show ¬ (I3 25 : Int32) = 19 by decide), if_neg (show ¬ (I3 25 : Int32) = 20 by decide), if_neg (show ¬ (I3 25 : Int32) = 21 by decide), if_neg (show ¬ (I3 25 : Int32) = 31 by decide), if_neg (show ¬ (I3 25 : Int32) = 32 by decide), if_neg (show ¬ (I3 25 : Int32) = 33 by decide)]
theorem B32_26 {h : sm_H} (e7 : h.1 34 7 = I3 26) : F_32 h = (F_32_304 h) := by
  show F_32_0 h = _
  unfold F_32_0
  rw [e7, if_neg (show ¬ (I3 26 : Int32) = 0 by decide), if_neg (show ¬ (I3 26 : Int32) = 1 by decide), if_neg (show ¬ (I3 26 : Int32) = 2 by decide), if_neg (show ¬ (I3 26 : Int32) = 3 by decide), if_neg (show ¬ (I3 26 : Int32) = 19 by decide), if_neg (show ¬ (I3 26 : Int32) = 20 by decide), if_neg (show ¬ (I3 26 : Int32) = 21 by decide), if_neg (show ¬ (I3 26 : Int32) = 31 by decide), if_neg (show ¬ (I3 26 : Int32) = 32 by decide), if_neg (show ¬ (I3 26 : Int32) = 33 by decide)]
theorem B32_27 {h : sm_H} (e7 : h.1 34 7 = I3 27) : F_32 h = (F_32_304 h) := by
  show F_32_0 h = _
  unfold F_32_0
  rw [e7, if_neg (show ¬ (I3 27 : Int32) = 0 by decide), if_neg (show ¬ (I3 27 : Int32) = 1 by decide), if_neg (show ¬ (I3 27 : Int32) = 2 by decide), if_neg (show ¬ (I3 27 : Int32) = 3 by decide), if_neg (show ¬ (I3 27 : Int32) = 19 by decide), if_neg (show ¬ (I3 27 : Int32) = 20 by decide), if_neg (show ¬ (I3 27 : Int32) = 21 by decide), if_neg (show ¬ (I3 27 : Int32) = 31 by decide), if_neg (show ¬ (I3 27 : Int32) = 32 by decide), if_neg (show ¬ (I3 27 : Int32) = 33 by decide)]
theorem B32_28 {h : sm_H} (e7 : h.1 34 7 = I3 28) : F_32 h = (F_32_304 h) := by
  show F_32_0 h = _
  unfold F_32_0
  rw [e7, if_neg (show ¬ (I3 28 : Int32) = 0 by decide), if_neg (show ¬ (I3 28 : Int32) = 1 by decide), if_neg (show ¬ (I3 28 : Int32) = 2 by decide), if_neg (show ¬ (I3 28 : Int32) = 3 by decide), if_neg (show ¬ (I3 28 : Int32) = 19 by decide), if_neg (show ¬ (I3 28 : Int32) = 20 by decide), if_neg (show ¬ (I3 28 : Int32) = 21 by decide), if_neg (show ¬ (I3 28 : Int32) = 31 by decide), if_neg (show ¬ (I3 28 : Int32) = 32 by decide), if_neg (show ¬ (I3 28 : Int32) = 33 by decide)]
theorem B32_29 {h : sm_H} (e7 : h.1 34 7 = I3 29) : F_32 h = (F_32_304 h) := by
  show F_32_0 h = _
  unfold F_32_0
  rw [e7, if_neg (show ¬ (I3 29 : Int32) = 0 by decide), if_neg (show ¬ (I3 29 : Int32) = 1 by decide), if_neg (show ¬ (I3 29 : Int32) = 2 by decide), if_neg (show ¬ (I3 29 : Int32) = 3 by decide), if_neg (show ¬ (I3 29 : Int32) = 19 by decide), if_neg (show ¬ (I3 29 : Int32) = 20 by decide), if_neg (show ¬ (I3 29 : Int32) = 21 by decide), if_neg (show ¬ (I3 29 : Int32) = 31 by decide), if_neg (show ¬ (I3 29 : Int32) = 32 by decide), if_neg (show ¬ (I3 29 : Int32) = 33 by decide)]
theorem B32_30 {h : sm_H} (e7 : h.1 34 7 = I3 30) : F_32 h = (F_32_304 h) := by
  show F_32_0 h = _
  unfold F_32_0
  rw [e7, if_neg (show ¬ (I3 30 : Int32) = 0 by decide), if_neg (show ¬ (I3 30 : Int32) = 1 by decide), if_neg (show ¬ (I3 30 : Int32) = 2 by decide), if_neg (show ¬ (I3 30 : Int32) = 3 by decide), if_neg (show ¬ (I3 30 : Int32) = 19 by decide), if_neg (show ¬ (I3 30 : Int32) = 20 by decide), if_neg (show ¬ (I3 30 : Int32) = 21 by decide), if_neg (show ¬ (I3 30 : Int32) = 31 by decide), if_neg (show ¬ (I3 30 : Int32) = 32 by decide), if_neg (show ¬ (I3 30 : Int32) = 33 by decide)]
theorem B32_31 {h : sm_H} (e7 : h.1 34 7 = I3 31) : F_32 h = ((F_229 7 h).bind fun q11 =>
  some (1, q11)) := by
  show F_32_0 h = _
  unfold F_32_0
  rw [e7, if_neg (show ¬ (I3 31 : Int32) = 0 by decide), if_neg (show ¬ (I3 31 : Int32) = 1 by decide), if_neg (show ¬ (I3 31 : Int32) = 2 by decide), if_neg (show ¬ (I3 31 : Int32) = 3 by decide), if_neg (show ¬ (I3 31 : Int32) = 19 by decide), if_neg (show ¬ (I3 31 : Int32) = 20 by decide), if_neg (show ¬ (I3 31 : Int32) = 21 by decide), if_pos (show (I3 31 : Int32) = 31 by decide)]
theorem B32_32 {h : sm_H} (e7 : h.1 34 7 = I3 32) : F_32 h = ((F_229 7 h).bind fun q12 =>
  (F_229 7 q12).bind fun q13 =>
  some (1, q13)) := by
  show F_32_0 h = _
  unfold F_32_0
  rw [e7, if_neg (show ¬ (I3 32 : Int32) = 0 by decide), if_neg (show ¬ (I3 32 : Int32) = 1 by decide), if_neg (show ¬ (I3 32 : Int32) = 2 by decide), if_neg (show ¬ (I3 32 : Int32) = 3 by decide), if_neg (show ¬ (I3 32 : Int32) = 19 by decide), if_neg (show ¬ (I3 32 : Int32) = 20 by decide), if_neg (show ¬ (I3 32 : Int32) = 21 by decide), if_neg (show ¬ (I3 32 : Int32) = 31 by decide), if_pos (show (I3 32 : Int32) = 32 by decide)]
theorem B32_33 {h : sm_H} (e7 : h.1 34 7 = I3 33) : F_32 h = ((F_229 19 h).bind fun q14 =>
  some (5, q14)) := by
  show F_32_0 h = _
  unfold F_32_0
  rw [e7, if_neg (show ¬ (I3 33 : Int32) = 0 by decide), if_neg (show ¬ (I3 33 : Int32) = 1 by decide), if_neg (show ¬ (I3 33 : Int32) = 2 by decide), if_neg (show ¬ (I3 33 : Int32) = 3 by decide), if_neg (show ¬ (I3 33 : Int32) = 19 by decide), if_neg (show ¬ (I3 33 : Int32) = 20 by decide), if_neg (show ¬ (I3 33 : Int32) = 21 by decide), if_neg (show ¬ (I3 33 : Int32) = 31 by decide), if_neg (show ¬ (I3 33 : Int32) = 32 by decide), if_pos (show (I3 33 : Int32) = 33 by decide)]
theorem B32_34 {h : sm_H} (e7 : h.1 34 7 = I3 34) : F_32 h = (F_32_304 h) := by
  show F_32_0 h = _
  unfold F_32_0
  rw [e7, if_neg (show ¬ (I3 34 : Int32) = 0 by decide), if_neg (show ¬ (I3 34 : Int32) = 1 by decide), if_neg (show ¬ (I3 34 : Int32) = 2 by decide), if_neg (show ¬ (I3 34 : Int32) = 3 by decide), if_neg (show ¬ (I3 34 : Int32) = 19 by decide), if_neg (show ¬ (I3 34 : Int32) = 20 by decide), if_neg (show ¬ (I3 34 : Int32) = 21 by decide), if_neg (show ¬ (I3 34 : Int32) = 31 by decide), if_neg (show ¬ (I3 34 : Int32) = 32 by decide), if_neg (show ¬ (I3 34 : Int32) = 33 by decide)]
theorem B11_0 {h : sm_H} {v : Int32} (e7 : h.1 34 7 = I3 0) (e45 : F_45 (h.1 34 12) h = some (v, h)) : F_11 h = ((F_152 (h.1 34 8) (h.2.1 34 10) h).bind fun q3 =>
  if q3.1 = 2 then (F_11_104 1 q3.2)
  else (F_11_104 0 q3.2)) := by
  show F_11_0 h = _
  unfold F_11_0
  rw [e45]; simp only [Option.bind_some]
  rw [e7, if_pos (show (I3 0 : Int32) = 0 by decide)]
theorem B11_1 {h : sm_H} {v : Int32} (e7 : h.1 34 7 = I3 1) (e45 : F_45 (h.1 34 12) h = some (v, h)) : F_11 h = (F_11_214 h) := by
  show F_11_0 h = _
  unfold F_11_0
  rw [e45]; simp only [Option.bind_some]
  rw [e7, if_neg (show ¬ (I3 1 : Int32) = 0 by decide), if_neg (show ¬ (I3 1 : Int32) = 4 by decide), if_neg (show ¬ (I3 1 : Int32) = 5 by decide), if_neg (show ¬ (I3 1 : Int32) = 6 by decide), if_neg (show ¬ (I3 1 : Int32) = 7 by decide), if_neg (show ¬ (I3 1 : Int32) = 8 by decide), if_neg (show ¬ (I3 1 : Int32) = 10 by decide), if_neg (show ¬ (I3 1 : Int32) = 11 by decide)]
theorem B11_2 {h : sm_H} {v : Int32} (e7 : h.1 34 7 = I3 2) (e45 : F_45 (h.1 34 12) h = some (v, h)) : F_11 h = (F_11_214 h) := by
  show F_11_0 h = _
  unfold F_11_0
  rw [e45]; simp only [Option.bind_some]
  rw [e7, if_neg (show ¬ (I3 2 : Int32) = 0 by decide), if_neg (show ¬ (I3 2 : Int32) = 4 by decide), if_neg (show ¬ (I3 2 : Int32) = 5 by decide), if_neg (show ¬ (I3 2 : Int32) = 6 by decide), if_neg (show ¬ (I3 2 : Int32) = 7 by decide), if_neg (show ¬ (I3 2 : Int32) = 8 by decide), if_neg (show ¬ (I3 2 : Int32) = 10 by decide), if_neg (show ¬ (I3 2 : Int32) = 11 by decide)]
theorem B11_3 {h : sm_H} {v : Int32} (e7 : h.1 34 7 = I3 3) (e45 : F_45 (h.1 34 12) h = some (v, h)) : F_11 h = (F_11_214 h) := by
  show F_11_0 h = _
  unfold F_11_0
  rw [e45]; simp only [Option.bind_some]
  rw [e7, if_neg (show ¬ (I3 3 : Int32) = 0 by decide), if_neg (show ¬ (I3 3 : Int32) = 4 by decide), if_neg (show ¬ (I3 3 : Int32) = 5 by decide), if_neg (show ¬ (I3 3 : Int32) = 6 by decide), if_neg (show ¬ (I3 3 : Int32) = 7 by decide), if_neg (show ¬ (I3 3 : Int32) = 8 by decide), if_neg (show ¬ (I3 3 : Int32) = 10 by decide), if_neg (show ¬ (I3 3 : Int32) = 11 by decide)]
theorem B11_4 {h : sm_H} {v : Int32} (e7 : h.1 34 7 = I3 4) (e45 : F_45 (h.1 34 12) h = some (v, h)) : F_11 h = (if (h.1 34 8) < 0 then (F_11_120 h)
  else (if (h.1 34 8) ≤ v then (F_11_125 0 h)
  else (F_11_120 h))) := by
  show F_11_0 h = _
  unfold F_11_0
  rw [e45]; simp only [Option.bind_some]
  rw [e7, if_neg (show ¬ (I3 4 : Int32) = 0 by decide), if_pos (show (I3 4 : Int32) = 4 by decide)]
theorem B11_5 {h : sm_H} {v : Int32} (e7 : h.1 34 7 = I3 5) (e45 : F_45 (h.1 34 12) h = some (v, h)) : F_11 h = ((F_13 h).bind fun q4 =>
  if q4.1 = 0 ∨ q4.1 = 1 then some (q4.1, q4.2) else none) := by
  show F_11_0 h = _
  unfold F_11_0
  rw [e45]; simp only [Option.bind_some]
  rw [e7, if_neg (show ¬ (I3 5 : Int32) = 0 by decide), if_neg (show ¬ (I3 5 : Int32) = 4 by decide), if_pos (show (I3 5 : Int32) = 5 by decide)]
theorem B11_6 {h : sm_H} {v : Int32} (e7 : h.1 34 7 = I3 6) (e45 : F_45 (h.1 34 12) h = some (v, h)) : F_11 h = ((F_10 h).bind fun q5 =>
  if q5.1 = 2 then (F_11_144 1 q5.2)
  else (F_11_144 0 q5.2)) := by
  show F_11_0 h = _
  unfold F_11_0
  rw [e45]; simp only [Option.bind_some]
  rw [e7, if_neg (show ¬ (I3 6 : Int32) = 0 by decide), if_neg (show ¬ (I3 6 : Int32) = 4 by decide), if_neg (show ¬ (I3 6 : Int32) = 5 by decide), if_pos (show (I3 6 : Int32) = 6 by decide)]
theorem B11_7 {h : sm_H} {v : Int32} (e7 : h.1 34 7 = I3 7) (e45 : F_45 (h.1 34 12) h = some (v, h)) : F_11 h = (F_11_145 v h) := by
  show F_11_0 h = _
  unfold F_11_0
  rw [e45]; simp only [Option.bind_some]
  rw [e7, if_neg (show ¬ (I3 7 : Int32) = 0 by decide), if_neg (show ¬ (I3 7 : Int32) = 4 by decide), if_neg (show ¬ (I3 7 : Int32) = 5 by decide), if_neg (show ¬ (I3 7 : Int32) = 6 by decide), if_pos (show (I3 7 : Int32) = 7 by decide)]
theorem B11_8 {h : sm_H} {v : Int32} (e7 : h.1 34 7 = I3 8) (e45 : F_45 (h.1 34 12) h = some (v, h)) : F_11 h = (F_11_145 v h) := by
  show F_11_0 h = _
  unfold F_11_0
  rw [e45]; simp only [Option.bind_some]
  rw [e7, if_neg (show ¬ (I3 8 : Int32) = 0 by decide), if_neg (show ¬ (I3 8 : Int32) = 4 by decide), if_neg (show ¬ (I3 8 : Int32) = 5 by decide), if_neg (show ¬ (I3 8 : Int32) = 6 by decide), if_neg (show ¬ (I3 8 : Int32) = 7 by decide), if_pos (show (I3 8 : Int32) = 8 by decide)]
theorem B11_9 {h : sm_H} {v : Int32} (e7 : h.1 34 7 = I3 9) (e45 : F_45 (h.1 34 12) h = some (v, h)) : F_11 h = (F_11_214 h) := by
  show F_11_0 h = _
  unfold F_11_0
  rw [e45]; simp only [Option.bind_some]
  rw [e7, if_neg (show ¬ (I3 9 : Int32) = 0 by decide), if_neg (show ¬ (I3 9 : Int32) = 4 by decide), if_neg (show ¬ (I3 9 : Int32) = 5 by decide), if_neg (show ¬ (I3 9 : Int32) = 6 by decide), if_neg (show ¬ (I3 9 : Int32) = 7 by decide), if_neg (show ¬ (I3 9 : Int32) = 8 by decide), if_neg (show ¬ (I3 9 : Int32) = 10 by decide), if_neg (show ¬ (I3 9 : Int32) = 11 by decide)]
theorem B11_10 {h : sm_H} {v : Int32} (e7 : h.1 34 7 = I3 10) (e45 : F_45 (h.1 34 12) h = some (v, h)) : F_11 h = (if (h.1 34 9) < 0 then (F_11_186 h)
  else (if (h.1 34 9) ≤ v then (F_11_191 0 h)
  else (F_11_186 h))) := by
  show F_11_0 h = _
  unfold F_11_0
  rw [e45]; simp only [Option.bind_some]
  rw [e7, if_neg (show ¬ (I3 10 : Int32) = 0 by decide), if_neg (show ¬ (I3 10 : Int32) = 4 by decide), if_neg (show ¬ (I3 10 : Int32) = 5 by decide), if_neg (show ¬ (I3 10 : Int32) = 6 by decide), if_neg (show ¬ (I3 10 : Int32) = 7 by decide), if_neg (show ¬ (I3 10 : Int32) = 8 by decide), if_pos (show (I3 10 : Int32) = 10 by decide)]
theorem B11_11 {h : sm_H} {v : Int32} (e7 : h.1 34 7 = I3 11) (e45 : F_45 (h.1 34 12) h = some (v, h)) : F_11 h = (if (h.1 34 9) < 0 then (F_11_208 h)
  else (if (h.1 34 9) ≤ 10 then (F_11_213 0 h)
  else (F_11_208 h))) := by
  show F_11_0 h = _
  unfold F_11_0
  rw [e45]; simp only [Option.bind_some]
  rw [e7, if_neg (show ¬ (I3 11 : Int32) = 0 by decide), if_neg (show ¬ (I3 11 : Int32) = 4 by decide), if_neg (show ¬ (I3 11 : Int32) = 5 by decide), if_neg (show ¬ (I3 11 : Int32) = 6 by decide), if_neg (show ¬ (I3 11 : Int32) = 7 by decide), if_neg (show ¬ (I3 11 : Int32) = 8 by decide), if_neg (show ¬ (I3 11 : Int32) = 10 by decide), if_pos (show (I3 11 : Int32) = 11 by decide)]
theorem B11_12 {h : sm_H} {v : Int32} (e7 : h.1 34 7 = I3 12) (e45 : F_45 (h.1 34 12) h = some (v, h)) : F_11 h = (F_11_214 h) := by
  show F_11_0 h = _
  unfold F_11_0
  rw [e45]; simp only [Option.bind_some]
  rw [e7, if_neg (show ¬ (I3 12 : Int32) = 0 by decide), if_neg (show ¬ (I3 12 : Int32) = 4 by decide), if_neg (show ¬ (I3 12 : Int32) = 5 by decide), if_neg (show ¬ (I3 12 : Int32) = 6 by decide), if_neg (show ¬ (I3 12 : Int32) = 7 by decide), if_neg (show ¬ (I3 12 : Int32) = 8 by decide), if_neg (show ¬ (I3 12 : Int32) = 10 by decide), if_neg (show ¬ (I3 12 : Int32) = 11 by decide)]
theorem B11_13 {h : sm_H} {v : Int32} (e7 : h.1 34 7 = I3 13) (e45 : F_45 (h.1 34 12) h = some (v, h)) : F_11 h = (F_11_214 h) := by
  show F_11_0 h = _
  unfold F_11_0
  rw [e45]; simp only [Option.bind_some]
  rw [e7, if_neg (show ¬ (I3 13 : Int32) = 0 by decide), if_neg (show ¬ (I3 13 : Int32) = 4 by decide), if_neg (show ¬ (I3 13 : Int32) = 5 by decide), if_neg (show ¬ (I3 13 : Int32) = 6 by decide), if_neg (show ¬ (I3 13 : Int32) = 7 by decide), if_neg (show ¬ (I3 13 : Int32) = 8 by decide), if_neg (show ¬ (I3 13 : Int32) = 10 by decide), if_neg (show ¬ (I3 13 : Int32) = 11 by decide)]
theorem B11_14 {h : sm_H} {v : Int32} (e7 : h.1 34 7 = I3 14) (e45 : F_45 (h.1 34 12) h = some (v, h)) : F_11 h = (F_11_214 h) := by
  show F_11_0 h = _
  unfold F_11_0
  rw [e45]; simp only [Option.bind_some]
  rw [e7, if_neg (show ¬ (I3 14 : Int32) = 0 by decide), if_neg (show ¬ (I3 14 : Int32) = 4 by decide), if_neg (show ¬ (I3 14 : Int32) = 5 by decide), if_neg (show ¬ (I3 14 : Int32) = 6 by decide), if_neg (show ¬ (I3 14 : Int32) = 7 by decide), if_neg (show ¬ (I3 14 : Int32) = 8 by decide), if_neg (show ¬ (I3 14 : Int32) = 10 by decide), if_neg (show ¬ (I3 14 : Int32) = 11 by decide)]
theorem B11_15 {h : sm_H} {v : Int32} (e7 : h.1 34 7 = I3 15) (e45 : F_45 (h.1 34 12) h = some (v, h)) : F_11 h = (F_11_214 h) := by
  show F_11_0 h = _
  unfold F_11_0
  rw [e45]; simp only [Option.bind_some]
  rw [e7, if_neg (show ¬ (I3 15 : Int32) = 0 by decide), if_neg (show ¬ (I3 15 : Int32) = 4 by decide), if_neg (show ¬ (I3 15 : Int32) = 5 by decide), if_neg (show ¬ (I3 15 : Int32) = 6 by decide), if_neg (show ¬ (I3 15 : Int32) = 7 by decide), if_neg (show ¬ (I3 15 : Int32) = 8 by decide), if_neg (show ¬ (I3 15 : Int32) = 10 by decide), if_neg (show ¬ (I3 15 : Int32) = 11 by decide)]
theorem B11_16 {h : sm_H} {v : Int32} (e7 : h.1 34 7 = I3 16) (e45 : F_45 (h.1 34 12) h = some (v, h)) : F_11 h = (F_11_214 h) := by
  show F_11_0 h = _
  unfold F_11_0
  rw [e45]; simp only [Option.bind_some]
  rw [e7, if_neg (show ¬ (I3 16 : Int32) = 0 by decide), if_neg (show ¬ (I3 16 : Int32) = 4 by decide), if_neg (show ¬ (I3 16 : Int32) = 5 by decide), if_neg (show ¬ (I3 16 : Int32) = 6 by decide), if_neg (show ¬ (I3 16 : Int32) = 7 by decide), if_neg (show ¬ (I3 16 : Int32) = 8 by decide), if_neg (show ¬ (I3 16 : Int32) = 10 by decide), if_neg (show ¬ (I3 16 : Int32) = 11 by decide)]
theorem B11_17 {h : sm_H} {v : Int32} (e7 : h.1 34 7 = I3 17) (e45 : F_45 (h.1 34 12) h = some (v, h)) : F_11 h = (F_11_214 h) := by
  show F_11_0 h = _
  unfold F_11_0
  rw [e45]; simp only [Option.bind_some]
  rw [e7, if_neg (show ¬ (I3 17 : Int32) = 0 by decide), if_neg (show ¬ (I3 17 : Int32) = 4 by decide), if_neg (show ¬ (I3 17 : Int32) = 5 by decide), if_neg (show ¬ (I3 17 : Int32) = 6 by decide), if_neg (show ¬ (I3 17 : Int32) = 7 by decide), if_neg (show ¬ (I3 17 : Int32) = 8 by decide), if_neg (show ¬ (I3 17 : Int32) = 10 by decide), if_neg (show ¬ (I3 17 : Int32) = 11 by decide)]
theorem B11_18 {h : sm_H} {v : Int32} (e7 : h.1 34 7 = I3 18) (e45 : F_45 (h.1 34 12) h = some (v, h)) : F_11 h = (F_11_214 h) := by
  show F_11_0 h = _
  unfold F_11_0
  rw [e45]; simp only [Option.bind_some]
  rw [e7, if_neg (show ¬ (I3 18 : Int32) = 0 by decide), if_neg (show ¬ (I3 18 : Int32) = 4 by decide), if_neg (show ¬ (I3 18 : Int32) = 5 by decide), if_neg (show ¬ (I3 18 : Int32) = 6 by decide), if_neg (show ¬ (I3 18 : Int32) = 7 by decide), if_neg (show ¬ (I3 18 : Int32) = 8 by decide), if_neg (show ¬ (I3 18 : Int32) = 10 by decide), if_neg (show ¬ (I3 18 : Int32) = 11 by decide)]
theorem B11_19 {h : sm_H} {v : Int32} (e7 : h.1 34 7 = I3 19) (e45 : F_45 (h.1 34 12) h = some (v, h)) : F_11 h = (F_11_214 h) := by
  show F_11_0 h = _
  unfold F_11_0
  rw [e45]; simp only [Option.bind_some]
  rw [e7, if_neg (show ¬ (I3 19 : Int32) = 0 by decide), if_neg (show ¬ (I3 19 : Int32) = 4 by decide), if_neg (show ¬ (I3 19 : Int32) = 5 by decide), if_neg (show ¬ (I3 19 : Int32) = 6 by decide), if_neg (show ¬ (I3 19 : Int32) = 7 by decide), if_neg (show ¬ (I3 19 : Int32) = 8 by decide), if_neg (show ¬ (I3 19 : Int32) = 10 by decide), if_neg (show ¬ (I3 19 : Int32) = 11 by decide)]
theorem B11_20 {h : sm_H} {v : Int32} (e7 : h.1 34 7 = I3 20) (e45 : F_45 (h.1 34 12) h = some (v, h)) : F_11 h = (F_11_214 h) := by
  show F_11_0 h = _
  unfold F_11_0
  rw [e45]; simp only [Option.bind_some]
  rw [e7, if_neg (show ¬ (I3 20 : Int32) = 0 by decide), if_neg (show ¬ (I3 20 : Int32) = 4 by decide), if_neg (show ¬ (I3 20 : Int32) = 5 by decide), if_neg (show ¬ (I3 20 : Int32) = 6 by decide), if_neg (show ¬ (I3 20 : Int32) = 7 by decide), if_neg (show ¬ (I3 20 : Int32) = 8 by decide), if_neg (show ¬ (I3 20 : Int32) = 10 by decide), if_neg (show ¬ (I3 20 : Int32) = 11 by decide)]
theorem B11_21 {h : sm_H} {v : Int32} (e7 : h.1 34 7 = I3 21) (e45 : F_45 (h.1 34 12) h = some (v, h)) : F_11 h = (F_11_214 h) := by
  show F_11_0 h = _
  unfold F_11_0
  rw [e45]; simp only [Option.bind_some]
  rw [e7, if_neg (show ¬ (I3 21 : Int32) = 0 by decide), if_neg (show ¬ (I3 21 : Int32) = 4 by decide), if_neg (show ¬ (I3 21 : Int32) = 5 by decide), if_neg (show ¬ (I3 21 : Int32) = 6 by decide), if_neg (show ¬ (I3 21 : Int32) = 7 by decide), if_neg (show ¬ (I3 21 : Int32) = 8 by decide), if_neg (show ¬ (I3 21 : Int32) = 10 by decide), if_neg (show ¬ (I3 21 : Int32) = 11 by decide)]
theorem B11_22 {h : sm_H} {v : Int32} (e7 : h.1 34 7 = I3 22) (e45 : F_45 (h.1 34 12) h = some (v, h)) : F_11 h = (F_11_214 h) := by
  show F_11_0 h = _
  unfold F_11_0
  rw [e45]; simp only [Option.bind_some]
  rw [e7, if_neg (show ¬ (I3 22 : Int32) = 0 by decide), if_neg (show ¬ (I3 22 : Int32) = 4 by decide), if_neg (show ¬ (I3 22 : Int32) = 5 by decide), if_neg (show ¬ (I3 22 : Int32) = 6 by decide), if_neg (show ¬ (I3 22 : Int32) = 7 by decide), if_neg (show ¬ (I3 22 : Int32) = 8 by decide), if_neg (show ¬ (I3 22 : Int32) = 10 by decide), if_neg (show ¬ (I3 22 : Int32) = 11 by decide)]
theorem B11_23 {h : sm_H} {v : Int32} (e7 : h.1 34 7 = I3 23) (e45 : F_45 (h.1 34 12) h = some (v, h)) : F_11 h = (F_11_214 h) := by
  show F_11_0 h = _
  unfold F_11_0
  rw [e45]; simp only [Option.bind_some]
  rw [e7, if_neg (show ¬ (I3 23 : Int32) = 0 by decide), if_neg (show ¬ (I3 23 : Int32) = 4 by decide), if_neg (show ¬ (I3 23 : Int32) = 5 by decide), if_neg (show ¬ (I3 23 : Int32) = 6 by decide), if_neg (show ¬ (I3 23 : Int32) = 7 by decide), if_neg (show ¬ (I3 23 : Int32) = 8 by decide), if_neg (show ¬ (I3 23 : Int32) = 10 by decide), if_neg (show ¬ (I3 23 : Int32) = 11 by decide)]
theorem B11_24 {h : sm_H} {v : Int32} (e7 : h.1 34 7 = I3 24) (e45 : F_45 (h.1 34 12) h = some (v, h)) : F_11 h = (F_11_214 h) := by
  show F_11_0 h = _
  unfold F_11_0
  rw [e45]; simp only [Option.bind_some]
  rw [e7, if_neg (show ¬ (I3 24 : Int32) = 0 by decide), if_neg (show ¬ (I3 24 : Int32) = 4 by decide), if_neg (show ¬ (I3 24 : Int32) = 5 by decide), if_neg (show ¬ (I3 24 : Int32) = 6 by decide), if_neg (show ¬ (I3 24 : Int32) = 7 by decide), if_neg (show ¬ (I3 24 : Int32) = 8 by decide), if_neg (show ¬ (I3 24 : Int32) = 10 by decide), if_neg (show ¬ (I3 24 : Int32) = 11 by decide)]
theorem B11_25 {h : sm_H} {v : Int32} (e7 : h.1 34 7 = I3 25) (e45 : F_45 (h.1 34 12) h = some (v, h)) : F_11 h = (F_11_214 h) := by
  show F_11_0 h = _
  unfold F_11_0
  rw [e45]; simp only [Option.bind_some]
  rw [e7, if_neg (show ¬ (I3 25 : Int32) = 0 by decide), if_neg (show ¬ (I3 25 : Int32) = 4 by decide), if_neg (show ¬ (I3 25 : Int32) = 5 by decide), if_neg (show ¬ (I3 25 : Int32) = 6 by decide), if_neg (show ¬ (I3 25 : Int32) = 7 by decide), if_neg (show ¬ (I3 25 : Int32) = 8 by decide), if_neg (show ¬ (I3 25 : Int32) = 10 by decide), if_neg (show ¬ (I3 25 : Int32) = 11 by decide)]
theorem B11_26 {h : sm_H} {v : Int32} (e7 : h.1 34 7 = I3 26) (e45 : F_45 (h.1 34 12) h = some (v, h)) : F_11 h = (F_11_214 h) := by
  show F_11_0 h = _
  unfold F_11_0
  rw [e45]; simp only [Option.bind_some]
  rw [e7, if_neg (show ¬ (I3 26 : Int32) = 0 by decide), if_neg (show ¬ (I3 26 : Int32) = 4 by decide), if_neg (show ¬ (I3 26 : Int32) = 5 by decide), if_neg (show ¬ (I3 26 : Int32) = 6 by decide), if_neg (show ¬ (I3 26 : Int32) = 7 by decide), if_neg (show ¬ (I3 26 : Int32) = 8 by decide), if_neg (show ¬ (I3 26 : Int32) = 10 by decide), if_neg (show ¬ (I3 26 : Int32) = 11 by decide)]
theorem B11_27 {h : sm_H} {v : Int32} (e7 : h.1 34 7 = I3 27) (e45 : F_45 (h.1 34 12) h = some (v, h)) : F_11 h = (F_11_214 h) := by
  show F_11_0 h = _
  unfold F_11_0
  rw [e45]; simp only [Option.bind_some]
  rw [e7, if_neg (show ¬ (I3 27 : Int32) = 0 by decide), if_neg (show ¬ (I3 27 : Int32) = 4 by decide), if_neg (show ¬ (I3 27 : Int32) = 5 by decide), if_neg (show ¬ (I3 27 : Int32) = 6 by decide), if_neg (show ¬ (I3 27 : Int32) = 7 by decide), if_neg (show ¬ (I3 27 : Int32) = 8 by decide), if_neg (show ¬ (I3 27 : Int32) = 10 by decide), if_neg (show ¬ (I3 27 : Int32) = 11 by decide)]
theorem B11_28 {h : sm_H} {v : Int32} (e7 : h.1 34 7 = I3 28) (e45 : F_45 (h.1 34 12) h = some (v, h)) : F_11 h = (F_11_214 h) := by
  show F_11_0 h = _
  unfold F_11_0
  rw [e45]; simp only [Option.bind_some]
  rw [e7, if_neg (show ¬ (I3 28 : Int32) = 0 by decide), if_neg (show ¬ (I3 28 : Int32) = 4 by decide), if_neg (show ¬ (I3 28 : Int32) = 5 by decide), if_neg (show ¬ (I3 28 : Int32) = 6 by decide), if_neg (show ¬ (I3 28 : Int32) = 7 by decide), if_neg (show ¬ (I3 28 : Int32) = 8 by decide), if_neg (show ¬ (I3 28 : Int32) = 10 by decide), if_neg (show ¬ (I3 28 : Int32) = 11 by decide)]
theorem B11_29 {h : sm_H} {v : Int32} (e7 : h.1 34 7 = I3 29) (e45 : F_45 (h.1 34 12) h = some (v, h)) : F_11 h = (F_11_214 h) := by
  show F_11_0 h = _
  unfold F_11_0
  rw [e45]; simp only [Option.bind_some]
  rw [e7, if_neg (show ¬ (I3 29 : Int32) = 0 by decide), if_neg (show ¬ (I3 29 : Int32) = 4 by decide), if_neg (show ¬ (I3 29 : Int32) = 5 by decide), if_neg (show ¬ (I3 29 : Int32) = 6 by decide), if_neg (show ¬ (I3 29 : Int32) = 7 by decide), if_neg (show ¬ (I3 29 : Int32) = 8 by decide), if_neg (show ¬ (I3 29 : Int32) = 10 by decide), if_neg (show ¬ (I3 29 : Int32) = 11 by decide)]
theorem B11_30 {h : sm_H} {v : Int32} (e7 : h.1 34 7 = I3 30) (e45 : F_45 (h.1 34 12) h = some (v, h)) : F_11 h = (F_11_214 h) := by
  show F_11_0 h = _
  unfold F_11_0
  rw [e45]; simp only [Option.bind_some]
  rw [e7, if_neg (show ¬ (I3 30 : Int32) = 0 by decide), if_neg (show ¬ (I3 30 : Int32) = 4 by decide), if_neg (show ¬ (I3 30 : Int32) = 5 by decide), if_neg (show ¬ (I3 30 : Int32) = 6 by decide), if_neg (show ¬ (I3 30 : Int32) = 7 by decide), if_neg (show ¬ (I3 30 : Int32) = 8 by decide), if_neg (show ¬ (I3 30 : Int32) = 10 by decide), if_neg (show ¬ (I3 30 : Int32) = 11 by decide)]
theorem B11_31 {h : sm_H} {v : Int32} (e7 : h.1 34 7 = I3 31) (e45 : F_45 (h.1 34 12) h = some (v, h)) : F_11 h = (F_11_214 h) := by
  show F_11_0 h = _
  unfold F_11_0
  rw [e45]; simp only [Option.bind_some]
  rw [e7, if_neg (show ¬ (I3 31 : Int32) = 0 by decide), if_neg (show ¬ (I3 31 : Int32) = 4 by decide), if_neg (show ¬ (I3 31 : Int32) = 5 by decide), if_neg (show ¬ (I3 31 : Int32) = 6 by decide), if_neg (show ¬ (I3 31 : Int32) = 7 by decide), if_neg (show ¬ (I3 31 : Int32) = 8 by decide), if_neg (show ¬ (I3 31 : Int32) = 10 by decide), if_neg (show ¬ (I3 31 : Int32) = 11 by decide)]
theorem B11_32 {h : sm_H} {v : Int32} (e7 : h.1 34 7 = I3 32) (e45 : F_45 (h.1 34 12) h = some (v, h)) : F_11 h = (F_11_214 h) := by
  show F_11_0 h = _
  unfold F_11_0
  rw [e45]; simp only [Option.bind_some]
  rw [e7, if_neg (show ¬ (I3 32 : Int32) = 0 by decide), if_neg (show ¬ (I3 32 : Int32) = 4 by decide), if_neg (show ¬ (I3 32 : Int32) = 5 by decide), if_neg (show ¬ (I3 32 : Int32) = 6 by decide), if_neg (show ¬ (I3 32 : Int32) = 7 by decide), if_neg (show ¬ (I3 32 : Int32) = 8 by decide), if_neg (show ¬ (I3 32 : Int32) = 10 by decide), if_neg (show ¬ (I3 32 : Int32) = 11 by decide)]
theorem B11_33 {h : sm_H} {v : Int32} (e7 : h.1 34 7 = I3 33) (e45 : F_45 (h.1 34 12) h = some (v, h)) : F_11 h = (F_11_214 h) := by
  show F_11_0 h = _
  unfold F_11_0
  rw [e45]; simp only [Option.bind_some]
  rw [e7, if_neg (show ¬ (I3 33 : Int32) = 0 by decide), if_neg (show ¬ (I3 33 : Int32) = 4 by decide), if_neg (show ¬ (I3 33 : Int32) = 5 by decide), if_neg (show ¬ (I3 33 : Int32) = 6 by decide), if_neg (show ¬ (I3 33 : Int32) = 7 by decide), if_neg (show ¬ (I3 33 : Int32) = 8 by decide), if_neg (show ¬ (I3 33 : Int32) = 10 by decide), if_neg (show ¬ (I3 33 : Int32) = 11 by decide)]
theorem B11_34 {h : sm_H} {v : Int32} (e7 : h.1 34 7 = I3 34) (e45 : F_45 (h.1 34 12) h = some (v, h)) : F_11 h = (F_11_214 h) := by
  show F_11_0 h = _
  unfold F_11_0
  rw [e45]; simp only [Option.bind_some]
  rw [e7, if_neg (show ¬ (I3 34 : Int32) = 0 by decide), if_neg (show ¬ (I3 34 : Int32) = 4 by decide), if_neg (show ¬ (I3 34 : Int32) = 5 by decide), if_neg (show ¬ (I3 34 : Int32) = 6 by decide), if_neg (show ¬ (I3 34 : Int32) = 7 by decide), if_neg (show ¬ (I3 34 : Int32) = 8 by decide), if_neg (show ¬ (I3 34 : Int32) = 10 by decide), if_neg (show ¬ (I3 34 : Int32) = 11 by decide)]
theorem B29_0 {h u : sm_H} {v : Int32} (b1 : F_228 h = some u) (e7 : u.1 34 7 = I3 0) (e45 : F_45 (u.1 34 12) u = some (v, u)) : F_29 h = (F_29_461 u) := by
  show F_29_0 h = _
  unfold F_29_0
  rw [b1]; simp only [Option.bind_some]
  rw [e45]; simp only [Option.bind_some]
  rw [e7, if_neg (show ¬ (I3 0 : Int32) = 4 by decide), if_neg (show ¬ (I3 0 : Int32) = 5 by decide), if_neg (show ¬ (I3 0 : Int32) = 6 by decide), if_neg (show ¬ (I3 0 : Int32) = 7 by decide), if_neg (show ¬ (I3 0 : Int32) = 8 by decide), if_neg (show ¬ (I3 0 : Int32) = 9 by decide), if_neg (show ¬ (I3 0 : Int32) = 10 by decide), if_neg (show ¬ (I3 0 : Int32) = 11 by decide), if_neg (show ¬ (I3 0 : Int32) = 12 by decide), if_neg (show ¬ (I3 0 : Int32) = 13 by decide), if_neg (show ¬ (I3 0 : Int32) = 14 by decide), if_neg (show ¬ (I3 0 : Int32) = 15 by decide), if_neg (show ¬ (I3 0 : Int32) = 16 by decide), if_neg (show ¬ (I3 0 : Int32) = 17 by decide), if_neg (show ¬ (I3 0 : Int32) = 18 by decide), if_neg (show ¬ (I3 0 : Int32) = 27 by decide), if_neg (show ¬ (I3 0 : Int32) = 28 by decide), if_neg (show ¬ (I3 0 : Int32) = 29 by decide), if_neg (show ¬ (I3 0 : Int32) = 30 by decide), if_neg (show ¬ (I3 0 : Int32) = 34 by decide)]
theorem B29_1 {h u : sm_H} {v : Int32} (b1 : F_228 h = some u) (e7 : u.1 34 7 = I3 1) (e45 : F_45 (u.1 34 12) u = some (v, u)) : F_29 h = (F_29_461 u) := by
  show F_29_0 h = _
  unfold F_29_0
  rw [b1]; simp only [Option.bind_some]
  rw [e45]; simp only [Option.bind_some]
  rw [e7, if_neg (show ¬ (I3 1 : Int32) = 4 by decide), if_neg (show ¬ (I3 1 : Int32) = 5 by decide), if_neg (show ¬ (I3 1 : Int32) = 6 by decide), if_neg (show ¬ (I3 1 : Int32) = 7 by decide), if_neg (show ¬ (I3 1 : Int32) = 8 by decide), if_neg (show ¬ (I3 1 : Int32) = 9 by decide), if_neg (show ¬ (I3 1 : Int32) = 10 by decide), if_neg (show ¬ (I3 1 : Int32) = 11 by decide), if_neg (show ¬ (I3 1 : Int32) = 12 by decide), if_neg (show ¬ (I3 1 : Int32) = 13 by decide), if_neg (show ¬ (I3 1 : Int32) = 14 by decide), if_neg (show ¬ (I3 1 : Int32) = 15 by decide), if_neg (show ¬ (I3 1 : Int32) = 16 by decide), if_neg (show ¬ (I3 1 : Int32) = 17 by decide), if_neg (show ¬ (I3 1 : Int32) = 18 by decide), if_neg (show ¬ (I3 1 : Int32) = 27 by decide), if_neg (show ¬ (I3 1 : Int32) = 28 by decide), if_neg (show ¬ (I3 1 : Int32) = 29 by decide), if_neg (show ¬ (I3 1 : Int32) = 30 by decide), if_neg (show ¬ (I3 1 : Int32) = 34 by decide)]
theorem B29_2 {h u : sm_H} {v : Int32} (b1 : F_228 h = some u) (e7 : u.1 34 7 = I3 2) (e45 : F_45 (u.1 34 12) u = some (v, u)) : F_29 h = (F_29_461 u) := by
  show F_29_0 h = _
  unfold F_29_0
  rw [b1]; simp only [Option.bind_some]
  rw [e45]; simp only [Option.bind_some]
  rw [e7, if_neg (show ¬ (I3 2 : Int32) = 4 by decide), if_neg (show ¬ (I3 2 : Int32) = 5 by decide), if_neg (show ¬ (I3 2 : Int32) = 6 by decide), if_neg (show ¬ (I3 2 : Int32) = 7 by decide), if_neg (show ¬ (I3 2 : Int32) = 8 by decide), if_neg (show ¬ (I3 2 : Int32) = 9 by decide), if_neg (show ¬ (I3 2 : Int32) = 10 by decide), if_neg (show ¬ (I3 2 : Int32) = 11 by decide), if_neg (show ¬ (I3 2 : Int32) = 12 by decide), if_neg (show ¬ (I3 2 : Int32) = 13 by decide), if_neg (show ¬ (I3 2 : Int32) = 14 by decide), if_neg (show ¬ (I3 2 : Int32) = 15 by decide), if_neg (show ¬ (I3 2 : Int32) = 16 by decide), if_neg (show ¬ (I3 2 : Int32) = 17 by decide), if_neg (show ¬ (I3 2 : Int32) = 18 by decide), if_neg (show ¬ (I3 2 : Int32) = 27 by decide), if_neg (show ¬ (I3 2 : Int32) = 28 by decide), if_neg (show ¬ (I3 2 : Int32) = 29 by decide), if_neg (show ¬ (I3 2 : Int32) = 30 by decide), if_neg (show ¬ (I3 2 : Int32) = 34 by decide)]
theorem B29_3 {h u : sm_H} {v : Int32} (b1 : F_228 h = some u) (e7 : u.1 34 7 = I3 3) (e45 : F_45 (u.1 34 12) u = some (v, u)) : F_29 h = (F_29_461 u) := by
  show F_29_0 h = _
  unfold F_29_0
  rw [b1]; simp only [Option.bind_some]
  rw [e45]; simp only [Option.bind_some]
  rw [e7, if_neg (show ¬ (I3 3 : Int32) = 4 by decide), if_neg (show ¬ (I3 3 : Int32) = 5 by decide), if_neg (show ¬ (I3 3 : Int32) = 6 by decide), if_neg (show ¬ (I3 3 : Int32) = 7 by decide), if_neg (show ¬ (I3 3 : Int32) = 8 by decide), if_neg (show ¬ (I3 3 : Int32) = 9 by decide), if_neg (show ¬ (I3 3 : Int32) = 10 by decide), if_neg (show ¬ (I3 3 : Int32) = 11 by decide), if_neg (show ¬ (I3 3 : Int32) = 12 by decide), if_neg (show ¬ (I3 3 : Int32) = 13 by decide), if_neg (show ¬ (I3 3 : Int32) = 14 by decide), if_neg (show ¬ (I3 3 : Int32) = 15 by decide), if_neg (show ¬ (I3 3 : Int32) = 16 by decide), if_neg (show ¬ (I3 3 : Int32) = 17 by decide), if_neg (show ¬ (I3 3 : Int32) = 18 by decide), if_neg (show ¬ (I3 3 : Int32) = 27 by decide), if_neg (show ¬ (I3 3 : Int32) = 28 by decide), if_neg (show ¬ (I3 3 : Int32) = 29 by decide), if_neg (show ¬ (I3 3 : Int32) = 30 by decide), if_neg (show ¬ (I3 3 : Int32) = 34 by decide)]
theorem B29_4 {h u : sm_H} {v : Int32} (b1 : F_228 h = some u) (e7 : u.1 34 7 = I3 4) (e45 : F_45 (u.1 34 12) u = some (v, u)) : F_29 h = ((F_30 (u.1 34 9) (u.1 34 8) u).bind fun q14 =>
  some (q14.1, q14.2)) := by
  show F_29_0 h = _
  unfold F_29_0
  rw [b1]; simp only [Option.bind_some]
  rw [e45]; simp only [Option.bind_some]
  rw [e7, if_pos (show (I3 4 : Int32) = 4 by decide)]
theorem B29_5 {h u : sm_H} {v : Int32} (b1 : F_228 h = some u) (e7 : u.1 34 7 = I3 5) (e45 : F_45 (u.1 34 12) u = some (v, u)) : F_29 h = (F_29_411 u) := by
  show F_29_0 h = _
  unfold F_29_0
  rw [b1]; simp only [Option.bind_some]
  rw [e45]; simp only [Option.bind_some]
  rw [e7, if_neg (show ¬ (I3 5 : Int32) = 4 by decide), if_pos (show (I3 5 : Int32) = 5 by decide)]
theorem B29_6 {h u : sm_H} {v : Int32} (b1 : F_228 h = some u) (e7 : u.1 34 7 = I3 6) (e45 : F_45 (u.1 34 12) u = some (v, u)) : F_29 h = ((F_30 (-1) ((u.1 34 8) + 1) u).bind fun q15 =>
  some (q15.1, q15.2)) := by
  show F_29_0 h = _
  unfold F_29_0
  rw [b1]; simp only [Option.bind_some]
  rw [e45]; simp only [Option.bind_some]
  rw [e7, if_neg (show ¬ (I3 6 : Int32) = 4 by decide), if_neg (show ¬ (I3 6 : Int32) = 5 by decide), if_pos (show (I3 6 : Int32) = 6 by decide)]
theorem B29_7 {h u : sm_H} {v : Int32} (b1 : F_228 h = some u) (e7 : u.1 34 7 = I3 7) (e45 : F_45 (u.1 34 12) u = some (v, u)) : F_29 h = ((F_41 (u.1 34 13) u).bind fun q16 =>
  (F_12 q16.2).bind fun q17 =>
  (F_30 q16.1 ((q16.2.1 34 8) + q17.1) q17.2).bind fun q18 =>
  some (q18.1, q18.2)) := by
  show F_29_0 h = _
  unfold F_29_0
  rw [b1]; simp only [Option.bind_some]
  rw [e45]; simp only [Option.bind_some]
  rw [e7, if_neg (show ¬ (I3 7 : Int32) = 4 by decide), if_neg (show ¬ (I3 7 : Int32) = 5 by decide), if_neg (show ¬ (I3 7 : Int32) = 6 by decide), if_pos (show (I3 7 : Int32) = 7 by decide)]
theorem B29_8 {h u : sm_H} {v : Int32} (b1 : F_228 h = some u) (e7 : u.1 34 7 = I3 8) (e45 : F_45 (u.1 34 12) u = some (v, u)) : F_29 h = ((F_12 u).bind fun q19 =>
  (F_30 (-1) ((u.1 34 8) + q19.1) q19.2).bind fun q20 =>
  some (q20.1, q20.2)) := by
  show F_29_0 h = _
  unfold F_29_0
  rw [b1]; simp only [Option.bind_some]
  rw [e45]; simp only [Option.bind_some]
  rw [e7, if_neg (show ¬ (I3 8 : Int32) = 4 by decide), if_neg (show ¬ (I3 8 : Int32) = 5 by decide), if_neg (show ¬ (I3 8 : Int32) = 6 by decide), if_neg (show ¬ (I3 8 : Int32) = 7 by decide), if_pos (show (I3 8 : Int32) = 8 by decide)]
theorem B29_9 {h u : sm_H} {v : Int32} (b1 : F_228 h = some u) (e7 : u.1 34 7 = I3 9) (e45 : F_45 (u.1 34 12) u = some (v, u)) : F_29 h = ((F_41 (u.1 34 12) u).bind fun q21 =>
  (F_230 q21.1 0 v q21.2).bind fun q22 =>
  (F_44 (q22.1 34 13) q22).bind fun q23 =>
  some (q23.1, q23.2)) := by
  show F_29_0 h = _
  unfold F_29_0
  rw [b1]; simp only [Option.bind_some]
  rw [e45]; simp only [Option.bind_some]
  rw [e7, if_neg (show ¬ (I3 9 : Int32) = 4 by decide), if_neg (show ¬ (I3 9 : Int32) = 5 by decide), if_neg (show ¬ (I3 9 : Int32) = 6 by decide), if_neg (show ¬ (I3 9 : Int32) = 7 by decide), if_neg (show ¬ (I3 9 : Int32) = 8 by decide), if_pos (show (I3 9 : Int32) = 9 by decide)]
theorem B29_10 {h u : sm_H} {v : Int32} (b1 : F_228 h = some u) (e7 : u.1 34 7 = I3 10) (e45 : F_45 (u.1 34 12) u = some (v, u)) : F_29 h = ((F_41 (u.1 34 12) u).bind fun q24 =>
  (F_230 q24.1 0 (v - (q24.2.1 34 9)) q24.2).bind fun q25 =>
  (F_229 (q25.1 34 8) q25).bind fun q26 =>
  (F_44 (q26.1 34 12) q26).bind fun q27 =>
  some (q27.1, q27.2)) := by
  show F_29_0 h = _
  unfold F_29_0
  rw [b1]; simp only [Option.bind_some]
  rw [e45]; simp only [Option.bind_some]
  rw [e7, if_neg (show ¬ (I3 10 : Int32) = 4 by decide), if_neg (show ¬ (I3 10 : Int32) = 5 by decide), if_neg (show ¬ (I3 10 : Int32) = 6 by decide), if_neg (show ¬ (I3 10 : Int32) = 7 by decide), if_neg (show ¬ (I3 10 : Int32) = 8 by decide), if_neg (show ¬ (I3 10 : Int32) = 9 by decide), if_pos (show (I3 10 : Int32) = 10 by decide)]
theorem B29_11 {h u : sm_H} {v : Int32} (b1 : F_228 h = some u) (e7 : u.1 34 7 = I3 11) (e45 : F_45 (u.1 34 12) u = some (v, u)) : F_29 h = ((F_41 (u.1 34 12) u).bind fun q28 =>
  (F_230 q28.1 0 (v - 1) q28.2).bind fun q29 =>
  F_29_329 0 q29) := by
  show F_29_0 h = _
  unfold F_29_0
  rw [b1]; simp only [Option.bind_some]
  rw [e45]; simp only [Option.bind_some]
  rw [e7, if_neg (show ¬ (I3 11 : Int32) = 4 by decide), if_neg (show ¬ (I3 11 : Int32) = 5 by decide), if_neg (show ¬ (I3 11 : Int32) = 6 by decide), if_neg (show ¬ (I3 11 : Int32) = 7 by decide), if_neg (show ¬ (I3 11 : Int32) = 8 by decide), if_neg (show ¬ (I3 11 : Int32) = 9 by decide), if_neg (show ¬ (I3 11 : Int32) = 10 by decide), if_pos (show (I3 11 : Int32) = 11 by decide)]
theorem B29_12 {h u : sm_H} {v : Int32} (b1 : F_228 h = some u) (e7 : u.1 34 7 = I3 12) (e45 : F_45 (u.1 34 12) u = some (v, u)) : F_29 h = (F_29_411 u) := by
  show F_29_0 h = _
  unfold F_29_0
  rw [b1]; simp only [Option.bind_some]
  rw [e45]; simp only [Option.bind_some]
  rw [e7, if_neg (show ¬ (I3 12 : Int32) = 4 by decide), if_neg (show ¬ (I3 12 : Int32) = 5 by decide), if_neg (show ¬ (I3 12 : Int32) = 6 by decide), if_neg (show ¬ (I3 12 : Int32) = 7 by decide), if_neg (show ¬ (I3 12 : Int32) = 8 by decide), if_neg (show ¬ (I3 12 : Int32) = 9 by decide), if_neg (show ¬ (I3 12 : Int32) = 10 by decide), if_neg (show ¬ (I3 12 : Int32) = 11 by decide), if_pos (show (I3 12 : Int32) = 12 by decide)]
theorem B29_13 {h u : sm_H} {v : Int32} (b1 : F_228 h = some u) (e7 : u.1 34 7 = I3 13) (e45 : F_45 (u.1 34 12) u = some (v, u)) : F_29 h = (F_29_411 u) := by
  show F_29_0 h = _
  unfold F_29_0
  rw [b1]; simp only [Option.bind_some]
  rw [e45]; simp only [Option.bind_some]
  rw [e7, if_neg (show ¬ (I3 13 : Int32) = 4 by decide), if_neg (show ¬ (I3 13 : Int32) = 5 by decide), if_neg (show ¬ (I3 13 : Int32) = 6 by decide), if_neg (show ¬ (I3 13 : Int32) = 7 by decide), if_neg (show ¬ (I3 13 : Int32) = 8 by decide), if_neg (show ¬ (I3 13 : Int32) = 9 by decide), if_neg (show ¬ (I3 13 : Int32) = 10 by decide), if_neg (show ¬ (I3 13 : Int32) = 11 by decide), if_neg (show ¬ (I3 13 : Int32) = 12 by decide), if_pos (show (I3 13 : Int32) = 13 by decide)]
theorem B29_14 {h u : sm_H} {v : Int32} (b1 : F_228 h = some u) (e7 : u.1 34 7 = I3 14) (e45 : F_45 (u.1 34 12) u = some (v, u)) : F_29 h = ((F_41 (u.1 34 13) u).bind fun q30 =>
  (F_31 q30.1 q30.2).bind fun q31 =>
  some (q31.1, q31.2)) := by
  show F_29_0 h = _
  unfold F_29_0
  rw [b1]; simp only [Option.bind_some]
  rw [e45]; simp only [Option.bind_some]
  rw [e7, if_neg (show ¬ (I3 14 : Int32) = 4 by decide), if_neg (show ¬ (I3 14 : Int32) = 5 by decide), if_neg (show ¬ (I3 14 : Int32) = 6 by decide), if_neg (show ¬ (I3 14 : Int32) = 7 by decide), if_neg (show ¬ (I3 14 : Int32) = 8 by decide), if_neg (show ¬ (I3 14 : Int32) = 9 by decide), if_neg (show ¬ (I3 14 : Int32) = 10 by decide), if_neg (show ¬ (I3 14 : Int32) = 11 by decide), if_neg (show ¬ (I3 14 : Int32) = 12 by decide), if_neg (show ¬ (I3 14 : Int32) = 13 by decide), if_pos (show (I3 14 : Int32) = 14 by decide)]
theorem B29_15 {h u : sm_H} {v : Int32} (b1 : F_228 h = some u) (e7 : u.1 34 7 = I3 15) (e45 : F_45 (u.1 34 12) u = some (v, u)) : F_29 h = (F_29_395 u) := by
  show F_29_0 h = _
  unfold F_29_0
  rw [b1]; simp only [Option.bind_some]
  rw [e45]; simp only [Option.bind_some]
  rw [e7, if_neg (show ¬ (I3 15 : Int32) = 4 by decide), if_neg (show ¬ (I3 15 : Int32) = 5 by decide), if_neg (show ¬ (I3 15 : Int32) = 6 by decide), if_neg (show ¬ (I3 15 : Int32) = 7 by decide), if_neg (show ¬ (I3 15 : Int32) = 8 by decide), if_neg (show ¬ (I3 15 : Int32) = 9 by decide), if_neg (show ¬ (I3 15 : Int32) = 10 by decide), if_neg (show ¬ (I3 15 : Int32) = 11 by decide), if_neg (show ¬ (I3 15 : Int32) = 12 by decide), if_neg (show ¬ (I3 15 : Int32) = 13 by decide), if_neg (show ¬ (I3 15 : Int32) = 14 by decide), if_pos (show (I3 15 : Int32) = 15 by decide)]
theorem B29_16 {h u : sm_H} {v : Int32} (b1 : F_228 h = some u) (e7 : u.1 34 7 = I3 16) (e45 : F_45 (u.1 34 12) u = some (v, u)) : F_29 h = (F_29_395 u) := by
  show F_29_0 h = _
  unfold F_29_0
  rw [b1]; simp only [Option.bind_some]
  rw [e45]; simp only [Option.bind_some]
  rw [e7, if_neg (show ¬ (I3 16 : Int32) = 4 by decide), if_neg (show ¬ (I3 16 : Int32) = 5 by decide), if_neg (show ¬ (I3 16 : Int32) = 6 by decide), if_neg (show ¬ (I3 16 : Int32) = 7 by decide), if_neg (show ¬ (I3 16 : Int32) = 8 by decide), if_neg (show ¬ (I3 16 : Int32) = 9 by decide), if_neg (show ¬ (I3 16 : Int32) = 10 by decide), if_neg (show ¬ (I3 16 : Int32) = 11 by decide), if_neg (show ¬ (I3 16 : Int32) = 12 by decide), if_neg (show ¬ (I3 16 : Int32) = 13 by decide), if_neg (show ¬ (I3 16 : Int32) = 14 by decide), if_neg (show ¬ (I3 16 : Int32) = 15 by decide), if_pos (show (I3 16 : Int32) = 16 by decide)]
theorem B29_17 {h u : sm_H} {v : Int32} (b1 : F_228 h = some u) (e7 : u.1 34 7 = I3 17) (e45 : F_45 (u.1 34 12) u = some (v, u)) : F_29 h = (F_29_395 u) := by
  show F_29_0 h = _
  unfold F_29_0
  rw [b1]; simp only [Option.bind_some]
  rw [e45]; simp only [Option.bind_some]
  rw [e7, if_neg (show ¬ (I3 17 : Int32) = 4 by decide), if_neg (show ¬ (I3 17 : Int32) = 5 by decide), if_neg (show ¬ (I3 17 : Int32) = 6 by decide), if_neg (show ¬ (I3 17 : Int32) = 7 by decide), if_neg (show ¬ (I3 17 : Int32) = 8 by decide), if_neg (show ¬ (I3 17 : Int32) = 9 by decide), if_neg (show ¬ (I3 17 : Int32) = 10 by decide), if_neg (show ¬ (I3 17 : Int32) = 11 by decide), if_neg (show ¬ (I3 17 : Int32) = 12 by decide), if_neg (show ¬ (I3 17 : Int32) = 13 by decide), if_neg (show ¬ (I3 17 : Int32) = 14 by decide), if_neg (show ¬ (I3 17 : Int32) = 15 by decide), if_neg (show ¬ (I3 17 : Int32) = 16 by decide), if_pos (show (I3 17 : Int32) = 17 by decide)]
theorem B29_18 {h u : sm_H} {v : Int32} (b1 : F_228 h = some u) (e7 : u.1 34 7 = I3 18) (e45 : F_45 (u.1 34 12) u = some (v, u)) : F_29 h = (F_29_411 u) := by
  show F_29_0 h = _
  unfold F_29_0
  rw [b1]; simp only [Option.bind_some]
  rw [e45]; simp only [Option.bind_some]
  rw [e7, if_neg (show ¬ (I3 18 : Int32) = 4 by decide), if_neg (show ¬ (I3 18 : Int32) = 5 by decide), if_neg (show ¬ (I3 18 : Int32) = 6 by decide), if_neg (show ¬ (I3 18 : Int32) = 7 by decide), if_neg (show ¬ (I3 18 : Int32) = 8 by decide), if_neg (show ¬ (I3 18 : Int32) = 9 by decide), if_neg (show ¬ (I3 18 : Int32) = 10 by decide), if_neg (show ¬ (I3 18 : Int32) = 11 by decide), if_neg (show ¬ (I3 18 : Int32) = 12 by decide), if_neg (show ¬ (I3 18 : Int32) = 13 by decide), if_neg (show ¬ (I3 18 : Int32) = 14 by decide), if_neg (show ¬ (I3 18 : Int32) = 15 by decide), if_neg (show ¬ (I3 18 : Int32) = 16 by decide), if_neg (show ¬ (I3 18 : Int32) = 17 by decide), if_pos (show (I3 18 : Int32) = 18 by decide)]
theorem B29_19 {h u : sm_H} {v : Int32} (b1 : F_228 h = some u) (e7 : u.1 34 7 = I3 19) (e45 : F_45 (u.1 34 12) u = some (v, u)) : F_29 h = (F_29_461 u) := by
  show F_29_0 h = _
  unfold F_29_0
  rw [b1]; simp only [Option.bind_some]
  rw [e45]; simp only [Option.bind_some]
  rw [e7, if_neg (show ¬ (I3 19 : Int32) = 4 by decide), if_neg (show ¬ (I3 19 : Int32) = 5 by decide), if_neg (show ¬ (I3 19 : Int32) = 6 by decide), if_neg (show ¬ (I3 19 : Int32) = 7 by decide), if_neg (show ¬ (I3 19 : Int32) = 8 by decide), if_neg (show ¬ (I3 19 : Int32) = 9 by decide), if_neg (show ¬ (I3 19 : Int32) = 10 by decide), if_neg (show ¬ (I3 19 : Int32) = 11 by decide), if_neg (show ¬ (I3 19 : Int32) = 12 by decide), if_neg (show ¬ (I3 19 : Int32) = 13 by decide), if_neg (show ¬ (I3 19 : Int32) = 14 by decide), if_neg (show ¬ (I3 19 : Int32) = 15 by decide), if_neg (show ¬ (I3 19 : Int32) = 16 by decide), if_neg (show ¬ (I3 19 : Int32) = 17 by decide), if_neg (show ¬ (I3 19 : Int32) = 18 by decide), if_neg (show ¬ (I3 19 : Int32) = 27 by decide), if_neg (show ¬ (I3 19 : Int32) = 28 by decide), if_neg (show ¬ (I3 19 : Int32) = 29 by decide), if_neg (show ¬ (I3 19 : Int32) = 30 by decide), if_neg (show ¬ (I3 19 : Int32) = 34 by decide)]
theorem B29_20 {h u : sm_H} {v : Int32} (b1 : F_228 h = some u) (e7 : u.1 34 7 = I3 20) (e45 : F_45 (u.1 34 12) u = some (v, u)) : F_29 h = (F_29_461 u) := by
  show F_29_0 h = _
  unfold F_29_0
  rw [b1]; simp only [Option.bind_some]
  rw [e45]; simp only [Option.bind_some]
  rw [e7, if_neg (show ¬ (I3 20 : Int32) = 4 by decide), if_neg (show ¬ (I3 20 : Int32) = 5 by decide), if_neg (show ¬ (I3 20 : Int32) = 6 by decide), if_neg (show ¬ (I3 20 : Int32) = 7 by decide), if_neg (show ¬ (I3 20 : Int32) = 8 by decide), if_neg (show ¬ (I3 20 : Int32) = 9 by decide), if_neg (show ¬ (I3 20 : Int32) = 10 by decide), if_neg (show ¬ (I3 20 : Int32) = 11 by decide), if_neg (show ¬ (I3 20 : Int32) = 12 by decide), if_neg (show ¬ (I3 20 : Int32) = 13 by decide), if_neg (show ¬ (I3 20 : Int32) = 14 by decide), if_neg (show ¬ (I3 20 : Int32) = 15 by decide), if_neg (show ¬ (I3 20 : Int32) = 16 by decide), if_neg (show ¬ (I3 20 : Int32) = 17 by decide), if_neg (show ¬ (I3 20 : Int32) = 18 by decide), if_neg (show ¬ (I3 20 : Int32) = 27 by decide), if_neg (show ¬ (I3 20 : Int32) = 28 by decide), if_neg (show ¬ (I3 20 : Int32) = 29 by decide), if_neg (show ¬ (I3 20 : Int32) = 30 by decide), if_neg (show ¬ (I3 20 : Int32) = 34 by decide)]
theorem B29_21 {h u : sm_H} {v : Int32} (b1 : F_228 h = some u) (e7 : u.1 34 7 = I3 21) (e45 : F_45 (u.1 34 12) u = some (v, u)) : F_29 h = (F_29_461 u) := by
  show F_29_0 h = _
  unfold F_29_0
  rw [b1]; simp only [Option.bind_some]
  rw [e45]; simp only [Option.bind_some]
  rw [e7, if_neg (show ¬ (I3 21 : Int32) = 4 by decide), if_neg (show ¬ (I3 21 : Int32) = 5 by decide), if_neg (show ¬ (I3 21 : Int32) = 6 by decide), if_neg (show ¬ (I3 21 : Int32) = 7 by decide), if_neg (show ¬ (I3 21 : Int32) = 8 by decide), if_neg (show ¬ (I3 21 : Int32) = 9 by decide), if_neg (show ¬ (I3 21 : Int32) = 10 by decide), if_neg (show ¬ (I3 21 : Int32) = 11 by decide), if_neg (show ¬ (I3 21 : Int32) = 12 by decide), if_neg (show ¬ (I3 21 : Int32) = 13 by decide), if_neg (show ¬ (I3 21 : Int32) = 14 by decide), if_neg (show ¬ (I3 21 : Int32) = 15 by decide), if_neg (show ¬ (I3 21 : Int32) = 16 by decide), if_neg (show ¬ (I3 21 : Int32) = 17 by decide), if_neg (show ¬ (I3 21 : Int32) = 18 by decide), if_neg (show ¬ (I3 21 : Int32) = 27 by decide), if_neg (show ¬ (I3 21 : Int32) = 28 by decide), if_neg (show ¬ (I3 21 : Int32) = 29 by decide), if_neg (show ¬ (I3 21 : Int32) = 30 by decide), if_neg (show ¬ (I3 21 : Int32) = 34 by decide)]
theorem B29_22 {h u : sm_H} {v : Int32} (b1 : F_228 h = some u) (e7 : u.1 34 7 = I3 22) (e45 : F_45 (u.1 34 12) u = some (v, u)) : F_29 h = (F_29_461 u) := by
  show F_29_0 h = _
  unfold F_29_0
  rw [b1]; simp only [Option.bind_some]
  rw [e45]; simp only [Option.bind_some]
  rw [e7, if_neg (show ¬ (I3 22 : Int32) = 4 by decide), if_neg (show ¬ (I3 22 : Int32) = 5 by decide), if_neg (show ¬ (I3 22 : Int32) = 6 by decide), if_neg (show ¬ (I3 22 : Int32) = 7 by decide), if_neg (show ¬ (I3 22 : Int32) = 8 by decide), if_neg (show ¬ (I3 22 : Int32) = 9 by decide), if_neg (show ¬ (I3 22 : Int32) = 10 by decide), if_neg (show ¬ (I3 22 : Int32) = 11 by decide), if_neg (show ¬ (I3 22 : Int32) = 12 by decide), if_neg (show ¬ (I3 22 : Int32) = 13 by decide), if_neg (show ¬ (I3 22 : Int32) = 14 by decide), if_neg (show ¬ (I3 22 : Int32) = 15 by decide), if_neg (show ¬ (I3 22 : Int32) = 16 by decide), if_neg (show ¬ (I3 22 : Int32) = 17 by decide), if_neg (show ¬ (I3 22 : Int32) = 18 by decide), if_neg (show ¬ (I3 22 : Int32) = 27 by decide), if_neg (show ¬ (I3 22 : Int32) = 28 by decide), if_neg (show ¬ (I3 22 : Int32) = 29 by decide), if_neg (show ¬ (I3 22 : Int32) = 30 by decide), if_neg (show ¬ (I3 22 : Int32) = 34 by decide)]
theorem B29_23 {h u : sm_H} {v : Int32} (b1 : F_228 h = some u) (e7 : u.1 34 7 = I3 23) (e45 : F_45 (u.1 34 12) u = some (v, u)) : F_29 h = (F_29_461 u) := by
  show F_29_0 h = _
  unfold F_29_0
  rw [b1]; simp only [Option.bind_some]
  rw [e45]; simp only [Option.bind_some]
  rw [e7, if_neg (show ¬ (I3 23 : Int32) = 4 by decide), if_neg (show ¬ (I3 23 : Int32) = 5 by decide), if_neg (show ¬ (I3 23 : Int32) = 6 by decide), if_neg (show ¬ (I3 23 : Int32) = 7 by decide), if_neg (show ¬ (I3 23 : Int32) = 8 by decide), if_neg (show ¬ (I3 23 : Int32) = 9 by decide), if_neg (show ¬ (I3 23 : Int32) = 10 by decide), if_neg (show ¬ (I3 23 : Int32) = 11 by decide), if_neg (show ¬ (I3 23 : Int32) = 12 by decide), if_neg (show ¬ (I3 23 : Int32) = 13 by decide), if_neg (show ¬ (I3 23 : Int32) = 14 by decide), if_neg (show ¬ (I3 23 : Int32) = 15 by decide), if_neg (show ¬ (I3 23 : Int32) = 16 by decide), if_neg (show ¬ (I3 23 : Int32) = 17 by decide), if_neg (show ¬ (I3 23 : Int32) = 18 by decide), if_neg (show ¬ (I3 23 : Int32) = 27 by decide), if_neg (show ¬ (I3 23 : Int32) = 28 by decide), if_neg (show ¬ (I3 23 : Int32) = 29 by decide), if_neg (show ¬ (I3 23 : Int32) = 30 by decide), if_neg (show ¬ (I3 23 : Int32) = 34 by decide)]
theorem B29_24 {h u : sm_H} {v : Int32} (b1 : F_228 h = some u) (e7 : u.1 34 7 = I3 24) (e45 : F_45 (u.1 34 12) u = some (v, u)) : F_29 h = (F_29_461 u) := by
  show F_29_0 h = _
  unfold F_29_0
  rw [b1]; simp only [Option.bind_some]
  rw [e45]; simp only [Option.bind_some]
  rw [e7, if_neg (show ¬ (I3 24 : Int32) = 4 by decide), if_neg (show ¬ (I3 24 : Int32) = 5 by decide), if_neg (show ¬ (I3 24 : Int32) = 6 by decide), if_neg (show ¬ (I3 24 : Int32) = 7 by decide), if_neg (show ¬ (I3 24 : Int32) = 8 by decide), if_neg (show ¬ (I3 24 : Int32) = 9 by decide), if_neg (show ¬ (I3 24 : Int32) = 10 by decide), if_neg (show ¬ (I3 24 : Int32) = 11 by decide), if_neg (show ¬ (I3 24 : Int32) = 12 by decide), if_neg (show ¬ (I3 24 : Int32) = 13 by decide), if_neg (show ¬ (I3 24 : Int32) = 14 by decide), if_neg (show ¬ (I3 24 : Int32) = 15 by decide), if_neg (show ¬ (I3 24 : Int32) = 16 by decide), if_neg (show ¬ (I3 24 : Int32) = 17 by decide), if_neg (show ¬ (I3 24 : Int32) = 18 by decide), if_neg (show ¬ (I3 24 : Int32) = 27 by decide), if_neg (show ¬ (I3 24 : Int32) = 28 by decide), if_neg (show ¬ (I3 24 : Int32) = 29 by decide), if_neg (show ¬ (I3 24 : Int32) = 30 by decide), if_neg (show ¬ (I3 24 : Int32) = 34 by decide)]
theorem B29_25 {h u : sm_H} {v : Int32} (b1 : F_228 h = some u) (e7 : u.1 34 7 = I3 25) (e45 : F_45 (u.1 34 12) u = some (v, u)) : F_29 h = (F_29_461 u) := by
  show F_29_0 h = _
  unfold F_29_0
  rw [b1]; simp only [Option.bind_some]
  rw [e45]; simp only [Option.bind_some]
  rw [e7, if_neg (show ¬ (I3 25 : Int32) = 4 by decide), if_neg (show ¬ (I3 25 : Int32) = 5 by decide), if_neg (show ¬ (I3 25 : Int32) = 6 by decide), if_neg (show ¬ (I3 25 : Int32) = 7 by decide), if_neg (show ¬ (I3 25 : Int32) = 8 by decide), if_neg (show ¬ (I3 25 : Int32) = 9 by decide), if_neg (show ¬ (I3 25 : Int32) = 10 by decide), if_neg (show ¬ (I3 25 : Int32) = 11 by decide), if_neg (show ¬ (I3 25 : Int32) = 12 by decide), if_neg (show ¬ (I3 25 : Int32) = 13 by decide), if_neg (show ¬ (I3 25 : Int32) = 14 by decide), if_neg (show ¬ (I3 25 : Int32) = 15 by decide), if_neg (show ¬ (I3 25 : Int32) = 16 by decide), if_neg (show ¬ (I3 25 : Int32) = 17 by decide), if_neg (show ¬ (I3 25 : Int32) = 18 by decide), if_neg (show ¬ (I3 25 : Int32) = 27 by decide), if_neg (show ¬ (I3 25 : Int32) = 28 by decide), if_neg (show ¬ (I3 25 : Int32) = 29 by decide), if_neg (show ¬ (I3 25 : Int32) = 30 by decide), if_neg (show ¬ (I3 25 : Int32) = 34 by decide)]
theorem B29_26 {h u : sm_H} {v : Int32} (b1 : F_228 h = some u) (e7 : u.1 34 7 = I3 26) (e45 : F_45 (u.1 34 12) u = some (v, u)) : F_29 h = (F_29_461 u) := by
  show F_29_0 h = _
  unfold F_29_0
  rw [b1]; simp only [Option.bind_some]
  rw [e45]; simp only [Option.bind_some]
  rw [e7, if_neg (show ¬ (I3 26 : Int32) = 4 by decide), if_neg (show ¬ (I3 26 : Int32) = 5 by decide), if_neg (show ¬ (I3 26 : Int32) = 6 by decide), if_neg (show ¬ (I3 26 : Int32) = 7 by decide), if_neg (show ¬ (I3 26 : Int32) = 8 by decide), if_neg (show ¬ (I3 26 : Int32) = 9 by decide), if_neg (show ¬ (I3 26 : Int32) = 10 by decide), if_neg (show ¬ (I3 26 : Int32) = 11 by decide), if_neg (show ¬ (I3 26 : Int32) = 12 by decide), if_neg (show ¬ (I3 26 : Int32) = 13 by decide), if_neg (show ¬ (I3 26 : Int32) = 14 by decide), if_neg (show ¬ (I3 26 : Int32) = 15 by decide), if_neg (show ¬ (I3 26 : Int32) = 16 by decide), if_neg (show ¬ (I3 26 : Int32) = 17 by decide), if_neg (show ¬ (I3 26 : Int32) = 18 by decide), if_neg (show ¬ (I3 26 : Int32) = 27 by decide), if_neg (show ¬ (I3 26 : Int32) = 28 by decide), if_neg (show ¬ (I3 26 : Int32) = 29 by decide), if_neg (show ¬ (I3 26 : Int32) = 30 by decide), if_neg (show ¬ (I3 26 : Int32) = 34 by decide)]
theorem B29_27 {h u : sm_H} {v : Int32} (b1 : F_228 h = some u) (e7 : u.1 34 7 = I3 27) (e45 : F_45 (u.1 34 12) u = some (v, u)) : F_29 h = (F_29_420 u) := by
  show F_29_0 h = _
  unfold F_29_0
  rw [b1]; simp only [Option.bind_some]
  rw [e45]; simp only [Option.bind_some]
  rw [e7, if_neg (show ¬ (I3 27 : Int32) = 4 by decide), if_neg (show ¬ (I3 27 : Int32) = 5 by decide), if_neg (show ¬ (I3 27 : Int32) = 6 by decide), if_neg (show ¬ (I3 27 : Int32) = 7 by decide), if_neg (show ¬ (I3 27 : Int32) = 8 by decide), if_neg (show ¬ (I3 27 : Int32) = 9 by decide), if_neg (show ¬ (I3 27 : Int32) = 10 by decide), if_neg (show ¬ (I3 27 : Int32) = 11 by decide), if_neg (show ¬ (I3 27 : Int32) = 12 by decide), if_neg (show ¬ (I3 27 : Int32) = 13 by decide), if_neg (show ¬ (I3 27 : Int32) = 14 by decide), if_neg (show ¬ (I3 27 : Int32) = 15 by decide), if_neg (show ¬ (I3 27 : Int32) = 16 by decide), if_neg (show ¬ (I3 27 : Int32) = 17 by decide), if_neg (show ¬ (I3 27 : Int32) = 18 by decide), if_pos (show (I3 27 : Int32) = 27 by decide)]
theorem B29_28 {h u : sm_H} {v : Int32} (b1 : F_228 h = some u) (e7 : u.1 34 7 = I3 28) (e45 : F_45 (u.1 34 12) u = some (v, u)) : F_29 h = (F_29_420 u) := by
  show F_29_0 h = _
  unfold F_29_0
  rw [b1]; simp only [Option.bind_some]
  rw [e45]; simp only [Option.bind_some]
  rw [e7, if_neg (show ¬ (I3 28 : Int32) = 4 by decide), if_neg (show ¬ (I3 28 : Int32) = 5 by decide), if_neg (show ¬ (I3 28 : Int32) = 6 by decide), if_neg (show ¬ (I3 28 : Int32) = 7 by decide), if_neg (show ¬ (I3 28 : Int32) = 8 by decide), if_neg (show ¬ (I3 28 : Int32) = 9 by decide), if_neg (show ¬ (I3 28 : Int32) = 10 by decide), if_neg (show ¬ (I3 28 : Int32) = 11 by decide), if_neg (show ¬ (I3 28 : Int32) = 12 by decide), if_neg (show ¬ (I3 28 : Int32) = 13 by decide), if_neg (show ¬ (I3 28 : Int32) = 14 by decide), if_neg (show ¬ (I3 28 : Int32) = 15 by decide), if_neg (show ¬ (I3 28 : Int32) = 16 by decide), if_neg (show ¬ (I3 28 : Int32) = 17 by decide), if_neg (show ¬ (I3 28 : Int32) = 18 by decide), if_neg (show ¬ (I3 28 : Int32) = 27 by decide), if_pos (show (I3 28 : Int32) = 28 by decide)]
theorem B29_29 {h u : sm_H} {v : Int32} (b1 : F_228 h = some u) (e7 : u.1 34 7 = I3 29) (e45 : F_45 (u.1 34 12) u = some (v, u)) : F_29 h = ((F_157 (u.1 34 8) u).bind fun q32 =>
  (F_41 q32.1 q32.2).bind fun q33 =>
  (F_31 q33.1 q33.2).bind fun q34 =>
  some (q34.1, q34.2)) := by
  show F_29_0 h = _
  unfold F_29_0
  rw [b1]; simp only [Option.bind_some]
  rw [e45]; simp only [Option.bind_some]
  rw [e7, if_neg (show ¬ (I3 29 : Int32) = 4 by decide), if_neg (show ¬ (I3 29 : Int32) = 5 by decide), if_neg (show ¬ (I3 29 : Int32) = 6 by decide), if_neg (show ¬ (I3 29 : Int32) = 7 by decide), if_neg (show ¬ (I3 29 : Int32) = 8 by decide), if_neg (show ¬ (I3 29 : Int32) = 9 by decide), if_neg (show ¬ (I3 29 : Int32) = 10 by decide), if_neg (show ¬ (I3 29 : Int32) = 11 by decide), if_neg (show ¬ (I3 29 : Int32) = 12 by decide), if_neg (show ¬ (I3 29 : Int32) = 13 by decide), if_neg (show ¬ (I3 29 : Int32) = 14 by decide), if_neg (show ¬ (I3 29 : Int32) = 15 by decide), if_neg (show ¬ (I3 29 : Int32) = 16 by decide), if_neg (show ¬ (I3 29 : Int32) = 17 by decide), if_neg (show ¬ (I3 29 : Int32) = 18 by decide), if_neg (show ¬ (I3 29 : Int32) = 27 by decide), if_neg (show ¬ (I3 29 : Int32) = 28 by decide), if_pos (show (I3 29 : Int32) = 29 by decide)]
theorem B29_30 {h u : sm_H} {v : Int32} (b1 : F_228 h = some u) (e7 : u.1 34 7 = I3 30) (e45 : F_45 (u.1 34 12) u = some (v, u)) : F_29 h = (F_29_395 u) := by
  show F_29_0 h = _
  unfold F_29_0
  rw [b1]; simp only [Option.bind_some]
  rw [e45]; simp only [Option.bind_some]
  rw [e7, if_neg (show ¬ (I3 30 : Int32) = 4 by decide), if_neg (show ¬ (I3 30 : Int32) = 5 by decide), if_neg (show ¬ (I3 30 : Int32) = 6 by decide), if_neg (show ¬ (I3 30 : Int32) = 7 by decide), if_neg (show ¬ (I3 30 : Int32) = 8 by decide), if_neg (show ¬ (I3 30 : Int32) = 9 by decide), if_neg (show ¬ (I3 30 : Int32) = 10 by decide), if_neg (show ¬ (I3 30 : Int32) = 11 by decide), if_neg (show ¬ (I3 30 : Int32) = 12 by decide), if_neg (show ¬ (I3 30 : Int32) = 13 by decide), if_neg (show ¬ (I3 30 : Int32) = 14 by decide), if_neg (show ¬ (I3 30 : Int32) = 15 by decide), if_neg (show ¬ (I3 30 : Int32) = 16 by decide), if_neg (show ¬ (I3 30 : Int32) = 17 by decide), if_neg (show ¬ (I3 30 : Int32) = 18 by decide), if_neg (show ¬ (I3 30 : Int32) = 27 by decide), if_neg (show ¬ (I3 30 : Int32) = 28 by decide), if_neg (show ¬ (I3 30 : Int32) = 29 by decide), if_pos (show (I3 30 : Int32) = 30 by decide)]
theorem B29_31 {h u : sm_H} {v : Int32} (b1 : F_228 h = some u) (e7 : u.1 34 7 = I3 31) (e45 : F_45 (u.1 34 12) u = some (v, u)) : F_29 h = (F_29_461 u) := by
  show F_29_0 h = _
  unfold F_29_0
  rw [b1]; simp only [Option.bind_some]
  rw [e45]; simp only [Option.bind_some]
  rw [e7, if_neg (show ¬ (I3 31 : Int32) = 4 by decide), if_neg (show ¬ (I3 31 : Int32) = 5 by decide), if_neg (show ¬ (I3 31 : Int32) = 6 by decide), if_neg (show ¬ (I3 31 : Int32) = 7 by decide), if_neg (show ¬ (I3 31 : Int32) = 8 by decide), if_neg (show ¬ (I3 31 : Int32) = 9 by decide), if_neg (show ¬ (I3 31 : Int32) = 10 by decide), if_neg (show ¬ (I3 31 : Int32) = 11 by decide), if_neg (show ¬ (I3 31 : Int32) = 12 by decide), if_neg (show ¬ (I3 31 : Int32) = 13 by decide), if_neg (show ¬ (I3 31 : Int32) = 14 by decide), if_neg (show ¬ (I3 31 : Int32) = 15 by decide), if_neg (show ¬ (I3 31 : Int32) = 16 by decide), if_neg (show ¬ (I3 31 : Int32) = 17 by decide), if_neg (show ¬ (I3 31 : Int32) = 18 by decide), if_neg (show ¬ (I3 31 : Int32) = 27 by decide), if_neg (show ¬ (I3 31 : Int32) = 28 by decide), if_neg (show ¬ (I3 31 : Int32) = 29 by decide), if_neg (show ¬ (I3 31 : Int32) = 30 by decide), if_neg (show ¬ (I3 31 : Int32) = 34 by decide)]
theorem B29_32 {h u : sm_H} {v : Int32} (b1 : F_228 h = some u) (e7 : u.1 34 7 = I3 32) (e45 : F_45 (u.1 34 12) u = some (v, u)) : F_29 h = (F_29_461 u) := by
  show F_29_0 h = _
  unfold F_29_0
  rw [b1]; simp only [Option.bind_some]
  rw [e45]; simp only [Option.bind_some]
  rw [e7, if_neg (show ¬ (I3 32 : Int32) = 4 by decide), if_neg (show ¬ (I3 32 : Int32) = 5 by decide), if_neg (show ¬ (I3 32 : Int32) = 6 by decide), if_neg (show ¬ (I3 32 : Int32) = 7 by decide), if_neg (show ¬ (I3 32 : Int32) = 8 by decide), if_neg (show ¬ (I3 32 : Int32) = 9 by decide), if_neg (show ¬ (I3 32 : Int32) = 10 by decide), if_neg (show ¬ (I3 32 : Int32) = 11 by decide), if_neg (show ¬ (I3 32 : Int32) = 12 by decide), if_neg (show ¬ (I3 32 : Int32) = 13 by decide), if_neg (show ¬ (I3 32 : Int32) = 14 by decide), if_neg (show ¬ (I3 32 : Int32) = 15 by decide), if_neg (show ¬ (I3 32 : Int32) = 16 by decide), if_neg (show ¬ (I3 32 : Int32) = 17 by decide), if_neg (show ¬ (I3 32 : Int32) = 18 by decide), if_neg (show ¬ (I3 32 : Int32) = 27 by decide), if_neg (show ¬ (I3 32 : Int32) = 28 by decide), if_neg (show ¬ (I3 32 : Int32) = 29 by decide), if_neg (show ¬ (I3 32 : Int32) = 30 by decide), if_neg (show ¬ (I3 32 : Int32) = 34 by decide)]
theorem B29_33 {h u : sm_H} {v : Int32} (b1 : F_228 h = some u) (e7 : u.1 34 7 = I3 33) (e45 : F_45 (u.1 34 12) u = some (v, u)) : F_29 h = (F_29_461 u) := by
  show F_29_0 h = _
  unfold F_29_0
  rw [b1]; simp only [Option.bind_some]
  rw [e45]; simp only [Option.bind_some]
  rw [e7, if_neg (show ¬ (I3 33 : Int32) = 4 by decide), if_neg (show ¬ (I3 33 : Int32) = 5 by decide), if_neg (show ¬ (I3 33 : Int32) = 6 by decide), if_neg (show ¬ (I3 33 : Int32) = 7 by decide), if_neg (show ¬ (I3 33 : Int32) = 8 by decide), if_neg (show ¬ (I3 33 : Int32) = 9 by decide), if_neg (show ¬ (I3 33 : Int32) = 10 by decide), if_neg (show ¬ (I3 33 : Int32) = 11 by decide), if_neg (show ¬ (I3 33 : Int32) = 12 by decide), if_neg (show ¬ (I3 33 : Int32) = 13 by decide), if_neg (show ¬ (I3 33 : Int32) = 14 by decide), if_neg (show ¬ (I3 33 : Int32) = 15 by decide), if_neg (show ¬ (I3 33 : Int32) = 16 by decide), if_neg (show ¬ (I3 33 : Int32) = 17 by decide), if_neg (show ¬ (I3 33 : Int32) = 18 by decide), if_neg (show ¬ (I3 33 : Int32) = 27 by decide), if_neg (show ¬ (I3 33 : Int32) = 28 by decide), if_neg (show ¬ (I3 33 : Int32) = 29 by decide), if_neg (show ¬ (I3 33 : Int32) = 30 by decide), if_neg (show ¬ (I3 33 : Int32) = 34 by decide)]
theorem B29_34 {h u : sm_H} {v : Int32} (b1 : F_228 h = some u) (e7 : u.1 34 7 = I3 34) (e45 : F_45 (u.1 34 12) u = some (v, u)) : F_29 h = (F_29_411 u) := by
  show F_29_0 h = _
  unfold F_29_0
  rw [b1]; simp only [Option.bind_some]
  rw [e45]; simp only [Option.bind_some]
  rw [e7, if_neg (show ¬ (I3 34 : Int32) = 4 by decide), if_neg (show ¬ (I3 34 : Int32) = 5 by decide), if_neg (show ¬ (I3 34 : Int32) = 6 by decide), if_neg (show ¬ (I3 34 : Int32) = 7 by decide), if_neg (show ¬ (I3 34 : Int32) = 8 by decide), if_neg (show ¬ (I3 34 : Int32) = 9 by decide), if_neg (show ¬ (I3 34 : Int32) = 10 by decide), if_neg (show ¬ (I3 34 : Int32) = 11 by decide), if_neg (show ¬ (I3 34 : Int32) = 12 by decide), if_neg (show ¬ (I3 34 : Int32) = 13 by decide), if_neg (show ¬ (I3 34 : Int32) = 14 by decide), if_neg (show ¬ (I3 34 : Int32) = 15 by decide), if_neg (show ¬ (I3 34 : Int32) = 16 by decide), if_neg (show ¬ (I3 34 : Int32) = 17 by decide), if_neg (show ¬ (I3 34 : Int32) = 18 by decide), if_neg (show ¬ (I3 34 : Int32) = 27 by decide), if_neg (show ¬ (I3 34 : Int32) = 28 by decide), if_neg (show ¬ (I3 34 : Int32) = 29 by decide), if_neg (show ¬ (I3 34 : Int32) = 30 by decide), if_pos (show (I3 34 : Int32) = 34 by decide)]
theorem B336_0 {h : sm_H} (x2 x3 : Int32) (x4 : Int64) : F_336 (I3 0) x2 x3 x4 h = (if (h.1 67 3) = 0 then ((F_289 x2 h).bind fun q3 =>
  if q3.1 = 0 then (F_336_143 q3.2)
  else (if x2 = 0 then (F_336_143 q3.2)
  else ((F_308 x2 q3.2).bind fun q4 =>
  (F_317 x2 x4 q4).bind fun q5 =>
  some (q5.1, q5.2))))
  else (F_336_143 h)) := by
  show F_336_0 (I3 0) x2 x3 x4 h = _
  unfold F_336_0
  rw [if_pos (show (I3 0 : Int32) = 0 by decide)]
theorem B336_1 {h : sm_H} (x2 x3 : Int32) (x4 : Int64) : F_336 (I3 1) x2 x3 x4 h = (F_336_257 (I3 1) x2 x3 h) := by
  show F_336_0 (I3 1) x2 x3 x4 h = _
  unfold F_336_0
  rw [if_neg (show ¬ (I3 1 : Int32) = 0 by decide), if_neg (show ¬ (I3 1 : Int32) = 4 by decide), if_neg (show ¬ (I3 1 : Int32) = 5 by decide), if_neg (show ¬ (I3 1 : Int32) = 6 by decide), if_neg (show ¬ (I3 1 : Int32) = 7 by decide), if_neg (show ¬ (I3 1 : Int32) = 8 by decide), if_neg (show ¬ (I3 1 : Int32) = 9 by decide), if_neg (show ¬ (I3 1 : Int32) = 10 by decide), if_neg (show ¬ (I3 1 : Int32) = 11 by decide), if_neg (show ¬ (I3 1 : Int32) = 12 by decide), if_neg (show ¬ (I3 1 : Int32) = 13 by decide), if_neg (show ¬ (I3 1 : Int32) = 14 by decide), if_neg (show ¬ (I3 1 : Int32) = 15 by decide), if_neg (show ¬ (I3 1 : Int32) = 16 by decide), if_neg (show ¬ (I3 1 : Int32) = 17 by decide), if_neg (show ¬ (I3 1 : Int32) = 18 by decide), if_neg (show ¬ (I3 1 : Int32) = 20 by decide), if_neg (show ¬ (I3 1 : Int32) = 21 by decide), if_neg (show ¬ (I3 1 : Int32) = 22 by decide), if_neg (show ¬ (I3 1 : Int32) = 23 by decide), if_neg (show ¬ (I3 1 : Int32) = 24 by decide), if_neg (show ¬ (I3 1 : Int32) = 25 by decide), if_neg (show ¬ (I3 1 : Int32) = 26 by decide)]
theorem B336_2 {h : sm_H} (x2 x3 : Int32) (x4 : Int64) : F_336 (I3 2) x2 x3 x4 h = (F_336_257 (I3 2) x2 x3 h) := by
  show F_336_0 (I3 2) x2 x3 x4 h = _
  unfold F_336_0
  rw [if_neg (show ¬ (I3 2 : Int32) = 0 by decide), if_neg (show ¬ (I3 2 : Int32) = 4 by decide), if_neg (show ¬ (I3 2 : Int32) = 5 by decide), if_neg (show ¬ (I3 2 : Int32) = 6 by decide), if_neg (show ¬ (I3 2 : Int32) = 7 by decide), if_neg (show ¬ (I3 2 : Int32) = 8 by decide), if_neg (show ¬ (I3 2 : Int32) = 9 by decide), if_neg (show ¬ (I3 2 : Int32) = 10 by decide), if_neg (show ¬ (I3 2 : Int32) = 11 by decide), if_neg (show ¬ (I3 2 : Int32) = 12 by decide), if_neg (show ¬ (I3 2 : Int32) = 13 by decide), if_neg (show ¬ (I3 2 : Int32) = 14 by decide), if_neg (show ¬ (I3 2 : Int32) = 15 by decide), if_neg (show ¬ (I3 2 : Int32) = 16 by decide), if_neg (show ¬ (I3 2 : Int32) = 17 by decide), if_neg (show ¬ (I3 2 : Int32) = 18 by decide), if_neg (show ¬ (I3 2 : Int32) = 20 by decide), if_neg (show ¬ (I3 2 : Int32) = 21 by decide), if_neg (show ¬ (I3 2 : Int32) = 22 by decide), if_neg (show ¬ (I3 2 : Int32) = 23 by decide), if_neg (show ¬ (I3 2 : Int32) = 24 by decide), if_neg (show ¬ (I3 2 : Int32) = 25 by decide), if_neg (show ¬ (I3 2 : Int32) = 26 by decide)]
theorem B336_3 {h : sm_H} (x2 x3 : Int32) (x4 : Int64) : F_336 (I3 3) x2 x3 x4 h = (F_336_257 (I3 3) x2 x3 h) := by
  show F_336_0 (I3 3) x2 x3 x4 h = _
  unfold F_336_0
  rw [if_neg (show ¬ (I3 3 : Int32) = 0 by decide), if_neg (show ¬ (I3 3 : Int32) = 4 by decide), if_neg (show ¬ (I3 3 : Int32) = 5 by decide), if_neg (show ¬ (I3 3 : Int32) = 6 by decide), if_neg (show ¬ (I3 3 : Int32) = 7 by decide), if_neg (show ¬ (I3 3 : Int32) = 8 by decide), if_neg (show ¬ (I3 3 : Int32) = 9 by decide), if_neg (show ¬ (I3 3 : Int32) = 10 by decide), if_neg (show ¬ (I3 3 : Int32) = 11 by decide), if_neg (show ¬ (I3 3 : Int32) = 12 by decide), if_neg (show ¬ (I3 3 : Int32) = 13 by decide), if_neg (show ¬ (I3 3 : Int32) = 14 by decide), if_neg (show ¬ (I3 3 : Int32) = 15 by decide), if_neg (show ¬ (I3 3 : Int32) = 16 by decide), if_neg (show ¬ (I3 3 : Int32) = 17 by decide), if_neg (show ¬ (I3 3 : Int32) = 18 by decide), if_neg (show ¬ (I3 3 : Int32) = 20 by decide), if_neg (show ¬ (I3 3 : Int32) = 21 by decide), if_neg (show ¬ (I3 3 : Int32) = 22 by decide), if_neg (show ¬ (I3 3 : Int32) = 23 by decide), if_neg (show ¬ (I3 3 : Int32) = 24 by decide), if_neg (show ¬ (I3 3 : Int32) = 25 by decide), if_neg (show ¬ (I3 3 : Int32) = 26 by decide)]
theorem B336_4 {h : sm_H} (x2 x3 : Int32) (x4 : Int64) : F_336 (I3 4) x2 x3 x4 h = ((F_318 x2 x3 h).bind fun q6 =>
  some (q6.1, q6.2)) := by
  show F_336_0 (I3 4) x2 x3 x4 h = _
  unfold F_336_0
  rw [if_neg (show ¬ (I3 4 : Int32) = 0 by decide), if_pos (show (I3 4 : Int32) = 4 by decide)]
theorem B336_5 {h : sm_H} (x2 x3 : Int32) (x4 : Int64) : F_336 (I3 5) x2 x3 x4 h = ((F_319 x3 h).bind fun q7 =>
  some (q7.1, q7.2)) := by
  show F_336_0 (I3 5) x2 x3 x4 h = _
  unfold F_336_0
  rw [if_neg (show ¬ (I3 5 : Int32) = 0 by decide), if_neg (show ¬ (I3 5 : Int32) = 4 by decide), if_pos (show (I3 5 : Int32) = 5 by decide)]
theorem B336_6 {h : sm_H} (x2 x3 : Int32) (x4 : Int64) : F_336 (I3 6) x2 x3 x4 h = ((F_320 x2 x4 h).bind fun q8 =>
  some (q8.1, q8.2)) := by
  show F_336_0 (I3 6) x2 x3 x4 h = _
  unfold F_336_0
  rw [if_neg (show ¬ (I3 6 : Int32) = 0 by decide), if_neg (show ¬ (I3 6 : Int32) = 4 by decide), if_neg (show ¬ (I3 6 : Int32) = 5 by decide), if_pos (show (I3 6 : Int32) = 6 by decide)]
theorem B336_7 {h : sm_H} (x2 x3 : Int32) (x4 : Int64) : F_336 (I3 7) x2 x3 x4 h = ((F_321 x2 h).bind fun q9 =>
  some (q9.1, q9.2)) := by
  show F_336_0 (I3 7) x2 x3 x4 h = _
  unfold F_336_0
  rw [if_neg (show ¬ (I3 7 : Int32) = 0 by decide), if_neg (show ¬ (I3 7 : Int32) = 4 by decide), if_neg (show ¬ (I3 7 : Int32) = 5 by decide), if_neg (show ¬ (I3 7 : Int32) = 6 by decide), if_pos (show (I3 7 : Int32) = 7 by decide)]
theorem B336_8 {h : sm_H} (x2 x3 : Int32) (x4 : Int64) : F_336 (I3 8) x2 x3 x4 h = ((F_322 x2 h).bind fun q10 =>
  some (q10.1, q10.2)) := by
  show F_336_0 (I3 8) x2 x3 x4 h = _
  unfold F_336_0
  rw [if_neg (show ¬ (I3 8 : Int32) = 0 by decide), if_neg (show ¬ (I3 8 : Int32) = 4 by decide), if_neg (show ¬ (I3 8 : Int32) = 5 by decide), if_neg (show ¬ (I3 8 : Int32) = 6 by decide), if_neg (show ¬ (I3 8 : Int32) = 7 by decide), if_pos (show (I3 8 : Int32) = 8 by decide)]
theorem B336_9 {h : sm_H} (x2 x3 : Int32) (x4 : Int64) : F_336 (I3 9) x2 x3 x4 h = ((F_323 h).bind fun q11 =>
  some (q11.1, q11.2)) := by
  show F_336_0 (I3 9) x2 x3 x4 h = _
  unfold F_336_0
  rw [if_neg (show ¬ (I3 9 : Int32) = 0 by decide), if_neg (show ¬ (I3 9 : Int32) = 4 by decide), if_neg (show ¬ (I3 9 : Int32) = 5 by decide), if_neg (show ¬ (I3 9 : Int32) = 6 by decide), if_neg (show ¬ (I3 9 : Int32) = 7 by decide), if_neg (show ¬ (I3 9 : Int32) = 8 by decide), if_pos (show (I3 9 : Int32) = 9 by decide)]
theorem B336_10 {h : sm_H} (x2 x3 : Int32) (x4 : Int64) : F_336 (I3 10) x2 x3 x4 h = ((F_324 x2 x3 h).bind fun q12 =>
  some (q12.1, q12.2)) := by
  show F_336_0 (I3 10) x2 x3 x4 h = _
  unfold F_336_0
  rw [if_neg (show ¬ (I3 10 : Int32) = 0 by decide), if_neg (show ¬ (I3 10 : Int32) = 4 by decide), if_neg (show ¬ (I3 10 : Int32) = 5 by decide), if_neg (show ¬ (I3 10 : Int32) = 6 by decide), if_neg (show ¬ (I3 10 : Int32) = 7 by decide), if_neg (show ¬ (I3 10 : Int32) = 8 by decide), if_neg (show ¬ (I3 10 : Int32) = 9 by decide), if_pos (show (I3 10 : Int32) = 10 by decide)]
theorem B336_11 {h : sm_H} (x2 x3 : Int32) (x4 : Int64) : F_336 (I3 11) x2 x3 x4 h = ((F_325 x3 h).bind fun q13 =>
  some (q13.1, q13.2)) := by
  show F_336_0 (I3 11) x2 x3 x4 h = _
  unfold F_336_0
  rw [if_neg (show ¬ (I3 11 : Int32) = 0 by decide), if_neg (show ¬ (I3 11 : Int32) = 4 by decide), if_neg (show ¬ (I3 11 : Int32) = 5 by decide), if_neg (show ¬ (I3 11 : Int32) = 6 by decide), if_neg (show ¬ (I3 11 : Int32) = 7 by decide), if_neg (show ¬ (I3 11 : Int32) = 8 by decide), if_neg (show ¬ (I3 11 : Int32) = 9 by decide), if_neg (show ¬ (I3 11 : Int32) = 10 by decide), if_pos (show (I3 11 : Int32) = 11 by decide)]
theorem B336_12 {h : sm_H} (x2 x3 : Int32) (x4 : Int64) : F_336 (I3 12) x2 x3 x4 h = ((F_327 x3 0 h).bind fun q14 =>
  some (q14.1, q14.2)) := by
  show F_336_0 (I3 12) x2 x3 x4 h = _
  unfold F_336_0
  rw [if_neg (show ¬ (I3 12 : Int32) = 0 by decide), if_neg (show ¬ (I3 12 : Int32) = 4 by decide), if_neg (show ¬ (I3 12 : Int32) = 5 by decide), if_neg (show ¬ (I3 12 : Int32) = 6 by decide), if_neg (show ¬ (I3 12 : Int32) = 7 by decide), if_neg (show ¬ (I3 12 : Int32) = 8 by decide), if_neg (show ¬ (I3 12 : Int32) = 9 by decide), if_neg (show ¬ (I3 12 : Int32) = 10 by decide), if_neg (show ¬ (I3 12 : Int32) = 11 by decide), if_pos (show (I3 12 : Int32) = 12 by decide)]
theorem B336_13 {h : sm_H} (x2 x3 : Int32) (x4 : Int64) : F_336 (I3 13) x2 x3 x4 h = ((F_327 x3 1 h).bind fun q15 =>
  some (q15.1, q15.2)) := by
  show F_336_0 (I3 13) x2 x3 x4 h = _
  unfold F_336_0
  rw [if_neg (show ¬ (I3 13 : Int32) = 0 by decide), if_neg (show ¬ (I3 13 : Int32) = 4 by decide), if_neg (show ¬ (I3 13 : Int32) = 5 by decide), if_neg (show ¬ (I3 13 : Int32) = 6 by decide), if_neg (show ¬ (I3 13 : Int32) = 7 by decide), if_neg (show ¬ (I3 13 : Int32) = 8 by decide), if_neg (show ¬ (I3 13 : Int32) = 9 by decide), if_neg (show ¬ (I3 13 : Int32) = 10 by decide), if_neg (show ¬ (I3 13 : Int32) = 11 by decide), if_neg (show ¬ (I3 13 : Int32) = 12 by decide), if_pos (show (I3 13 : Int32) = 13 by decide)]
theorem B336_14 {h : sm_H} (x2 x3 : Int32) (x4 : Int64) : F_336 (I3 14) x2 x3 x4 h = ((F_328 h).bind fun q16 =>
  some (q16.1, q16.2)) := by
  show F_336_0 (I3 14) x2 x3 x4 h = _
  unfold F_336_0
  rw [if_neg (show ¬ (I3 14 : Int32) = 0 by decide), if_neg (show ¬ (I3 14 : Int32) = 4 by decide), if_neg (show ¬ (I3 14 : Int32) = 5 by decide), if_neg (show ¬ (I3 14 : Int32) = 6 by decide), if_neg (show ¬ (I3 14 : Int32) = 7 by decide), if_neg (show ¬ (I3 14 : Int32) = 8 by decide), if_neg (show ¬ (I3 14 : Int32) = 9 by decide), if_neg (show ¬ (I3 14 : Int32) = 10 by decide), if_neg (show ¬ (I3 14 : Int32) = 11 by decide), if_neg (show ¬ (I3 14 : Int32) = 12 by decide), if_neg (show ¬ (I3 14 : Int32) = 13 by decide), if_pos (show (I3 14 : Int32) = 14 by decide)]
theorem B336_15 {h : sm_H} (x2 x3 : Int32) (x4 : Int64) : F_336 (I3 15) x2 x3 x4 h = ((F_329 x2 h).bind fun q17 =>
  some (q17.1, q17.2)) := by
  show F_336_0 (I3 15) x2 x3 x4 h = _
  unfold F_336_0
  rw [if_neg (show ¬ (I3 15 : Int32) = 0 by decide), if_neg (show ¬ (I3 15 : Int32) = 4 by decide), if_neg (show ¬ (I3 15 : Int32) = 5 by decide), if_neg (show ¬ (I3 15 : Int32) = 6 by decide), if_neg (show ¬ (I3 15 : Int32) = 7 by decide), if_neg (show ¬ (I3 15 : Int32) = 8 by decide), if_neg (show ¬ (I3 15 : Int32) = 9 by decide), if_neg (show ¬ (I3 15 : Int32) = 10 by decide), if_neg (show ¬ (I3 15 : Int32) = 11 by decide), if_neg (show ¬ (I3 15 : Int32) = 12 by decide), if_neg (show ¬ (I3 15 : Int32) = 13 by decide), if_neg (show ¬ (I3 15 : Int32) = 14 by decide), if_pos (show (I3 15 : Int32) = 15 by decide)]
theorem B336_16 {h : sm_H} (x2 x3 : Int32) (x4 : Int64) : F_336 (I3 16) x2 x3 x4 h = ((F_330 h).bind fun q18 =>
  some (q18.1, q18.2)) := by
  show F_336_0 (I3 16) x2 x3 x4 h = _
  unfold F_336_0
  rw [if_neg (show ¬ (I3 16 : Int32) = 0 by decide), if_neg (show ¬ (I3 16 : Int32) = 4 by decide), if_neg (show ¬ (I3 16 : Int32) = 5 by decide), if_neg (show ¬ (I3 16 : Int32) = 6 by decide), if_neg (show ¬ (I3 16 : Int32) = 7 by decide), if_neg (show ¬ (I3 16 : Int32) = 8 by decide), if_neg (show ¬ (I3 16 : Int32) = 9 by decide), if_neg (show ¬ (I3 16 : Int32) = 10 by decide), if_neg (show ¬ (I3 16 : Int32) = 11 by decide), if_neg (show ¬ (I3 16 : Int32) = 12 by decide), if_neg (show ¬ (I3 16 : Int32) = 13 by decide), if_neg (show ¬ (I3 16 : Int32) = 14 by decide), if_neg (show ¬ (I3 16 : Int32) = 15 by decide), if_pos (show (I3 16 : Int32) = 16 by decide)]
theorem B336_17 {h : sm_H} (x2 x3 : Int32) (x4 : Int64) : F_336 (I3 17) x2 x3 x4 h = ((F_331 h).bind fun q19 =>
  some (q19.1, q19.2)) := by
  show F_336_0 (I3 17) x2 x3 x4 h = _
  unfold F_336_0
  rw [if_neg (show ¬ (I3 17 : Int32) = 0 by decide), if_neg (show ¬ (I3 17 : Int32) = 4 by decide), if_neg (show ¬ (I3 17 : Int32) = 5 by decide), if_neg (show ¬ (I3 17 : Int32) = 6 by decide), if_neg (show ¬ (I3 17 : Int32) = 7 by decide), if_neg (show ¬ (I3 17 : Int32) = 8 by decide), if_neg (show ¬ (I3 17 : Int32) = 9 by decide), if_neg (show ¬ (I3 17 : Int32) = 10 by decide), if_neg (show ¬ (I3 17 : Int32) = 11 by decide), if_neg (show ¬ (I3 17 : Int32) = 12 by decide), if_neg (show ¬ (I3 17 : Int32) = 13 by decide), if_neg (show ¬ (I3 17 : Int32) = 14 by decide), if_neg (show ¬ (I3 17 : Int32) = 15 by decide), if_neg (show ¬ (I3 17 : Int32) = 16 by decide), if_pos (show (I3 17 : Int32) = 17 by decide)]
theorem B336_18 {h : sm_H} (x2 x3 : Int32) (x4 : Int64) : F_336 (I3 18) x2 x3 x4 h = ((F_333 x3 h).bind fun q20 =>
  some (q20.1, q20.2)) := by
  show F_336_0 (I3 18) x2 x3 x4 h = _
  unfold F_336_0
  rw [if_neg (show ¬ (I3 18 : Int32) = 0 by decide), if_neg (show ¬ (I3 18 : Int32) = 4 by decide), if_neg (show ¬ (I3 18 : Int32) = 5 by decide), if_neg (show ¬ (I3 18 : Int32) = 6 by decide), if_neg (show ¬ (I3 18 : Int32) = 7 by decide), if_neg (show ¬ (I3 18 : Int32) = 8 by decide), if_neg (show ¬ (I3 18 : Int32) = 9 by decide), if_neg (show ¬ (I3 18 : Int32) = 10 by decide), if_neg (show ¬ (I3 18 : Int32) = 11 by decide), if_neg (show ¬ (I3 18 : Int32) = 12 by decide), if_neg (show ¬ (I3 18 : Int32) = 13 by decide), if_neg (show ¬ (I3 18 : Int32) = 14 by decide), if_neg (show ¬ (I3 18 : Int32) = 15 by decide), if_neg (show ¬ (I3 18 : Int32) = 16 by decide), if_neg (show ¬ (I3 18 : Int32) = 17 by decide), if_pos (show (I3 18 : Int32) = 18 by decide)]
theorem B336_19 {h : sm_H} (x2 x3 : Int32) (x4 : Int64) : F_336 (I3 19) x2 x3 x4 h = (F_336_257 (I3 19) x2 x3 h) := by
  show F_336_0 (I3 19) x2 x3 x4 h = _
  unfold F_336_0
  rw [if_neg (show ¬ (I3 19 : Int32) = 0 by decide), if_neg (show ¬ (I3 19 : Int32) = 4 by decide), if_neg (show ¬ (I3 19 : Int32) = 5 by decide), if_neg (show ¬ (I3 19 : Int32) = 6 by decide), if_neg (show ¬ (I3 19 : Int32) = 7 by decide), if_neg (show ¬ (I3 19 : Int32) = 8 by decide), if_neg (show ¬ (I3 19 : Int32) = 9 by decide), if_neg (show ¬ (I3 19 : Int32) = 10 by decide), if_neg (show ¬ (I3 19 : Int32) = 11 by decide), if_neg (show ¬ (I3 19 : Int32) = 12 by decide), if_neg (show ¬ (I3 19 : Int32) = 13 by decide), if_neg (show ¬ (I3 19 : Int32) = 14 by decide), if_neg (show ¬ (I3 19 : Int32) = 15 by decide), if_neg (show ¬ (I3 19 : Int32) = 16 by decide), if_neg (show ¬ (I3 19 : Int32) = 17 by decide), if_neg (show ¬ (I3 19 : Int32) = 18 by decide), if_neg (show ¬ (I3 19 : Int32) = 20 by decide), if_neg (show ¬ (I3 19 : Int32) = 21 by decide), if_neg (show ¬ (I3 19 : Int32) = 22 by decide), if_neg (show ¬ (I3 19 : Int32) = 23 by decide), if_neg (show ¬ (I3 19 : Int32) = 24 by decide), if_neg (show ¬ (I3 19 : Int32) = 25 by decide), if_neg (show ¬ (I3 19 : Int32) = 26 by decide)]
theorem B336_20 {h : sm_H} (x2 x3 : Int32) (x4 : Int64) : F_336 (I3 20) x2 x3 x4 h = (F_336_250 (I3 20) x2 h) := by
  show F_336_0 (I3 20) x2 x3 x4 h = _
  unfold F_336_0
  rw [if_neg (show ¬ (I3 20 : Int32) = 0 by decide), if_neg (show ¬ (I3 20 : Int32) = 4 by decide), if_neg (show ¬ (I3 20 : Int32) = 5 by decide), if_neg (show ¬ (I3 20 : Int32) = 6 by decide), if_neg (show ¬ (I3 20 : Int32) = 7 by decide), if_neg (show ¬ (I3 20 : Int32) = 8 by decide), if_neg (show ¬ (I3 20 : Int32) = 9 by decide), if_neg (show ¬ (I3 20 : Int32) = 10 by decide), if_neg (show ¬ (I3 20 : Int32) = 11 by decide), if_neg (show ¬ (I3 20 : Int32) = 12 by decide), if_neg (show ¬ (I3 20 : Int32) = 13 by decide), if_neg (show ¬ (I3 20 : Int32) = 14 by decide), if_neg (show ¬ (I3 20 : Int32) = 15 by decide), if_neg (show ¬ (I3 20 : Int32) = 16 by decide), if_neg (show ¬ (I3 20 : Int32) = 17 by decide), if_neg (show ¬ (I3 20 : Int32) = 18 by decide), if_pos (show (I3 20 : Int32) = 20 by decide)]
theorem B336_21 {h : sm_H} (x2 x3 : Int32) (x4 : Int64) : F_336 (I3 21) x2 x3 x4 h = (F_336_250 (I3 21) x2 h) := by
  show F_336_0 (I3 21) x2 x3 x4 h = _
  unfold F_336_0
  rw [if_neg (show ¬ (I3 21 : Int32) = 0 by decide), if_neg (show ¬ (I3 21 : Int32) = 4 by decide), if_neg (show ¬ (I3 21 : Int32) = 5 by decide), if_neg (show ¬ (I3 21 : Int32) = 6 by decide), if_neg (show ¬ (I3 21 : Int32) = 7 by decide), if_neg (show ¬ (I3 21 : Int32) = 8 by decide), if_neg (show ¬ (I3 21 : Int32) = 9 by decide), if_neg (show ¬ (I3 21 : Int32) = 10 by decide), if_neg (show ¬ (I3 21 : Int32) = 11 by decide), if_neg (show ¬ (I3 21 : Int32) = 12 by decide), if_neg (show ¬ (I3 21 : Int32) = 13 by decide), if_neg (show ¬ (I3 21 : Int32) = 14 by decide), if_neg (show ¬ (I3 21 : Int32) = 15 by decide), if_neg (show ¬ (I3 21 : Int32) = 16 by decide), if_neg (show ¬ (I3 21 : Int32) = 17 by decide), if_neg (show ¬ (I3 21 : Int32) = 18 by decide), if_neg (show ¬ (I3 21 : Int32) = 20 by decide), if_pos (show (I3 21 : Int32) = 21 by decide)]
theorem B336_22 {h : sm_H} (x2 x3 : Int32) (x4 : Int64) : F_336 (I3 22) x2 x3 x4 h = (F_336_250 (I3 22) x2 h) := by
  show F_336_0 (I3 22) x2 x3 x4 h = _
  unfold F_336_0
  rw [if_neg (show ¬ (I3 22 : Int32) = 0 by decide), if_neg (show ¬ (I3 22 : Int32) = 4 by decide), if_neg (show ¬ (I3 22 : Int32) = 5 by decide), if_neg (show ¬ (I3 22 : Int32) = 6 by decide), if_neg (show ¬ (I3 22 : Int32) = 7 by decide), if_neg (show ¬ (I3 22 : Int32) = 8 by decide), if_neg (show ¬ (I3 22 : Int32) = 9 by decide), if_neg (show ¬ (I3 22 : Int32) = 10 by decide), if_neg (show ¬ (I3 22 : Int32) = 11 by decide), if_neg (show ¬ (I3 22 : Int32) = 12 by decide), if_neg (show ¬ (I3 22 : Int32) = 13 by decide), if_neg (show ¬ (I3 22 : Int32) = 14 by decide), if_neg (show ¬ (I3 22 : Int32) = 15 by decide), if_neg (show ¬ (I3 22 : Int32) = 16 by decide), if_neg (show ¬ (I3 22 : Int32) = 17 by decide), if_neg (show ¬ (I3 22 : Int32) = 18 by decide), if_neg (show ¬ (I3 22 : Int32) = 20 by decide), if_neg (show ¬ (I3 22 : Int32) = 21 by decide), if_pos (show (I3 22 : Int32) = 22 by decide)]
theorem B336_23 {h : sm_H} (x2 x3 : Int32) (x4 : Int64) : F_336 (I3 23) x2 x3 x4 h = (F_336_250 (I3 23) x2 h) := by
  show F_336_0 (I3 23) x2 x3 x4 h = _
  unfold F_336_0
  rw [if_neg (show ¬ (I3 23 : Int32) = 0 by decide), if_neg (show ¬ (I3 23 : Int32) = 4 by decide), if_neg (show ¬ (I3 23 : Int32) = 5 by decide), if_neg (show ¬ (I3 23 : Int32) = 6 by decide), if_neg (show ¬ (I3 23 : Int32) = 7 by decide), if_neg (show ¬ (I3 23 : Int32) = 8 by decide), if_neg (show ¬ (I3 23 : Int32) = 9 by decide), if_neg (show ¬ (I3 23 : Int32) = 10 by decide), if_neg (show ¬ (I3 23 : Int32) = 11 by decide), if_neg (show ¬ (I3 23 : Int32) = 12 by decide), if_neg (show ¬ (I3 23 : Int32) = 13 by decide), if_neg (show ¬ (I3 23 : Int32) = 14 by decide), if_neg (show ¬ (I3 23 : Int32) = 15 by decide), if_neg (show ¬ (I3 23 : Int32) = 16 by decide), if_neg (show ¬ (I3 23 : Int32) = 17 by decide), if_neg (show ¬ (I3 23 : Int32) = 18 by decide), if_neg (show ¬ (I3 23 : Int32) = 20 by decide), if_neg (show ¬ (I3 23 : Int32) = 21 by decide), if_neg (show ¬ (I3 23 : Int32) = 22 by decide), if_pos (show (I3 23 : Int32) = 23 by decide)]
theorem B336_24 {h : sm_H} (x2 x3 : Int32) (x4 : Int64) : F_336 (I3 24) x2 x3 x4 h = (F_336_250 (I3 24) x2 h) := by
  show F_336_0 (I3 24) x2 x3 x4 h = _
  unfold F_336_0
  rw [if_neg (show ¬ (I3 24 : Int32) = 0 by decide), if_neg (show ¬ (I3 24 : Int32) = 4 by decide), if_neg (show ¬ (I3 24 : Int32) = 5 by decide), if_neg (show ¬ (I3 24 : Int32) = 6 by decide), if_neg (show ¬ (I3 24 : Int32) = 7 by decide), if_neg (show ¬ (I3 24 : Int32) = 8 by decide), if_neg (show ¬ (I3 24 : Int32) = 9 by decide), if_neg (show ¬ (I3 24 : Int32) = 10 by decide), if_neg (show ¬ (I3 24 : Int32) = 11 by decide), if_neg (show ¬ (I3 24 : Int32) = 12 by decide), if_neg (show ¬ (I3 24 : Int32) = 13 by decide), if_neg (show ¬ (I3 24 : Int32) = 14 by decide), if_neg (show ¬ (I3 24 : Int32) = 15 by decide), if_neg (show ¬ (I3 24 : Int32) = 16 by decide), if_neg (show ¬ (I3 24 : Int32) = 17 by decide), if_neg (show ¬ (I3 24 : Int32) = 18 by decide), if_neg (show ¬ (I3 24 : Int32) = 20 by decide), if_neg (show ¬ (I3 24 : Int32) = 21 by decide), if_neg (show ¬ (I3 24 : Int32) = 22 by decide), if_neg (show ¬ (I3 24 : Int32) = 23 by decide), if_pos (show (I3 24 : Int32) = 24 by decide)]
theorem B336_25 {h : sm_H} (x2 x3 : Int32) (x4 : Int64) : F_336 (I3 25) x2 x3 x4 h = (F_336_250 (I3 25) x2 h) := by
  show F_336_0 (I3 25) x2 x3 x4 h = _
  unfold F_336_0
  rw [if_neg (show ¬ (I3 25 : Int32) = 0 by decide), if_neg (show ¬ (I3 25 : Int32) = 4 by decide), if_neg (show ¬ (I3 25 : Int32) = 5 by decide), if_neg (show ¬ (I3 25 : Int32) = 6 by decide), if_neg (show ¬ (I3 25 : Int32) = 7 by decide), if_neg (show ¬ (I3 25 : Int32) = 8 by decide), if_neg (show ¬ (I3 25 : Int32) = 9 by decide), if_neg (show ¬ (I3 25 : Int32) = 10 by decide), if_neg (show ¬ (I3 25 : Int32) = 11 by decide), if_neg (show ¬ (I3 25 : Int32) = 12 by decide), if_neg (show ¬ (I3 25 : Int32) = 13 by decide), if_neg (show ¬ (I3 25 : Int32) = 14 by decide), if_neg (show ¬ (I3 25 : Int32) = 15 by decide), if_neg (show ¬ (I3 25 : Int32) = 16 by decide), if_neg (show ¬ (I3 25 : Int32) = 17 by decide), if_neg (show ¬ (I3 25 : Int32) = 18 by decide), if_neg (show ¬ (I3 25 : Int32) = 20 by decide), if_neg (show ¬ (I3 25 : Int32) = 21 by decide), if_neg (show ¬ (I3 25 : Int32) = 22 by decide), if_neg (show ¬ (I3 25 : Int32) = 23 by decide), if_neg (show ¬ (I3 25 : Int32) = 24 by decide), if_pos (show (I3 25 : Int32) = 25 by decide)]
theorem B336_26 {h : sm_H} (x2 x3 : Int32) (x4 : Int64) : F_336 (I3 26) x2 x3 x4 h = (F_336_250 (I3 26) x2 h) := by
  show F_336_0 (I3 26) x2 x3 x4 h = _
  unfold F_336_0
  rw [if_neg (show ¬ (I3 26 : Int32) = 0 by decide), if_neg (show ¬ (I3 26 : Int32) = 4 by decide), if_neg (show ¬ (I3 26 : Int32) = 5 by decide), if_neg (show ¬ (I3 26 : Int32) = 6 by decide), if_neg (show ¬ (I3 26 : Int32) = 7 by decide), if_neg (show ¬ (I3 26 : Int32) = 8 by decide), if_neg (show ¬ (I3 26 : Int32) = 9 by decide), if_neg (show ¬ (I3 26 : Int32) = 10 by decide), if_neg (show ¬ (I3 26 : Int32) = 11 by decide), if_neg (show ¬ (I3 26 : Int32) = 12 by decide), if_neg (show ¬ (I3 26 : Int32) = 13 by decide), if_neg (show ¬ (I3 26 : Int32) = 14 by decide), if_neg (show ¬ (I3 26 : Int32) = 15 by decide), if_neg (show ¬ (I3 26 : Int32) = 16 by decide), if_neg (show ¬ (I3 26 : Int32) = 17 by decide), if_neg (show ¬ (I3 26 : Int32) = 18 by decide), if_neg (show ¬ (I3 26 : Int32) = 20 by decide), if_neg (show ¬ (I3 26 : Int32) = 21 by decide), if_neg (show ¬ (I3 26 : Int32) = 22 by decide), if_neg (show ¬ (I3 26 : Int32) = 23 by decide), if_neg (show ¬ (I3 26 : Int32) = 24 by decide), if_neg (show ¬ (I3 26 : Int32) = 25 by decide), if_pos (show (I3 26 : Int32) = 26 by decide)]
theorem B336_27 {h : sm_H} (x2 x3 : Int32) (x4 : Int64) : F_336 (I3 27) x2 x3 x4 h = (F_336_257 (I3 27) x2 x3 h) := by
  show F_336_0 (I3 27) x2 x3 x4 h = _
  unfold F_336_0
  rw [if_neg (show ¬ (I3 27 : Int32) = 0 by decide), if_neg (show ¬ (I3 27 : Int32) = 4 by decide), if_neg (show ¬ (I3 27 : Int32) = 5 by decide), if_neg (show ¬ (I3 27 : Int32) = 6 by decide), if_neg (show ¬ (I3 27 : Int32) = 7 by decide), if_neg (show ¬ (I3 27 : Int32) = 8 by decide), if_neg (show ¬ (I3 27 : Int32) = 9 by decide), if_neg (show ¬ (I3 27 : Int32) = 10 by decide), if_neg (show ¬ (I3 27 : Int32) = 11 by decide), if_neg (show ¬ (I3 27 : Int32) = 12 by decide), if_neg (show ¬ (I3 27 : Int32) = 13 by decide), if_neg (show ¬ (I3 27 : Int32) = 14 by decide), if_neg (show ¬ (I3 27 : Int32) = 15 by decide), if_neg (show ¬ (I3 27 : Int32) = 16 by decide), if_neg (show ¬ (I3 27 : Int32) = 17 by decide), if_neg (show ¬ (I3 27 : Int32) = 18 by decide), if_neg (show ¬ (I3 27 : Int32) = 20 by decide), if_neg (show ¬ (I3 27 : Int32) = 21 by decide), if_neg (show ¬ (I3 27 : Int32) = 22 by decide), if_neg (show ¬ (I3 27 : Int32) = 23 by decide), if_neg (show ¬ (I3 27 : Int32) = 24 by decide), if_neg (show ¬ (I3 27 : Int32) = 25 by decide), if_neg (show ¬ (I3 27 : Int32) = 26 by decide)]
theorem B336_28 {h : sm_H} (x2 x3 : Int32) (x4 : Int64) : F_336 (I3 28) x2 x3 x4 h = (F_336_257 (I3 28) x2 x3 h) := by
  show F_336_0 (I3 28) x2 x3 x4 h = _
  unfold F_336_0
  rw [if_neg (show ¬ (I3 28 : Int32) = 0 by decide), if_neg (show ¬ (I3 28 : Int32) = 4 by decide), if_neg (show ¬ (I3 28 : Int32) = 5 by decide), if_neg (show ¬ (I3 28 : Int32) = 6 by decide), if_neg (show ¬ (I3 28 : Int32) = 7 by decide), if_neg (show ¬ (I3 28 : Int32) = 8 by decide), if_neg (show ¬ (I3 28 : Int32) = 9 by decide), if_neg (show ¬ (I3 28 : Int32) = 10 by decide), if_neg (show ¬ (I3 28 : Int32) = 11 by decide), if_neg (show ¬ (I3 28 : Int32) = 12 by decide), if_neg (show ¬ (I3 28 : Int32) = 13 by decide), if_neg (show ¬ (I3 28 : Int32) = 14 by decide), if_neg (show ¬ (I3 28 : Int32) = 15 by decide), if_neg (show ¬ (I3 28 : Int32) = 16 by decide), if_neg (show ¬ (I3 28 : Int32) = 17 by decide), if_neg (show ¬ (I3 28 : Int32) = 18 by decide), if_neg (show ¬ (I3 28 : Int32) = 20 by decide), if_neg (show ¬ (I3 28 : Int32) = 21 by decide), if_neg (show ¬ (I3 28 : Int32) = 22 by decide), if_neg (show ¬ (I3 28 : Int32) = 23 by decide), if_neg (show ¬ (I3 28 : Int32) = 24 by decide), if_neg (show ¬ (I3 28 : Int32) = 25 by decide), if_neg (show ¬ (I3 28 : Int32) = 26 by decide)]
theorem B336_29 {h : sm_H} (x2 x3 : Int32) (x4 : Int64) : F_336 (I3 29) x2 x3 x4 h = (F_336_257 (I3 29) x2 x3 h) := by
  show F_336_0 (I3 29) x2 x3 x4 h = _
  unfold F_336_0
  rw [if_neg (show ¬ (I3 29 : Int32) = 0 by decide), if_neg (show ¬ (I3 29 : Int32) = 4 by decide), if_neg (show ¬ (I3 29 : Int32) = 5 by decide), if_neg (show ¬ (I3 29 : Int32) = 6 by decide), if_neg (show ¬ (I3 29 : Int32) = 7 by decide), if_neg (show ¬ (I3 29 : Int32) = 8 by decide), if_neg (show ¬ (I3 29 : Int32) = 9 by decide), if_neg (show ¬ (I3 29 : Int32) = 10 by decide), if_neg (show ¬ (I3 29 : Int32) = 11 by decide), if_neg (show ¬ (I3 29 : Int32) = 12 by decide), if_neg (show ¬ (I3 29 : Int32) = 13 by decide), if_neg (show ¬ (I3 29 : Int32) = 14 by decide), if_neg (show ¬ (I3 29 : Int32) = 15 by decide), if_neg (show ¬ (I3 29 : Int32) = 16 by decide), if_neg (show ¬ (I3 29 : Int32) = 17 by decide), if_neg (show ¬ (I3 29 : Int32) = 18 by decide), if_neg (show ¬ (I3 29 : Int32) = 20 by decide), if_neg (show ¬ (I3 29 : Int32) = 21 by decide), if_neg (show ¬ (I3 29 : Int32) = 22 by decide), if_neg (show ¬ (I3 29 : Int32) = 23 by decide), if_neg (show ¬ (I3 29 : Int32) = 24 by decide), if_neg (show ¬ (I3 29 : Int32) = 25 by decide), if_neg (show ¬ (I3 29 : Int32) = 26 by decide)]
theorem B336_30 {h : sm_H} (x2 x3 : Int32) (x4 : Int64) : F_336 (I3 30) x2 x3 x4 h = (F_336_257 (I3 30) x2 x3 h) := by
  show F_336_0 (I3 30) x2 x3 x4 h = _
  unfold F_336_0
  rw [if_neg (show ¬ (I3 30 : Int32) = 0 by decide), if_neg (show ¬ (I3 30 : Int32) = 4 by decide), if_neg (show ¬ (I3 30 : Int32) = 5 by decide), if_neg (show ¬ (I3 30 : Int32) = 6 by decide), if_neg (show ¬ (I3 30 : Int32) = 7 by decide), if_neg (show ¬ (I3 30 : Int32) = 8 by decide), if_neg (show ¬ (I3 30 : Int32) = 9 by decide), if_neg (show ¬ (I3 30 : Int32) = 10 by decide), if_neg (show ¬ (I3 30 : Int32) = 11 by decide), if_neg (show ¬ (I3 30 : Int32) = 12 by decide), if_neg (show ¬ (I3 30 : Int32) = 13 by decide), if_neg (show ¬ (I3 30 : Int32) = 14 by decide), if_neg (show ¬ (I3 30 : Int32) = 15 by decide), if_neg (show ¬ (I3 30 : Int32) = 16 by decide), if_neg (show ¬ (I3 30 : Int32) = 17 by decide), if_neg (show ¬ (I3 30 : Int32) = 18 by decide), if_neg (show ¬ (I3 30 : Int32) = 20 by decide), if_neg (show ¬ (I3 30 : Int32) = 21 by decide), if_neg (show ¬ (I3 30 : Int32) = 22 by decide), if_neg (show ¬ (I3 30 : Int32) = 23 by decide), if_neg (show ¬ (I3 30 : Int32) = 24 by decide), if_neg (show ¬ (I3 30 : Int32) = 25 by decide), if_neg (show ¬ (I3 30 : Int32) = 26 by decide)]
theorem B336_31 {h : sm_H} (x2 x3 : Int32) (x4 : Int64) : F_336 (I3 31) x2 x3 x4 h = (F_336_257 (I3 31) x2 x3 h) := by
  show F_336_0 (I3 31) x2 x3 x4 h = _
  unfold F_336_0
  rw [if_neg (show ¬ (I3 31 : Int32) = 0 by decide), if_neg (show ¬ (I3 31 : Int32) = 4 by decide), if_neg (show ¬ (I3 31 : Int32) = 5 by decide), if_neg (show ¬ (I3 31 : Int32) = 6 by decide), if_neg (show ¬ (I3 31 : Int32) = 7 by decide), if_neg (show ¬ (I3 31 : Int32) = 8 by decide), if_neg (show ¬ (I3 31 : Int32) = 9 by decide), if_neg (show ¬ (I3 31 : Int32) = 10 by decide), if_neg (show ¬ (I3 31 : Int32) = 11 by decide), if_neg (show ¬ (I3 31 : Int32) = 12 by decide), if_neg (show ¬ (I3 31 : Int32) = 13 by decide), if_neg (show ¬ (I3 31 : Int32) = 14 by decide), if_neg (show ¬ (I3 31 : Int32) = 15 by decide), if_neg (show ¬ (I3 31 : Int32) = 16 by decide), if_neg (show ¬ (I3 31 : Int32) = 17 by decide), if_neg (show ¬ (I3 31 : Int32) = 18 by decide), if_neg (show ¬ (I3 31 : Int32) = 20 by decide), if_neg (show ¬ (I3 31 : Int32) = 21 by decide), if_neg (show ¬ (I3 31 : Int32) = 22 by decide), if_neg (show ¬ (I3 31 : Int32) = 23 by decide), if_neg (show ¬ (I3 31 : Int32) = 24 by decide), if_neg (show ¬ (I3 31 : Int32) = 25 by decide), if_neg (show ¬ (I3 31 : Int32) = 26 by decide)]
theorem B336_32 {h : sm_H} (x2 x3 : Int32) (x4 : Int64) : F_336 (I3 32) x2 x3 x4 h = (F_336_257 (I3 32) x2 x3 h) := by
  show F_336_0 (I3 32) x2 x3 x4 h = _
  unfold F_336_0
  rw [if_neg (show ¬ (I3 32 : Int32) = 0 by decide), if_neg (show ¬ (I3 32 : Int32) = 4 by decide), if_neg (show ¬ (I3 32 : Int32) = 5 by decide), if_neg (show ¬ (I3 32 : Int32) = 6 by decide), if_neg (show ¬ (I3 32 : Int32) = 7 by decide), if_neg (show ¬ (I3 32 : Int32) = 8 by decide), if_neg (show ¬ (I3 32 : Int32) = 9 by decide), if_neg (show ¬ (I3 32 : Int32) = 10 by decide), if_neg (show ¬ (I3 32 : Int32) = 11 by decide), if_neg (show ¬ (I3 32 : Int32) = 12 by decide), if_neg (show ¬ (I3 32 : Int32) = 13 by decide), if_neg (show ¬ (I3 32 : Int32) = 14 by decide), if_neg (show ¬ (I3 32 : Int32) = 15 by decide), if_neg (show ¬ (I3 32 : Int32) = 16 by decide), if_neg (show ¬ (I3 32 : Int32) = 17 by decide), if_neg (show ¬ (I3 32 : Int32) = 18 by decide), if_neg (show ¬ (I3 32 : Int32) = 20 by decide), if_neg (show ¬ (I3 32 : Int32) = 21 by decide), if_neg (show ¬ (I3 32 : Int32) = 22 by decide), if_neg (show ¬ (I3 32 : Int32) = 23 by decide), if_neg (show ¬ (I3 32 : Int32) = 24 by decide), if_neg (show ¬ (I3 32 : Int32) = 25 by decide), if_neg (show ¬ (I3 32 : Int32) = 26 by decide)]
theorem B336_33 {h : sm_H} (x2 x3 : Int32) (x4 : Int64) : F_336 (I3 33) x2 x3 x4 h = (F_336_257 (I3 33) x2 x3 h) := by
  show F_336_0 (I3 33) x2 x3 x4 h = _
  unfold F_336_0
  rw [if_neg (show ¬ (I3 33 : Int32) = 0 by decide), if_neg (show ¬ (I3 33 : Int32) = 4 by decide), if_neg (show ¬ (I3 33 : Int32) = 5 by decide), if_neg (show ¬ (I3 33 : Int32) = 6 by decide), if_neg (show ¬ (I3 33 : Int32) = 7 by decide), if_neg (show ¬ (I3 33 : Int32) = 8 by decide), if_neg (show ¬ (I3 33 : Int32) = 9 by decide), if_neg (show ¬ (I3 33 : Int32) = 10 by decide), if_neg (show ¬ (I3 33 : Int32) = 11 by decide), if_neg (show ¬ (I3 33 : Int32) = 12 by decide), if_neg (show ¬ (I3 33 : Int32) = 13 by decide), if_neg (show ¬ (I3 33 : Int32) = 14 by decide), if_neg (show ¬ (I3 33 : Int32) = 15 by decide), if_neg (show ¬ (I3 33 : Int32) = 16 by decide), if_neg (show ¬ (I3 33 : Int32) = 17 by decide), if_neg (show ¬ (I3 33 : Int32) = 18 by decide), if_neg (show ¬ (I3 33 : Int32) = 20 by decide), if_neg (show ¬ (I3 33 : Int32) = 21 by decide), if_neg (show ¬ (I3 33 : Int32) = 22 by decide), if_neg (show ¬ (I3 33 : Int32) = 23 by decide), if_neg (show ¬ (I3 33 : Int32) = 24 by decide), if_neg (show ¬ (I3 33 : Int32) = 25 by decide), if_neg (show ¬ (I3 33 : Int32) = 26 by decide)]
theorem B336_34 {h : sm_H} (x2 x3 : Int32) (x4 : Int64) : F_336 (I3 34) x2 x3 x4 h = (F_336_257 (I3 34) x2 x3 h) := by
  show F_336_0 (I3 34) x2 x3 x4 h = _
  unfold F_336_0
  rw [if_neg (show ¬ (I3 34 : Int32) = 0 by decide), if_neg (show ¬ (I3 34 : Int32) = 4 by decide), if_neg (show ¬ (I3 34 : Int32) = 5 by decide), if_neg (show ¬ (I3 34 : Int32) = 6 by decide), if_neg (show ¬ (I3 34 : Int32) = 7 by decide), if_neg (show ¬ (I3 34 : Int32) = 8 by decide), if_neg (show ¬ (I3 34 : Int32) = 9 by decide), if_neg (show ¬ (I3 34 : Int32) = 10 by decide), if_neg (show ¬ (I3 34 : Int32) = 11 by decide), if_neg (show ¬ (I3 34 : Int32) = 12 by decide), if_neg (show ¬ (I3 34 : Int32) = 13 by decide), if_neg (show ¬ (I3 34 : Int32) = 14 by decide), if_neg (show ¬ (I3 34 : Int32) = 15 by decide), if_neg (show ¬ (I3 34 : Int32) = 16 by decide), if_neg (show ¬ (I3 34 : Int32) = 17 by decide), if_neg (show ¬ (I3 34 : Int32) = 18 by decide), if_neg (show ¬ (I3 34 : Int32) = 20 by decide), if_neg (show ¬ (I3 34 : Int32) = 21 by decide), if_neg (show ¬ (I3 34 : Int32) = 22 by decide), if_neg (show ¬ (I3 34 : Int32) = 23 by decide), if_neg (show ¬ (I3 34 : Int32) = 24 by decide), if_neg (show ¬ (I3 34 : Int32) = 25 by decide), if_neg (show ¬ (I3 34 : Int32) = 26 by decide)]
theorem B335_1 {h : sm_H} (y2 y3 z0 : Int32) : F_335_12 (I3 1) y2 y3 z0 h = (if (h.1 67 3) = 1 then ((F_314 0 1 h).bind fun q13 =>
  if q13.1 = 0 then (F_335_177 q13.2)
  else ((F_308 18 q13.2).bind fun q14 =>
  some (0, q14)))
  else (F_335_177 h)) := by
  unfold F_335_12
  rw [if_pos (show (I3 1 : Int32) = 1 by decide)]
theorem B335_2 {h : sm_H} (y2 y3 z0 : Int32) : F_335_12 (I3 2) y2 y3 z0 h = (if z0 = 0 then (F_335_204 h)
  else ((F_289 y2 h).bind fun q15 =>
  if q15.1 = 0 then (F_335_204 q15.2)
  else (if y2 = 0 then (F_335_204 q15.2)
  else ((F_308 y2 q15.2).bind fun q16 =>
  (F_309 y2 q16).bind fun q17 =>
  some (0, q17))))) := by
  unfold F_335_12
  rw [if_neg (show ¬ (I3 2 : Int32) = 1 by decide), if_pos (show (I3 2 : Int32) = 2 by decide)]
theorem B335_3 {h : sm_H} (y2 y3 z0 : Int32) : F_335_12 (I3 3) y2 y3 z0 h = (if z0 = 0 then (F_335_246 h)
  else ((F_315 (Int32.toInt64 y2) 0 12 h).bind fun q18 =>
  if q18.1 = 0 then (if y3 = 5 then (F_335_248 y2 y3 q18.2)
  else (if y3 = 6 then (F_335_248 y2 y3 q18.2)
  else (F_335_246 q18.2)))
  else (F_335_246 q18.2))) := by
  unfold F_335_12
  rw [if_neg (show ¬ (I3 3 : Int32) = 1 by decide), if_neg (show ¬ (I3 3 : Int32) = 2 by decide), if_pos (show (I3 3 : Int32) = 3 by decide)]
theorem B335_19 {h : sm_H} (y2 y3 z0 : Int32) : F_335_12 (I3 19) y2 y3 z0 h = (if z0 = 0 then (F_335_306 h)
  else ((F_289 y2 h).bind fun q19 =>
  if q19.1 = 0 then (F_335_306 q19.2)
  else ((F_289 y3 q19.2).bind fun q20 =>
  if q20.1 = 0 then (F_335_306 q20.2)
  else ((F_295 y3 19 q20.2).bind fun q21 =>
  if q21.1 = 0 then (F_335_306 q21.2)
  else ((F_308 y2 q21.2).bind fun q22 =>
  (F_309 y3 q22).bind fun q23 =>
  some (0, q23)))))) := by
  unfold F_335_12
  rw [if_neg (show ¬ (I3 19 : Int32) = 1 by decide), if_neg (show ¬ (I3 19 : Int32) = 2 by decide), if_neg (show ¬ (I3 19 : Int32) = 3 by decide), if_pos (show (I3 19 : Int32) = 19 by decide)]
theorem B335_27 {h : sm_H} (y2 y3 z0 : Int32) : F_335_12 (I3 27) y2 y3 z0 h = (F_335_320 y3 z0 h) := by
  unfold F_335_12
  rw [if_neg (show ¬ (I3 27 : Int32) = 1 by decide), if_neg (show ¬ (I3 27 : Int32) = 2 by decide), if_neg (show ¬ (I3 27 : Int32) = 3 by decide), if_neg (show ¬ (I3 27 : Int32) = 19 by decide), if_pos (show (I3 27 : Int32) = 27 by decide)]
theorem B335_28 {h : sm_H} (y2 y3 z0 : Int32) : F_335_12 (I3 28) y2 y3 z0 h = (F_335_320 y3 z0 h) := by
  unfold F_335_12
  rw [if_neg (show ¬ (I3 28 : Int32) = 1 by decide), if_neg (show ¬ (I3 28 : Int32) = 2 by decide), if_neg (show ¬ (I3 28 : Int32) = 3 by decide), if_neg (show ¬ (I3 28 : Int32) = 19 by decide), if_neg (show ¬ (I3 28 : Int32) = 27 by decide), if_pos (show (I3 28 : Int32) = 28 by decide)]
theorem B335_29 {h : sm_H} (y2 y3 z0 : Int32) : F_335_12 (I3 29) y2 y3 z0 h = (if z0 = 0 then (F_335_379 h)
  else ((F_315 (Int32.toInt64 y2) 0 (Int32.toInt64 ((h.1 67 35) - 1)) h).bind fun q24 =>
  if q24.1 = 0 then ((ldI q24.2 92 80 y2).bind fun v25 =>
  (F_307 v25 q24.2).bind fun q26 =>
  (F_308 q26.1 q26.2).bind fun q27 =>
  (ldI q27 92 80 y2).bind fun v28 =>
  (ldI q27 92 80 y2).bind fun v29 =>
  (F_305 v29 q27).bind fun q30 =>
  (F_310 v28 0 q30.1 q30.2).bind fun q31 =>
  some (0, q31))
  else (F_335_379 q24.2))) := by
  unfold F_335_12
  rw [if_neg (show ¬ (I3 29 : Int32) = 1 by decide), if_neg (show ¬ (I3 29 : Int32) = 2 by decide), if_neg (show ¬ (I3 29 : Int32) = 3 by decide), if_neg (show ¬ (I3 29 : Int32) = 19 by decide), if_neg (show ¬ (I3 29 : Int32) = 27 by decide), if_neg (show ¬ (I3 29 : Int32) = 28 by decide), if_pos (show (I3 29 : Int32) = 29 by decide)]
theorem B335_30 {h : sm_H} (y2 y3 z0 : Int32) : F_335_12 (I3 30) y2 y3 z0 h = (if (h.1 67 3) = 2 then ((F_314 0 2 h).bind fun q32 =>
  if q32.1 = 0 then (F_335_451 q32.2)
  else ((F_315 (Int32.toInt64 y2) 0 (Int32.toInt64 ((q32.2.1 67 37) - 1)) q32.2).bind fun q33 =>
  if q33.1 = 0 then ((ldI q33.2 69 24 0).bind fun v34 =>
  (ldI q33.2 76 500 v34).bind fun v35 =>
  (ldI q33.2 69 24 1).bind fun v36 =>
  (ldI q33.2 76 500 v36).bind fun v37 =>
  if v35 = v37 then ((ldI q33.2 69 24 0).bind fun v38 =>
  (F_307 v38 q33.2).bind fun q39 =>
  (F_308 q39.1 q39.2).bind fun q40 =>
  (ldI q40 69 24 0).bind fun v41 =>
  (ldI q40 69 24 0).bind fun v42 =>
  (F_305 v42 q40).bind fun q43 =>
  (F_310 v41 0 q43.1 q43.2).bind fun q44 =>
  some (0, q44))
  else (some (3, q33.2)))
  else (F_335_451 q33.2)))
  else (F_335_451 h)) := by
  unfold F_335_12
  rw [if_neg (show ¬ (I3 30 : Int32) = 1 by decide), if_neg (show ¬ (I3 30 : Int32) = 2 by decide), if_neg (show ¬ (I3 30 : Int32) = 3 by decide), if_neg (show ¬ (I3 30 : Int32) = 19 by decide), if_neg (show ¬ (I3 30 : Int32) = 27 by decide), if_neg (show ¬ (I3 30 : Int32) = 28 by decide), if_neg (show ¬ (I3 30 : Int32) = 29 by decide), if_pos (show (I3 30 : Int32) = 30 by decide)]
theorem B335_31 {h : sm_H} (y2 y3 z0 : Int32) : F_335_12 (I3 31) y2 y3 z0 h = (if z0 = 0 then (F_335_537 h)
  else ((F_289 y2 h).bind fun q45 =>
  if q45.1 = 0 then (F_335_537 q45.2)
  else ((F_291 y2 q45.2).bind fun q46 =>
  if q46.1 = 0 then (F_335_537 q46.2)
  else ((F_308 1 q46.2).bind fun q47 =>
  (F_309 7 q47).bind fun q48 =>
  some (0, q48))))) := by
  unfold F_335_12
  rw [if_neg (show ¬ (I3 31 : Int32) = 1 by decide), if_neg (show ¬ (I3 31 : Int32) = 2 by decide), if_neg (show ¬ (I3 31 : Int32) = 3 by decide), if_neg (show ¬ (I3 31 : Int32) = 19 by decide), if_neg (show ¬ (I3 31 : Int32) = 27 by decide), if_neg (show ¬ (I3 31 : Int32) = 28 by decide), if_neg (show ¬ (I3 31 : Int32) = 29 by decide), if_neg (show ¬ (I3 31 : Int32) = 30 by decide), if_pos (show (I3 31 : Int32) = 31 by decide)]
theorem B335_32 {h : sm_H} (y2 y3 z0 : Int32) : F_335_12 (I3 32) y2 y3 z0 h = (if z0 = 0 then (some (1, h))
  else ((F_308 1 h).bind fun q49 =>
  (F_309 7 q49).bind fun q50 =>
  (F_309 7 q50).bind fun q51 =>
  some (0, q51))) := by
  unfold F_335_12
  rw [if_neg (show ¬ (I3 32 : Int32) = 1 by decide), if_neg (show ¬ (I3 32 : Int32) = 2 by decide), if_neg (show ¬ (I3 32 : Int32) = 3 by decide), if_neg (show ¬ (I3 32 : Int32) = 19 by decide), if_neg (show ¬ (I3 32 : Int32) = 27 by decide), if_neg (show ¬ (I3 32 : Int32) = 28 by decide), if_neg (show ¬ (I3 32 : Int32) = 29 by decide), if_neg (show ¬ (I3 32 : Int32) = 30 by decide), if_neg (show ¬ (I3 32 : Int32) = 31 by decide), if_pos (show (I3 32 : Int32) = 32 by decide)]
theorem B335_33 {h : sm_H} (y2 y3 z0 : Int32) : F_335_12 (I3 33) y2 y3 z0 h = (if z0 = 0 then (some (1, h))
  else ((F_308 5 h).bind fun q52 =>
  (F_309 19 q52).bind fun q53 =>
  some (0, q53))) := by
  unfold F_335_12
  rw [if_neg (show ¬ (I3 33 : Int32) = 1 by decide), if_neg (show ¬ (I3 33 : Int32) = 2 by decide), if_neg (show ¬ (I3 33 : Int32) = 3 by decide), if_neg (show ¬ (I3 33 : Int32) = 19 by decide), if_neg (show ¬ (I3 33 : Int32) = 27 by decide), if_neg (show ¬ (I3 33 : Int32) = 28 by decide), if_neg (show ¬ (I3 33 : Int32) = 29 by decide), if_neg (show ¬ (I3 33 : Int32) = 30 by decide), if_neg (show ¬ (I3 33 : Int32) = 31 by decide), if_neg (show ¬ (I3 33 : Int32) = 32 by decide), if_pos (show (I3 33 : Int32) = 33 by decide)]
theorem B335_34 {h : sm_H} (y2 y3 z0 : Int32) : F_335_12 (I3 34) y2 y3 z0 h = (F_335_598 y3 z0 h) := by
  unfold F_335_12
  rw [if_neg (show ¬ (I3 34 : Int32) = 1 by decide), if_neg (show ¬ (I3 34 : Int32) = 2 by decide), if_neg (show ¬ (I3 34 : Int32) = 3 by decide), if_neg (show ¬ (I3 34 : Int32) = 19 by decide), if_neg (show ¬ (I3 34 : Int32) = 27 by decide), if_neg (show ¬ (I3 34 : Int32) = 28 by decide), if_neg (show ¬ (I3 34 : Int32) = 29 by decide), if_neg (show ¬ (I3 34 : Int32) = 30 by decide), if_neg (show ¬ (I3 34 : Int32) = 31 by decide), if_neg (show ¬ (I3 34 : Int32) = 32 by decide), if_neg (show ¬ (I3 34 : Int32) = 33 by decide)]
