theorem B82_0 {rec : Int32 → Int32 → sm_H → Option (Int32 × sm_H)} {x1 x2 : Int32} {h h1 : sm_H} (l : x2 < 100) (f : h.1 49 8 < h.1 49 7) (e : sm_wI h 49 8 (h.1 49 8 + 1) = h1) (e37 : F_37 x1 h1 = some (I3 0, h1)) : F_82R rec x1 x2 h = (F_82_367 rec  x1 x2 h1) := by
  show F_82_0 rec x1 x2 h = _
  unfold F_82_0
  rw [if_pos l, if_pos f]; simp only [obs]
  rw [e, e37]; simp only [obs]
  rw [if_neg (show ¬ (I3 0 : Int32) = 4 by decide), if_neg (show ¬ (I3 0 : Int32) = 5 by decide), if_neg (show ¬ (I3 0 : Int32) = 6 by decide), if_neg (show ¬ (I3 0 : Int32) = 7 by decide), if_neg (show ¬ (I3 0 : Int32) = 8 by decide), if_neg (show ¬ (I3 0 : Int32) = 9 by decide), if_neg (show ¬ (I3 0 : Int32) = 10 by decide), if_neg (show ¬ (I3 0 : Int32) = 11 by decide), if_neg (show ¬ (I3 0 : Int32) = 12 by decide), if_neg (show ¬ (I3 0 : Int32) = 13 by decide), if_neg (show ¬ (I3 0 : Int32) = 14 by decide), if_neg (show ¬ (I3 0 : Int32) = 15 by decide), if_neg (show ¬ (I3 0 : Int32) = 16 by decide), if_neg (show ¬ (I3 0 : Int32) = 17 by decide), if_neg (show ¬ (I3 0 : Int32) = 18 by decide), if_neg (show ¬ (I3 0 : Int32) = 27 by decide), if_neg (show ¬ (I3 0 : Int32) = 28 by decide), if_neg (show ¬ (I3 0 : Int32) = 29 by decide), if_neg (show ¬ (I3 0 : Int32) = 30 by decide), if_neg (show ¬ (I3 0 : Int32) = 36 by decide), if_neg (show ¬ (I3 0 : Int32) = 37 by decide), if_neg (show ¬ (I3 0 : Int32) = 38 by decide)]
theorem B82_1 {rec : Int32 → Int32 → sm_H → Option (Int32 × sm_H)} {x1 x2 : Int32} {h h1 : sm_H} (l : x2 < 100) (f : h.1 49 8 < h.1 49 7) (e : sm_wI h 49 8 (h.1 49 8 + 1) = h1) (e37 : F_37 x1 h1 = some (I3 1, h1)) : F_82R rec x1 x2 h = (F_82_367 rec  x1 x2 h1) := by
  show F_82_0 rec x1 x2 h = _
  unfold F_82_0
  rw [if_pos l, if_pos f]; simp only [obs]
  rw [e, e37]; simp only [obs]
  rw [if_neg (show ¬ (I3 1 : Int32) = 4 by decide), if_neg (show ¬ (I3 1 : Int32) = 5 by decide), if_neg (show ¬ (I3 1 : Int32) = 6 by decide), if_neg (show ¬ (I3 1 : Int32) = 7 by decide), if_neg (show ¬ (I3 1 : Int32) = 8 by decide), if_neg (show ¬ (I3 1 : Int32) = 9 by decide), if_neg (show ¬ (I3 1 : Int32) = 10 by decide), if_neg (show ¬ (I3 1 : Int32) = 11 by decide), if_neg (show ¬ (I3 1 : Int32) = 12 by decide), if_neg (show ¬ (I3 1 : Int32) = 13 by decide), if_neg (show ¬ (I3 1 : Int32) = 14 by decide), if_neg (show ¬ (I3 1 : Int32) = 15 by decide), if_neg (show ¬ (I3 1 : Int32) = 16 by decide), if_neg (show ¬ (I3 1 : Int32) = 17 by decide), if_neg (show ¬ (I3 1 : Int32) = 18 by decide), if_neg (show ¬ (I3 1 : Int32) = 27 by decide), if_neg (show ¬ (I3 1 : Int32) = 28 by decide), if_neg (show ¬ (I3 1 : Int32) = 29 by decide), if_neg (show ¬ (I3 1 : Int32) = 30 by decide), if_neg (show ¬ (I3 1 : Int32) = 36 by decide), if_neg (show ¬ (I3 1 : Int32) = 37 by decide), if_neg (show ¬ (I3 1 : Int32) = 38 by decide)]
theorem B82_2 {rec : Int32 → Int32 → sm_H → Option (Int32 × sm_H)} {x1 x2 : Int32} {h h1 : sm_H} (l : x2 < 100) (f : h.1 49 8 < h.1 49 7) (e : sm_wI h 49 8 (h.1 49 8 + 1) = h1) (e37 : F_37 x1 h1 = some (I3 2, h1)) : F_82R rec x1 x2 h = (F_82_367 rec  x1 x2 h1) := by
  show F_82_0 rec x1 x2 h = _
  unfold F_82_0
  rw [if_pos l, if_pos f]; simp only [obs]
  rw [e, e37]; simp only [obs]
  rw [if_neg (show ¬ (I3 2 : Int32) = 4 by decide), if_neg (show ¬ (I3 2 : Int32) = 5 by decide), if_neg (show ¬ (I3 2 : Int32) = 6 by decide), if_neg (show ¬ (I3 2 : Int32) = 7 by decide), if_neg (show ¬ (I3 2 : Int32) = 8 by decide), if_neg (show ¬ (I3 2 : Int32) = 9 by decide), if_neg (show ¬ (I3 2 : Int32) = 10 by decide), if_neg (show ¬ (I3 2 : Int32) = 11 by decide), if_neg (show ¬ (I3 2 : Int32) = 12 by decide), if_neg (show ¬ (I3 2 : Int32) = 13 by decide), if_neg (show ¬ (I3 2 : Int32) = 14 by decide), if_neg (show ¬ (I3 2 : Int32) = 15 by decide), if_neg (show ¬ (I3 2 : Int32) = 16 by decide), if_neg (show ¬ (I3 2 : Int32) = 17 by decide), if_neg (show ¬ (I3 2 : Int32) = 18 by decide), if_neg (show ¬ (I3 2 : Int32) = 27 by decide), if_neg (show ¬ (I3 2 : Int32) = 28 by decide), if_neg (show ¬ (I3 2 : Int32) = 29 by decide), if_neg (show ¬ (I3 2 : Int32) = 30 by decide), if_neg (show ¬ (I3 2 : Int32) = 36 by decide), if_neg (show ¬ (I3 2 : Int32) = 37 by decide), if_neg (show ¬ (I3 2 : Int32) = 38 by decide)]
theorem B82_3 {rec : Int32 → Int32 → sm_H → Option (Int32 × sm_H)} {x1 x2 : Int32} {h h1 : sm_H} (l : x2 < 100) (f : h.1 49 8 < h.1 49 7) (e : sm_wI h 49 8 (h.1 49 8 + 1) = h1) (e37 : F_37 x1 h1 = some (I3 3, h1)) : F_82R rec x1 x2 h = (F_82_367 rec  x1 x2 h1) := by
  show F_82_0 rec x1 x2 h = _
  unfold F_82_0
  rw [if_pos l, if_pos f]; simp only [obs]
  rw [e, e37]; simp only [obs]
  rw [if_neg (show ¬ (I3 3 : Int32) = 4 by decide), if_neg (show ¬ (I3 3 : Int32) = 5 by decide), if_neg (show ¬ (I3 3 : Int32) = 6 by decide), if_neg (show ¬ (I3 3 : Int32) = 7 by decide), if_neg (show ¬ (I3 3 : Int32) = 8 by decide), if_neg (show ¬ (I3 3 : Int32) = 9 by decide), if_neg (show ¬ (I3 3 : Int32) = 10 by decide), if_neg (show ¬ (I3 3 : Int32) = 11 by decide), if_neg (show ¬ (I3 3 : Int32) = 12 by decide), if_neg (show ¬ (I3 3 : Int32) = 13 by decide), if_neg (show ¬ (I3 3 : Int32) = 14 by decide), if_neg (show ¬ (I3 3 : Int32) = 15 by decide), if_neg (show ¬ (I3 3 : Int32) = 16 by decide), if_neg (show ¬ (I3 3 : Int32) = 17 by decide), if_neg (show ¬ (I3 3 : Int32) = 18 by decide), if_neg (show ¬ (I3 3 : Int32) = 27 by decide), if_neg (show ¬ (I3 3 : Int32) = 28 by decide), if_neg (show ¬ (I3 3 : Int32) = 29 by decide), if_neg (show ¬ (I3 3 : Int32) = 30 by decide), if_neg (show ¬ (I3 3 : Int32) = 36 by decide), if_neg (show ¬ (I3 3 : Int32) = 37 by decide), if_neg (show ¬ (I3 3 : Int32) = 38 by decide)]
theorem B82_4 {rec : Int32 → Int32 → sm_H → Option (Int32 × sm_H)} {x1 x2 : Int32} {h h1 : sm_H} (l : x2 < 100) (f : h.1 49 8 < h.1 49 7) (e : sm_wI h 49 8 (h.1 49 8 + 1) = h1) (e37 : F_37 x1 h1 = some (I3 4, h1)) : F_82R rec x1 x2 h = (F_82_192 rec  x1 x2 h1) := by
  show F_82_0 rec x1 x2 h = _
  unfold F_82_0
  rw [if_pos l, if_pos f]; simp only [obs]
  rw [e, e37]; simp only [obs]
  rw [if_pos (show (I3 4 : Int32) = 4 by decide)]
theorem B82_5 {rec : Int32 → Int32 → sm_H → Option (Int32 × sm_H)} {x1 x2 : Int32} {h h1 : sm_H} (l : x2 < 100) (f : h.1 49 8 < h.1 49 7) (e : sm_wI h 49 8 (h.1 49 8 + 1) = h1) (e37 : F_37 x1 h1 = some (I3 5, h1)) : F_82R rec x1 x2 h = (F_82_192 rec  x1 x2 h1) := by
  show F_82_0 rec x1 x2 h = _
  unfold F_82_0
  rw [if_pos l, if_pos f]; simp only [obs]
  rw [e, e37]; simp only [obs]
  rw [if_neg (show ¬ (I3 5 : Int32) = 4 by decide), if_pos (show (I3 5 : Int32) = 5 by decide)]
theorem B82_6 {rec : Int32 → Int32 → sm_H → Option (Int32 × sm_H)} {x1 x2 : Int32} {h h1 : sm_H} (l : x2 < 100) (f : h.1 49 8 < h.1 49 7) (e : sm_wI h 49 8 (h.1 49 8 + 1) = h1) (e37 : F_37 x1 h1 = some (I3 6, h1)) : F_82R rec x1 x2 h = (F_82_192 rec  x1 x2 h1) := by
  show F_82_0 rec x1 x2 h = _
  unfold F_82_0
  rw [if_pos l, if_pos f]; simp only [obs]
  rw [e, e37]; simp only [obs]
  rw [if_neg (show ¬ (I3 6 : Int32) = 4 by decide), if_neg (show ¬ (I3 6 : Int32) = 5 by decide), if_pos (show (I3 6 : Int32) = 6 by decide)]
theorem B82_7 {rec : Int32 → Int32 → sm_H → Option (Int32 × sm_H)} {x1 x2 : Int32} {h h1 : sm_H} (l : x2 < 100) (f : h.1 49 8 < h.1 49 7) (e : sm_wI h 49 8 (h.1 49 8 + 1) = h1) (e37 : F_37 x1 h1 = some (I3 7, h1)) : F_82R rec x1 x2 h = (F_82_199 rec  x1 x2 h1) := by
  show F_82_0 rec x1 x2 h = _
  unfold F_82_0
  rw [if_pos l, if_pos f]; simp only [obs]
  rw [e, e37]; simp only [obs]
  rw [if_neg (show ¬ (I3 7 : Int32) = 4 by decide), if_neg (show ¬ (I3 7 : Int32) = 5 by decide), if_neg (show ¬ (I3 7 : Int32) = 6 by decide), if_pos (show (I3 7 : Int32) = 7 by decide)]
theorem B82_8 {rec : Int32 → Int32 → sm_H → Option (Int32 × sm_H)} {x1 x2 : Int32} {h h1 : sm_H} (l : x2 < 100) (f : h.1 49 8 < h.1 49 7) (e : sm_wI h 49 8 (h.1 49 8 + 1) = h1) (e37 : F_37 x1 h1 = some (I3 8, h1)) : F_82R rec x1 x2 h = (F_82_199 rec  x1 x2 h1) := by
  show F_82_0 rec x1 x2 h = _
  unfold F_82_0
  rw [if_pos l, if_pos f]; simp only [obs]
  rw [e, e37]; simp only [obs]
  rw [if_neg (show ¬ (I3 8 : Int32) = 4 by decide), if_neg (show ¬ (I3 8 : Int32) = 5 by decide), if_neg (show ¬ (I3 8 : Int32) = 6 by decide), if_neg (show ¬ (I3 8 : Int32) = 7 by decide), if_pos (show (I3 8 : Int32) = 8 by decide)]
theorem B82_9 {rec : Int32 → Int32 → sm_H → Option (Int32 × sm_H)} {x1 x2 : Int32} {h h1 : sm_H} (l : x2 < 100) (f : h.1 49 8 < h.1 49 7) (e : sm_wI h 49 8 (h.1 49 8 + 1) = h1) (e37 : F_37 x1 h1 = some (I3 9, h1)) : F_82R rec x1 x2 h = ((F_86 rec x1 x2 h1).bind fun q15 =>
  some (q15.1, q15.2)) := by
  show F_82_0 rec x1 x2 h = _
  unfold F_82_0
  rw [if_pos l, if_pos f]; simp only [obs]
  rw [e, e37]; simp only [obs]
  rw [if_neg (show ¬ (I3 9 : Int32) = 4 by decide), if_neg (show ¬ (I3 9 : Int32) = 5 by decide), if_neg (show ¬ (I3 9 : Int32) = 6 by decide), if_neg (show ¬ (I3 9 : Int32) = 7 by decide), if_neg (show ¬ (I3 9 : Int32) = 8 by decide), if_pos (show (I3 9 : Int32) = 9 by decide)]
theorem B82_10 {rec : Int32 → Int32 → sm_H → Option (Int32 × sm_H)} {x1 x2 : Int32} {h h1 : sm_H} (l : x2 < 100) (f : h.1 49 8 < h.1 49 7) (e : sm_wI h 49 8 (h.1 49 8 + 1) = h1) (e37 : F_37 x1 h1 = some (I3 10, h1)) : F_82R rec x1 x2 h = ((F_87 rec x1 x2 h1).bind fun q16 =>
  some (q16.1, q16.2)) := by
  show F_82_0 rec x1 x2 h = _
  unfold F_82_0
  rw [if_pos l, if_pos f]; simp only [obs]
  rw [e, e37]; simp only [obs]
  rw [if_neg (show ¬ (I3 10 : Int32) = 4 by decide), if_neg (show ¬ (I3 10 : Int32) = 5 by decide), if_neg (show ¬ (I3 10 : Int32) = 6 by decide), if_neg (show ¬ (I3 10 : Int32) = 7 by decide), if_neg (show ¬ (I3 10 : Int32) = 8 by decide), if_neg (show ¬ (I3 10 : Int32) = 9 by decide), if_pos (show (I3 10 : Int32) = 10 by decide)]
theorem B82_11 {rec : Int32 → Int32 → sm_H → Option (Int32 × sm_H)} {x1 x2 : Int32} {h h1 : sm_H} (l : x2 < 100) (f : h.1 49 8 < h.1 49 7) (e : sm_wI h 49 8 (h.1 49 8 + 1) = h1) (e37 : F_37 x1 h1 = some (I3 11, h1)) : F_82R rec x1 x2 h = ((F_88 rec x1 x2 h1).bind fun q17 =>
  some (q17.1, q17.2)) := by
  show F_82_0 rec x1 x2 h = _
  unfold F_82_0
  rw [if_pos l, if_pos f]; simp only [obs]
  rw [e, e37]; simp only [obs]
  rw [if_neg (show ¬ (I3 11 : Int32) = 4 by decide), if_neg (show ¬ (I3 11 : Int32) = 5 by decide), if_neg (show ¬ (I3 11 : Int32) = 6 by decide), if_neg (show ¬ (I3 11 : Int32) = 7 by decide), if_neg (show ¬ (I3 11 : Int32) = 8 by decide), if_neg (show ¬ (I3 11 : Int32) = 9 by decide), if_neg (show ¬ (I3 11 : Int32) = 10 by decide), if_pos (show (I3 11 : Int32) = 11 by decide)]
theorem B82_12 {rec : Int32 → Int32 → sm_H → Option (Int32 × sm_H)} {x1 x2 : Int32} {h h1 : sm_H} (l : x2 < 100) (f : h.1 49 8 < h.1 49 7) (e : sm_wI h 49 8 (h.1 49 8 + 1) = h1) (e37 : F_37 x1 h1 = some (I3 12, h1)) : F_82R rec x1 x2 h = (F_82_227 rec  x1 x2 h1) := by
  show F_82_0 rec x1 x2 h = _
  unfold F_82_0
  rw [if_pos l, if_pos f]; simp only [obs]
  rw [e, e37]; simp only [obs]
  rw [if_neg (show ¬ (I3 12 : Int32) = 4 by decide), if_neg (show ¬ (I3 12 : Int32) = 5 by decide), if_neg (show ¬ (I3 12 : Int32) = 6 by decide), if_neg (show ¬ (I3 12 : Int32) = 7 by decide), if_neg (show ¬ (I3 12 : Int32) = 8 by decide), if_neg (show ¬ (I3 12 : Int32) = 9 by decide), if_neg (show ¬ (I3 12 : Int32) = 10 by decide), if_neg (show ¬ (I3 12 : Int32) = 11 by decide), if_pos (show (I3 12 : Int32) = 12 by decide)]
theorem B82_13 {rec : Int32 → Int32 → sm_H → Option (Int32 × sm_H)} {x1 x2 : Int32} {h h1 : sm_H} (l : x2 < 100) (f : h.1 49 8 < h.1 49 7) (e : sm_wI h 49 8 (h.1 49 8 + 1) = h1) (e37 : F_37 x1 h1 = some (I3 13, h1)) : F_82R rec x1 x2 h = (F_82_227 rec  x1 x2 h1) := by
  show F_82_0 rec x1 x2 h = _
  unfold F_82_0
  rw [if_pos l, if_pos f]; simp only [obs]
  rw [e, e37]; simp only [obs]
  rw [if_neg (show ¬ (I3 13 : Int32) = 4 by decide), if_neg (show ¬ (I3 13 : Int32) = 5 by decide), if_neg (show ¬ (I3 13 : Int32) = 6 by decide), if_neg (show ¬ (I3 13 : Int32) = 7 by decide), if_neg (show ¬ (I3 13 : Int32) = 8 by decide), if_neg (show ¬ (I3 13 : Int32) = 9 by decide), if_neg (show ¬ (I3 13 : Int32) = 10 by decide), if_neg (show ¬ (I3 13 : Int32) = 11 by decide), if_neg (show ¬ (I3 13 : Int32) = 12 by decide), if_pos (show (I3 13 : Int32) = 13 by decide)]
theorem B82_14 {rec : Int32 → Int32 → sm_H → Option (Int32 × sm_H)} {x1 x2 : Int32} {h h1 : sm_H} (l : x2 < 100) (f : h.1 49 8 < h.1 49 7) (e : sm_wI h 49 8 (h.1 49 8 + 1) = h1) (e37 : F_37 x1 h1 = some (I3 14, h1)) : F_82R rec x1 x2 h = ((F_92 rec x1 x2 h1).bind fun q18 =>
  some (q18.1, q18.2)) := by
  show F_82_0 rec x1 x2 h = _
  unfold F_82_0
  rw [if_pos l, if_pos f]; simp only [obs]
  rw [e, e37]; simp only [obs]
  rw [if_neg (show ¬ (I3 14 : Int32) = 4 by decide), if_neg (show ¬ (I3 14 : Int32) = 5 by decide), if_neg (show ¬ (I3 14 : Int32) = 6 by decide), if_neg (show ¬ (I3 14 : Int32) = 7 by decide), if_neg (show ¬ (I3 14 : Int32) = 8 by decide), if_neg (show ¬ (I3 14 : Int32) = 9 by decide), if_neg (show ¬ (I3 14 : Int32) = 10 by decide), if_neg (show ¬ (I3 14 : Int32) = 11 by decide), if_neg (show ¬ (I3 14 : Int32) = 12 by decide), if_neg (show ¬ (I3 14 : Int32) = 13 by decide), if_pos (show (I3 14 : Int32) = 14 by decide)]
theorem B82_15 {rec : Int32 → Int32 → sm_H → Option (Int32 × sm_H)} {x1 x2 : Int32} {h h1 : sm_H} (l : x2 < 100) (f : h.1 49 8 < h.1 49 7) (e : sm_wI h 49 8 (h.1 49 8 + 1) = h1) (e37 : F_37 x1 h1 = some (I3 15, h1)) : F_82R rec x1 x2 h = ((F_93 rec x1 x2 h1).bind fun q19 =>
  some (q19.1, q19.2)) := by
  show F_82_0 rec x1 x2 h = _
  unfold F_82_0
  rw [if_pos l, if_pos f]; simp only [obs]
  rw [e, e37]; simp only [obs]
  rw [if_neg (show ¬ (I3 15 : Int32) = 4 by decide), if_neg (show ¬ (I3 15 : Int32) = 5 by decide), if_neg (show ¬ (I3 15 : Int32) = 6 by decide), if_neg (show ¬ (I3 15 : Int32) = 7 by decide), if_neg (show ¬ (I3 15 : Int32) = 8 by decide), if_neg (show ¬ (I3 15 : Int32) = 9 by decide), if_neg (show ¬ (I3 15 : Int32) = 10 by decide), if_neg (show ¬ (I3 15 : Int32) = 11 by decide), if_neg (show ¬ (I3 15 : Int32) = 12 by decide), if_neg (show ¬ (I3 15 : Int32) = 13 by decide), if_neg (show ¬ (I3 15 : Int32) = 14 by decide), if_pos (show (I3 15 : Int32) = 15 by decide)]
theorem B82_16 {rec : Int32 → Int32 → sm_H → Option (Int32 × sm_H)} {x1 x2 : Int32} {h h1 : sm_H} (l : x2 < 100) (f : h.1 49 8 < h.1 49 7) (e : sm_wI h 49 8 (h.1 49 8 + 1) = h1) (e37 : F_37 x1 h1 = some (I3 16, h1)) : F_82R rec x1 x2 h = ((F_94 rec x1 x2 h1).bind fun q20 =>
  some (q20.1, q20.2)) := by
  show F_82_0 rec x1 x2 h = _
  unfold F_82_0
  rw [if_pos l, if_pos f]; simp only [obs]
  rw [e, e37]; simp only [obs]
  rw [if_neg (show ¬ (I3 16 : Int32) = 4 by decide), if_neg (show ¬ (I3 16 : Int32) = 5 by decide), if_neg (show ¬ (I3 16 : Int32) = 6 by decide), if_neg (show ¬ (I3 16 : Int32) = 7 by decide), if_neg (show ¬ (I3 16 : Int32) = 8 by decide), if_neg (show ¬ (I3 16 : Int32) = 9 by decide), if_neg (show ¬ (I3 16 : Int32) = 10 by decide), if_neg (show ¬ (I3 16 : Int32) = 11 by decide), if_neg (show ¬ (I3 16 : Int32) = 12 by decide), if_neg (show ¬ (I3 16 : Int32) = 13 by decide), if_neg (show ¬ (I3 16 : Int32) = 14 by decide), if_neg (show ¬ (I3 16 : Int32) = 15 by decide), if_pos (show (I3 16 : Int32) = 16 by decide)]
theorem B82_17 {rec : Int32 → Int32 → sm_H → Option (Int32 × sm_H)} {x1 x2 : Int32} {h h1 : sm_H} (l : x2 < 100) (f : h.1 49 8 < h.1 49 7) (e : sm_wI h 49 8 (h.1 49 8 + 1) = h1) (e37 : F_37 x1 h1 = some (I3 17, h1)) : F_82R rec x1 x2 h = (F_82_192 rec  x1 x2 h1) := by
  show F_82_0 rec x1 x2 h = _
  unfold F_82_0
  rw [if_pos l, if_pos f]; simp only [obs]
  rw [e, e37]; simp only [obs]
  rw [if_neg (show ¬ (I3 17 : Int32) = 4 by decide), if_neg (show ¬ (I3 17 : Int32) = 5 by decide), if_neg (show ¬ (I3 17 : Int32) = 6 by decide), if_neg (show ¬ (I3 17 : Int32) = 7 by decide), if_neg (show ¬ (I3 17 : Int32) = 8 by decide), if_neg (show ¬ (I3 17 : Int32) = 9 by decide), if_neg (show ¬ (I3 17 : Int32) = 10 by decide), if_neg (show ¬ (I3 17 : Int32) = 11 by decide), if_neg (show ¬ (I3 17 : Int32) = 12 by decide), if_neg (show ¬ (I3 17 : Int32) = 13 by decide), if_neg (show ¬ (I3 17 : Int32) = 14 by decide), if_neg (show ¬ (I3 17 : Int32) = 15 by decide), if_neg (show ¬ (I3 17 : Int32) = 16 by decide), if_pos (show (I3 17 : Int32) = 17 by decide)]
theorem B82_18 {rec : Int32 → Int32 → sm_H → Option (Int32 × sm_H)} {x1 x2 : Int32} {h h1 : sm_H} (l : x2 < 100) (f : h.1 49 8 < h.1 49 7) (e : sm_wI h 49 8 (h.1 49 8 + 1) = h1) (e37 : F_37 x1 h1 = some (I3 18, h1)) : F_82R rec x1 x2 h = ((F_95 rec x1 x2 h1).bind fun q21 =>
  if q21.1 = 0 then ((F_96 rec x1 x2 q21.2).bind fun q22 =>
  F_82_311 rec  q22.1 q22.2)
  else (F_82_311 rec  q21.1 q21.2)) := by
  show F_82_0 rec x1 x2 h = _
  unfold F_82_0
  rw [if_pos l, if_pos f]; simp only [obs]
  rw [e, e37]; simp only [obs]
  rw [if_neg (show ¬ (I3 18 : Int32) = 4 by decide), if_neg (show ¬ (I3 18 : Int32) = 5 by decide), if_neg (show ¬ (I3 18 : Int32) = 6 by decide), if_neg (show ¬ (I3 18 : Int32) = 7 by decide), if_neg (show ¬ (I3 18 : Int32) = 8 by decide), if_neg (show ¬ (I3 18 : Int32) = 9 by decide), if_neg (show ¬ (I3 18 : Int32) = 10 by decide), if_neg (show ¬ (I3 18 : Int32) = 11 by decide), if_neg (show ¬ (I3 18 : Int32) = 12 by decide), if_neg (show ¬ (I3 18 : Int32) = 13 by decide), if_neg (show ¬ (I3 18 : Int32) = 14 by decide), if_neg (show ¬ (I3 18 : Int32) = 15 by decide), if_neg (show ¬ (I3 18 : Int32) = 16 by decide), if_neg (show ¬ (I3 18 : Int32) = 17 by decide), if_pos (show (I3 18 : Int32) = 18 by decide)]
theorem B82_19 {rec : Int32 → Int32 → sm_H → Option (Int32 × sm_H)} {x1 x2 : Int32} {h h1 : sm_H} (l : x2 < 100) (f : h.1 49 8 < h.1 49 7) (e : sm_wI h 49 8 (h.1 49 8 + 1) = h1) (e37 : F_37 x1 h1 = some (I3 19, h1)) : F_82R rec x1 x2 h = (F_82_367 rec  x1 x2 h1) := by
  show F_82_0 rec x1 x2 h = _
  unfold F_82_0
  rw [if_pos l, if_pos f]; simp only [obs]
  rw [e, e37]; simp only [obs]
  rw [if_neg (show ¬ (I3 19 : Int32) = 4 by decide), if_neg (show ¬ (I3 19 : Int32) = 5 by decide), if_neg (show ¬ (I3 19 : Int32) = 6 by decide), if_neg (show ¬ (I3 19 : Int32) = 7 by decide), if_neg (show ¬ (I3 19 : Int32) = 8 by decide), if_neg (show ¬ (I3 19 : Int32) = 9 by decide), if_neg (show ¬ (I3 19 : Int32) = 10 by decide), if_neg (show ¬ (I3 19 : Int32) = 11 by decide), if_neg (show ¬ (I3 19 : Int32) = 12 by decide), if_neg (show ¬ (I3 19 : Int32) = 13 by decide), if_neg (show ¬ (I3 19 : Int32) = 14 by decide), if_neg (show ¬ (I3 19 : Int32) = 15 by decide), if_neg (show ¬ (I3 19 : Int32) = 16 by decide), if_neg (show ¬ (I3 19 : Int32) = 17 by decide), if_neg (show ¬ (I3 19 : Int32) = 18 by decide), if_neg (show ¬ (I3 19 : Int32) = 27 by decide), if_neg (show ¬ (I3 19 : Int32) = 28 by decide), if_neg (show ¬ (I3 19 : Int32) = 29 by decide), if_neg (show ¬ (I3 19 : Int32) = 30 by decide), if_neg (show ¬ (I3 19 : Int32) = 36 by decide), if_neg (show ¬ (I3 19 : Int32) = 37 by decide), if_neg (show ¬ (I3 19 : Int32) = 38 by decide)]
theorem B82_20 {rec : Int32 → Int32 → sm_H → Option (Int32 × sm_H)} {x1 x2 : Int32} {h h1 : sm_H} (l : x2 < 100) (f : h.1 49 8 < h.1 49 7) (e : sm_wI h 49 8 (h.1 49 8 + 1) = h1) (e37 : F_37 x1 h1 = some (I3 20, h1)) : F_82R rec x1 x2 h = (F_82_367 rec  x1 x2 h1) := by
  show F_82_0 rec x1 x2 h = _
  unfold F_82_0
  rw [if_pos l, if_pos f]; simp only [obs]
  rw [e, e37]; simp only [obs]
  rw [if_neg (show ¬ (I3 20 : Int32) = 4 by decide), if_neg (show ¬ (I3 20 : Int32) = 5 by decide), if_neg (show ¬ (I3 20 : Int32) = 6 by decide), if_neg (show ¬ (I3 20 : Int32) = 7 by decide), if_neg (show ¬ (I3 20 : Int32) = 8 by decide), if_neg (show ¬ (I3 20 : Int32) = 9 by decide), if_neg (show ¬ (I3 20 : Int32) = 10 by decide), if_neg (show ¬ (I3 20 : Int32) = 11 by decide), if_neg (show ¬ (I3 20 : Int32) = 12 by decide), if_neg (show ¬ (I3 20 : Int32) = 13 by decide), if_neg (show ¬ (I3 20 : Int32) = 14 by decide), if_neg (show ¬ (I3 20 : Int32) = 15 by decide), if_neg (show ¬ (I3 20 : Int32) = 16 by decide), if_neg (show ¬ (I3 20 : Int32) = 17 by decide), if_neg (show ¬ (I3 20 : Int32) = 18 by decide), if_neg (show ¬ (I3 20 : Int32) = 27 by decide), if_neg (show ¬ (I3 20 : Int32) = 28 by decide), if_neg (show ¬ (I3 20 : Int32) = 29 by decide), if_neg (show ¬ (I3 20 : Int32) = 30 by decide), if_neg (show ¬ (I3 20 : Int32) = 36 by decide), if_neg (show ¬ (I3 20 : Int32) = 37 by decide), if_neg (show ¬ (I3 20 : Int32) = 38 by decide)]
theorem B82_21 {rec : Int32 → Int32 → sm_H → Option (Int32 × sm_H)} {x1 x2 : Int32} {h h1 : sm_H} (l : x2 < 100) (f : h.1 49 8 < h.1 49 7) (e : sm_wI h 49 8 (h.1 49 8 + 1) = h1) (e37 : F_37 x1 h1 = some (I3 21, h1)) : F_82R rec x1 x2 h = (F_82_367 rec  x1 x2 h1) := by
  show F_82_0 rec x1 x2 h = _
  unfold F_82_0
  rw [if_pos l, if_pos f]; simp only [obs]
  rw [e, e37]; simp only [obs]
  rw [if_neg (show ¬ (I3 21 : Int32) = 4 by decide), if_neg (show ¬ (I3 21 : Int32) = 5 by decide), if_neg (show ¬ (I3 21 : Int32) = 6 by decide), if_neg (show ¬ (I3 21 : Int32) = 7 by decide), if_neg (show ¬ (I3 21 : Int32) = 8 by decide), if_neg (show ¬ (I3 21 : Int32) = 9 by decide), if_neg (show ¬ (I3 21 : Int32) = 10 by decide), if_neg (show ¬ (I3 21 : Int32) = 11 by decide), if_neg (show ¬ (I3 21 : Int32) = 12 by decide), if_neg (show ¬ (I3 21 : Int32) = 13 by decide), if_neg (show ¬ (I3 21 : Int32) = 14 by decide), if_neg (show ¬ (I3 21 : Int32) = 15 by decide), if_neg (show ¬ (I3 21 : Int32) = 16 by decide), if_neg (show ¬ (I3 21 : Int32) = 17 by decide), if_neg (show ¬ (I3 21 : Int32) = 18 by decide), if_neg (show ¬ (I3 21 : Int32) = 27 by decide), if_neg (show ¬ (I3 21 : Int32) = 28 by decide), if_neg (show ¬ (I3 21 : Int32) = 29 by decide), if_neg (show ¬ (I3 21 : Int32) = 30 by decide), if_neg (show ¬ (I3 21 : Int32) = 36 by decide), if_neg (show ¬ (I3 21 : Int32) = 37 by decide), if_neg (show ¬ (I3 21 : Int32) = 38 by decide)]
theorem B82_22 {rec : Int32 → Int32 → sm_H → Option (Int32 × sm_H)} {x1 x2 : Int32} {h h1 : sm_H} (l : x2 < 100) (f : h.1 49 8 < h.1 49 7) (e : sm_wI h 49 8 (h.1 49 8 + 1) = h1) (e37 : F_37 x1 h1 = some (I3 22, h1)) : F_82R rec x1 x2 h = (F_82_367 rec  x1 x2 h1) := by
  show F_82_0 rec x1 x2 h = _
  unfold F_82_0
  rw [if_pos l, if_pos f]; simp only [obs]
  rw [e, e37]; simp only [obs]
  rw [if_neg (show ¬ (I3 22 : Int32) = 4 by decide), if_neg (show ¬ (I3 22 : Int32) = 5 by decide), if_neg (show ¬ (I3 22 : Int32) = 6 by decide), if_neg (show ¬ (I3 22 : Int32) = 7 by decide), if_neg (show ¬ (I3 22 : Int32) = 8 by decide), if_neg (show ¬ (I3 22 : Int32) = 9 by decide), if_neg (show ¬ (I3 22 : Int32) = 10 by decide), if_neg (show ¬ (I3 22 : Int32) = 11 by decide), if_neg (show ¬ (I3 22 : Int32) = 12 by decide), if_neg (show ¬ (I3 22 : Int32) = 13 by decide), if_neg (show ¬ (I3 22 : Int32) = 14 by decide), if_neg (show ¬ (I3 22 : Int32) = 15 by decide), if_neg (show ¬ (I3 22 : Int32) = 16 by decide), if_neg (show ¬ (I3 22 : Int32) = 17 by decide), if_neg (show ¬ (I3 22 : Int32) = 18 by decide), if_neg (show ¬ (I3 22 : Int32) = 27 by decide), if_neg (show ¬ (I3 22 : Int32) = 28 by decide), if_neg (show ¬ (I3 22 : Int32) = 29 by decide), if_neg (show ¬ (I3 22 : Int32) = 30 by decide), if_neg (show ¬ (I3 22 : Int32) = 36 by decide), if_neg (show ¬ (I3 22 : Int32) = 37 by decide), if_neg (show ¬ (I3 22 : Int32) = 38 by decide)]
theorem B82_23 {rec : Int32 → Int32 → sm_H → Option (Int32 × sm_H)} {x1 x2 : Int32} {h h1 : sm_H} (l : x2 < 100) (f : h.1 49 8 < h.1 49 7) (e : sm_wI h 49 8 (h.1 49 8 + 1) = h1) (e37 : F_37 x1 h1 = some (I3 23, h1)) : F_82R rec x1 x2 h = (F_82_367 rec  x1 x2 h1) := by
  show F_82_0 rec x1 x2 h = _
  unfold F_82_0
  rw [if_pos l, if_pos f]; simp only [obs]
  rw [e, e37]; simp only [obs]
  rw [if_neg (show ¬ (I3 23 : Int32) = 4 by decide), if_neg (show ¬ (I3 23 : Int32) = 5 by decide), if_neg (show ¬ (I3 23 : Int32) = 6 by decide), if_neg (show ¬ (I3 23 : Int32) = 7 by decide), if_neg (show ¬ (I3 23 : Int32) = 8 by decide), if_neg (show ¬ (I3 23 : Int32) = 9 by decide), if_neg (show ¬ (I3 23 : Int32) = 10 by decide), if_neg (show ¬ (I3 23 : Int32) = 11 by decide), if_neg (show ¬ (I3 23 : Int32) = 12 by decide), if_neg (show ¬ (I3 23 : Int32) = 13 by decide), if_neg (show ¬ (I3 23 : Int32) = 14 by decide), if_neg (show ¬ (I3 23 : Int32) = 15 by decide), if_neg (show ¬ (I3 23 : Int32) = 16 by decide), if_neg (show ¬ (I3 23 : Int32) = 17 by decide), if_neg (show ¬ (I3 23 : Int32) = 18 by decide), if_neg (show ¬ (I3 23 : Int32) = 27 by decide), if_neg (show ¬ (I3 23 : Int32) = 28 by decide), if_neg (show ¬ (I3 23 : Int32) = 29 by decide), if_neg (show ¬ (I3 23 : Int32) = 30 by decide), if_neg (show ¬ (I3 23 : Int32) = 36 by decide), if_neg (show ¬ (I3 23 : Int32) = 37 by decide), if_neg (show ¬ (I3 23 : Int32) = 38 by decide)]
theorem B82_24 {rec : Int32 → Int32 → sm_H → Option (Int32 × sm_H)} {x1 x2 : Int32} {h h1 : sm_H} (l : x2 < 100) (f : h.1 49 8 < h.1 49 7) (e : sm_wI h 49 8 (h.1 49 8 + 1) = h1) (e37 : F_37 x1 h1 = some (I3 24, h1)) : F_82R rec x1 x2 h = (F_82_367 rec  x1 x2 h1) := by
  show F_82_0 rec x1 x2 h = _
  unfold F_82_0
  rw [if_pos l, if_pos f]; simp only [obs]
  rw [e, e37]; simp only [obs]
  rw [if_neg (show ¬ (I3 24 : Int32) = 4 by decide), if_neg (show ¬ (I3 24 : Int32) = 5 by decide), if_neg (show ¬ (I3 24 : Int32) = 6 by decide), if_neg (show ¬ (I3 24 : Int32) = 7 by decide), if_neg (show ¬ (I3 24 : Int32) = 8 by decide), if_neg (show ¬ (I3 24 : Int32) = 9 by decide), if_neg (show ¬ (I3 24 : Int32) = 10 by decide), if_neg (show ¬ (I3 24 : Int32) = 11 by decide), if_neg (show ¬ (I3 24 : Int32) = 12 by decide), if_neg (show ¬ (I3 24 : Int32) = 13 by decide), if_neg (show ¬ (I3 24 : Int32) = 14 by decide), if_neg (show ¬ (I3 24 : Int32) = 15 by decide), if_neg (show ¬ (I3 24 : Int32) = 16 by decide), if_neg (show ¬ (I3 24 : Int32) = 17 by decide), if_neg (show ¬ (I3 24 : Int32) = 18 by decide), if_neg (show ¬ (I3 24 : Int32) = 27 by decide), if_neg (show ¬ (I3 24 : Int32) = 28 by decide), if_neg (show ¬ (I3 24 : Int32) = 29 by decide), if_neg (show ¬ (I3 24 : Int32) = 30 by decide), if_neg (show ¬ (I3 24 : Int32) = 36 by decide), if_neg (show ¬ (I3 24 : Int32) = 37 by decide), if_neg (show ¬ (I3 24 : Int32) = 38 by decide)]
theorem B82_25 {rec : Int32 → Int32 → sm_H → Option (Int32 × sm_H)} {x1 x2 : Int32} {h h1 : sm_H} (l : x2 < 100) (f : h.1 49 8 < h.1 49 7) (e : sm_wI h 49 8 (h.1 49 8 + 1) = h1) (e37 : F_37 x1 h1 = some (I3 25, h1)) : F_82R rec x1 x2 h = (F_82_367 rec  x1 x2 h1) := by
  show F_82_0 rec x1 x2 h = _
  unfold F_82_0
  rw [if_pos l, if_pos f]; simp only [obs]
  rw [e, e37]; simp only [obs]
  rw [if_neg (show ¬ (I3 25 : Int32) = 4 by decide), if_neg (show ¬ (I3 25 : Int32) = 5 by decide), if_neg (show ¬ (I3 25 : Int32) = 6 by decide), if_neg (show ¬ (I3 25 : Int32) = 7 by decide), if_neg (show ¬ (I3 25 : Int32) = 8 by decide), if_neg (show ¬ (I3 25 : Int32) = 9 by decide), if_neg (show ¬ (I3 25 : Int32) = 10 by decide), if_neg (show ¬ (I3 25 : Int32) = 11 by decide), if_neg (show ¬ (I3 25 : Int32) = 12 by decide), if_neg (show ¬ (I3 25 : Int32) = 13 by decide), if_neg (show ¬ (I3 25 : Int32) = 14 by decide), if_neg (show ¬ (I3 25 : Int32) = 15 by decide), if_neg (show ¬ (I3 25 : Int32) = 16 by decide), if_neg (show ¬ (I3 25 : Int32) = 17 by decide), if_neg (show ¬ (I3 25 : Int32) = 18 by decide), if_neg (show ¬ (I3 25 : Int32) = 27 by decide), if_neg (show ¬ (I3 25 : Int32) = 28 by decide), if_neg (show ¬ (I3 25 : Int32) = 29 by decide), if_neg (show ¬ (I3 25 : Int32) = 30 by decide), if_neg (show ¬ (I3 25 : Int32) = 36 by decide), if_neg (show ¬ (I3 25 : Int32) = 37 by decide), if_neg (show ¬ (I3 25 : Int32) = 38 by decide)]
theorem B82_26 {rec : Int32 → Int32 → sm_H → Option (Int32 × sm_H)} {x1 x2 : Int32} {h h1 : sm_H} (l : x2 < 100) (f : h.1 49 8 < h.1 49 7) (e : sm_wI h 49 8 (h.1 49 8 + 1) = h1) (e37 : F_37 x1 h1 = some (I3 26, h1)) : F_82R rec x1 x2 h = (F_82_367 rec  x1 x2 h1) := by
  show F_82_0 rec x1 x2 h = _
  unfold F_82_0
  rw [if_pos l, if_pos f]; simp only [obs]
  rw [e, e37]; simp only [obs]
  rw [if_neg (show ¬ (I3 26 : Int32) = 4 by decide), if_neg (show ¬ (I3 26 : Int32) = 5 by decide), if_neg (show ¬ (I3 26 : Int32) = 6 by decide), if_neg (show ¬ (I3 26 : Int32) = 7 by decide), if_neg (show ¬ (I3 26 : Int32) = 8 by decide), if_neg (show ¬ (I3 26 : Int32) = 9 by decide), if_neg (show ¬ (I3 26 : Int32) = 10 by decide), if_neg (show ¬ (I3 26 : Int32) = 11 by decide), if_neg (show ¬ (I3 26 : Int32) = 12 by decide), if_neg (show ¬ (I3 26 : Int32) = 13 by decide), if_neg (show ¬ (I3 26 : Int32) = 14 by decide), if_neg (show ¬ (I3 26 : Int32) = 15 by decide), if_neg (show ¬ (I3 26 : Int32) = 16 by decide), if_neg (show ¬ (I3 26 : Int32) = 17 by decide), if_neg (show ¬ (I3 26 : Int32) = 18 by decide), if_neg (show ¬ (I3 26 : Int32) = 27 by decide), if_neg (show ¬ (I3 26 : Int32) = 28 by decide), if_neg (show ¬ (I3 26 : Int32) = 29 by decide), if_neg (show ¬ (I3 26 : Int32) = 30 by decide), if_neg (show ¬ (I3 26 : Int32) = 36 by decide), if_neg (show ¬ (I3 26 : Int32) = 37 by decide), if_neg (show ¬ (I3 26 : Int32) = 38 by decide)]
theorem B82_27 {rec : Int32 → Int32 → sm_H → Option (Int32 × sm_H)} {x1 x2 : Int32} {h h1 : sm_H} (l : x2 < 100) (f : h.1 49 8 < h.1 49 7) (e : sm_wI h 49 8 (h.1 49 8 + 1) = h1) (e37 : F_37 x1 h1 = some (I3 27, h1)) : F_82R rec x1 x2 h = (F_82_312 rec  x1 x2 h1) := by
  show F_82_0 rec x1 x2 h = _
  unfold F_82_0
  rw [if_pos l, if_pos f]; simp only [obs]
  rw [e, e37]; simp only [obs]
  rw [if_neg (show ¬ (I3 27 : Int32) = 4 by decide), if_neg (show ¬ (I3 27 : Int32) = 5 by decide), if_neg (show ¬ (I3 27 : Int32) = 6 by decide), if_neg (show ¬ (I3 27 : Int32) = 7 by decide), if_neg (show ¬ (I3 27 : Int32) = 8 by decide), if_neg (show ¬ (I3 27 : Int32) = 9 by decide), if_neg (show ¬ (I3 27 : Int32) = 10 by decide), if_neg (show ¬ (I3 27 : Int32) = 11 by decide), if_neg (show ¬ (I3 27 : Int32) = 12 by decide), if_neg (show ¬ (I3 27 : Int32) = 13 by decide), if_neg (show ¬ (I3 27 : Int32) = 14 by decide), if_neg (show ¬ (I3 27 : Int32) = 15 by decide), if_neg (show ¬ (I3 27 : Int32) = 16 by decide), if_neg (show ¬ (I3 27 : Int32) = 17 by decide), if_neg (show ¬ (I3 27 : Int32) = 18 by decide), if_pos (show (I3 27 : Int32) = 27 by decide)]
theorem B82_28 {rec : Int32 → Int32 → sm_H → Option (Int32 × sm_H)} {x1 x2 : Int32} {h h1 : sm_H} (l : x2 < 100) (f : h.1 49 8 < h.1 49 7) (e : sm_wI h 49 8 (h.1 49 8 + 1) = h1) (e37 : F_37 x1 h1 = some (I3 28, h1)) : F_82R rec x1 x2 h = (F_82_312 rec  x1 x2 h1) := by
  show F_82_0 rec x1 x2 h = _
  unfold F_82_0
  rw [if_pos l, if_pos f]; simp only [obs]
  rw [e, e37]; simp only [obs]
  rw [if_neg (show ¬ (I3 28 : Int32) = 4 by decide), if_neg (show ¬ (I3 28 : Int32) = 5 by decide), if_neg (show ¬ (I3 28 : Int32) = 6 by decide), if_neg (show ¬ (I3 28 : Int32) = 7 by decide), if_neg (show ¬ (I3 28 : Int32) = 8 by decide), if_neg (show ¬ (I3 28 : Int32) = 9 by decide), if_neg (show ¬ (I3 28 : Int32) = 10 by decide), if_neg (show ¬ (I3 28 : Int32) = 11 by decide), if_neg (show ¬ (I3 28 : Int32) = 12 by decide), if_neg (show ¬ (I3 28 : Int32) = 13 by decide), if_neg (show ¬ (I3 28 : Int32) = 14 by decide), if_neg (show ¬ (I3 28 : Int32) = 15 by decide), if_neg (show ¬ (I3 28 : Int32) = 16 by decide), if_neg (show ¬ (I3 28 : Int32) = 17 by decide), if_neg (show ¬ (I3 28 : Int32) = 18 by decide), if_neg (show ¬ (I3 28 : Int32) = 27 by decide), if_pos (show (I3 28 : Int32) = 28 by decide)]
theorem B82_29 {rec : Int32 → Int32 → sm_H → Option (Int32 × sm_H)} {x1 x2 : Int32} {h h1 : sm_H} (l : x2 < 100) (f : h.1 49 8 < h.1 49 7) (e : sm_wI h 49 8 (h.1 49 8 + 1) = h1) (e37 : F_37 x1 h1 = some (I3 29, h1)) : F_82R rec x1 x2 h = (F_82_192 rec  x1 x2 h1) := by
  show F_82_0 rec x1 x2 h = _
  unfold F_82_0
  rw [if_pos l, if_pos f]; simp only [obs]
  rw [e, e37]; simp only [obs]
  rw [if_neg (show ¬ (I3 29 : Int32) = 4 by decide), if_neg (show ¬ (I3 29 : Int32) = 5 by decide), if_neg (show ¬ (I3 29 : Int32) = 6 by decide), if_neg (show ¬ (I3 29 : Int32) = 7 by decide), if_neg (show ¬ (I3 29 : Int32) = 8 by decide), if_neg (show ¬ (I3 29 : Int32) = 9 by decide), if_neg (show ¬ (I3 29 : Int32) = 10 by decide), if_neg (show ¬ (I3 29 : Int32) = 11 by decide), if_neg (show ¬ (I3 29 : Int32) = 12 by decide), if_neg (show ¬ (I3 29 : Int32) = 13 by decide), if_neg (show ¬ (I3 29 : Int32) = 14 by decide), if_neg (show ¬ (I3 29 : Int32) = 15 by decide), if_neg (show ¬ (I3 29 : Int32) = 16 by decide), if_neg (show ¬ (I3 29 : Int32) = 17 by decide), if_neg (show ¬ (I3 29 : Int32) = 18 by decide), if_neg (show ¬ (I3 29 : Int32) = 27 by decide), if_neg (show ¬ (I3 29 : Int32) = 28 by decide), if_pos (show (I3 29 : Int32) = 29 by decide)]
theorem B82_30 {rec : Int32 → Int32 → sm_H → Option (Int32 × sm_H)} {x1 x2 : Int32} {h h1 : sm_H} (l : x2 < 100) (f : h.1 49 8 < h.1 49 7) (e : sm_wI h 49 8 (h.1 49 8 + 1) = h1) (e37 : F_37 x1 h1 = some (I3 30, h1)) : F_82R rec x1 x2 h = (F_82_192 rec  x1 x2 h1) := by
  show F_82_0 rec x1 x2 h = _
  unfold F_82_0
  rw [if_pos l, if_pos f]; simp only [obs]
  rw [e, e37]; simp only [obs]
  rw [if_neg (show ¬ (I3 30 : Int32) = 4 by decide), if_neg (show ¬ (I3 30 : Int32) = 5 by decide), if_neg (show ¬ (I3 30 : Int32) = 6 by decide), if_neg (show ¬ (I3 30 : Int32) = 7 by decide), if_neg (show ¬ (I3 30 : Int32) = 8 by decide), if_neg (show ¬ (I3 30 : Int32) = 9 by decide), if_neg (show ¬ (I3 30 : Int32) = 10 by decide), if_neg (show ¬ (I3 30 : Int32) = 11 by decide), if_neg (show ¬ (I3 30 : Int32) = 12 by decide), if_neg (show ¬ (I3 30 : Int32) = 13 by decide), if_neg (show ¬ (I3 30 : Int32) = 14 by decide), if_neg (show ¬ (I3 30 : Int32) = 15 by decide), if_neg (show ¬ (I3 30 : Int32) = 16 by decide), if_neg (show ¬ (I3 30 : Int32) = 17 by decide), if_neg (show ¬ (I3 30 : Int32) = 18 by decide), if_neg (show ¬ (I3 30 : Int32) = 27 by decide), if_neg (show ¬ (I3 30 : Int32) = 28 by decide), if_neg (show ¬ (I3 30 : Int32) = 29 by decide), if_pos (show (I3 30 : Int32) = 30 by decide)]
theorem B82_31 {rec : Int32 → Int32 → sm_H → Option (Int32 × sm_H)} {x1 x2 : Int32} {h h1 : sm_H} (l : x2 < 100) (f : h.1 49 8 < h.1 49 7) (e : sm_wI h 49 8 (h.1 49 8 + 1) = h1) (e37 : F_37 x1 h1 = some (I3 31, h1)) : F_82R rec x1 x2 h = (F_82_367 rec  x1 x2 h1) := by
  show F_82_0 rec x1 x2 h = _
  unfold F_82_0
  rw [if_pos l, if_pos f]; simp only [obs]
  rw [e, e37]; simp only [obs]
  rw [if_neg (show ¬ (I3 31 : Int32) = 4 by decide), if_neg (show ¬ (I3 31 : Int32) = 5 by decide), if_neg (show ¬ (I3 31 : Int32) = 6 by decide), if_neg (show ¬ (I3 31 : Int32) = 7 by decide), if_neg (show ¬ (I3 31 : Int32) = 8 by decide), if_neg (show ¬ (I3 31 : Int32) = 9 by decide), if_neg (show ¬ (I3 31 : Int32) = 10 by decide), if_neg (show ¬ (I3 31 : Int32) = 11 by decide), if_neg (show ¬ (I3 31 : Int32) = 12 by decide), if_neg (show ¬ (I3 31 : Int32) = 13 by decide), if_neg (show ¬ (I3 31 : Int32) = 14 by decide), if_neg (show ¬ (I3 31 : Int32) = 15 by decide), if_neg (show ¬ (I3 31 : Int32) = 16 by decide), if_neg (show ¬ (I3 31 : Int32) = 17 by decide), if_neg (show ¬ (I3 31 : Int32) = 18 by decide), if_neg (show ¬ (I3 31 : Int32) = 27 by decide), if_neg (show ¬ (I3 31 : Int32) = 28 by decide), if_neg (show ¬ (I3 31 : Int32) = 29 by decide), if_neg (show ¬ (I3 31 : Int32) = 30 by decide), if_neg (show ¬ (I3 31 : Int32) = 36 by decide), if_neg (show ¬ (I3 31 : Int32) = 37 by decide), if_neg (show ¬ (I3 31 : Int32) = 38 by decide)]
theorem B82_32 {rec : Int32 → Int32 → sm_H → Option (Int32 × sm_H)} {x1 x2 : Int32} {h h1 : sm_H} (l : x2 < 100) (f : h.1 49 8 < h.1 49 7) (e : sm_wI h 49 8 (h.1 49 8 + 1) = h1) (e37 : F_37 x1 h1 = some (I3 32, h1)) : F_82R rec x1 x2 h = (F_82_367 rec  x1 x2 h1) := by
  show F_82_0 rec x1 x2 h = _
  unfold F_82_0
  rw [if_pos l, if_pos f]; simp only [obs]
  rw [e, e37]; simp only [obs]
  rw [if_neg (show ¬ (I3 32 : Int32) = 4 by decide), if_neg (show ¬ (I3 32 : Int32) = 5 by decide), if_neg (show ¬ (I3 32 : Int32) = 6 by decide), if_neg (show ¬ (I3 32 : Int32) = 7 by decide), if_neg (show ¬ (I3 32 : Int32) = 8 by decide), if_neg (show ¬ (I3 32 : Int32) = 9 by decide), if_neg (show ¬ (I3 32 : Int32) = 10 by decide), if_neg (show ¬ (I3 32 : Int32) = 11 by decide), if_neg (show ¬ (I3 32 : Int32) = 12 by decide), if_neg (show ¬ (I3 32 : Int32) = 13 by decide), if_neg (show ¬ (I3 32 : Int32) = 14 by decide), if_neg (show ¬ (I3 32 : Int32) = 15 by decide), if_neg (show ¬ (I3 32 : Int32) = 16 by decide), if_neg (show ¬ (I3 32 : Int32) = 17 by decide), if_neg (show ¬ (I3 32 : Int32) = 18 by decide), if_neg (show ¬ (I3 32 : Int32) = 27 by decide), if_neg (show ¬ (I3 32 : Int32) = 28 by decide), if_neg (show ¬ (I3 32 : Int32) = 29 by decide), if_neg (show ¬ (I3 32 : Int32) = 30 by decide), if_neg (show ¬ (I3 32 : Int32) = 36 by decide), if_neg (show ¬ (I3 32 : Int32) = 37 by decide), if_neg (show ¬ (I3 32 : Int32) = 38 by decide)]
theorem B82_33 {rec : Int32 → Int32 → sm_H → Option (Int32 × sm_H)} {x1 x2 : Int32} {h h1 : sm_H} (l : x2 < 100) (f : h.1 49 8 < h.1 49 7) (e : sm_wI h 49 8 (h.1 49 8 + 1) = h1) (e37 : F_37 x1 h1 = some (I3 33, h1)) : F_82R rec x1 x2 h = (F_82_367 rec  x1 x2 h1) := by
  show F_82_0 rec x1 x2 h = _
  unfold F_82_0
  rw [if_pos l, if_pos f]; simp only [obs]
  rw [e, e37]; simp only [obs]
  rw [if_neg (show ¬ (I3 33 : Int32) = 4 by decide), if_neg (show ¬ (I3 33 : Int32) = 5 by decide), if_neg (show ¬ (I3 33 : Int32) = 6 by decide), if_neg (show ¬ (I3 33 : Int32) = 7 by decide), if_neg (show ¬ (I3 33 : Int32) = 8 by decide), if_neg (show ¬ (I3 33 : Int32) = 9 by decide), if_neg (show ¬ (I3 33 : Int32) = 10 by decide), if_neg (show ¬ (I3 33 : Int32) = 11 by decide), if_neg (show ¬ (I3 33 : Int32) = 12 by decide), if_neg (show ¬ (I3 33 : Int32) = 13 by decide), if_neg (show ¬ (I3 33 : Int32) = 14 by decide), if_neg (show ¬ (I3 33 : Int32) = 15 by decide), if_neg (show ¬ (I3 33 : Int32) = 16 by decide), if_neg (show ¬ (I3 33 : Int32) = 17 by decide), if_neg (show ¬ (I3 33 : Int32) = 18 by decide), if_neg (show ¬ (I3 33 : Int32) = 27 by decide), if_neg (show ¬ (I3 33 : Int32) = 28 by decide), if_neg (show ¬ (I3 33 : Int32) = 29 by decide), if_neg (show ¬ (I3 33 : Int32) = 30 by decide), if_neg (show ¬ (I3 33 : Int32) = 36 by decide), if_neg (show ¬ (I3 33 : Int32) = 37 by decide), if_neg (show ¬ (I3 33 : Int32) = 38 by decide)]
theorem B82_34 {rec : Int32 → Int32 → sm_H → Option (Int32 × sm_H)} {x1 x2 : Int32} {h h1 : sm_H} (l : x2 < 100) (f : h.1 49 8 < h.1 49 7) (e : sm_wI h 49 8 (h.1 49 8 + 1) = h1) (e37 : F_37 x1 h1 = some (I3 34, h1)) : F_82R rec x1 x2 h = (F_82_367 rec  x1 x2 h1) := by
  show F_82_0 rec x1 x2 h = _
  unfold F_82_0
  rw [if_pos l, if_pos f]; simp only [obs]
  rw [e, e37]; simp only [obs]
  rw [if_neg (show ¬ (I3 34 : Int32) = 4 by decide), if_neg (show ¬ (I3 34 : Int32) = 5 by decide), if_neg (show ¬ (I3 34 : Int32) = 6 by decide), if_neg (show ¬ (I3 34 : Int32) = 7 by decide), if_neg (show ¬ (I3 34 : Int32) = 8 by decide), if_neg (show ¬ (I3 34 : Int32) = 9 by decide), if_neg (show ¬ (I3 34 : Int32) = 10 by decide), if_neg (show ¬ (I3 34 : Int32) = 11 by decide), if_neg (show ¬ (I3 34 : Int32) = 12 by decide), if_neg (show ¬ (I3 34 : Int32) = 13 by decide), if_neg (show ¬ (I3 34 : Int32) = 14 by decide), if_neg (show ¬ (I3 34 : Int32) = 15 by decide), if_neg (show ¬ (I3 34 : Int32) = 16 by decide), if_neg (show ¬ (I3 34 : Int32) = 17 by decide), if_neg (show ¬ (I3 34 : Int32) = 18 by decide), if_neg (show ¬ (I3 34 : Int32) = 27 by decide), if_neg (show ¬ (I3 34 : Int32) = 28 by decide), if_neg (show ¬ (I3 34 : Int32) = 29 by decide), if_neg (show ¬ (I3 34 : Int32) = 30 by decide), if_neg (show ¬ (I3 34 : Int32) = 36 by decide), if_neg (show ¬ (I3 34 : Int32) = 37 by decide), if_neg (show ¬ (I3 34 : Int32) = 38 by decide)]
theorem B82_35 {rec : Int32 → Int32 → sm_H → Option (Int32 × sm_H)} {x1 x2 : Int32} {h h1 : sm_H} (l : x2 < 100) (f : h.1 49 8 < h.1 49 7) (e : sm_wI h 49 8 (h.1 49 8 + 1) = h1) (e37 : F_37 x1 h1 = some (I3 35, h1)) : F_82R rec x1 x2 h = (F_82_367 rec  x1 x2 h1) := by
  show F_82_0 rec x1 x2 h = _
  unfold F_82_0
  rw [if_pos l, if_pos f]; simp only [obs]
  rw [e, e37]; simp only [obs]
  rw [if_neg (show ¬ (I3 35 : Int32) = 4 by decide), if_neg (show ¬ (I3 35 : Int32) = 5 by decide), if_neg (show ¬ (I3 35 : Int32) = 6 by decide), if_neg (show ¬ (I3 35 : Int32) = 7 by decide), if_neg (show ¬ (I3 35 : Int32) = 8 by decide), if_neg (show ¬ (I3 35 : Int32) = 9 by decide), if_neg (show ¬ (I3 35 : Int32) = 10 by decide), if_neg (show ¬ (I3 35 : Int32) = 11 by decide), if_neg (show ¬ (I3 35 : Int32) = 12 by decide), if_neg (show ¬ (I3 35 : Int32) = 13 by decide), if_neg (show ¬ (I3 35 : Int32) = 14 by decide), if_neg (show ¬ (I3 35 : Int32) = 15 by decide), if_neg (show ¬ (I3 35 : Int32) = 16 by decide), if_neg (show ¬ (I3 35 : Int32) = 17 by decide), if_neg (show ¬ (I3 35 : Int32) = 18 by decide), if_neg (show ¬ (I3 35 : Int32) = 27 by decide), if_neg (show ¬ (I3 35 : Int32) = 28 by decide), if_neg (show ¬ (I3 35 : Int32) = 29 by decide), if_neg (show ¬ (I3 35 : Int32) = 30 by decide), if_neg (show ¬ (I3 35 : Int32) = 36 by decide), if_neg (show ¬ (I3 35 : Int32) = 37 by decide), if_neg (show ¬ (I3 35 : Int32) = 38 by decide)]
theorem B82_36 {rec : Int32 → Int32 → sm_H → Option (Int32 × sm_H)} {x1 x2 : Int32} {h h1 : sm_H} (l : x2 < 100) (f : h.1 49 8 < h.1 49 7) (e : sm_wI h 49 8 (h.1 49 8 + 1) = h1) (e37 : F_37 x1 h1 = some (I3 36, h1)) : F_82R rec x1 x2 h = (F_82_353 rec  x1 x2 h1) := by
  show F_82_0 rec x1 x2 h = _
  unfold F_82_0
  rw [if_pos l, if_pos f]; simp only [obs]
  rw [e, e37]; simp only [obs]
  rw [if_neg (show ¬ (I3 36 : Int32) = 4 by decide), if_neg (show ¬ (I3 36 : Int32) = 5 by decide), if_neg (show ¬ (I3 36 : Int32) = 6 by decide), if_neg (show ¬ (I3 36 : Int32) = 7 by decide), if_neg (show ¬ (I3 36 : Int32) = 8 by decide), if_neg (show ¬ (I3 36 : Int32) = 9 by decide), if_neg (show ¬ (I3 36 : Int32) = 10 by decide), if_neg (show ¬ (I3 36 : Int32) = 11 by decide), if_neg (show ¬ (I3 36 : Int32) = 12 by decide), if_neg (show ¬ (I3 36 : Int32) = 13 by decide), if_neg (show ¬ (I3 36 : Int32) = 14 by decide), if_neg (show ¬ (I3 36 : Int32) = 15 by decide), if_neg (show ¬ (I3 36 : Int32) = 16 by decide), if_neg (show ¬ (I3 36 : Int32) = 17 by decide), if_neg (show ¬ (I3 36 : Int32) = 18 by decide), if_neg (show ¬ (I3 36 : Int32) = 27 by decide), if_neg (show ¬ (I3 36 : Int32) = 28 by decide), if_neg (show ¬ (I3 36 : Int32) = 29 by decide), if_neg (show ¬ (I3 36 : Int32) = 30 by decide), if_pos (show (I3 36 : Int32) = 36 by decide)]
theorem B82_37 {rec : Int32 → Int32 → sm_H → Option (Int32 × sm_H)} {x1 x2 : Int32} {h h1 : sm_H} (l : x2 < 100) (f : h.1 49 8 < h.1 49 7) (e : sm_wI h 49 8 (h.1 49 8 + 1) = h1) (e37 : F_37 x1 h1 = some (I3 37, h1)) : F_82R rec x1 x2 h = (F_82_353 rec  x1 x2 h1) := by
  show F_82_0 rec x1 x2 h = _
  unfold F_82_0
  rw [if_pos l, if_pos f]; simp only [obs]
  rw [e, e37]; simp only [obs]
  rw [if_neg (show ¬ (I3 37 : Int32) = 4 by decide), if_neg (show ¬ (I3 37 : Int32) = 5 by decide), if_neg (show ¬ (I3 37 : Int32) = 6 by decide), if_neg (show ¬ (I3 37 : Int32) = 7 by decide), if_neg (show ¬ (I3 37 : Int32) = 8 by decide), if_neg (show ¬ (I3 37 : Int32) = 9 by decide), if_neg (show ¬ (I3 37 : Int32) = 10 by decide), if_neg (show ¬ (I3 37 : Int32) = 11 by decide), if_neg (show ¬ (I3 37 : Int32) = 12 by decide), if_neg (show ¬ (I3 37 : Int32) = 13 by decide), if_neg (show ¬ (I3 37 : Int32) = 14 by decide), if_neg (show ¬ (I3 37 : Int32) = 15 by decide), if_neg (show ¬ (I3 37 : Int32) = 16 by decide), if_neg (show ¬ (I3 37 : Int32) = 17 by decide), if_neg (show ¬ (I3 37 : Int32) = 18 by decide), if_neg (show ¬ (I3 37 : Int32) = 27 by decide), if_neg (show ¬ (I3 37 : Int32) = 28 by decide), if_neg (show ¬ (I3 37 : Int32) = 29 by decide), if_neg (show ¬ (I3 37 : Int32) = 30 by decide), if_neg (show ¬ (I3 37 : Int32) = 36 by decide), if_pos (show (I3 37 : Int32) = 37 by decide)]
theorem B82_38 {rec : Int32 → Int32 → sm_H → Option (Int32 × sm_H)} {x1 x2 : Int32} {h h1 : sm_H} (l : x2 < 100) (f : h.1 49 8 < h.1 49 7) (e : sm_wI h 49 8 (h.1 49 8 + 1) = h1) (e37 : F_37 x1 h1 = some (I3 38, h1)) : F_82R rec x1 x2 h = ((F_101 rec x1 x2 h1).bind fun q23 =>
  some (q23.1, q23.2)) := by
  show F_82_0 rec x1 x2 h = _
  unfold F_82_0
  rw [if_pos l, if_pos f]; simp only [obs]
  rw [e, e37]; simp only [obs]
  rw [if_neg (show ¬ (I3 38 : Int32) = 4 by decide), if_neg (show ¬ (I3 38 : Int32) = 5 by decide), if_neg (show ¬ (I3 38 : Int32) = 6 by decide), if_neg (show ¬ (I3 38 : Int32) = 7 by decide), if_neg (show ¬ (I3 38 : Int32) = 8 by decide), if_neg (show ¬ (I3 38 : Int32) = 9 by decide), if_neg (show ¬ (I3 38 : Int32) = 10 by decide), if_neg (show ¬ (I3 38 : Int32) = 11 by decide), if_neg (show ¬ (I3 38 : Int32) = 12 by decide), if_neg (show ¬ (I3 38 : Int32) = 13 by decide), if_neg (show ¬ (I3 38 : Int32) = 14 by decide), if_neg (show ¬ (I3 38 : Int32) = 15 by decide), if_neg (show ¬ (I3 38 : Int32) = 16 by decide), if_neg (show ¬ (I3 38 : Int32) = 17 by decide), if_neg (show ¬ (I3 38 : Int32) = 18 by decide), if_neg (show ¬ (I3 38 : Int32) = 27 by decide), if_neg (show ¬ (I3 38 : Int32) = 28 by decide), if_neg (show ¬ (I3 38 : Int32) = 29 by decide), if_neg (show ¬ (I3 38 : Int32) = 30 by decide), if_neg (show ¬ (I3 38 : Int32) = 36 by decide), if_neg (show ¬ (I3 38 : Int32) = 37 by decide), if_pos (show (I3 38 : Int32) = 38 by decide)]
theorem B370_0 {g : sm_H} {d x vp m : Nat} {a b p0 p1 : Int32} (e56 : g.1 67 56 = I3 (d + 1)) (l103 : ldI g 103 100 (I3 d) = some (I3 x)) (l105 : ldI g 105 100 (I3 d) = some (I3 vp)) (l305 : F_305 (I3 x) g = some (I3 m, g)) (l77 : ldI g 77 500 (I3 x) = some a) (l78 : ldI g 78 500 (I3 x) = some b) (l81 : ldI g 81 12000 (24 * I3 x) = some p0) (l81' : ldI g 81 12000 (24 * I3 x + 1) = some p1) (l75 : ldI g 75 500 (I3 x) = some (I3 0)) : F_370 g = ((ldJ g 79 500 (I3 x)).bind fun v31 =>
  (F_353 a v31 g).bind fun q32 =>
  (F_345 (q32.1 67 48) (q32.2.1 67 49) q32).bind fun q33 =>
  some q33) := by
  show F_370_0 g = _
  unfold F_370_0
  simp only [obs]
  rw [e56, show I3 (d + 1) - 1 = I3 d from I3_sub (a := d + 1) (b := 1) (by omega), l103]; simp only [obs]
  rw [l105]; simp only [obs]
  rw [l305]; simp only [obs]
  rw [l77]; simp only [obs]
  rw [l78]; simp only [obs]
  rw [l81]; simp only [obs]
  rw [l81']; simp only [obs]
  rw [l75]; simp only [obs]
  rw [if_pos (show (I3 0 : Int32) = 0 by decide)]
theorem B370_1 {g : sm_H} {d x vp m : Nat} {a b p0 p1 : Int32} (e56 : g.1 67 56 = I3 (d + 1)) (l103 : ldI g 103 100 (I3 d) = some (I3 x)) (l105 : ldI g 105 100 (I3 d) = some (I3 vp)) (l305 : F_305 (I3 x) g = some (I3 m, g)) (l77 : ldI g 77 500 (I3 x) = some a) (l78 : ldI g 78 500 (I3 x) = some b) (l81 : ldI g 81 12000 (24 * I3 x) = some p0) (l81' : ldI g 81 12000 (24 * I3 x + 1) = some p1) (l75 : ldI g 75 500 (I3 x) = some (I3 1)) : F_370 g = ((F_345 18 (Int32.toInt64 p0) g).bind fun q34 =>
  some q34) := by
  show F_370_0 g = _
  unfold F_370_0
  simp only [obs]
  rw [e56, show I3 (d + 1) - 1 = I3 d from I3_sub (a := d + 1) (b := 1) (by omega), l103]; simp only [obs]
  rw [l105]; simp only [obs]
  rw [l305]; simp only [obs]
  rw [l77]; simp only [obs]
  rw [l78]; simp only [obs]
  rw [l81]; simp only [obs]
  rw [l81']; simp only [obs]
  rw [l75]; simp only [obs]
  rw [if_neg (show ¬ (I3 1 : Int32) = 0 by decide), if_pos (show (I3 1 : Int32) = 1 by decide)]
theorem B370_2 {g : sm_H} {d x vp m : Nat} {a b p0 p1 : Int32} (e56 : g.1 67 56 = I3 (d + 1)) (l103 : ldI g 103 100 (I3 d) = some (I3 x)) (l105 : ldI g 105 100 (I3 d) = some (I3 vp)) (l305 : F_305 (I3 x) g = some (I3 m, g)) (l77 : ldI g 77 500 (I3 x) = some a) (l78 : ldI g 78 500 (I3 x) = some b) (l81 : ldI g 81 12000 (24 * I3 x) = some p0) (l81' : ldI g 81 12000 (24 * I3 x + 1) = some p1) (l75 : ldI g 75 500 (I3 x) = some (I3 2)) : F_370 g = ((F_351 0 g).bind fun q35 =>
  (F_352 0 q35.2).bind fun q36 =>
  (F_345 q35.1 q36.1 q36.2).bind fun q37 =>
  some q37) := by
  show F_370_0 g = _
  unfold F_370_0
  simp only [obs]
  rw [e56, show I3 (d + 1) - 1 = I3 d from I3_sub (a := d + 1) (b := 1) (by omega), l103]; simp only [obs]
  rw [l105]; simp only [obs]
  rw [l305]; simp only [obs]
  rw [l77]; simp only [obs]
  rw [l78]; simp only [obs]
  rw [l81]; simp only [obs]
  rw [l81']; simp only [obs]
  rw [l75]; simp only [obs]
  rw [if_neg (show ¬ (I3 2 : Int32) = 0 by decide), if_neg (show ¬ (I3 2 : Int32) = 1 by decide), if_pos (show (I3 2 : Int32) = 2 by decide)]
theorem B370_3 {g : sm_H} {d x vp m : Nat} {a b p0 p1 : Int32} (e56 : g.1 67 56 = I3 (d + 1)) (l103 : ldI g 103 100 (I3 d) = some (I3 x)) (l105 : ldI g 105 100 (I3 d) = some (I3 vp)) (l305 : F_305 (I3 x) g = some (I3 m, g)) (l77 : ldI g 77 500 (I3 x) = some a) (l78 : ldI g 78 500 (I3 x) = some b) (l81 : ldI g 81 12000 (24 * I3 x) = some p0) (l81' : ldI g 81 12000 (24 * I3 x + 1) = some p1) (l75 : ldI g 75 500 (I3 x) = some (I3 3)) : F_370 g = ((F_355 a b g).bind fun q38 =>
  some q38) := by
  show F_370_0 g = _
  unfold F_370_0
  simp only [obs]
  rw [e56, show I3 (d + 1) - 1 = I3 d from I3_sub (a := d + 1) (b := 1) (by omega), l103]; simp only [obs]
  rw [l105]; simp only [obs]
  rw [l305]; simp only [obs]
  rw [l77]; simp only [obs]
  rw [l78]; simp only [obs]
  rw [l81]; simp only [obs]
  rw [l81']; simp only [obs]
  rw [l75]; simp only [obs]
  rw [if_neg (show ¬ (I3 3 : Int32) = 0 by decide), if_neg (show ¬ (I3 3 : Int32) = 1 by decide), if_neg (show ¬ (I3 3 : Int32) = 2 by decide), if_pos (show (I3 3 : Int32) = 3 by decide)]
theorem B370_4 {g : sm_H} {d x vp m : Nat} {a b p0 p1 : Int32} (e56 : g.1 67 56 = I3 (d + 1)) (l103 : ldI g 103 100 (I3 d) = some (I3 x)) (l105 : ldI g 105 100 (I3 d) = some (I3 vp)) (l305 : F_305 (I3 x) g = some (I3 m, g)) (l77 : ldI g 77 500 (I3 x) = some a) (l78 : ldI g 78 500 (I3 x) = some b) (l81 : ldI g 81 12000 (24 * I3 x) = some p0) (l81' : ldI g 81 12000 (24 * I3 x + 1) = some p1) (l75 : ldI g 75 500 (I3 x) = some (I3 4)) : F_370 g = ((F_343 (I3 vp) ((I3 vp) + a) g).bind fun q39 =>
  (ldI q39 73 300 b).bind fun v40 =>
  (F_343 (((I3 vp) + a) + v40) ((I3 vp) + (I3 m)) q39).bind fun q41 =>
  (F_349 p0 q41).bind fun q42 =>
  some q42) := by
  show F_370_0 g = _
  unfold F_370_0
  simp only [obs]
  rw [e56, show I3 (d + 1) - 1 = I3 d from I3_sub (a := d + 1) (b := 1) (by omega), l103]; simp only [obs]
  rw [l105]; simp only [obs]
  rw [l305]; simp only [obs]
  rw [l77]; simp only [obs]
  rw [l78]; simp only [obs]
  rw [l81]; simp only [obs]
  rw [l81']; simp only [obs]
  rw [l75]; simp only [obs]
  rw [if_neg (show ¬ (I3 4 : Int32) = 0 by decide), if_neg (show ¬ (I3 4 : Int32) = 1 by decide), if_neg (show ¬ (I3 4 : Int32) = 2 by decide), if_neg (show ¬ (I3 4 : Int32) = 3 by decide), if_pos (show (I3 4 : Int32) = 4 by decide)]
theorem B370_5 {g : sm_H} {d x vp m : Nat} {a b p0 p1 : Int32} (e56 : g.1 67 56 = I3 (d + 1)) (l103 : ldI g 103 100 (I3 d) = some (I3 x)) (l105 : ldI g 105 100 (I3 d) = some (I3 vp)) (l305 : F_305 (I3 x) g = some (I3 m, g)) (l77 : ldI g 77 500 (I3 x) = some a) (l78 : ldI g 78 500 (I3 x) = some b) (l81 : ldI g 81 12000 (24 * I3 x) = some p0) (l81' : ldI g 81 12000 (24 * I3 x + 1) = some p1) (l75 : ldI g 75 500 (I3 x) = some (I3 5)) : F_370 g = (F_370_338 (I3 x) p0 0 g) := by
  show F_370_0 g = _
  unfold F_370_0
  simp only [obs]
  rw [e56, show I3 (d + 1) - 1 = I3 d from I3_sub (a := d + 1) (b := 1) (by omega), l103]; simp only [obs]
  rw [l105]; simp only [obs]
  rw [l305]; simp only [obs]
  rw [l77]; simp only [obs]
  rw [l78]; simp only [obs]
  rw [l81]; simp only [obs]
  rw [l81']; simp only [obs]
  rw [l75]; simp only [obs]
  rw [if_neg (show ¬ (I3 5 : Int32) = 0 by decide), if_neg (show ¬ (I3 5 : Int32) = 1 by decide), if_neg (show ¬ (I3 5 : Int32) = 2 by decide), if_neg (show ¬ (I3 5 : Int32) = 3 by decide), if_neg (show ¬ (I3 5 : Int32) = 4 by decide), if_pos (show (I3 5 : Int32) = 5 by decide)]
theorem B370_6 {g : sm_H} {d x vp m : Nat} {a b p0 p1 : Int32} (e56 : g.1 67 56 = I3 (d + 1)) (l103 : ldI g 103 100 (I3 d) = some (I3 x)) (l105 : ldI g 105 100 (I3 d) = some (I3 vp)) (l305 : F_305 (I3 x) g = some (I3 m, g)) (l77 : ldI g 77 500 (I3 x) = some a) (l78 : ldI g 78 500 (I3 x) = some b) (l81 : ldI g 81 12000 (24 * I3 x) = some p0) (l81' : ldI g 81 12000 (24 * I3 x + 1) = some p1) (l75 : ldI g 75 500 (I3 x) = some (I3 6)) : F_370 g = ((F_343 (I3 vp) ((I3 vp) + a) g).bind fun q43 =>
  (F_306 p0 a q43).bind fun q44 =>
  (ldJ q44.2 79 500 (I3 x)).bind fun v45 =>
  (F_353 q44.1 v45 q44.2).bind fun q46 =>
  (F_342 (q46.1 67 48) (q46.2.1 67 49) q46).bind fun q47 =>
  (F_343 ((I3 vp) + a) ((I3 vp) + (I3 m)) q47).bind fun q48 =>
  (F_349 p0 q48).bind fun q49 =>
  some q49) := by
  show F_370_0 g = _
  unfold F_370_0
  simp only [obs]
  rw [e56, show I3 (d + 1) - 1 = I3 d from I3_sub (a := d + 1) (b := 1) (by omega), l103]; simp only [obs]
  rw [l105]; simp only [obs]
  rw [l305]; simp only [obs]
  rw [l77]; simp only [obs]
  rw [l78]; simp only [obs]
  rw [l81]; simp only [obs]
  rw [l81']; simp only [obs]
  rw [l75]; simp only [obs]
  rw [if_neg (show ¬ (I3 6 : Int32) = 0 by decide), if_neg (show ¬ (I3 6 : Int32) = 1 by decide), if_neg (show ¬ (I3 6 : Int32) = 2 by decide), if_neg (show ¬ (I3 6 : Int32) = 3 by decide), if_neg (show ¬ (I3 6 : Int32) = 4 by decide), if_neg (show ¬ (I3 6 : Int32) = 5 by decide), if_pos (show (I3 6 : Int32) = 6 by decide)]
theorem B370_7 {g : sm_H} {d x vp m : Nat} {a b p0 p1 : Int32} (e56 : g.1 67 56 = I3 (d + 1)) (l103 : ldI g 103 100 (I3 d) = some (I3 x)) (l105 : ldI g 105 100 (I3 d) = some (I3 vp)) (l305 : F_305 (I3 x) g = some (I3 m, g)) (l77 : ldI g 77 500 (I3 x) = some a) (l78 : ldI g 78 500 (I3 x) = some b) (l81 : ldI g 81 12000 (24 * I3 x) = some p0) (l81' : ldI g 81 12000 (24 * I3 x + 1) = some p1) (l75 : ldI g 75 500 (I3 x) = some (I3 7)) : F_370 g = ((F_305 p1 g).bind fun q50 =>
  (F_343 ((I3 vp) + a) (((I3 vp) + a) + q50.1) q50.2).bind fun q51 =>
  (F_350 p1 1 q51).bind fun q52 =>
  some q52) := by
  show F_370_0 g = _
  unfold F_370_0
  simp only [obs]
  rw [e56, show I3 (d + 1) - 1 = I3 d from I3_sub (a := d + 1) (b := 1) (by omega), l103]; simp only [obs]
  rw [l105]; simp only [obs]
  rw [l305]; simp only [obs]
  rw [l77]; simp only [obs]
  rw [l78]; simp only [obs]
  rw [l81]; simp only [obs]
  rw [l81']; simp only [obs]
  rw [l75]; simp only [obs]
  rw [if_neg (show ¬ (I3 7 : Int32) = 0 by decide), if_neg (show ¬ (I3 7 : Int32) = 1 by decide), if_neg (show ¬ (I3 7 : Int32) = 2 by decide), if_neg (show ¬ (I3 7 : Int32) = 3 by decide), if_neg (show ¬ (I3 7 : Int32) = 4 by decide), if_neg (show ¬ (I3 7 : Int32) = 5 by decide), if_neg (show ¬ (I3 7 : Int32) = 6 by decide), if_pos (show (I3 7 : Int32) = 7 by decide)]
theorem B370_8 {g : sm_H} {d x vp m : Nat} {a b p0 p1 : Int32} (e56 : g.1 67 56 = I3 (d + 1)) (l103 : ldI g 103 100 (I3 d) = some (I3 x)) (l105 : ldI g 105 100 (I3 d) = some (I3 vp)) (l305 : F_305 (I3 x) g = some (I3 m, g)) (l77 : ldI g 77 500 (I3 x) = some a) (l78 : ldI g 78 500 (I3 x) = some b) (l81 : ldI g 81 12000 (24 * I3 x) = some p0) (l81' : ldI g 81 12000 (24 * I3 x + 1) = some p1) (l75 : ldI g 75 500 (I3 x) = some (I3 8)) : F_370 g = ((F_305 p1 g).bind fun q53 =>
  (F_343 ((I3 vp) + a) (((I3 vp) + a) + q53.1) q53.2).bind fun q54 =>
  (F_350 p1 1 q54).bind fun q55 =>
  some q55) := by
  show F_370_0 g = _
  unfold F_370_0
  simp only [obs]
  rw [e56, show I3 (d + 1) - 1 = I3 d from I3_sub (a := d + 1) (b := 1) (by omega), l103]; simp only [obs]
  rw [l105]; simp only [obs]
  rw [l305]; simp only [obs]
  rw [l77]; simp only [obs]
  rw [l78]; simp only [obs]
  rw [l81]; simp only [obs]
  rw [l81']; simp only [obs]
  rw [l75]; simp only [obs]
  rw [if_neg (show ¬ (I3 8 : Int32) = 0 by decide), if_neg (show ¬ (I3 8 : Int32) = 1 by decide), if_neg (show ¬ (I3 8 : Int32) = 2 by decide), if_neg (show ¬ (I3 8 : Int32) = 3 by decide), if_neg (show ¬ (I3 8 : Int32) = 4 by decide), if_neg (show ¬ (I3 8 : Int32) = 5 by decide), if_neg (show ¬ (I3 8 : Int32) = 6 by decide), if_neg (show ¬ (I3 8 : Int32) = 7 by decide), if_pos (show (I3 8 : Int32) = 8 by decide)]
theorem B370_9 {g : sm_H} {d x vp m : Nat} {a b p0 p1 : Int32} (e56 : g.1 67 56 = I3 (d + 1)) (l103 : ldI g 103 100 (I3 d) = some (I3 x)) (l105 : ldI g 105 100 (I3 d) = some (I3 vp)) (l305 : F_305 (I3 x) g = some (I3 m, g)) (l77 : ldI g 77 500 (I3 x) = some a) (l78 : ldI g 78 500 (I3 x) = some b) (l81 : ldI g 81 12000 (24 * I3 x) = some p0) (l81' : ldI g 81 12000 (24 * I3 x + 1) = some p1) (l75 : ldI g 75 500 (I3 x) = some (I3 9)) : F_370 g = (F_370_514 (I3 vp) (I3 m) p0 g) := by
  show F_370_0 g = _
  unfold F_370_0
  simp only [obs]
  rw [e56, show I3 (d + 1) - 1 = I3 d from I3_sub (a := d + 1) (b := 1) (by omega), l103]; simp only [obs]
  rw [l105]; simp only [obs]
  rw [l305]; simp only [obs]
  rw [l77]; simp only [obs]
  rw [l78]; simp only [obs]
  rw [l81]; simp only [obs]
  rw [l81']; simp only [obs]
  rw [l75]; simp only [obs]
  rw [if_neg (show ¬ (I3 9 : Int32) = 0 by decide), if_neg (show ¬ (I3 9 : Int32) = 1 by decide), if_neg (show ¬ (I3 9 : Int32) = 2 by decide), if_neg (show ¬ (I3 9 : Int32) = 3 by decide), if_neg (show ¬ (I3 9 : Int32) = 4 by decide), if_neg (show ¬ (I3 9 : Int32) = 5 by decide), if_neg (show ¬ (I3 9 : Int32) = 6 by decide), if_neg (show ¬ (I3 9 : Int32) = 7 by decide), if_neg (show ¬ (I3 9 : Int32) = 8 by decide), if_pos (show (I3 9 : Int32) = 9 by decide)]
theorem B370_10 {g : sm_H} {d x vp m : Nat} {a b p0 p1 : Int32} (e56 : g.1 67 56 = I3 (d + 1)) (l103 : ldI g 103 100 (I3 d) = some (I3 x)) (l105 : ldI g 105 100 (I3 d) = some (I3 vp)) (l305 : F_305 (I3 x) g = some (I3 m, g)) (l77 : ldI g 77 500 (I3 x) = some a) (l78 : ldI g 78 500 (I3 x) = some b) (l81 : ldI g 81 12000 (24 * I3 x) = some p0) (l81' : ldI g 81 12000 (24 * I3 x + 1) = some p1) (l75 : ldI g 75 500 (I3 x) = some (I3 10)) : F_370 g = ((F_366 p0 b g).bind fun q56 =>
  some q56) := by
  show F_370_0 g = _
  unfold F_370_0
  simp only [obs]
  rw [e56, show I3 (d + 1) - 1 = I3 d from I3_sub (a := d + 1) (b := 1) (by omega), l103]; simp only [obs]
  rw [l105]; simp only [obs]
  rw [l305]; simp only [obs]
  rw [l77]; simp only [obs]
  rw [l78]; simp only [obs]
  rw [l81]; simp only [obs]
  rw [l81']; simp only [obs]
  rw [l75]; simp only [obs]
  rw [if_neg (show ¬ (I3 10 : Int32) = 0 by decide), if_neg (show ¬ (I3 10 : Int32) = 1 by decide), if_neg (show ¬ (I3 10 : Int32) = 2 by decide), if_neg (show ¬ (I3 10 : Int32) = 3 by decide), if_neg (show ¬ (I3 10 : Int32) = 4 by decide), if_neg (show ¬ (I3 10 : Int32) = 5 by decide), if_neg (show ¬ (I3 10 : Int32) = 6 by decide), if_neg (show ¬ (I3 10 : Int32) = 7 by decide), if_neg (show ¬ (I3 10 : Int32) = 8 by decide), if_neg (show ¬ (I3 10 : Int32) = 9 by decide), if_pos (show (I3 10 : Int32) = 10 by decide)]
theorem B370_11 {g : sm_H} {d x vp m : Nat} {a b p0 p1 : Int32} (e56 : g.1 67 56 = I3 (d + 1)) (l103 : ldI g 103 100 (I3 d) = some (I3 x)) (l105 : ldI g 105 100 (I3 d) = some (I3 vp)) (l305 : F_305 (I3 x) g = some (I3 m, g)) (l77 : ldI g 77 500 (I3 x) = some a) (l78 : ldI g 78 500 (I3 x) = some b) (l81 : ldI g 81 12000 (24 * I3 x) = some p0) (l81' : ldI g 81 12000 (24 * I3 x + 1) = some p1) (l75 : ldI g 75 500 (I3 x) = some (I3 11)) : F_370 g = ((F_367 p0 b g).bind fun q57 =>
  some q57) := by
  show F_370_0 g = _
  unfold F_370_0
  simp only [obs]
  rw [e56, show I3 (d + 1) - 1 = I3 d from I3_sub (a := d + 1) (b := 1) (by omega), l103]; simp only [obs]
  rw [l105]; simp only [obs]
  rw [l305]; simp only [obs]
  rw [l77]; simp only [obs]
  rw [l78]; simp only [obs]
  rw [l81]; simp only [obs]
  rw [l81']; simp only [obs]
  rw [l75]; simp only [obs]
  rw [if_neg (show ¬ (I3 11 : Int32) = 0 by decide), if_neg (show ¬ (I3 11 : Int32) = 1 by decide), if_neg (show ¬ (I3 11 : Int32) = 2 by decide), if_neg (show ¬ (I3 11 : Int32) = 3 by decide), if_neg (show ¬ (I3 11 : Int32) = 4 by decide), if_neg (show ¬ (I3 11 : Int32) = 5 by decide), if_neg (show ¬ (I3 11 : Int32) = 6 by decide), if_neg (show ¬ (I3 11 : Int32) = 7 by decide), if_neg (show ¬ (I3 11 : Int32) = 8 by decide), if_neg (show ¬ (I3 11 : Int32) = 9 by decide), if_neg (show ¬ (I3 11 : Int32) = 10 by decide), if_pos (show (I3 11 : Int32) = 11 by decide)]
theorem B370_12 {g : sm_H} {d x vp m : Nat} {a b p0 p1 : Int32} (e56 : g.1 67 56 = I3 (d + 1)) (l103 : ldI g 103 100 (I3 d) = some (I3 x)) (l105 : ldI g 105 100 (I3 d) = some (I3 vp)) (l305 : F_305 (I3 x) g = some (I3 m, g)) (l77 : ldI g 77 500 (I3 x) = some a) (l78 : ldI g 78 500 (I3 x) = some b) (l81 : ldI g 81 12000 (24 * I3 x) = some p0) (l81' : ldI g 81 12000 (24 * I3 x + 1) = some p1) (l75 : ldI g 75 500 (I3 x) = some (I3 12)) : F_370 g = (F_370_549 (I3 x) b p0 g) := by
  show F_370_0 g = _
  unfold F_370_0
  simp only [obs]
  rw [e56, show I3 (d + 1) - 1 = I3 d from I3_sub (a := d + 1) (b := 1) (by omega), l103]; simp only [obs]
  rw [l105]; simp only [obs]
  rw [l305]; simp only [obs]
  rw [l77]; simp only [obs]
  rw [l78]; simp only [obs]
  rw [l81]; simp only [obs]
  rw [l81']; simp only [obs]
  rw [l75]; simp only [obs]
  rw [if_neg (show ¬ (I3 12 : Int32) = 0 by decide), if_neg (show ¬ (I3 12 : Int32) = 1 by decide), if_neg (show ¬ (I3 12 : Int32) = 2 by decide), if_neg (show ¬ (I3 12 : Int32) = 3 by decide), if_neg (show ¬ (I3 12 : Int32) = 4 by decide), if_neg (show ¬ (I3 12 : Int32) = 5 by decide), if_neg (show ¬ (I3 12 : Int32) = 6 by decide), if_neg (show ¬ (I3 12 : Int32) = 7 by decide), if_neg (show ¬ (I3 12 : Int32) = 8 by decide), if_neg (show ¬ (I3 12 : Int32) = 9 by decide), if_neg (show ¬ (I3 12 : Int32) = 10 by decide), if_neg (show ¬ (I3 12 : Int32) = 11 by decide), if_pos (show (I3 12 : Int32) = 12 by decide)]
theorem B370_13 {g : sm_H} {d x vp m : Nat} {a b p0 p1 : Int32} (e56 : g.1 67 56 = I3 (d + 1)) (l103 : ldI g 103 100 (I3 d) = some (I3 x)) (l105 : ldI g 105 100 (I3 d) = some (I3 vp)) (l305 : F_305 (I3 x) g = some (I3 m, g)) (l77 : ldI g 77 500 (I3 x) = some a) (l78 : ldI g 78 500 (I3 x) = some b) (l81 : ldI g 81 12000 (24 * I3 x) = some p0) (l81' : ldI g 81 12000 (24 * I3 x + 1) = some p1) (l75 : ldI g 75 500 (I3 x) = some (I3 13)) : F_370 g = (F_370_549 (I3 x) b p0 g) := by
  show F_370_0 g = _
  unfold F_370_0
  simp only [obs]
  rw [e56, show I3 (d + 1) - 1 = I3 d from I3_sub (a := d + 1) (b := 1) (by omega), l103]; simp only [obs]
  rw [l105]; simp only [obs]
  rw [l305]; simp only [obs]
  rw [l77]; simp only [obs]
  rw [l78]; simp only [obs]
  rw [l81]; simp only [obs]
  rw [l81']; simp only [obs]
  rw [l75]; simp only [obs]
  rw [if_neg (show ¬ (I3 13 : Int32) = 0 by decide), if_neg (show ¬ (I3 13 : Int32) = 1 by decide), if_neg (show ¬ (I3 13 : Int32) = 2 by decide), if_neg (show ¬ (I3 13 : Int32) = 3 by decide), if_neg (show ¬ (I3 13 : Int32) = 4 by decide), if_neg (show ¬ (I3 13 : Int32) = 5 by decide), if_neg (show ¬ (I3 13 : Int32) = 6 by decide), if_neg (show ¬ (I3 13 : Int32) = 7 by decide), if_neg (show ¬ (I3 13 : Int32) = 8 by decide), if_neg (show ¬ (I3 13 : Int32) = 9 by decide), if_neg (show ¬ (I3 13 : Int32) = 10 by decide), if_neg (show ¬ (I3 13 : Int32) = 11 by decide), if_neg (show ¬ (I3 13 : Int32) = 12 by decide), if_pos (show (I3 13 : Int32) = 13 by decide)]
theorem B370_14 {g : sm_H} {d x vp m : Nat} {a b p0 p1 : Int32} (e56 : g.1 67 56 = I3 (d + 1)) (l103 : ldI g 103 100 (I3 d) = some (I3 x)) (l105 : ldI g 105 100 (I3 d) = some (I3 vp)) (l305 : F_305 (I3 x) g = some (I3 m, g)) (l77 : ldI g 77 500 (I3 x) = some a) (l78 : ldI g 78 500 (I3 x) = some b) (l81 : ldI g 81 12000 (24 * I3 x) = some p0) (l81' : ldI g 81 12000 (24 * I3 x + 1) = some p1) (l75 : ldI g 75 500 (I3 x) = some (I3 14)) : F_370 g = ((F_305 p0 g).bind fun q58 =>
  (F_343 (I3 vp) ((I3 vp) + q58.1) q58.2).bind fun q59 =>
  (F_350 p0 1 q59).bind fun q60 =>
  some q60) := by
  show F_370_0 g = _
  unfold F_370_0
  simp only [obs]
  rw [e56, show I3 (d + 1) - 1 = I3 d from I3_sub (a := d + 1) (b := 1) (by omega), l103]; simp only [obs]
  rw [l105]; simp only [obs]
  rw [l305]; simp only [obs]
  rw [l77]; simp only [obs]
  rw [l78]; simp only [obs]
  rw [l81]; simp only [obs]
  rw [l81']; simp only [obs]
  rw [l75]; simp only [obs]
  rw [if_neg (show ¬ (I3 14 : Int32) = 0 by decide), if_neg (show ¬ (I3 14 : Int32) = 1 by decide), if_neg (show ¬ (I3 14 : Int32) = 2 by decide), if_neg (show ¬ (I3 14 : Int32) = 3 by decide), if_neg (show ¬ (I3 14 : Int32) = 4 by decide), if_neg (show ¬ (I3 14 : Int32) = 5 by decide), if_neg (show ¬ (I3 14 : Int32) = 6 by decide), if_neg (show ¬ (I3 14 : Int32) = 7 by decide), if_neg (show ¬ (I3 14 : Int32) = 8 by decide), if_neg (show ¬ (I3 14 : Int32) = 9 by decide), if_neg (show ¬ (I3 14 : Int32) = 10 by decide), if_neg (show ¬ (I3 14 : Int32) = 11 by decide), if_neg (show ¬ (I3 14 : Int32) = 12 by decide), if_neg (show ¬ (I3 14 : Int32) = 13 by decide), if_pos (show (I3 14 : Int32) = 14 by decide)]
theorem B370_15 {g : sm_H} {d x vp m : Nat} {a b p0 p1 : Int32} (e56 : g.1 67 56 = I3 (d + 1)) (l103 : ldI g 103 100 (I3 d) = some (I3 x)) (l105 : ldI g 105 100 (I3 d) = some (I3 vp)) (l305 : F_305 (I3 x) g = some (I3 m, g)) (l77 : ldI g 77 500 (I3 x) = some a) (l78 : ldI g 78 500 (I3 x) = some b) (l81 : ldI g 81 12000 (24 * I3 x) = some p0) (l81' : ldI g 81 12000 (24 * I3 x + 1) = some p1) (l75 : ldI g 75 500 (I3 x) = some (I3 15)) : F_370 g = (F_370_514 (I3 vp) (I3 m) p0 g) := by
  show F_370_0 g = _
  unfold F_370_0
  simp only [obs]
  rw [e56, show I3 (d + 1) - 1 = I3 d from I3_sub (a := d + 1) (b := 1) (by omega), l103]; simp only [obs]
  rw [l105]; simp only [obs]
  rw [l305]; simp only [obs]
  rw [l77]; simp only [obs]
  rw [l78]; simp only [obs]
  rw [l81]; simp only [obs]
  rw [l81']; simp only [obs]
  rw [l75]; simp only [obs]
  rw [if_neg (show ¬ (I3 15 : Int32) = 0 by decide), if_neg (show ¬ (I3 15 : Int32) = 1 by decide), if_neg (show ¬ (I3 15 : Int32) = 2 by decide), if_neg (show ¬ (I3 15 : Int32) = 3 by decide), if_neg (show ¬ (I3 15 : Int32) = 4 by decide), if_neg (show ¬ (I3 15 : Int32) = 5 by decide), if_neg (show ¬ (I3 15 : Int32) = 6 by decide), if_neg (show ¬ (I3 15 : Int32) = 7 by decide), if_neg (show ¬ (I3 15 : Int32) = 8 by decide), if_neg (show ¬ (I3 15 : Int32) = 9 by decide), if_neg (show ¬ (I3 15 : Int32) = 10 by decide), if_neg (show ¬ (I3 15 : Int32) = 11 by decide), if_neg (show ¬ (I3 15 : Int32) = 12 by decide), if_neg (show ¬ (I3 15 : Int32) = 13 by decide), if_neg (show ¬ (I3 15 : Int32) = 14 by decide), if_pos (show (I3 15 : Int32) = 15 by decide)]
theorem B370_16 {g : sm_H} {d x vp m : Nat} {a b p0 p1 : Int32} (e56 : g.1 67 56 = I3 (d + 1)) (l103 : ldI g 103 100 (I3 d) = some (I3 x)) (l105 : ldI g 105 100 (I3 d) = some (I3 vp)) (l305 : F_305 (I3 x) g = some (I3 m, g)) (l77 : ldI g 77 500 (I3 x) = some a) (l78 : ldI g 78 500 (I3 x) = some b) (l81 : ldI g 81 12000 (24 * I3 x) = some p0) (l81' : ldI g 81 12000 (24 * I3 x + 1) = some p1) (l75 : ldI g 75 500 (I3 x) = some (I3 16)) : F_370 g = (F_370_514 (I3 vp) (I3 m) p0 g) := by
  show F_370_0 g = _
  unfold F_370_0
  simp only [obs]
  rw [e56, show I3 (d + 1) - 1 = I3 d from I3_sub (a := d + 1) (b := 1) (by omega), l103]; simp only [obs]
  rw [l105]; simp only [obs]
  rw [l305]; simp only [obs]
  rw [l77]; simp only [obs]
  rw [l78]; simp only [obs]
  rw [l81]; simp only [obs]
  rw [l81']; simp only [obs]
  rw [l75]; simp only [obs]
  rw [if_neg (show ¬ (I3 16 : Int32) = 0 by decide), if_neg (show ¬ (I3 16 : Int32) = 1 by decide), if_neg (show ¬ (I3 16 : Int32) = 2 by decide), if_neg (show ¬ (I3 16 : Int32) = 3 by decide), if_neg (show ¬ (I3 16 : Int32) = 4 by decide), if_neg (show ¬ (I3 16 : Int32) = 5 by decide), if_neg (show ¬ (I3 16 : Int32) = 6 by decide), if_neg (show ¬ (I3 16 : Int32) = 7 by decide), if_neg (show ¬ (I3 16 : Int32) = 8 by decide), if_neg (show ¬ (I3 16 : Int32) = 9 by decide), if_neg (show ¬ (I3 16 : Int32) = 10 by decide), if_neg (show ¬ (I3 16 : Int32) = 11 by decide), if_neg (show ¬ (I3 16 : Int32) = 12 by decide), if_neg (show ¬ (I3 16 : Int32) = 13 by decide), if_neg (show ¬ (I3 16 : Int32) = 14 by decide), if_neg (show ¬ (I3 16 : Int32) = 15 by decide), if_pos (show (I3 16 : Int32) = 16 by decide)]
theorem B370_17 {g : sm_H} {d x vp m : Nat} {a b p0 p1 : Int32} (e56 : g.1 67 56 = I3 (d + 1)) (l103 : ldI g 103 100 (I3 d) = some (I3 x)) (l105 : ldI g 105 100 (I3 d) = some (I3 vp)) (l305 : F_305 (I3 x) g = some (I3 m, g)) (l77 : ldI g 77 500 (I3 x) = some a) (l78 : ldI g 78 500 (I3 x) = some b) (l81 : ldI g 81 12000 (24 * I3 x) = some p0) (l81' : ldI g 81 12000 (24 * I3 x + 1) = some p1) (l75 : ldI g 75 500 (I3 x) = some (I3 17)) : F_370 g = ((F_352 0 g).bind fun q61 =>
  (F_343 (I3 vp) ((I3 vp) + (I3 m)) q61.2).bind fun q62 =>
  if (lg_cmp q61.1 0) < 0 then (F_370_663 p0 q62)
  else ((ldI q62 80 500 (I3 x)).bind fun v63 =>
  if 0 ≤ (lg_cmp q61.1 (Int32.toInt64 (v63 - 1))) then (F_370_663 p0 q62)
  else ((ldI q62 81 12000 (((24 * (I3 x)) + 1) + (Int64.toInt32 q61.1))).bind fun v64 =>
  F_370_665 v64 q62))) := by
  show F_370_0 g = _
  unfold F_370_0
  simp only [obs]
  rw [e56, show I3 (d + 1) - 1 = I3 d from I3_sub (a := d + 1) (b := 1) (by omega), l103]; simp only [obs]
  rw [l105]; simp only [obs]
  rw [l305]; simp only [obs]
  rw [l77]; simp only [obs]
  rw [l78]; simp only [obs]
  rw [l81]; simp only [obs]
  rw [l81']; simp only [obs]
  rw [l75]; simp only [obs]
  rw [if_neg (show ¬ (I3 17 : Int32) = 0 by decide), if_neg (show ¬ (I3 17 : Int32) = 1 by decide), if_neg (show ¬ (I3 17 : Int32) = 2 by decide), if_neg (show ¬ (I3 17 : Int32) = 3 by decide), if_neg (show ¬ (I3 17 : Int32) = 4 by decide), if_neg (show ¬ (I3 17 : Int32) = 5 by decide), if_neg (show ¬ (I3 17 : Int32) = 6 by decide), if_neg (show ¬ (I3 17 : Int32) = 7 by decide), if_neg (show ¬ (I3 17 : Int32) = 8 by decide), if_neg (show ¬ (I3 17 : Int32) = 9 by decide), if_neg (show ¬ (I3 17 : Int32) = 10 by decide), if_neg (show ¬ (I3 17 : Int32) = 11 by decide), if_neg (show ¬ (I3 17 : Int32) = 12 by decide), if_neg (show ¬ (I3 17 : Int32) = 13 by decide), if_neg (show ¬ (I3 17 : Int32) = 14 by decide), if_neg (show ¬ (I3 17 : Int32) = 15 by decide), if_neg (show ¬ (I3 17 : Int32) = 16 by decide), if_pos (show (I3 17 : Int32) = 17 by decide)]
theorem B370_18 {g : sm_H} {d x vp m : Nat} {a b p0 p1 : Int32} (e56 : g.1 67 56 = I3 (d + 1)) (l103 : ldI g 103 100 (I3 d) = some (I3 x)) (l105 : ldI g 105 100 (I3 d) = some (I3 vp)) (l305 : F_305 (I3 x) g = some (I3 m, g)) (l77 : ldI g 77 500 (I3 x) = some a) (l78 : ldI g 78 500 (I3 x) = some b) (l81 : ldI g 81 12000 (24 * I3 x) = some p0) (l81' : ldI g 81 12000 (24 * I3 x + 1) = some p1) (l75 : ldI g 75 500 (I3 x) = some (I3 18)) : F_370 g = ((stI g 106 100 (I3 d) 0).bind fun h65 =>
  (stI h65 107 100 (I3 d) 0).bind fun h66 =>
  (F_371 h66).bind fun q67 =>
  some q67) := by
  show F_370_0 g = _
  unfold F_370_0
  simp only [obs]
  rw [e56, show I3 (d + 1) - 1 = I3 d from I3_sub (a := d + 1) (b := 1) (by omega), l103]; simp only [obs]
  rw [l105]; simp only [obs]
  rw [l305]; simp only [obs]
  rw [l77]; simp only [obs]
  rw [l78]; simp only [obs]
  rw [l81]; simp only [obs]
  rw [l81']; simp only [obs]
  rw [l75]; simp only [obs]
  rw [if_neg (show ¬ (I3 18 : Int32) = 0 by decide), if_neg (show ¬ (I3 18 : Int32) = 1 by decide), if_neg (show ¬ (I3 18 : Int32) = 2 by decide), if_neg (show ¬ (I3 18 : Int32) = 3 by decide), if_neg (show ¬ (I3 18 : Int32) = 4 by decide), if_neg (show ¬ (I3 18 : Int32) = 5 by decide), if_neg (show ¬ (I3 18 : Int32) = 6 by decide), if_neg (show ¬ (I3 18 : Int32) = 7 by decide), if_neg (show ¬ (I3 18 : Int32) = 8 by decide), if_neg (show ¬ (I3 18 : Int32) = 9 by decide), if_neg (show ¬ (I3 18 : Int32) = 10 by decide), if_neg (show ¬ (I3 18 : Int32) = 11 by decide), if_neg (show ¬ (I3 18 : Int32) = 12 by decide), if_neg (show ¬ (I3 18 : Int32) = 13 by decide), if_neg (show ¬ (I3 18 : Int32) = 14 by decide), if_neg (show ¬ (I3 18 : Int32) = 15 by decide), if_neg (show ¬ (I3 18 : Int32) = 16 by decide), if_neg (show ¬ (I3 18 : Int32) = 17 by decide), if_pos (show (I3 18 : Int32) = 18 by decide)]
theorem B370_19 {g : sm_H} {d x vp m : Nat} {a b p0 p1 : Int32} (e56 : g.1 67 56 = I3 (d + 1)) (l103 : ldI g 103 100 (I3 d) = some (I3 x)) (l105 : ldI g 105 100 (I3 d) = some (I3 vp)) (l305 : F_305 (I3 x) g = some (I3 m, g)) (l77 : ldI g 77 500 (I3 x) = some a) (l78 : ldI g 78 500 (I3 x) = some b) (l81 : ldI g 81 12000 (24 * I3 x) = some p0) (l81' : ldI g 81 12000 (24 * I3 x + 1) = some p1) (l75 : ldI g 75 500 (I3 x) = some (I3 19)) : F_370 g = ((F_351 0 g).bind fun q68 =>
  if q68.1 = 0 then ((F_348 1 q68.2).bind fun q72 =>
  F_370_718 q72)
  else ((F_351 0 q68.2).bind fun q69 =>
  (F_352 0 q69.2).bind fun q70 =>
  (F_347 q69.1 q70.1 q70.2).bind fun q71 =>
  F_370_718 q71)) := by
  show F_370_0 g = _
  unfold F_370_0
  simp only [obs]
  rw [e56, show I3 (d + 1) - 1 = I3 d from I3_sub (a := d + 1) (b := 1) (by omega), l103]; simp only [obs]
  rw [l105]; simp only [obs]
  rw [l305]; simp only [obs]
  rw [l77]; simp only [obs]
  rw [l78]; simp only [obs]
  rw [l81]; simp only [obs]
  rw [l81']; simp only [obs]
  rw [l75]; simp only [obs]
  rw [if_neg (show ¬ (I3 19 : Int32) = 0 by decide), if_neg (show ¬ (I3 19 : Int32) = 1 by decide), if_neg (show ¬ (I3 19 : Int32) = 2 by decide), if_neg (show ¬ (I3 19 : Int32) = 3 by decide), if_neg (show ¬ (I3 19 : Int32) = 4 by decide), if_neg (show ¬ (I3 19 : Int32) = 5 by decide), if_neg (show ¬ (I3 19 : Int32) = 6 by decide), if_neg (show ¬ (I3 19 : Int32) = 7 by decide), if_neg (show ¬ (I3 19 : Int32) = 8 by decide), if_neg (show ¬ (I3 19 : Int32) = 9 by decide), if_neg (show ¬ (I3 19 : Int32) = 10 by decide), if_neg (show ¬ (I3 19 : Int32) = 11 by decide), if_neg (show ¬ (I3 19 : Int32) = 12 by decide), if_neg (show ¬ (I3 19 : Int32) = 13 by decide), if_neg (show ¬ (I3 19 : Int32) = 14 by decide), if_neg (show ¬ (I3 19 : Int32) = 15 by decide), if_neg (show ¬ (I3 19 : Int32) = 16 by decide), if_neg (show ¬ (I3 19 : Int32) = 17 by decide), if_neg (show ¬ (I3 19 : Int32) = 18 by decide), if_pos (show (I3 19 : Int32) = 19 by decide)]
theorem B370_20 {g : sm_H} {d x vp m : Nat} {a b p0 p1 : Int32} (e56 : g.1 67 56 = I3 (d + 1)) (l103 : ldI g 103 100 (I3 d) = some (I3 x)) (l105 : ldI g 105 100 (I3 d) = some (I3 vp)) (l305 : F_305 (I3 x) g = some (I3 m, g)) (l77 : ldI g 77 500 (I3 x) = some a) (l78 : ldI g 78 500 (I3 x) = some b) (l81 : ldI g 81 12000 (24 * I3 x) = some p0) (l81' : ldI g 81 12000 (24 * I3 x + 1) = some p1) (l75 : ldI g 75 500 (I3 x) = some (I3 20)) : F_370 g = ((F_359 a g).bind fun q73 =>
  some q73) := by
  show F_370_0 g = _
  unfold F_370_0
  simp only [obs]
  rw [e56, show I3 (d + 1) - 1 = I3 d from I3_sub (a := d + 1) (b := 1) (by omega), l103]; simp only [obs]
  rw [l105]; simp only [obs]
  rw [l305]; simp only [obs]
  rw [l77]; simp only [obs]
  rw [l78]; simp only [obs]
  rw [l81]; simp only [obs]
  rw [l81']; simp only [obs]
  rw [l75]; simp only [obs]
  rw [if_neg (show ¬ (I3 20 : Int32) = 0 by decide), if_neg (show ¬ (I3 20 : Int32) = 1 by decide), if_neg (show ¬ (I3 20 : Int32) = 2 by decide), if_neg (show ¬ (I3 20 : Int32) = 3 by decide), if_neg (show ¬ (I3 20 : Int32) = 4 by decide), if_neg (show ¬ (I3 20 : Int32) = 5 by decide), if_neg (show ¬ (I3 20 : Int32) = 6 by decide), if_neg (show ¬ (I3 20 : Int32) = 7 by decide), if_neg (show ¬ (I3 20 : Int32) = 8 by decide), if_neg (show ¬ (I3 20 : Int32) = 9 by decide), if_neg (show ¬ (I3 20 : Int32) = 10 by decide), if_neg (show ¬ (I3 20 : Int32) = 11 by decide), if_neg (show ¬ (I3 20 : Int32) = 12 by decide), if_neg (show ¬ (I3 20 : Int32) = 13 by decide), if_neg (show ¬ (I3 20 : Int32) = 14 by decide), if_neg (show ¬ (I3 20 : Int32) = 15 by decide), if_neg (show ¬ (I3 20 : Int32) = 16 by decide), if_neg (show ¬ (I3 20 : Int32) = 17 by decide), if_neg (show ¬ (I3 20 : Int32) = 18 by decide), if_neg (show ¬ (I3 20 : Int32) = 19 by decide), if_pos (show (I3 20 : Int32) = 20 by decide)]
theorem B370_21 {g : sm_H} {d x vp m : Nat} {a b p0 p1 : Int32} (e56 : g.1 67 56 = I3 (d + 1)) (l103 : ldI g 103 100 (I3 d) = some (I3 x)) (l105 : ldI g 105 100 (I3 d) = some (I3 vp)) (l305 : F_305 (I3 x) g = some (I3 m, g)) (l77 : ldI g 77 500 (I3 x) = some a) (l78 : ldI g 78 500 (I3 x) = some b) (l81 : ldI g 81 12000 (24 * I3 x) = some p0) (l81' : ldI g 81 12000 (24 * I3 x + 1) = some p1) (l75 : ldI g 75 500 (I3 x) = some (I3 21)) : F_370 g = (F_370_726 (I3 x) a g) := by
  show F_370_0 g = _
  unfold F_370_0
  simp only [obs]
  rw [e56, show I3 (d + 1) - 1 = I3 d from I3_sub (a := d + 1) (b := 1) (by omega), l103]; simp only [obs]
  rw [l105]; simp only [obs]
  rw [l305]; simp only [obs]
  rw [l77]; simp only [obs]
  rw [l78]; simp only [obs]
  rw [l81]; simp only [obs]
  rw [l81']; simp only [obs]
  rw [l75]; simp only [obs]
  rw [if_neg (show ¬ (I3 21 : Int32) = 0 by decide), if_neg (show ¬ (I3 21 : Int32) = 1 by decide), if_neg (show ¬ (I3 21 : Int32) = 2 by decide), if_neg (show ¬ (I3 21 : Int32) = 3 by decide), if_neg (show ¬ (I3 21 : Int32) = 4 by decide), if_neg (show ¬ (I3 21 : Int32) = 5 by decide), if_neg (show ¬ (I3 21 : Int32) = 6 by decide), if_neg (show ¬ (I3 21 : Int32) = 7 by decide), if_neg (show ¬ (I3 21 : Int32) = 8 by decide), if_neg (show ¬ (I3 21 : Int32) = 9 by decide), if_neg (show ¬ (I3 21 : Int32) = 10 by decide), if_neg (show ¬ (I3 21 : Int32) = 11 by decide), if_neg (show ¬ (I3 21 : Int32) = 12 by decide), if_neg (show ¬ (I3 21 : Int32) = 13 by decide), if_neg (show ¬ (I3 21 : Int32) = 14 by decide), if_neg (show ¬ (I3 21 : Int32) = 15 by decide), if_neg (show ¬ (I3 21 : Int32) = 16 by decide), if_neg (show ¬ (I3 21 : Int32) = 17 by decide), if_neg (show ¬ (I3 21 : Int32) = 18 by decide), if_neg (show ¬ (I3 21 : Int32) = 19 by decide), if_neg (show ¬ (I3 21 : Int32) = 20 by decide), if_pos (show (I3 21 : Int32) = 21 by decide)]
theorem B370_22 {g : sm_H} {d x vp m : Nat} {a b p0 p1 : Int32} (e56 : g.1 67 56 = I3 (d + 1)) (l103 : ldI g 103 100 (I3 d) = some (I3 x)) (l105 : ldI g 105 100 (I3 d) = some (I3 vp)) (l305 : F_305 (I3 x) g = some (I3 m, g)) (l77 : ldI g 77 500 (I3 x) = some a) (l78 : ldI g 78 500 (I3 x) = some b) (l81 : ldI g 81 12000 (24 * I3 x) = some p0) (l81' : ldI g 81 12000 (24 * I3 x + 1) = some p1) (l75 : ldI g 75 500 (I3 x) = some (I3 22)) : F_370 g = (F_370_726 (I3 x) a g) := by
  show F_370_0 g = _
  unfold F_370_0
  simp only [obs]
  rw [e56, show I3 (d + 1) - 1 = I3 d from I3_sub (a := d + 1) (b := 1) (by omega), l103]; simp only [obs]
  rw [l105]; simp only [obs]
  rw [l305]; simp only [obs]
  rw [l77]; simp only [obs]
  rw [l78]; simp only [obs]
  rw [l81]; simp only [obs]
  rw [l81']; simp only [obs]
  rw [l75]; simp only [obs]
  rw [if_neg (show ¬ (I3 22 : Int32) = 0 by decide), if_neg (show ¬ (I3 22 : Int32) = 1 by decide), if_neg (show ¬ (I3 22 : Int32) = 2 by decide), if_neg (show ¬ (I3 22 : Int32) = 3 by decide), if_neg (show ¬ (I3 22 : Int32) = 4 by decide), if_neg (show ¬ (I3 22 : Int32) = 5 by decide), if_neg (show ¬ (I3 22 : Int32) = 6 by decide), if_neg (show ¬ (I3 22 : Int32) = 7 by decide), if_neg (show ¬ (I3 22 : Int32) = 8 by decide), if_neg (show ¬ (I3 22 : Int32) = 9 by decide), if_neg (show ¬ (I3 22 : Int32) = 10 by decide), if_neg (show ¬ (I3 22 : Int32) = 11 by decide), if_neg (show ¬ (I3 22 : Int32) = 12 by decide), if_neg (show ¬ (I3 22 : Int32) = 13 by decide), if_neg (show ¬ (I3 22 : Int32) = 14 by decide), if_neg (show ¬ (I3 22 : Int32) = 15 by decide), if_neg (show ¬ (I3 22 : Int32) = 16 by decide), if_neg (show ¬ (I3 22 : Int32) = 17 by decide), if_neg (show ¬ (I3 22 : Int32) = 18 by decide), if_neg (show ¬ (I3 22 : Int32) = 19 by decide), if_neg (show ¬ (I3 22 : Int32) = 20 by decide), if_neg (show ¬ (I3 22 : Int32) = 21 by decide), if_pos (show (I3 22 : Int32) = 22 by decide)]
theorem B370_23 {g : sm_H} {d x vp m : Nat} {a b p0 p1 : Int32} (e56 : g.1 67 56 = I3 (d + 1)) (l103 : ldI g 103 100 (I3 d) = some (I3 x)) (l105 : ldI g 105 100 (I3 d) = some (I3 vp)) (l305 : F_305 (I3 x) g = some (I3 m, g)) (l77 : ldI g 77 500 (I3 x) = some a) (l78 : ldI g 78 500 (I3 x) = some b) (l81 : ldI g 81 12000 (24 * I3 x) = some p0) (l81' : ldI g 81 12000 (24 * I3 x + 1) = some p1) (l75 : ldI g 75 500 (I3 x) = some (I3 23)) : F_370 g = (F_370_726 (I3 x) a g) := by
  show F_370_0 g = _
  unfold F_370_0
  simp only [obs]
  rw [e56, show I3 (d + 1) - 1 = I3 d from I3_sub (a := d + 1) (b := 1) (by omega), l103]; simp only [obs]
  rw [l105]; simp only [obs]
  rw [l305]; simp only [obs]
  rw [l77]; simp only [obs]
  rw [l78]; simp only [obs]
  rw [l81]; simp only [obs]
  rw [l81']; simp only [obs]
  rw [l75]; simp only [obs]
  rw [if_neg (show ¬ (I3 23 : Int32) = 0 by decide), if_neg (show ¬ (I3 23 : Int32) = 1 by decide), if_neg (show ¬ (I3 23 : Int32) = 2 by decide), if_neg (show ¬ (I3 23 : Int32) = 3 by decide), if_neg (show ¬ (I3 23 : Int32) = 4 by decide), if_neg (show ¬ (I3 23 : Int32) = 5 by decide), if_neg (show ¬ (I3 23 : Int32) = 6 by decide), if_neg (show ¬ (I3 23 : Int32) = 7 by decide), if_neg (show ¬ (I3 23 : Int32) = 8 by decide), if_neg (show ¬ (I3 23 : Int32) = 9 by decide), if_neg (show ¬ (I3 23 : Int32) = 10 by decide), if_neg (show ¬ (I3 23 : Int32) = 11 by decide), if_neg (show ¬ (I3 23 : Int32) = 12 by decide), if_neg (show ¬ (I3 23 : Int32) = 13 by decide), if_neg (show ¬ (I3 23 : Int32) = 14 by decide), if_neg (show ¬ (I3 23 : Int32) = 15 by decide), if_neg (show ¬ (I3 23 : Int32) = 16 by decide), if_neg (show ¬ (I3 23 : Int32) = 17 by decide), if_neg (show ¬ (I3 23 : Int32) = 18 by decide), if_neg (show ¬ (I3 23 : Int32) = 19 by decide), if_neg (show ¬ (I3 23 : Int32) = 20 by decide), if_neg (show ¬ (I3 23 : Int32) = 21 by decide), if_neg (show ¬ (I3 23 : Int32) = 22 by decide), if_pos (show (I3 23 : Int32) = 23 by decide)]
theorem B370_24 {g : sm_H} {d x vp m : Nat} {a b p0 p1 : Int32} (e56 : g.1 67 56 = I3 (d + 1)) (l103 : ldI g 103 100 (I3 d) = some (I3 x)) (l105 : ldI g 105 100 (I3 d) = some (I3 vp)) (l305 : F_305 (I3 x) g = some (I3 m, g)) (l77 : ldI g 77 500 (I3 x) = some a) (l78 : ldI g 78 500 (I3 x) = some b) (l81 : ldI g 81 12000 (24 * I3 x) = some p0) (l81' : ldI g 81 12000 (24 * I3 x + 1) = some p1) (l75 : ldI g 75 500 (I3 x) = some (I3 24)) : F_370 g = (F_370_726 (I3 x) a g) := by
  show F_370_0 g = _
  unfold F_370_0
  simp only [obs]
  rw [e56, show I3 (d + 1) - 1 = I3 d from I3_sub (a := d + 1) (b := 1) (by omega), l103]; simp only [obs]
  rw [l105]; simp only [obs]
  rw [l305]; simp only [obs]
  rw [l77]; simp only [obs]
  rw [l78]; simp only [obs]
  rw [l81]; simp only [obs]
  rw [l81']; simp only [obs]
  rw [l75]; simp only [obs]
  rw [if_neg (show ¬ (I3 24 : Int32) = 0 by decide), if_neg (show ¬ (I3 24 : Int32) = 1 by decide), if_neg (show ¬ (I3 24 : Int32) = 2 by decide), if_neg (show ¬ (I3 24 : Int32) = 3 by decide), if_neg (show ¬ (I3 24 : Int32) = 4 by decide), if_neg (show ¬ (I3 24 : Int32) = 5 by decide), if_neg (show ¬ (I3 24 : Int32) = 6 by decide), if_neg (show ¬ (I3 24 : Int32) = 7 by decide), if_neg (show ¬ (I3 24 : Int32) = 8 by decide), if_neg (show ¬ (I3 24 : Int32) = 9 by decide), if_neg (show ¬ (I3 24 : Int32) = 10 by decide), if_neg (show ¬ (I3 24 : Int32) = 11 by decide), if_neg (show ¬ (I3 24 : Int32) = 12 by decide), if_neg (show ¬ (I3 24 : Int32) = 13 by decide), if_neg (show ¬ (I3 24 : Int32) = 14 by decide), if_neg (show ¬ (I3 24 : Int32) = 15 by decide), if_neg (show ¬ (I3 24 : Int32) = 16 by decide), if_neg (show ¬ (I3 24 : Int32) = 17 by decide), if_neg (show ¬ (I3 24 : Int32) = 18 by decide), if_neg (show ¬ (I3 24 : Int32) = 19 by decide), if_neg (show ¬ (I3 24 : Int32) = 20 by decide), if_neg (show ¬ (I3 24 : Int32) = 21 by decide), if_neg (show ¬ (I3 24 : Int32) = 22 by decide), if_neg (show ¬ (I3 24 : Int32) = 23 by decide), if_pos (show (I3 24 : Int32) = 24 by decide)]
theorem B370_25 {g : sm_H} {d x vp m : Nat} {a b p0 p1 : Int32} (e56 : g.1 67 56 = I3 (d + 1)) (l103 : ldI g 103 100 (I3 d) = some (I3 x)) (l105 : ldI g 105 100 (I3 d) = some (I3 vp)) (l305 : F_305 (I3 x) g = some (I3 m, g)) (l77 : ldI g 77 500 (I3 x) = some a) (l78 : ldI g 78 500 (I3 x) = some b) (l81 : ldI g 81 12000 (24 * I3 x) = some p0) (l81' : ldI g 81 12000 (24 * I3 x + 1) = some p1) (l75 : ldI g 75 500 (I3 x) = some (I3 25)) : F_370 g = (F_370_726 (I3 x) a g) := by
  show F_370_0 g = _
  unfold F_370_0
  simp only [obs]
  rw [e56, show I3 (d + 1) - 1 = I3 d from I3_sub (a := d + 1) (b := 1) (by omega), l103]; simp only [obs]
  rw [l105]; simp only [obs]
  rw [l305]; simp only [obs]
  rw [l77]; simp only [obs]
  rw [l78]; simp only [obs]
  rw [l81]; simp only [obs]
  rw [l81']; simp only [obs]
  rw [l75]; simp only [obs]
  rw [if_neg (show ¬ (I3 25 : Int32) = 0 by decide), if_neg (show ¬ (I3 25 : Int32) = 1 by decide), if_neg (show ¬ (I3 25 : Int32) = 2 by decide), if_neg (show ¬ (I3 25 : Int32) = 3 by decide), if_neg (show ¬ (I3 25 : Int32) = 4 by decide), if_neg (show ¬ (I3 25 : Int32) = 5 by decide), if_neg (show ¬ (I3 25 : Int32) = 6 by decide), if_neg (show ¬ (I3 25 : Int32) = 7 by decide), if_neg (show ¬ (I3 25 : Int32) = 8 by decide), if_neg (show ¬ (I3 25 : Int32) = 9 by decide), if_neg (show ¬ (I3 25 : Int32) = 10 by decide), if_neg (show ¬ (I3 25 : Int32) = 11 by decide), if_neg (show ¬ (I3 25 : Int32) = 12 by decide), if_neg (show ¬ (I3 25 : Int32) = 13 by decide), if_neg (show ¬ (I3 25 : Int32) = 14 by decide), if_neg (show ¬ (I3 25 : Int32) = 15 by decide), if_neg (show ¬ (I3 25 : Int32) = 16 by decide), if_neg (show ¬ (I3 25 : Int32) = 17 by decide), if_neg (show ¬ (I3 25 : Int32) = 18 by decide), if_neg (show ¬ (I3 25 : Int32) = 19 by decide), if_neg (show ¬ (I3 25 : Int32) = 20 by decide), if_neg (show ¬ (I3 25 : Int32) = 21 by decide), if_neg (show ¬ (I3 25 : Int32) = 22 by decide), if_neg (show ¬ (I3 25 : Int32) = 23 by decide), if_neg (show ¬ (I3 25 : Int32) = 24 by decide), if_pos (show (I3 25 : Int32) = 25 by decide)]
theorem B370_26 {g : sm_H} {d x vp m : Nat} {a b p0 p1 : Int32} (e56 : g.1 67 56 = I3 (d + 1)) (l103 : ldI g 103 100 (I3 d) = some (I3 x)) (l105 : ldI g 105 100 (I3 d) = some (I3 vp)) (l305 : F_305 (I3 x) g = some (I3 m, g)) (l77 : ldI g 77 500 (I3 x) = some a) (l78 : ldI g 78 500 (I3 x) = some b) (l81 : ldI g 81 12000 (24 * I3 x) = some p0) (l81' : ldI g 81 12000 (24 * I3 x + 1) = some p1) (l75 : ldI g 75 500 (I3 x) = some (I3 26)) : F_370 g = (F_370_726 (I3 x) a g) := by
  show F_370_0 g = _
  unfold F_370_0
  simp only [obs]
  rw [e56, show I3 (d + 1) - 1 = I3 d from I3_sub (a := d + 1) (b := 1) (by omega), l103]; simp only [obs]
  rw [l105]; simp only [obs]
  rw [l305]; simp only [obs]
  rw [l77]; simp only [obs]
  rw [l78]; simp only [obs]
  rw [l81]; simp only [obs]
  rw [l81']; simp only [obs]
  rw [l75]; simp only [obs]
  rw [if_neg (show ¬ (I3 26 : Int32) = 0 by decide), if_neg (show ¬ (I3 26 : Int32) = 1 by decide), if_neg (show ¬ (I3 26 : Int32) = 2 by decide), if_neg (show ¬ (I3 26 : Int32) = 3 by decide), if_neg (show ¬ (I3 26 : Int32) = 4 by decide), if_neg (show ¬ (I3 26 : Int32) = 5 by decide), if_neg (show ¬ (I3 26 : Int32) = 6 by decide), if_neg (show ¬ (I3 26 : Int32) = 7 by decide), if_neg (show ¬ (I3 26 : Int32) = 8 by decide), if_neg (show ¬ (I3 26 : Int32) = 9 by decide), if_neg (show ¬ (I3 26 : Int32) = 10 by decide), if_neg (show ¬ (I3 26 : Int32) = 11 by decide), if_neg (show ¬ (I3 26 : Int32) = 12 by decide), if_neg (show ¬ (I3 26 : Int32) = 13 by decide), if_neg (show ¬ (I3 26 : Int32) = 14 by decide), if_neg (show ¬ (I3 26 : Int32) = 15 by decide), if_neg (show ¬ (I3 26 : Int32) = 16 by decide), if_neg (show ¬ (I3 26 : Int32) = 17 by decide), if_neg (show ¬ (I3 26 : Int32) = 18 by decide), if_neg (show ¬ (I3 26 : Int32) = 19 by decide), if_neg (show ¬ (I3 26 : Int32) = 20 by decide), if_neg (show ¬ (I3 26 : Int32) = 21 by decide), if_neg (show ¬ (I3 26 : Int32) = 22 by decide), if_neg (show ¬ (I3 26 : Int32) = 23 by decide), if_neg (show ¬ (I3 26 : Int32) = 24 by decide), if_neg (show ¬ (I3 26 : Int32) = 25 by decide), if_pos (show (I3 26 : Int32) = 26 by decide)]
theorem B370_27 {g : sm_H} {d x vp m : Nat} {a b p0 p1 : Int32} (e56 : g.1 67 56 = I3 (d + 1)) (l103 : ldI g 103 100 (I3 d) = some (I3 x)) (l105 : ldI g 105 100 (I3 d) = some (I3 vp)) (l305 : F_305 (I3 x) g = some (I3 m, g)) (l77 : ldI g 77 500 (I3 x) = some a) (l78 : ldI g 78 500 (I3 x) = some b) (l81 : ldI g 81 12000 (24 * I3 x) = some p0) (l81' : ldI g 81 12000 (24 * I3 x + 1) = some p1) (l75 : ldI g 75 500 (I3 x) = some (I3 27)) : F_370 g = ((F_365 b 0 g).bind fun q74 =>
  some q74) := by
  show F_370_0 g = _
  unfold F_370_0
  simp only [obs]
  rw [e56, show I3 (d + 1) - 1 = I3 d from I3_sub (a := d + 1) (b := 1) (by omega), l103]; simp only [obs]
  rw [l105]; simp only [obs]
  rw [l305]; simp only [obs]
  rw [l77]; simp only [obs]
  rw [l78]; simp only [obs]
  rw [l81]; simp only [obs]
  rw [l81']; simp only [obs]
  rw [l75]; simp only [obs]
  rw [if_neg (show ¬ (I3 27 : Int32) = 0 by decide), if_neg (show ¬ (I3 27 : Int32) = 1 by decide), if_neg (show ¬ (I3 27 : Int32) = 2 by decide), if_neg (show ¬ (I3 27 : Int32) = 3 by decide), if_neg (show ¬ (I3 27 : Int32) = 4 by decide), if_neg (show ¬ (I3 27 : Int32) = 5 by decide), if_neg (show ¬ (I3 27 : Int32) = 6 by decide), if_neg (show ¬ (I3 27 : Int32) = 7 by decide), if_neg (show ¬ (I3 27 : Int32) = 8 by decide), if_neg (show ¬ (I3 27 : Int32) = 9 by decide), if_neg (show ¬ (I3 27 : Int32) = 10 by decide), if_neg (show ¬ (I3 27 : Int32) = 11 by decide), if_neg (show ¬ (I3 27 : Int32) = 12 by decide), if_neg (show ¬ (I3 27 : Int32) = 13 by decide), if_neg (show ¬ (I3 27 : Int32) = 14 by decide), if_neg (show ¬ (I3 27 : Int32) = 15 by decide), if_neg (show ¬ (I3 27 : Int32) = 16 by decide), if_neg (show ¬ (I3 27 : Int32) = 17 by decide), if_neg (show ¬ (I3 27 : Int32) = 18 by decide), if_neg (show ¬ (I3 27 : Int32) = 19 by decide), if_neg (show ¬ (I3 27 : Int32) = 20 by decide), if_neg (show ¬ (I3 27 : Int32) = 21 by decide), if_neg (show ¬ (I3 27 : Int32) = 22 by decide), if_neg (show ¬ (I3 27 : Int32) = 23 by decide), if_neg (show ¬ (I3 27 : Int32) = 24 by decide), if_neg (show ¬ (I3 27 : Int32) = 25 by decide), if_neg (show ¬ (I3 27 : Int32) = 26 by decide), if_pos (show (I3 27 : Int32) = 27 by decide)]
theorem B370_28 {g : sm_H} {d x vp m : Nat} {a b p0 p1 : Int32} (e56 : g.1 67 56 = I3 (d + 1)) (l103 : ldI g 103 100 (I3 d) = some (I3 x)) (l105 : ldI g 105 100 (I3 d) = some (I3 vp)) (l305 : F_305 (I3 x) g = some (I3 m, g)) (l77 : ldI g 77 500 (I3 x) = some a) (l78 : ldI g 78 500 (I3 x) = some b) (l81 : ldI g 81 12000 (24 * I3 x) = some p0) (l81' : ldI g 81 12000 (24 * I3 x + 1) = some p1) (l75 : ldI g 75 500 (I3 x) = some (I3 28)) : F_370 g = ((F_365 b 1 g).bind fun q75 =>
  some q75) := by
  show F_370_0 g = _
  unfold F_370_0
  simp only [obs]
  rw [e56, show I3 (d + 1) - 1 = I3 d from I3_sub (a := d + 1) (b := 1) (by omega), l103]; simp only [obs]
  rw [l105]; simp only [obs]
  rw [l305]; simp only [obs]
  rw [l77]; simp only [obs]
  rw [l78]; simp only [obs]
  rw [l81]; simp only [obs]
  rw [l81']; simp only [obs]
  rw [l75]; simp only [obs]
  rw [if_neg (show ¬ (I3 28 : Int32) = 0 by decide), if_neg (show ¬ (I3 28 : Int32) = 1 by decide), if_neg (show ¬ (I3 28 : Int32) = 2 by decide), if_neg (show ¬ (I3 28 : Int32) = 3 by decide), if_neg (show ¬ (I3 28 : Int32) = 4 by decide), if_neg (show ¬ (I3 28 : Int32) = 5 by decide), if_neg (show ¬ (I3 28 : Int32) = 6 by decide), if_neg (show ¬ (I3 28 : Int32) = 7 by decide), if_neg (show ¬ (I3 28 : Int32) = 8 by decide), if_neg (show ¬ (I3 28 : Int32) = 9 by decide), if_neg (show ¬ (I3 28 : Int32) = 10 by decide), if_neg (show ¬ (I3 28 : Int32) = 11 by decide), if_neg (show ¬ (I3 28 : Int32) = 12 by decide), if_neg (show ¬ (I3 28 : Int32) = 13 by decide), if_neg (show ¬ (I3 28 : Int32) = 14 by decide), if_neg (show ¬ (I3 28 : Int32) = 15 by decide), if_neg (show ¬ (I3 28 : Int32) = 16 by decide), if_neg (show ¬ (I3 28 : Int32) = 17 by decide), if_neg (show ¬ (I3 28 : Int32) = 18 by decide), if_neg (show ¬ (I3 28 : Int32) = 19 by decide), if_neg (show ¬ (I3 28 : Int32) = 20 by decide), if_neg (show ¬ (I3 28 : Int32) = 21 by decide), if_neg (show ¬ (I3 28 : Int32) = 22 by decide), if_neg (show ¬ (I3 28 : Int32) = 23 by decide), if_neg (show ¬ (I3 28 : Int32) = 24 by decide), if_neg (show ¬ (I3 28 : Int32) = 25 by decide), if_neg (show ¬ (I3 28 : Int32) = 26 by decide), if_neg (show ¬ (I3 28 : Int32) = 27 by decide), if_pos (show (I3 28 : Int32) = 28 by decide)]
theorem B370_29 {g : sm_H} {d x vp m : Nat} {a b p0 p1 : Int32} (e56 : g.1 67 56 = I3 (d + 1)) (l103 : ldI g 103 100 (I3 d) = some (I3 x)) (l105 : ldI g 105 100 (I3 d) = some (I3 vp)) (l305 : F_305 (I3 x) g = some (I3 m, g)) (l77 : ldI g 77 500 (I3 x) = some a) (l78 : ldI g 78 500 (I3 x) = some b) (l81 : ldI g 81 12000 (24 * I3 x) = some p0) (l81' : ldI g 81 12000 (24 * I3 x + 1) = some p1) (l75 : ldI g 75 500 (I3 x) = some (I3 29)) : F_370 g = ((F_343 (I3 vp) ((I3 vp) + (I3 m)) g).bind fun q76 =>
  (ldI q76 92 80 a).bind fun v77 =>
  (F_349 v77 q76).bind fun q78 =>
  some q78) := by
  show F_370_0 g = _
  unfold F_370_0
  simp only [obs]
  rw [e56, show I3 (d + 1) - 1 = I3 d from I3_sub (a := d + 1) (b := 1) (by omega), l103]; simp only [obs]
  rw [l105]; simp only [obs]
  rw [l305]; simp only [obs]
  rw [l77]; simp only [obs]
  rw [l78]; simp only [obs]
  rw [l81]; simp only [obs]
  rw [l81']; simp only [obs]
  rw [l75]; simp only [obs]
  rw [if_neg (show ¬ (I3 29 : Int32) = 0 by decide), if_neg (show ¬ (I3 29 : Int32) = 1 by decide), if_neg (show ¬ (I3 29 : Int32) = 2 by decide), if_neg (show ¬ (I3 29 : Int32) = 3 by decide), if_neg (show ¬ (I3 29 : Int32) = 4 by decide), if_neg (show ¬ (I3 29 : Int32) = 5 by decide), if_neg (show ¬ (I3 29 : Int32) = 6 by decide), if_neg (show ¬ (I3 29 : Int32) = 7 by decide), if_neg (show ¬ (I3 29 : Int32) = 8 by decide), if_neg (show ¬ (I3 29 : Int32) = 9 by decide), if_neg (show ¬ (I3 29 : Int32) = 10 by decide), if_neg (show ¬ (I3 29 : Int32) = 11 by decide), if_neg (show ¬ (I3 29 : Int32) = 12 by decide), if_neg (show ¬ (I3 29 : Int32) = 13 by decide), if_neg (show ¬ (I3 29 : Int32) = 14 by decide), if_neg (show ¬ (I3 29 : Int32) = 15 by decide), if_neg (show ¬ (I3 29 : Int32) = 16 by decide), if_neg (show ¬ (I3 29 : Int32) = 17 by decide), if_neg (show ¬ (I3 29 : Int32) = 18 by decide), if_neg (show ¬ (I3 29 : Int32) = 19 by decide), if_neg (show ¬ (I3 29 : Int32) = 20 by decide), if_neg (show ¬ (I3 29 : Int32) = 21 by decide), if_neg (show ¬ (I3 29 : Int32) = 22 by decide), if_neg (show ¬ (I3 29 : Int32) = 23 by decide), if_neg (show ¬ (I3 29 : Int32) = 24 by decide), if_neg (show ¬ (I3 29 : Int32) = 25 by decide), if_neg (show ¬ (I3 29 : Int32) = 26 by decide), if_neg (show ¬ (I3 29 : Int32) = 27 by decide), if_neg (show ¬ (I3 29 : Int32) = 28 by decide), if_pos (show (I3 29 : Int32) = 29 by decide)]
theorem B370_30 {g : sm_H} {d x vp m : Nat} {a b p0 p1 : Int32} (e56 : g.1 67 56 = I3 (d + 1)) (l103 : ldI g 103 100 (I3 d) = some (I3 x)) (l105 : ldI g 105 100 (I3 d) = some (I3 vp)) (l305 : F_305 (I3 x) g = some (I3 m, g)) (l77 : ldI g 77 500 (I3 x) = some a) (l78 : ldI g 78 500 (I3 x) = some b) (l81 : ldI g 81 12000 (24 * I3 x) = some p0) (l81' : ldI g 81 12000 (24 * I3 x + 1) = some p1) (l75 : ldI g 75 500 (I3 x) = some (I3 30)) : F_370 g = ((F_343 (I3 vp) ((I3 vp) + (I3 m)) g).bind fun q79 =>
  (ldZ q79 93 20 a).bind fun v80 =>
  if v80 = 0 then (F_370_803 p0 q79)
  else (F_370_803 p1 q79)) := by
  show F_370_0 g = _
  unfold F_370_0
  simp only [obs]
  rw [e56, show I3 (d + 1) - 1 = I3 d from I3_sub (a := d + 1) (b := 1) (by omega), l103]; simp only [obs]
  rw [l105]; simp only [obs]
  rw [l305]; simp only [obs]
  rw [l77]; simp only [obs]
  rw [l78]; simp only [obs]
  rw [l81]; simp only [obs]
  rw [l81']; simp only [obs]
  rw [l75]; simp only [obs]
  rw [if_neg (show ¬ (I3 30 : Int32) = 0 by decide), if_neg (show ¬ (I3 30 : Int32) = 1 by decide), if_neg (show ¬ (I3 30 : Int32) = 2 by decide), if_neg (show ¬ (I3 30 : Int32) = 3 by decide), if_neg (show ¬ (I3 30 : Int32) = 4 by decide), if_neg (show ¬ (I3 30 : Int32) = 5 by decide), if_neg (show ¬ (I3 30 : Int32) = 6 by decide), if_neg (show ¬ (I3 30 : Int32) = 7 by decide), if_neg (show ¬ (I3 30 : Int32) = 8 by decide), if_neg (show ¬ (I3 30 : Int32) = 9 by decide), if_neg (show ¬ (I3 30 : Int32) = 10 by decide), if_neg (show ¬ (I3 30 : Int32) = 11 by decide), if_neg (show ¬ (I3 30 : Int32) = 12 by decide), if_neg (show ¬ (I3 30 : Int32) = 13 by decide), if_neg (show ¬ (I3 30 : Int32) = 14 by decide), if_neg (show ¬ (I3 30 : Int32) = 15 by decide), if_neg (show ¬ (I3 30 : Int32) = 16 by decide), if_neg (show ¬ (I3 30 : Int32) = 17 by decide), if_neg (show ¬ (I3 30 : Int32) = 18 by decide), if_neg (show ¬ (I3 30 : Int32) = 19 by decide), if_neg (show ¬ (I3 30 : Int32) = 20 by decide), if_neg (show ¬ (I3 30 : Int32) = 21 by decide), if_neg (show ¬ (I3 30 : Int32) = 22 by decide), if_neg (show ¬ (I3 30 : Int32) = 23 by decide), if_neg (show ¬ (I3 30 : Int32) = 24 by decide), if_neg (show ¬ (I3 30 : Int32) = 25 by decide), if_neg (show ¬ (I3 30 : Int32) = 26 by decide), if_neg (show ¬ (I3 30 : Int32) = 27 by decide), if_neg (show ¬ (I3 30 : Int32) = 28 by decide), if_neg (show ¬ (I3 30 : Int32) = 29 by decide), if_pos (show (I3 30 : Int32) = 30 by decide)]
theorem B370_31 {g : sm_H} {d x vp m : Nat} {a b p0 p1 : Int32} (e56 : g.1 67 56 = I3 (d + 1)) (l103 : ldI g 103 100 (I3 d) = some (I3 x)) (l105 : ldI g 105 100 (I3 d) = some (I3 vp)) (l305 : F_305 (I3 x) g = some (I3 m, g)) (l77 : ldI g 77 500 (I3 x) = some a) (l78 : ldI g 78 500 (I3 x) = some b) (l81 : ldI g 81 12000 (24 * I3 x) = some p0) (l81' : ldI g 81 12000 (24 * I3 x + 1) = some p1) (l75 : ldI g 75 500 (I3 x) = some (I3 31)) : F_370 g = ((F_351 0 g).bind fun q81 =>
  if q81.1 = 0 then (F_370_835 1 q81.2)
  else ((F_351 0 q81.2).bind fun q82 =>
  (F_295 q82.1 a q82.2).bind fun q83 =>
  if q83.1 = 0 then (F_370_835 1 q83.2)
  else (F_370_836 1 1 q83.2))) := by
  show F_370_0 g = _
  unfold F_370_0
  simp only [obs]
  rw [e56, show I3 (d + 1) - 1 = I3 d from I3_sub (a := d + 1) (b := 1) (by omega), l103]; simp only [obs]
  rw [l105]; simp only [obs]
  rw [l305]; simp only [obs]
  rw [l77]; simp only [obs]
  rw [l78]; simp only [obs]
  rw [l81]; simp only [obs]
  rw [l81']; simp only [obs]
  rw [l75]; simp only [obs]
  rw [if_neg (show ¬ (I3 31 : Int32) = 0 by decide), if_neg (show ¬ (I3 31 : Int32) = 1 by decide), if_neg (show ¬ (I3 31 : Int32) = 2 by decide), if_neg (show ¬ (I3 31 : Int32) = 3 by decide), if_neg (show ¬ (I3 31 : Int32) = 4 by decide), if_neg (show ¬ (I3 31 : Int32) = 5 by decide), if_neg (show ¬ (I3 31 : Int32) = 6 by decide), if_neg (show ¬ (I3 31 : Int32) = 7 by decide), if_neg (show ¬ (I3 31 : Int32) = 8 by decide), if_neg (show ¬ (I3 31 : Int32) = 9 by decide), if_neg (show ¬ (I3 31 : Int32) = 10 by decide), if_neg (show ¬ (I3 31 : Int32) = 11 by decide), if_neg (show ¬ (I3 31 : Int32) = 12 by decide), if_neg (show ¬ (I3 31 : Int32) = 13 by decide), if_neg (show ¬ (I3 31 : Int32) = 14 by decide), if_neg (show ¬ (I3 31 : Int32) = 15 by decide), if_neg (show ¬ (I3 31 : Int32) = 16 by decide), if_neg (show ¬ (I3 31 : Int32) = 17 by decide), if_neg (show ¬ (I3 31 : Int32) = 18 by decide), if_neg (show ¬ (I3 31 : Int32) = 19 by decide), if_neg (show ¬ (I3 31 : Int32) = 20 by decide), if_neg (show ¬ (I3 31 : Int32) = 21 by decide), if_neg (show ¬ (I3 31 : Int32) = 22 by decide), if_neg (show ¬ (I3 31 : Int32) = 23 by decide), if_neg (show ¬ (I3 31 : Int32) = 24 by decide), if_neg (show ¬ (I3 31 : Int32) = 25 by decide), if_neg (show ¬ (I3 31 : Int32) = 26 by decide), if_neg (show ¬ (I3 31 : Int32) = 27 by decide), if_neg (show ¬ (I3 31 : Int32) = 28 by decide), if_neg (show ¬ (I3 31 : Int32) = 29 by decide), if_neg (show ¬ (I3 31 : Int32) = 30 by decide), if_pos (show (I3 31 : Int32) = 31 by decide)]
theorem B370_32 {g : sm_H} {d x vp m : Nat} {a b p0 p1 : Int32} (e56 : g.1 67 56 = I3 (d + 1)) (l103 : ldI g 103 100 (I3 d) = some (I3 x)) (l105 : ldI g 105 100 (I3 d) = some (I3 vp)) (l305 : F_305 (I3 x) g = some (I3 m, g)) (l77 : ldI g 77 500 (I3 x) = some a) (l78 : ldI g 78 500 (I3 x) = some b) (l81 : ldI g 81 12000 (24 * I3 x) = some p0) (l81' : ldI g 81 12000 (24 * I3 x + 1) = some p1) (l75 : ldI g 75 500 (I3 x) = some (I3 32)) : F_370 g = ((F_351 0 g).bind fun q84 =>
  (F_351 1 q84.2).bind fun q85 =>
  if q84.1 = q85.1 then ((F_351 0 q85.2).bind fun q86 =>
  if q86.1 = 0 then (F_370_877 1 q86.2)
  else ((F_352 0 q86.2).bind fun q87 =>
  (F_352 1 q87.2).bind fun q88 =>
  if (lg_cmp q87.1 q88.1) = 0 then (F_370_877 1 q88.2)
  else (F_370_881 1 q88.2)))
  else (F_370_881 1 q85.2)) := by
  show F_370_0 g = _
  unfold F_370_0
  simp only [obs]
  rw [e56, show I3 (d + 1) - 1 = I3 d from I3_sub (a := d + 1) (b := 1) (by omega), l103]; simp only [obs]
  rw [l105]; simp only [obs]
  rw [l305]; simp only [obs]
  rw [l77]; simp only [obs]
  rw [l78]; simp only [obs]
  rw [l81]; simp only [obs]
  rw [l81']; simp only [obs]
  rw [l75]; simp only [obs]
  rw [if_neg (show ¬ (I3 32 : Int32) = 0 by decide), if_neg (show ¬ (I3 32 : Int32) = 1 by decide), if_neg (show ¬ (I3 32 : Int32) = 2 by decide), if_neg (show ¬ (I3 32 : Int32) = 3 by decide), if_neg (show ¬ (I3 32 : Int32) = 4 by decide), if_neg (show ¬ (I3 32 : Int32) = 5 by decide), if_neg (show ¬ (I3 32 : Int32) = 6 by decide), if_neg (show ¬ (I3 32 : Int32) = 7 by decide), if_neg (show ¬ (I3 32 : Int32) = 8 by decide), if_neg (show ¬ (I3 32 : Int32) = 9 by decide), if_neg (show ¬ (I3 32 : Int32) = 10 by decide), if_neg (show ¬ (I3 32 : Int32) = 11 by decide), if_neg (show ¬ (I3 32 : Int32) = 12 by decide), if_neg (show ¬ (I3 32 : Int32) = 13 by decide), if_neg (show ¬ (I3 32 : Int32) = 14 by decide), if_neg (show ¬ (I3 32 : Int32) = 15 by decide), if_neg (show ¬ (I3 32 : Int32) = 16 by decide), if_neg (show ¬ (I3 32 : Int32) = 17 by decide), if_neg (show ¬ (I3 32 : Int32) = 18 by decide), if_neg (show ¬ (I3 32 : Int32) = 19 by decide), if_neg (show ¬ (I3 32 : Int32) = 20 by decide), if_neg (show ¬ (I3 32 : Int32) = 21 by decide), if_neg (show ¬ (I3 32 : Int32) = 22 by decide), if_neg (show ¬ (I3 32 : Int32) = 23 by decide), if_neg (show ¬ (I3 32 : Int32) = 24 by decide), if_neg (show ¬ (I3 32 : Int32) = 25 by decide), if_neg (show ¬ (I3 32 : Int32) = 26 by decide), if_neg (show ¬ (I3 32 : Int32) = 27 by decide), if_neg (show ¬ (I3 32 : Int32) = 28 by decide), if_neg (show ¬ (I3 32 : Int32) = 29 by decide), if_neg (show ¬ (I3 32 : Int32) = 30 by decide), if_neg (show ¬ (I3 32 : Int32) = 31 by decide), if_pos (show (I3 32 : Int32) = 32 by decide)]
theorem B370_33 {g : sm_H} {d x vp m : Nat} {a b p0 p1 : Int32} (e56 : g.1 67 56 = I3 (d + 1)) (l103 : ldI g 103 100 (I3 d) = some (I3 x)) (l105 : ldI g 105 100 (I3 d) = some (I3 vp)) (l305 : F_305 (I3 x) g = some (I3 m, g)) (l77 : ldI g 77 500 (I3 x) = some a) (l78 : ldI g 78 500 (I3 x) = some b) (l81 : ldI g 81 12000 (24 * I3 x) = some p0) (l81' : ldI g 81 12000 (24 * I3 x + 1) = some p1) (l75 : ldI g 75 500 (I3 x) = some (I3 33)) : F_370 g = ((F_351 0 g).bind fun q89 =>
  if q89.1 = 0 then ((F_348 1 q89.2).bind fun q92 =>
  F_370_926 q92)
  else ((F_351 0 q89.2).bind fun q90 =>
  if q90.1 = 19 then ((F_352 0 q90.2).bind fun q91 =>
  F_370_923 5 q91.1 q91.2)
  else (F_370_923 5 0 q90.2))) := by
  show F_370_0 g = _
  unfold F_370_0
  simp only [obs]
  rw [e56, show I3 (d + 1) - 1 = I3 d from I3_sub (a := d + 1) (b := 1) (by omega), l103]; simp only [obs]
  rw [l105]; simp only [obs]
  rw [l305]; simp only [obs]
  rw [l77]; simp only [obs]
  rw [l78]; simp only [obs]
  rw [l81]; simp only [obs]
  rw [l81']; simp only [obs]
  rw [l75]; simp only [obs]
  rw [if_neg (show ¬ (I3 33 : Int32) = 0 by decide), if_neg (show ¬ (I3 33 : Int32) = 1 by decide), if_neg (show ¬ (I3 33 : Int32) = 2 by decide), if_neg (show ¬ (I3 33 : Int32) = 3 by decide), if_neg (show ¬ (I3 33 : Int32) = 4 by decide), if_neg (show ¬ (I3 33 : Int32) = 5 by decide), if_neg (show ¬ (I3 33 : Int32) = 6 by decide), if_neg (show ¬ (I3 33 : Int32) = 7 by decide), if_neg (show ¬ (I3 33 : Int32) = 8 by decide), if_neg (show ¬ (I3 33 : Int32) = 9 by decide), if_neg (show ¬ (I3 33 : Int32) = 10 by decide), if_neg (show ¬ (I3 33 : Int32) = 11 by decide), if_neg (show ¬ (I3 33 : Int32) = 12 by decide), if_neg (show ¬ (I3 33 : Int32) = 13 by decide), if_neg (show ¬ (I3 33 : Int32) = 14 by decide), if_neg (show ¬ (I3 33 : Int32) = 15 by decide), if_neg (show ¬ (I3 33 : Int32) = 16 by decide), if_neg (show ¬ (I3 33 : Int32) = 17 by decide), if_neg (show ¬ (I3 33 : Int32) = 18 by decide), if_neg (show ¬ (I3 33 : Int32) = 19 by decide), if_neg (show ¬ (I3 33 : Int32) = 20 by decide), if_neg (show ¬ (I3 33 : Int32) = 21 by decide), if_neg (show ¬ (I3 33 : Int32) = 22 by decide), if_neg (show ¬ (I3 33 : Int32) = 23 by decide), if_neg (show ¬ (I3 33 : Int32) = 24 by decide), if_neg (show ¬ (I3 33 : Int32) = 25 by decide), if_neg (show ¬ (I3 33 : Int32) = 26 by decide), if_neg (show ¬ (I3 33 : Int32) = 27 by decide), if_neg (show ¬ (I3 33 : Int32) = 28 by decide), if_neg (show ¬ (I3 33 : Int32) = 29 by decide), if_neg (show ¬ (I3 33 : Int32) = 30 by decide), if_neg (show ¬ (I3 33 : Int32) = 31 by decide), if_neg (show ¬ (I3 33 : Int32) = 32 by decide), if_pos (show (I3 33 : Int32) = 33 by decide)]
theorem B370_34 {g : sm_H} {d x vp m : Nat} {a b p0 p1 : Int32} (e56 : g.1 67 56 = I3 (d + 1)) (l103 : ldI g 103 100 (I3 d) = some (I3 x)) (l105 : ldI g 105 100 (I3 d) = some (I3 vp)) (l305 : F_305 (I3 x) g = some (I3 m, g)) (l77 : ldI g 77 500 (I3 x) = some a) (l78 : ldI g 78 500 (I3 x) = some b) (l81 : ldI g 81 12000 (24 * I3 x) = some p0) (l81' : ldI g 81 12000 (24 * I3 x + 1) = some p1) (l75 : ldI g 75 500 (I3 x) = some (I3 34)) : F_370 g = ((F_307 (I3 x) g).bind fun q93 =>
  (F_346 q93.1 q93.2).bind fun q94 =>
  some q94) := by
  show F_370_0 g = _
  unfold F_370_0
  simp only [obs]
  rw [e56, show I3 (d + 1) - 1 = I3 d from I3_sub (a := d + 1) (b := 1) (by omega), l103]; simp only [obs]
  rw [l105]; simp only [obs]
  rw [l305]; simp only [obs]
  rw [l77]; simp only [obs]
  rw [l78]; simp only [obs]
  rw [l81]; simp only [obs]
  rw [l81']; simp only [obs]
  rw [l75]; simp only [obs]
  rw [if_neg (show ¬ (I3 34 : Int32) = 0 by decide), if_neg (show ¬ (I3 34 : Int32) = 1 by decide), if_neg (show ¬ (I3 34 : Int32) = 2 by decide), if_neg (show ¬ (I3 34 : Int32) = 3 by decide), if_neg (show ¬ (I3 34 : Int32) = 4 by decide), if_neg (show ¬ (I3 34 : Int32) = 5 by decide), if_neg (show ¬ (I3 34 : Int32) = 6 by decide), if_neg (show ¬ (I3 34 : Int32) = 7 by decide), if_neg (show ¬ (I3 34 : Int32) = 8 by decide), if_neg (show ¬ (I3 34 : Int32) = 9 by decide), if_neg (show ¬ (I3 34 : Int32) = 10 by decide), if_neg (show ¬ (I3 34 : Int32) = 11 by decide), if_neg (show ¬ (I3 34 : Int32) = 12 by decide), if_neg (show ¬ (I3 34 : Int32) = 13 by decide), if_neg (show ¬ (I3 34 : Int32) = 14 by decide), if_neg (show ¬ (I3 34 : Int32) = 15 by decide), if_neg (show ¬ (I3 34 : Int32) = 16 by decide), if_neg (show ¬ (I3 34 : Int32) = 17 by decide), if_neg (show ¬ (I3 34 : Int32) = 18 by decide), if_neg (show ¬ (I3 34 : Int32) = 19 by decide), if_neg (show ¬ (I3 34 : Int32) = 20 by decide), if_neg (show ¬ (I3 34 : Int32) = 21 by decide), if_neg (show ¬ (I3 34 : Int32) = 22 by decide), if_neg (show ¬ (I3 34 : Int32) = 23 by decide), if_neg (show ¬ (I3 34 : Int32) = 24 by decide), if_neg (show ¬ (I3 34 : Int32) = 25 by decide), if_neg (show ¬ (I3 34 : Int32) = 26 by decide), if_neg (show ¬ (I3 34 : Int32) = 27 by decide), if_neg (show ¬ (I3 34 : Int32) = 28 by decide), if_neg (show ¬ (I3 34 : Int32) = 29 by decide), if_neg (show ¬ (I3 34 : Int32) = 30 by decide), if_neg (show ¬ (I3 34 : Int32) = 31 by decide), if_neg (show ¬ (I3 34 : Int32) = 32 by decide), if_neg (show ¬ (I3 34 : Int32) = 33 by decide), if_pos (show (I3 34 : Int32) = 34 by decide)]
theorem B370_35 {g : sm_H} {d x vp m : Nat} {a b p0 p1 : Int32} (e56 : g.1 67 56 = I3 (d + 1)) (l103 : ldI g 103 100 (I3 d) = some (I3 x)) (l105 : ldI g 105 100 (I3 d) = some (I3 vp)) (l305 : F_305 (I3 x) g = some (I3 m, g)) (l77 : ldI g 77 500 (I3 x) = some a) (l78 : ldI g 78 500 (I3 x) = some b) (l81 : ldI g 81 12000 (24 * I3 x) = some p0) (l81' : ldI g 81 12000 (24 * I3 x + 1) = some p1) (l75 : ldI g 75 500 (I3 x) = some (I3 35)) : F_370 g = ((ldZ g 86 100 a).bind fun v95 =>
  (F_362 a b v95 g).bind fun q96 =>
  some q96) := by
  show F_370_0 g = _
  unfold F_370_0
  simp only [obs]
  rw [e56, show I3 (d + 1) - 1 = I3 d from I3_sub (a := d + 1) (b := 1) (by omega), l103]; simp only [obs]
  rw [l105]; simp only [obs]
  rw [l305]; simp only [obs]
  rw [l77]; simp only [obs]
  rw [l78]; simp only [obs]
  rw [l81]; simp only [obs]
  rw [l81']; simp only [obs]
  rw [l75]; simp only [obs]
  rw [if_neg (show ¬ (I3 35 : Int32) = 0 by decide), if_neg (show ¬ (I3 35 : Int32) = 1 by decide), if_neg (show ¬ (I3 35 : Int32) = 2 by decide), if_neg (show ¬ (I3 35 : Int32) = 3 by decide), if_neg (show ¬ (I3 35 : Int32) = 4 by decide), if_neg (show ¬ (I3 35 : Int32) = 5 by decide), if_neg (show ¬ (I3 35 : Int32) = 6 by decide), if_neg (show ¬ (I3 35 : Int32) = 7 by decide), if_neg (show ¬ (I3 35 : Int32) = 8 by decide), if_neg (show ¬ (I3 35 : Int32) = 9 by decide), if_neg (show ¬ (I3 35 : Int32) = 10 by decide), if_neg (show ¬ (I3 35 : Int32) = 11 by decide), if_neg (show ¬ (I3 35 : Int32) = 12 by decide), if_neg (show ¬ (I3 35 : Int32) = 13 by decide), if_neg (show ¬ (I3 35 : Int32) = 14 by decide), if_neg (show ¬ (I3 35 : Int32) = 15 by decide), if_neg (show ¬ (I3 35 : Int32) = 16 by decide), if_neg (show ¬ (I3 35 : Int32) = 17 by decide), if_neg (show ¬ (I3 35 : Int32) = 18 by decide), if_neg (show ¬ (I3 35 : Int32) = 19 by decide), if_neg (show ¬ (I3 35 : Int32) = 20 by decide), if_neg (show ¬ (I3 35 : Int32) = 21 by decide), if_neg (show ¬ (I3 35 : Int32) = 22 by decide), if_neg (show ¬ (I3 35 : Int32) = 23 by decide), if_neg (show ¬ (I3 35 : Int32) = 24 by decide), if_neg (show ¬ (I3 35 : Int32) = 25 by decide), if_neg (show ¬ (I3 35 : Int32) = 26 by decide), if_neg (show ¬ (I3 35 : Int32) = 27 by decide), if_neg (show ¬ (I3 35 : Int32) = 28 by decide), if_neg (show ¬ (I3 35 : Int32) = 29 by decide), if_neg (show ¬ (I3 35 : Int32) = 30 by decide), if_neg (show ¬ (I3 35 : Int32) = 31 by decide), if_neg (show ¬ (I3 35 : Int32) = 32 by decide), if_neg (show ¬ (I3 35 : Int32) = 33 by decide), if_neg (show ¬ (I3 35 : Int32) = 34 by decide), if_pos (show (I3 35 : Int32) = 35 by decide)]
theorem B370_36 {g : sm_H} {d x vp m : Nat} {a b p0 p1 : Int32} (e56 : g.1 67 56 = I3 (d + 1)) (l103 : ldI g 103 100 (I3 d) = some (I3 x)) (l105 : ldI g 105 100 (I3 d) = some (I3 vp)) (l305 : F_305 (I3 x) g = some (I3 m, g)) (l77 : ldI g 77 500 (I3 x) = some a) (l78 : ldI g 78 500 (I3 x) = some b) (l81 : ldI g 81 12000 (24 * I3 x) = some p0) (l81' : ldI g 81 12000 (24 * I3 x + 1) = some p1) (l75 : ldI g 75 500 (I3 x) = some (I3 36)) : F_370 g = ((F_351 0 g).bind fun q97 =>
  if q97.1 = 0 then (F_370_977 0 q97.2)
  else ((F_351 0 q97.2).bind fun q98 =>
  (F_363 a q98.1 q98.2).bind fun q99 =>
  F_370_977 q99.1 q99.2)) := by
  show F_370_0 g = _
  unfold F_370_0
  simp only [obs]
  rw [e56, show I3 (d + 1) - 1 = I3 d from I3_sub (a := d + 1) (b := 1) (by omega), l103]; simp only [obs]
  rw [l105]; simp only [obs]
  rw [l305]; simp only [obs]
  rw [l77]; simp only [obs]
  rw [l78]; simp only [obs]
  rw [l81]; simp only [obs]
  rw [l81']; simp only [obs]
  rw [l75]; simp only [obs]
  rw [if_neg (show ¬ (I3 36 : Int32) = 0 by decide), if_neg (show ¬ (I3 36 : Int32) = 1 by decide), if_neg (show ¬ (I3 36 : Int32) = 2 by decide), if_neg (show ¬ (I3 36 : Int32) = 3 by decide), if_neg (show ¬ (I3 36 : Int32) = 4 by decide), if_neg (show ¬ (I3 36 : Int32) = 5 by decide), if_neg (show ¬ (I3 36 : Int32) = 6 by decide), if_neg (show ¬ (I3 36 : Int32) = 7 by decide), if_neg (show ¬ (I3 36 : Int32) = 8 by decide), if_neg (show ¬ (I3 36 : Int32) = 9 by decide), if_neg (show ¬ (I3 36 : Int32) = 10 by decide), if_neg (show ¬ (I3 36 : Int32) = 11 by decide), if_neg (show ¬ (I3 36 : Int32) = 12 by decide), if_neg (show ¬ (I3 36 : Int32) = 13 by decide), if_neg (show ¬ (I3 36 : Int32) = 14 by decide), if_neg (show ¬ (I3 36 : Int32) = 15 by decide), if_neg (show ¬ (I3 36 : Int32) = 16 by decide), if_neg (show ¬ (I3 36 : Int32) = 17 by decide), if_neg (show ¬ (I3 36 : Int32) = 18 by decide), if_neg (show ¬ (I3 36 : Int32) = 19 by decide), if_neg (show ¬ (I3 36 : Int32) = 20 by decide), if_neg (show ¬ (I3 36 : Int32) = 21 by decide), if_neg (show ¬ (I3 36 : Int32) = 22 by decide), if_neg (show ¬ (I3 36 : Int32) = 23 by decide), if_neg (show ¬ (I3 36 : Int32) = 24 by decide), if_neg (show ¬ (I3 36 : Int32) = 25 by decide), if_neg (show ¬ (I3 36 : Int32) = 26 by decide), if_neg (show ¬ (I3 36 : Int32) = 27 by decide), if_neg (show ¬ (I3 36 : Int32) = 28 by decide), if_neg (show ¬ (I3 36 : Int32) = 29 by decide), if_neg (show ¬ (I3 36 : Int32) = 30 by decide), if_neg (show ¬ (I3 36 : Int32) = 31 by decide), if_neg (show ¬ (I3 36 : Int32) = 32 by decide), if_neg (show ¬ (I3 36 : Int32) = 33 by decide), if_neg (show ¬ (I3 36 : Int32) = 34 by decide), if_neg (show ¬ (I3 36 : Int32) = 35 by decide), if_pos (show (I3 36 : Int32) = 36 by decide)]
theorem B370_37 {g : sm_H} {d x vp m : Nat} {a b p0 p1 : Int32} (e56 : g.1 67 56 = I3 (d + 1)) (l103 : ldI g 103 100 (I3 d) = some (I3 x)) (l105 : ldI g 105 100 (I3 d) = some (I3 vp)) (l305 : F_305 (I3 x) g = some (I3 m, g)) (l77 : ldI g 77 500 (I3 x) = some a) (l78 : ldI g 78 500 (I3 x) = some b) (l81 : ldI g 81 12000 (24 * I3 x) = some p0) (l81' : ldI g 81 12000 (24 * I3 x + 1) = some p1) (l75 : ldI g 75 500 (I3 x) = some (I3 37)) : F_370 g = ((ldI g 90 100 a).bind fun v100 =>
  (F_368 v100 g).bind fun q101 =>
  some q101) := by
  show F_370_0 g = _
  unfold F_370_0
  simp only [obs]
  rw [e56, show I3 (d + 1) - 1 = I3 d from I3_sub (a := d + 1) (b := 1) (by omega), l103]; simp only [obs]
  rw [l105]; simp only [obs]
  rw [l305]; simp only [obs]
  rw [l77]; simp only [obs]
  rw [l78]; simp only [obs]
  rw [l81]; simp only [obs]
  rw [l81']; simp only [obs]
  rw [l75]; simp only [obs]
  rw [if_neg (show ¬ (I3 37 : Int32) = 0 by decide), if_neg (show ¬ (I3 37 : Int32) = 1 by decide), if_neg (show ¬ (I3 37 : Int32) = 2 by decide), if_neg (show ¬ (I3 37 : Int32) = 3 by decide), if_neg (show ¬ (I3 37 : Int32) = 4 by decide), if_neg (show ¬ (I3 37 : Int32) = 5 by decide), if_neg (show ¬ (I3 37 : Int32) = 6 by decide), if_neg (show ¬ (I3 37 : Int32) = 7 by decide), if_neg (show ¬ (I3 37 : Int32) = 8 by decide), if_neg (show ¬ (I3 37 : Int32) = 9 by decide), if_neg (show ¬ (I3 37 : Int32) = 10 by decide), if_neg (show ¬ (I3 37 : Int32) = 11 by decide), if_neg (show ¬ (I3 37 : Int32) = 12 by decide), if_neg (show ¬ (I3 37 : Int32) = 13 by decide), if_neg (show ¬ (I3 37 : Int32) = 14 by decide), if_neg (show ¬ (I3 37 : Int32) = 15 by decide), if_neg (show ¬ (I3 37 : Int32) = 16 by decide), if_neg (show ¬ (I3 37 : Int32) = 17 by decide), if_neg (show ¬ (I3 37 : Int32) = 18 by decide), if_neg (show ¬ (I3 37 : Int32) = 19 by decide), if_neg (show ¬ (I3 37 : Int32) = 20 by decide), if_neg (show ¬ (I3 37 : Int32) = 21 by decide), if_neg (show ¬ (I3 37 : Int32) = 22 by decide), if_neg (show ¬ (I3 37 : Int32) = 23 by decide), if_neg (show ¬ (I3 37 : Int32) = 24 by decide), if_neg (show ¬ (I3 37 : Int32) = 25 by decide), if_neg (show ¬ (I3 37 : Int32) = 26 by decide), if_neg (show ¬ (I3 37 : Int32) = 27 by decide), if_neg (show ¬ (I3 37 : Int32) = 28 by decide), if_neg (show ¬ (I3 37 : Int32) = 29 by decide), if_neg (show ¬ (I3 37 : Int32) = 30 by decide), if_neg (show ¬ (I3 37 : Int32) = 31 by decide), if_neg (show ¬ (I3 37 : Int32) = 32 by decide), if_neg (show ¬ (I3 37 : Int32) = 33 by decide), if_neg (show ¬ (I3 37 : Int32) = 34 by decide), if_neg (show ¬ (I3 37 : Int32) = 35 by decide), if_neg (show ¬ (I3 37 : Int32) = 36 by decide), if_pos (show (I3 37 : Int32) = 37 by decide)]
theorem B370_38 {g : sm_H} {d x vp m : Nat} {a b p0 p1 : Int32} (e56 : g.1 67 56 = I3 (d + 1)) (l103 : ldI g 103 100 (I3 d) = some (I3 x)) (l105 : ldI g 105 100 (I3 d) = some (I3 vp)) (l305 : F_305 (I3 x) g = some (I3 m, g)) (l77 : ldI g 77 500 (I3 x) = some a) (l78 : ldI g 78 500 (I3 x) = some b) (l81 : ldI g 81 12000 (24 * I3 x) = some p0) (l81' : ldI g 81 12000 (24 * I3 x + 1) = some p1) (l75 : ldI g 75 500 (I3 x) = some (I3 38)) : F_370 g = ((F_369 a g).bind fun q102 =>
  some q102) := by
  show F_370_0 g = _
  unfold F_370_0
  simp only [obs]
  rw [e56, show I3 (d + 1) - 1 = I3 d from I3_sub (a := d + 1) (b := 1) (by omega), l103]; simp only [obs]
  rw [l105]; simp only [obs]
  rw [l305]; simp only [obs]
  rw [l77]; simp only [obs]
  rw [l78]; simp only [obs]
  rw [l81]; simp only [obs]
  rw [l81']; simp only [obs]
  rw [l75]; simp only [obs]
  rw [if_neg (show ¬ (I3 38 : Int32) = 0 by decide), if_neg (show ¬ (I3 38 : Int32) = 1 by decide), if_neg (show ¬ (I3 38 : Int32) = 2 by decide), if_neg (show ¬ (I3 38 : Int32) = 3 by decide), if_neg (show ¬ (I3 38 : Int32) = 4 by decide), if_neg (show ¬ (I3 38 : Int32) = 5 by decide), if_neg (show ¬ (I3 38 : Int32) = 6 by decide), if_neg (show ¬ (I3 38 : Int32) = 7 by decide), if_neg (show ¬ (I3 38 : Int32) = 8 by decide), if_neg (show ¬ (I3 38 : Int32) = 9 by decide), if_neg (show ¬ (I3 38 : Int32) = 10 by decide), if_neg (show ¬ (I3 38 : Int32) = 11 by decide), if_neg (show ¬ (I3 38 : Int32) = 12 by decide), if_neg (show ¬ (I3 38 : Int32) = 13 by decide), if_neg (show ¬ (I3 38 : Int32) = 14 by decide), if_neg (show ¬ (I3 38 : Int32) = 15 by decide), if_neg (show ¬ (I3 38 : Int32) = 16 by decide), if_neg (show ¬ (I3 38 : Int32) = 17 by decide), if_neg (show ¬ (I3 38 : Int32) = 18 by decide), if_neg (show ¬ (I3 38 : Int32) = 19 by decide), if_neg (show ¬ (I3 38 : Int32) = 20 by decide), if_neg (show ¬ (I3 38 : Int32) = 21 by decide), if_neg (show ¬ (I3 38 : Int32) = 22 by decide), if_neg (show ¬ (I3 38 : Int32) = 23 by decide), if_neg (show ¬ (I3 38 : Int32) = 24 by decide), if_neg (show ¬ (I3 38 : Int32) = 25 by decide), if_neg (show ¬ (I3 38 : Int32) = 26 by decide), if_neg (show ¬ (I3 38 : Int32) = 27 by decide), if_neg (show ¬ (I3 38 : Int32) = 28 by decide), if_neg (show ¬ (I3 38 : Int32) = 29 by decide), if_neg (show ¬ (I3 38 : Int32) = 30 by decide), if_neg (show ¬ (I3 38 : Int32) = 31 by decide), if_neg (show ¬ (I3 38 : Int32) = 32 by decide), if_neg (show ¬ (I3 38 : Int32) = 33 by decide), if_neg (show ¬ (I3 38 : Int32) = 34 by decide), if_neg (show ¬ (I3 38 : Int32) = 35 by decide), if_neg (show ¬ (I3 38 : Int32) = 36 by decide), if_neg (show ¬ (I3 38 : Int32) = 37 by decide)]
