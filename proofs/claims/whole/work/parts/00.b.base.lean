def P_bc : List Nat := [11, 2, 102, 100, 100, 9, 100, 100, 100, 100, 1, 100, 100, 100, 101, 100, 100, 100, 100, 100, 100, 6, 103, 8, 101, 100, 8, 101, 100, 8, 101, 100, 100, 102, 0, 5, 100, 100, 4, 100, 100, 100, 102, 100, 100, 100, 100, 5, 100, 3, 101, 100, 10, 100, 100, 7, 5, 100, 101, 100, 100, 101, 101, 100, 5, 100, 101, 12, 100, 100, 100, 100, 100, 100, 100, 100, 100, 100, 100, 101, 100, 100, 100, 100, 100, 100, 102, 102, 100, 100, 100, 100, 100, 102, 100, 101, 100, 100, 100, 101, 100, 101, 100, 100, 100, 100, 100, 100, 100, 101, 101, 100, 100, 101, 100, 100, 100, 101, 100, 100, 100, 100, 100, 100, 100, 100, 101, 100, 100, 100, 101]
def P_bl : List Nat := [0, 0, 1024, 32, 32, 0, 300, 300, 3000, 10, 0, 500, 500, 500, 500, 500, 10000, 500, 500, 500, 5000, 0, 1000, 0, 100, 100, 0, 0, 0, 0, 100, 100, 80, 20, 0, 0, 20, 4, 0, 100, 100, 100, 100, 100, 100, 100, 100, 0, 20, 0, 1616, 1616, 0, 3000, 20, 0, 0, 20, 16, 16, 200, 200, 60, 60, 0, 20, 10, 0, 20, 24, 12, 12, 300, 300, 3000, 500, 500, 500, 500, 500, 500, 12000, 64, 100, 100, 100, 100, 100, 100, 100, 100, 100, 80, 20, 100, 100, 1000, 1000, 100000, 100000, 100, 100, 24, 100, 100, 100, 100, 100, 6000, 6000, 10, 20, 3000, 60, 60, 60, 360, 400, 400, 24, 24, 24, 24, 24, 24, 480, 72, 8, 16, 8, 8]
def P_fr : List (List (Option Nat)) := [[some 1, some 5, some 10, some 21, some 34, some 38, some 49, some 52, some 55, some 64, some 66], [some 2, some 3, some 4], [], [], [], [some 1, some 6, some 7, some 8, none, some 9], [], [], [], [], [some 5, some 11, some 12, some 13, some 14, some 15, some 16, some 17, some 18, some 19, some 20], [], [], [], [], [], [], [], [], [], [], [some 1, some 22, none, some 23, some 26, some 29, none, some 32, none, some 33], [], [some 24, some 25], [], [], [some 27, some 28], [], [], [some 30, some 31], [], [], [], [], [some 1, some 5, some 10, some 21, some 35, some 37], [some 36], [], [], [some 1, some 5, some 10, some 34, some 39, some 40, some 41, some 42, some 43, some 44, some 45, some 46, some 47], [], [], [], [], [], [], [], [], [some 48], [], [some 1, some 5, some 10, some 21, some 38, some 50, some 51], [], [], [some 53, none, some 54], [], [], [some 34, some 1, some 5, some 10, some 21, some 52, some 56, some 58, some 59, none, some 60, some 61, none, some 62, some 63], [some 57], [], [], [], [], [], [], [], [some 65], [], [], [some 68, none, some 69, none, some 70, some 71, none, some 72, some 73, some 74, none, some 75, some 76, some 77, some 78, some 79, some 80, some 81, none, none, none, none, some 82, some 83, some 84, some 85, some 86, some 87, some 88, some 89, some 90, some 91, none, none, some 92, none, some 93, none, some 94, some 95, none, some 96, some 97, some 98, some 99, none, some 100, some 101, none, none, some 102, some 103, some 104, some 105, some 106, some 107, none, some 108, some 109, none, none, none, none, none, none, none, none, some 110, none, none, none, none, none, none, some 111, some 112, none, none, none, none, none, none, none, none, none, none, none, some 113, some 114, some 115, some 116, none, some 117, some 118, none, some 119, some 120, some 121, some 122, some 123, some 124, some 125, none, some 126, none, none, none, some 127, none, some 128, some 129, some 130], [], [], [], [], [], [], [], [], [], [], [], [], [], [], [], [], [], [], [], [], [], [], [], [], [], [], [], [], [], [], [], [], [], [], [], [], [], [], [], [], [], [], [], [], [], [], [], [], [], [], [], [], [], [], [], [], [], [], [], [], [], [], []]
def P_HAS : List Int32 := [5, 0, 1, 3, 3, 2, 5, 1, 1, 0, 3, 2, 2, 2, 0, 1, 0, 0, 2, 3, 1, 1, 1, 1, 1, 1, 1, 2, 2, 1, 1, 1, 0, 0, 2]
def P_PARTS : List Int32 := [0, 1, 0, 0, 1, (-1), 1, 2, 2, 2, 1, 1, 1, 1, 3, 2, 2, (-1), (-1), 0, 0, 0, 0, 0, 0, 0, 0, 0, 0, 0, 2, 0, 0, 0, 0]
def P_SO : List Int32 := [0, 1, 2, 3, 4, 5, 6, 7, 11, 12]
def P_KP : List Int32 := [3, 0, 2, 0, 0, 1, 1, 0, 1, 1, 2, 3, 1, 2, 1, 1, 2]
def P_KW : List Int64 := [26982, 7103860, 25711, 1819242352, 7631481, 24947, 439956431717, 1853189228, 7499639, 1936292453, 6776180, 7562612, 26995, 1935764837, 499968536439, 1668244581]
def P_KN : List Int64 := [118, 122, 98, 115, 99, 105, 106, 111, 110, 28538, 28514, 28531, 28515, 28521, 28522, 30825, 30826, 30831, 104, 101, 27440, 27441, 27442, 27443, 27444, 27445, 27446, 27447, 27448, 27449, 7024944, 7024945]
def P_sI (L : Nat) (xs : Nat → Int32) (j : Nat) : Nat × (Nat → Int32) := match j with
  | 0 => (35, fun k => P_HAS.getD k 0)
  | 1 => (35, fun k => P_PARTS.getD k 0)
  | 2 => (10, fun k => P_SO.getD k 0)
  | 3 => (17, fun k => P_KP.getD k 0)
  | _ => (L, xs)
def P_sJ (j : Nat) : Nat × (Nat → Int64) := match j with
  | 0 => (16, fun k => P_KW.getD k 0)
  | _ => (32, fun k => P_KN.getD k 0)
def P_ix (x : Int32) : Int32 := if x = 43 then 0 else if x = 45 then 1 else if x = 42 then 2 else if x = 47 then 3 else if x = 37 then 4 else if x = 38 then 5 else if x = 124 then 6 else if x = 94 then 7 else if x = 60 then 8 else if x = 61 then 9 else -1
def P_G (L : Nat) (xs : Nat → Int32) : sm_G := (131, fun a => P_bc.getD a 0, fun a => P_bl.getD a 0, fun a k => (P_fr.getD a []).getD k none, P_sI L xs, P_sJ, P_ix)
def lp {σ ρ : Type} (body : σ → Option (σ ⊕ ρ)) : Nat → σ → Option ρ
  | 0, _ => none
  | n + 1, s => (match body s with
    | none => none
    | some (.inl s') => lp body n s'
    | some (.inr r) => some r)
def ldI (h : sm_H) (a n : Nat) (i : Int32) : Option Int32 := if sm_in i n then some (h.1 a i.toNatClampNeg) else none
def ldJ (h : sm_H) (a n : Nat) (i : Int32) : Option Int64 := if sm_in i n then some (h.2.1 a i.toNatClampNeg) else none
def ldZ (h : sm_H) (a n : Nat) (i : Int32) : Option Int32 := if sm_in i n then some (h.1 a i.toNatClampNeg) else none
def stI (h : sm_H) (a n : Nat) (i x : Int32) : Option sm_H := if sm_in i n then some (sm_wI h a i.toNatClampNeg x) else none
def stJ (h : sm_H) (a n : Nat) (i : Int32) (x : Int64) : Option sm_H := if sm_in i n then some (sm_wJ h a i.toNatClampNeg x) else none
def stZ (h : sm_H) (a n : Nat) (i x : Int32) : Option sm_H := if sm_in i n then some (sm_wI h a i.toNatClampNeg (vp_nar .boolean x)) else none
def F_289_20 (z0 : Int32) (h : sm_H) : Option (Int32 × sm_H) :=
  if z0 = 0 ∨ z0 = 1 then some (z0, h) else none
def F_289_19  (h : sm_H) : Option (Int32 × sm_H) :=
  F_289_20 0 h
def F_289_0 (x1 : Int32) (h : sm_H) : Option (Int32 × sm_H) :=
  if x1 < 0 then (F_289_19 h)
  else (if (20 + (h.1 67 6)) ≤ x1 then (F_289_19 h)
  else (F_289_20 1 h))
abbrev F_289 (x1 : Int32) (h : sm_H) : Option (Int32 × sm_H) := F_289_0 x1 h
def F_290_16 (z0 : Int32) (h : sm_H) : Option (Int32 × sm_H) :=
  if z0 = 0 ∨ z0 = 1 then some (z0, h) else none
def F_290_15  (h : sm_H) : Option (Int32 × sm_H) :=
  F_290_16 0 h
def F_290_0 (x0 : Int32) (h : sm_H) : Option (Int32 × sm_H) :=
  if x0 < 1 then (F_290_15 h)
  else (if 6 < x0 then (F_290_15 h)
  else (F_290_16 1 h))
abbrev F_290 (x0 : Int32) (h : sm_H) : Option (Int32 × sm_H) := F_290_0 x0 h
def F_291_11 (z0 : Int32) (h : sm_H) : Option (Int32 × sm_H) :=
  if z0 = 0 ∨ z0 = 1 then some (z0, h) else none
def F_291_0 (x0 : Int32) (h : sm_H) : Option (Int32 × sm_H) :=
  if x0 < 7 then (F_291_11 0 h)
  else (F_291_11 1 h)
abbrev F_291 (x0 : Int32) (h : sm_H) : Option (Int32 × sm_H) := F_291_0 x0 h
def F_292_17 (z0 : Int32) (h : sm_H) : Option (Int32 × sm_H) :=
  if z0 = 0 ∨ z0 = 1 then some (z0, h) else none
def F_292_16  (h : sm_H) : Option (Int32 × sm_H) :=
  F_292_17 0 h
def F_292_0 (x0 : Int32) (h : sm_H) : Option (Int32 × sm_H) :=
  if x0 ≤ 8 then (F_292_16 h)
  else (if 15 ≤ x0 then (F_292_16 h)
  else (F_292_17 1 h))
abbrev F_292 (x0 : Int32) (h : sm_H) : Option (Int32 × sm_H) := F_292_0 x0 h
def F_293_17 (z0 : Int32) (h : sm_H) : Option (Int32 × sm_H) :=
  if z0 = 0 ∨ z0 = 1 then some (z0, h) else none
def F_293_16  (h : sm_H) : Option (Int32 × sm_H) :=
  F_293_17 0 h
def F_293_0 (x0 : Int32) (h : sm_H) : Option (Int32 × sm_H) :=
  if x0 < 15 then (F_293_16 h)
  else (if 17 < x0 then (F_293_16 h)
  else (F_293_17 1 h))
abbrev F_293 (x0 : Int32) (h : sm_H) : Option (Int32 × sm_H) := F_293_0 x0 h
def F_294_23 (z0 : Int32) (h : sm_H) : Option (Int32 × sm_H) :=
  some (z0, h)
def F_294_0 (x0 : Int32) (h : sm_H) : Option (Int32 × sm_H) :=
  if x0 = 15 then (F_294_23 5 h)
  else (if x0 = 16 then (F_294_23 6 h)
  else (F_294_23 7 h))
abbrev F_294 (x0 : Int32) (h : sm_H) : Option (Int32 × sm_H) := F_294_0 x0 h
def F_295_69B (s : (Int32 × Int32 × sm_H)) : Option ((Int32 × Int32 × sm_H) ⊕ (Int32 × sm_H)) :=
  if s.2.1 < 20 then (some (.inr (0, s.2.2)))
  else ((ldI s.2.2 70 12 (s.2.1 - 20)).bind fun v1 =>
  if v1 = s.1 then (some (.inr (1, s.2.2)))
  else (some (.inl (s.1, v1, s.2.2))))
def F_295_69 (y2 : Int32) (y3 : Int32) (h : sm_H) : Option (Int32 × sm_H) := lp F_295_69B 1000000 (y2, y3, h)
def F_295_66 (z0 : Int32) (h : sm_H) : Option (Int32 × sm_H) :=
  if z0 = 0 ∨ z0 = 1 then some (z0, h) else none
def F_295_61  (h : sm_H) : Option (Int32 × sm_H) :=
  F_295_66 1 h
def F_295_21  (h : sm_H) : Option (Int32 × sm_H) :=
  some (0, h)
def F_295_0 (x1 : Int32) (x2 : Int32) (h : sm_H) : Option (Int32 × sm_H) :=
  if x1 = x2 then (some (1, h))
  else ((F_291 x1 h).bind fun q2 =>
  if q2.1 = 0 then (F_295_21 q2.2)
  else ((F_291 x2 q2.2).bind fun q3 =>
  if q3.1 = 0 then (F_295_21 q3.2)
  else (if x2 = 7 then (some (1, q3.2))
  else (if x2 = 8 then (if x1 = 10 then (F_295_61 q3.2)
  else (if x1 = 11 then (F_295_61 q3.2)
  else (if x1 = 13 then (F_295_61 q3.2)
  else (if x1 = 14 then (F_295_61 q3.2)
  else (F_295_66 0 q3.2)))))
  else (F_295_69 x2 x1 q3.2)))))
abbrev F_295 (x1 : Int32) (x2 : Int32) (h : sm_H) : Option (Int32 × sm_H) := F_295_0 x1 x2 h
def F_296_107 (z0 : Int32) (h : sm_H) : Option (Int32 × sm_H) :=
  if z0 = 0 ∨ z0 = 1 then some (z0, h) else none
def F_296_95 (z0 : Int32) (h : sm_H) : Option (Int32 × sm_H) :=
  if z0 = 0 ∨ z0 = 1 then some (z0, h) else none
def F_296_90  (h : sm_H) : Option (Int32 × sm_H) :=
  F_296_95 1 h
def F_296_78 (z0 : Int32) (h : sm_H) : Option (Int32 × sm_H) :=
  if z0 = 0 ∨ z0 = 1 then some (z0, h) else none
def F_296_73  (h : sm_H) : Option (Int32 × sm_H) :=
  F_296_78 1 h
def F_296_61 (z0 : Int32) (h : sm_H) : Option (Int32 × sm_H) :=
  if z0 = 0 ∨ z0 = 1 then some (z0, h) else none
def F_296_56  (h : sm_H) : Option (Int32 × sm_H) :=
  F_296_61 1 h
def F_296_0 (x0 : Int32) (x1 : Int32) (h : sm_H) : Option (Int32 × sm_H) :=
  if x0 = x1 then (some (1, h))
  else (if x0 = 2 then (if x1 = 3 then (F_296_56 h)
  else (if x1 = 5 then (F_296_56 h)
  else (if x1 = 6 then (F_296_56 h)
  else (F_296_61 0 h))))
  else (if x0 = 3 then (if x1 = 5 then (F_296_73 h)
  else (if x1 = 6 then (F_296_73 h)
  else (F_296_78 0 h)))
  else (if x0 = 4 then (if x1 = 5 then (F_296_90 h)
  else (if x1 = 6 then (F_296_90 h)
  else (F_296_95 0 h)))
  else (if x0 = 5 then (if x1 = 6 then (F_296_107 1 h)
  else (F_296_107 0 h))
  else (some (0, h))))))
abbrev F_296 (x0 : Int32) (x1 : Int32) (h : sm_H) : Option (Int32 × sm_H) := F_296_0 x0 x1 h
def F_297_148 (z0 : Int32) (h : sm_H) : Option (Int32 × sm_H) :=
  if z0 = 0 ∨ z0 = 1 then some (z0, h) else none
def F_297_147  (h : sm_H) : Option (Int32 × sm_H) :=
  F_297_148 0 h
def F_297_143  (h : sm_H) : Option (Int32 × sm_H) :=
  F_297_148 1 h
def F_297_120 (z0 : Int32) (h : sm_H) : Option (Int32 × sm_H) :=
  if z0 = 0 ∨ z0 = 1 then some (z0, h) else none
def F_297_115  (h : sm_H) : Option (Int32 × sm_H) :=
  F_297_120 1 h
def F_297_50 (y1 : Int32) (y2 : Int32) (y3 : Int32) (h : sm_H) : Option (Int32 × sm_H) :=
  (F_290 y1 h).bind fun q1 =>
  if q1.1 = 0 then ((F_291 y2 q1.2).bind fun q2 =>
  if q2.1 = 0 then (if y1 = 7 then (some (1, q2.2))
  else (if y1 = 8 then (if y3 = 0 then (if y2 = 2 then (F_297_115 q2.2)
  else (if y2 = 3 then (F_297_115 q2.2)
  else (if y2 = 5 then (F_297_115 q2.2)
  else (if y2 = 6 then (F_297_115 q2.2)
  else (F_297_120 0 q2.2)))))
  else (F_297_115 q2.2))
  else ((F_292 y1 q2.2).bind fun q3 =>
  if q3.1 = 0 then (F_297_147 q3.2)
  else (if y3 = 0 then ((F_296 (y1 - 8) y2 q3.2).bind fun q4 =>
  if q4.1 = 0 then (F_297_147 q4.2)
  else (F_297_143 q4.2))
  else (F_297_143 q3.2)))))
  else (some (1, q2.2)))
  else ((F_295 (y1 + 8) y2 q1.2).bind fun q5 =>
  if q5.1 = 0 ∨ q5.1 = 1 then some (q5.1, q5.2) else none)
def F_297_49 (z0 : Int32) (h : sm_H) : Option (Int32 × sm_H) :=
  if z0 = 0 ∨ z0 = 1 then some (z0, h) else none
def F_297_44  (h : sm_H) : Option (Int32 × sm_H) :=
  F_297_49 1 h
def F_297_15 (y4 : Int32) (h : sm_H) : Option (Int32 × sm_H) :=
  if y4 = 0 ∨ y4 = 1 then some (y4, h) else none
def F_297_0 (x1 : Int32) (x2 : Int32) (x3 : Int32) (x4 : Int32) (h : sm_H) : Option (Int32 × sm_H) :=
  if x1 = x2 then (some (1, h))
  else (if x1 = 0 then (F_297_15 x4 h)
  else (if x2 = 0 then (F_297_15 x4 h)
  else ((F_290 x1 h).bind fun q6 =>
  if q6.1 = 0 then (F_297_50 x1 x2 x3 q6.2)
  else ((F_290 x2 q6.2).bind fun q7 =>
  if q7.1 = 0 then (F_297_50 x1 x2 x3 q7.2)
  else (if x3 = 0 then ((F_296 x1 x2 q7.2).bind fun q8 =>
  if q8.1 = 0 then (F_297_49 0 q8.2)
  else (F_297_44 q8.2))
  else (F_297_44 q7.2))))))
abbrev F_297 (x1 : Int32) (x2 : Int32) (x3 : Int32) (x4 : Int32) (h : sm_H) : Option (Int32 × sm_H) := F_297_0 x1 x2 x3 x4 h
def F_298_0 (x0 : Int32) (x1 : Int64) (h : sm_H) : Option (Int64 × sm_H) :=
  if x0 = 1 then (some ((x1 &&& 1), h))
  else (if x0 = 2 then (some ((Int32.toInt64 (Int32.toInt8 (Int64.toInt32 x1)).toInt32), h))
  else (if x0 = 3 then (some ((Int32.toInt64 (Int32.toInt16 (Int64.toInt32 x1)).toInt32), h))
  else (if x0 = 4 then (some ((x1 &&& 65535), h))
  else (if x0 = 5 then (some ((Int32.toInt64 (Int64.toInt32 x1)), h))
  else (some (x1, h))))))
abbrev F_298 (x0 : Int32) (x1 : Int64) (h : sm_H) : Option (Int64 × sm_H) := F_298_0 x0 x1 h
def F_299_13 (z1 : Int32) (h : sm_H) : Option (sm_H) :=
  (some (sm_wI h 67 48 z1)).bind fun h1 =>
  (some (sm_wJ h1 67 49 0)).bind fun h2 =>
  some h2
def F_299_0 (x1 : Int32) (h : sm_H) : Option (sm_H) :=
  (F_290 x1 h).bind fun q3 =>
  if q3.1 = 0 then (F_299_13 0 q3.2)
  else (F_299_13 x1 q3.2)
abbrev F_299 (x1 : Int32) (h : sm_H) : Option (sm_H) := F_299_0 x1 h
def F_300_191 (z1 : Int64) (h : sm_H) : Option (Int32 × sm_H) :=
  (some (sm_wJ h 67 49 z1)).bind fun h1 =>
  some (0, h1)
def F_300_169 (y2 : Int32) (y4 : Int64) (y6 : Int32) (h : sm_H) : Option (Int32 × sm_H) :=
  (some (sm_wI h 67 48 y2)).bind fun h2 =>
  if y6 = 0 then (F_300_191 y4 h2)
  else ((F_298 y2 y4 h2).bind fun q3 =>
  F_300_191 q3.1 q3.2)
def F_300_167  (h : sm_H) : Option (Int32 × sm_H) :=
  some (2, h)
def F_300_143 (z0 : Int32) (h : sm_H) : Option (Int32 × sm_H) :=
  some (z0, h)
def F_300_123 (z0 : Int32) (h : sm_H) : Option (Int32 × sm_H) :=
  some (z0, h)
def F_300_122  (h : sm_H) : Option (Int32 × sm_H) :=
  F_300_123 0 h
def F_300_81 (y1 : Int32) (y2 : Int32) (y3 : Int32) (y4 : Int64) (y6 : Int32) (h : sm_H) : Option (Int32 × sm_H) :=
  (F_290 y1 h).bind fun q4 =>
  if q4.1 = 0 then ((F_291 y2 q4.2).bind fun q5 =>
  if q5.1 = 0 then (if y3 = 0 then ((F_299 y2 q5.2).bind fun q8 =>
  if y6 = 0 then (F_300_143 1 q8)
  else (F_300_143 0 q8))
  else ((F_292 y3 q5.2).bind fun q6 =>
  if q6.1 = 0 then (F_300_167 q6.2)
  else (if y6 = 0 then ((F_296 (y3 - 8) y2 q6.2).bind fun q7 =>
  if q7.1 = 0 then (F_300_167 q7.2)
  else (F_300_169 y2 y4 y6 q7.2))
  else (F_300_169 y2 y4 y6 q6.2))))
  else (if y3 = 0 then (F_300_122 q5.2)
  else ((F_295 y3 y2 q5.2).bind fun q9 =>
  if q9.1 = 0 then (F_300_123 2 q9.2)
  else (F_300_122 q9.2))))
  else ((some (sm_wI q4.2 67 48 (y1 + 8))).bind fun h10 =>
  some (0, h10))
def F_300_76 (z1 : Int64) (h : sm_H) : Option (Int32 × sm_H) :=
  (some (sm_wJ h 67 49 z1)).bind fun h11 =>
  some (0, h11)
def F_300_0 (x1 : Int32) (x2 : Int32) (x3 : Int32) (x4 : Int64) (x6 : Int32) (h : sm_H) : Option (Int32 × sm_H) :=
  (some (sm_wI h 67 48 x3)).bind fun h12 =>
  (some (sm_wJ h12 67 49 x4)).bind fun h13 =>
  if x1 = x2 then (some (0, h13))
  else (if x2 = 0 then ((F_299 0 h13).bind fun q19 =>
  some (0, q19))
  else (if x1 = 0 then ((F_299 x2 h13).bind fun q18 =>
  some (0, q18))
  else ((F_290 x1 h13).bind fun q14 =>
  if q14.1 = 0 then (F_300_81 x1 x2 x3 x4 x6 q14.2)
  else ((F_290 x2 q14.2).bind fun q15 =>
  if q15.1 = 0 then (F_300_81 x1 x2 x3 x4 x6 q15.2)
  else ((some (sm_wI q15.2 67 48 x2)).bind fun h16 =>
  if x6 = 0 then (F_300_76 x4 h16)
  else ((F_298 x2 x4 h16).bind fun q17 =>
  F_300_76 q17.1 q17.2))))))
abbrev F_300 (x1 : Int32) (x2 : Int32) (x3 : Int32) (x4 : Int64) (x6 : Int32) (h : sm_H) : Option (Int32 × sm_H) := F_300_0 x1 x2 x3 x4 x6 h
def F_301_86 (y1 : Int32) (y2 : Int32) (y3 : Int32) (y4 : Int32) (h : sm_H) : Option ((Int32 × Int32 × Int32 × sm_H) ⊕ (Int32 × sm_H)) :=
  if y4 = 0 then ((some (y3 + 1 : Int32)).bind fun v1 =>
  some (.inl (y1, y2, v1, h)))
  else (some (.inr (y3, h)))
def F_301_78 (y1 : Int32) (y2 : Int32) (y3 : Int32) (y5 : Int32) (z0 : Int32) (h : sm_H) : Option ((Int32 × Int32 × Int32 × Int32 × Int32 × sm_H) ⊕ ((Int32 × Int32 × Int32 × sm_H) ⊕ (Int32 × sm_H))) :=
  (some (y5 + 1 : Int32)).bind fun v2 =>
  some (.inl (y1, y2, y3, z0, v2, h))
def F_301_40B (s : (Int32 × Int32 × Int32 × Int32 × Int32 × sm_H)) : Option ((Int32 × Int32 × Int32 × Int32 × Int32 × sm_H) ⊕ ((Int32 × Int32 × Int32 × sm_H) ⊕ (Int32 × sm_H))) :=
  if s.2.1 ≤ s.2.2.2.2.1 then ((F_301_86 s.1 s.2.1 s.2.2.1 s.2.2.2.1 s.2.2.2.2.2).map fun r => (.inr r))
  else (if s.2.2.2.1 = 0 then ((F_301_86 s.1 s.2.1 s.2.2.1 s.2.2.2.1 s.2.2.2.2.2).map fun r => (.inr r))
  else ((ldI s.2.2.2.2.2 74 3000 ((10 * s.2.2.1) + s.2.2.2.2.1)).bind fun v3 =>
  (ldI s.2.2.2.2.2 82 64 s.2.2.2.2.1).bind fun v4 =>
  if v3 = v4 then (F_301_78 s.1 s.2.1 s.2.2.1 s.2.2.2.2.1 1 s.2.2.2.2.2)
  else (F_301_78 s.1 s.2.1 s.2.2.1 s.2.2.2.2.1 0 s.2.2.2.2.2)))
def F_301_40 (y1 : Int32) (y2 : Int32) (y3 : Int32) (y4 : Int32) (y5 : Int32) (h : sm_H) : Option ((Int32 × Int32 × Int32 × sm_H) ⊕ (Int32 × sm_H)) := lp F_301_40B 1000000 (y1, y2, y3, y4, y5, h)
def F_301_35 (y1 : Int32) (y2 : Int32) (y3 : Int32) (z0 : Int32) (h : sm_H) : Option ((Int32 × Int32 × Int32 × sm_H) ⊕ (Int32 × sm_H)) :=
  F_301_40 y1 y2 y3 z0 0 h
def F_301_34 (y1 : Int32) (y2 : Int32) (y3 : Int32) (h : sm_H) : Option ((Int32 × Int32 × Int32 × sm_H) ⊕ (Int32 × sm_H)) :=
  F_301_35 y1 y2 y3 0 h
def F_301_2B (s : (Int32 × Int32 × Int32 × sm_H)) : Option ((Int32 × Int32 × Int32 × sm_H) ⊕ (Int32 × sm_H)) :=
  if (s.2.2.2.1 67 10) ≤ s.2.2.1 then (some (.inr ((-1), s.2.2.2)))
  else ((ldI s.2.2.2 72 300 s.2.2.1).bind fun v5 =>
  if v5 = s.1 then ((ldI s.2.2.2 73 300 s.2.2.1).bind fun v6 =>
  if v6 = s.2.1 then (F_301_35 s.1 s.2.1 s.2.2.1 1 s.2.2.2)
  else (F_301_34 s.1 s.2.1 s.2.2.1 s.2.2.2))
  else (F_301_34 s.1 s.2.1 s.2.2.1 s.2.2.2))
def F_301_2 (y1 : Int32) (y2 : Int32) (y3 : Int32) (h : sm_H) : Option (Int32 × sm_H) := lp F_301_2B 1000000 (y1, y2, y3, h)
def F_301_0 (x1 : Int32) (x2 : Int32) (h : sm_H) : Option (Int32 × sm_H) :=
  F_301_2 x1 x2 0 h
abbrev F_301 (x1 : Int32) (x2 : Int32) (h : sm_H) : Option (Int32 × sm_H) := F_301_0 x1 x2 h
def F_302_69B (s : (Int32 × sm_H)) : Option ((Int32 × sm_H) ⊕ (Int32 × sm_H)) :=
  if (s.2.1 67 21) ≤ s.1 then ((some (sm_wI s.2 67 10 ((s.2.1 67 10) + 1))).bind fun h1 =>
  some (.inr (((h1.1 67 10) - 1), h1)))
  else ((ldI s.2 82 64 s.1).bind fun v2 =>
  (stI s.2 74 3000 ((10 * (s.2.1 67 10)) + s.1) v2).bind fun h3 =>
  (some (s.1 + 1 : Int32)).bind fun v4 =>
  some (.inl (v4, h3)))
def F_302_69 (y2 : Int32) (h : sm_H) : Option (Int32 × sm_H) := lp F_302_69B 1000000 (y2, h)
def F_302_39 (y1 : Int32) (h : sm_H) : Option (Int32 × sm_H) :=
  some (y1, h)
def F_302_0  (h : sm_H) : Option (Int32 × sm_H) :=
  if (h.1 67 21) ≤ 10 then ((F_301 (h.1 67 20) (h.1 67 21) h).bind fun q5 =>
  if q5.1 = (-1) then (if (q5.2.1 67 10) = 300 then (F_302_39 q5.1 q5.2)
  else ((stI q5.2 72 300 (q5.2.1 67 10) (q5.2.1 67 20)).bind fun h6 =>
  (stI h6 73 300 (h6.1 67 10) (h6.1 67 21)).bind fun h7 =>
  F_302_69 0 h7))
  else (F_302_39 q5.1 q5.2))
  else (some ((-1), h))
abbrev F_302  (h : sm_H) : Option (Int32 × sm_H) := F_302_0  h
def F_303_17 (z0 : Int32) (h : sm_H) : Option (Int32 × sm_H) :=
  if z0 = 0 ∨ z0 = 1 then some (z0, h) else none
def F_303_16  (h : sm_H) : Option (Int32 × sm_H) :=
  F_303_17 0 h
def F_303_0 (x1 : Int32) (h : sm_H) : Option (Int32 × sm_H) :=
  if x1 < 0 then (F_303_16 h)
  else (if (h.1 67 10) ≤ x1 then (F_303_16 h)
  else (F_303_17 1 h))
abbrev F_303 (x1 : Int32) (h : sm_H) : Option (Int32 × sm_H) := F_303_0 x1 h
def F_304_17 (z0 : Int32) (h : sm_H) : Option (Int32 × sm_H) :=
  if z0 = 0 ∨ z0 = 1 then some (z0, h) else none
def F_304_16  (h : sm_H) : Option (Int32 × sm_H) :=
  F_304_17 0 h
def F_304_0 (x1 : Int32) (h : sm_H) : Option (Int32 × sm_H) :=
  if x1 < 0 then (F_304_16 h)
  else (if (h.1 67 18) ≤ x1 then (F_304_16 h)
  else (F_304_17 1 h))
abbrev F_304 (x1 : Int32) (h : sm_H) : Option (Int32 × sm_H) := F_304_0 x1 h
def F_305_0 (x1 : Int32) (h : sm_H) : Option (Int32 × sm_H) :=
  (ldI h 76 500 x1).bind fun v1 =>
  (ldI h 73 300 v1).bind fun v2 =>
  some (v2, h)
abbrev F_305 (x1 : Int32) (h : sm_H) : Option (Int32 × sm_H) := F_305_0 x1 h
def F_306_0 (x1 : Int32) (x2 : Int32) (h : sm_H) : Option (Int32 × sm_H) :=
  (ldI h 76 500 x1).bind fun v1 =>
  (ldI h 74 3000 ((10 * v1) + x2)).bind fun v2 =>
  some (v2, h)
abbrev F_306 (x1 : Int32) (x2 : Int32) (h : sm_H) : Option (Int32 × sm_H) := F_306_0 x1 x2 h
def F_307_0 (x1 : Int32) (h : sm_H) : Option (Int32 × sm_H) :=
  (ldI h 76 500 x1).bind fun v1 =>
  (ldI h 72 300 v1).bind fun v2 =>
  some (v2, h)
abbrev F_307 (x1 : Int32) (h : sm_H) : Option (Int32 × sm_H) := F_307_0 x1 h
def F_308_0 (x1 : Int32) (h : sm_H) : Option (sm_H) :=
  (some (sm_wI h 67 20 x1)).bind fun h1 =>
  (some (sm_wI h1 67 21 0)).bind fun h2 =>
  some h2
abbrev F_308 (x1 : Int32) (h : sm_H) : Option (sm_H) := F_308_0 x1 h
def F_309_0 (x1 : Int32) (h : sm_H) : Option (sm_H) :=
  (stI h 82 64 (h.1 67 21) x1).bind fun h1 =>
  (some (sm_wI h1 67 21 ((h1.1 67 21) + 1))).bind fun h2 =>
  some h2
abbrev F_309 (x1 : Int32) (h : sm_H) : Option (sm_H) := F_309_0 x1 h
def F_310_3B (s : (Int32 × Int32 × Int32 × sm_H)) : Option ((Int32 × Int32 × Int32 × sm_H) ⊕ (sm_H)) :=
  if s.2.1 ≤ s.2.2.1 then (some (.inr (s.2.2.2)))
  else ((F_306 s.1 s.2.2.1 s.2.2.2).bind fun q1 =>
  (F_309 q1.1 q1.2).bind fun q2 =>
  (some (s.2.2.1 + 1 : Int32)).bind fun v3 =>
  some (.inl (s.1, s.2.1, v3, q2)))
def F_310_3 (y1 : Int32) (y3 : Int32) (y4 : Int32) (h : sm_H) : Option (sm_H) := lp F_310_3B 1000000 (y1, y3, y4, h)
def F_310_0 (x1 : Int32) (x2 : Int32) (x3 : Int32) (h : sm_H) : Option (sm_H) :=
  F_310_3 x1 x3 x2 h
abbrev F_310 (x1 : Int32) (x2 : Int32) (x3 : Int32) (h : sm_H) : Option (sm_H) := F_310_0 x1 x2 x3 h
def F_311_2B (s : (Int32 × Int32 × sm_H)) : Option ((Int32 × Int32 × sm_H) ⊕ (sm_H)) :=
  (ldI s.2.2 73 300 s.1).bind fun v1 =>
  if v1 ≤ s.2.1 then (some (.inr (s.2.2)))
  else ((ldI s.2.2 74 3000 ((10 * s.1) + s.2.1)).bind fun v2 =>
  (F_309 v2 s.2.2).bind fun q3 =>
  (some (s.2.1 + 1 : Int32)).bind fun v4 =>
  some (.inl (s.1, v4, q3)))
def F_311_2 (y1 : Int32) (y2 : Int32) (h : sm_H) : Option (sm_H) := lp F_311_2B 1000000 (y1, y2, h)
def F_311_0 (x1 : Int32) (h : sm_H) : Option (sm_H) :=
  F_311_2 x1 0 h
abbrev F_311 (x1 : Int32) (h : sm_H) : Option (sm_H) := F_311_0 x1 h
def F_312_47  (h : sm_H) : Option (Int32 × sm_H) :=
  some (0, h)
def F_312_3B (s : (Int32 × Int32 × Int32 × Int32 × sm_H)) : Option ((Int32 × Int32 × Int32 × Int32 × sm_H) ⊕ (Int32 × sm_H)) :=
  (F_305 s.1 s.2.2.2.2).bind fun q1 =>
  if q1.1 ≤ s.2.2.2.1 then (some (.inr (1, q1.2)))
  else (if (q1.2.1 67 21) ≤ ((s.2.2.1 + s.2.2.2.1) - s.2.1) then ((F_312_47 q1.2).map fun r => (.inr r))
  else ((ldI q1.2 82 64 ((s.2.2.1 + s.2.2.2.1) - s.2.1)).bind fun v2 =>
  (F_306 s.1 s.2.2.2.1 q1.2).bind fun q3 =>
  if v2 = q3.1 then ((some (s.2.2.2.1 + 1 : Int32)).bind fun v4 =>
  some (.inl (s.1, s.2.1, s.2.2.1, v4, q3.2)))
  else ((F_312_47 q3.2).map fun r => (.inr r))))
def F_312_3 (y1 : Int32) (y2 : Int32) (y3 : Int32) (y4 : Int32) (h : sm_H) : Option (Int32 × sm_H) := lp F_312_3B 1000000 (y1, y2, y3, y4, h)
def F_312_0 (x1 : Int32) (x2 : Int32) (x3 : Int32) (h : sm_H) : Option (Int32 × sm_H) :=
  F_312_3 x1 x2 x3 x2 h
abbrev F_312 (x1 : Int32) (x2 : Int32) (x3 : Int32) (h : sm_H) : Option (Int32 × sm_H) := F_312_0 x1 x2 x3 h
def F_313_0 (x0 : Int32) (h : sm_H) : Option (Int32 × sm_H) :=
  some (((-1) - x0), h)
abbrev F_313 (x0 : Int32) (h : sm_H) : Option (Int32 × sm_H) := F_313_0 x0 h
def F_314_2B (s : (Int32 × Int32 × sm_H)) : Option ((Int32 × Int32 × sm_H) ⊕ (Int32 × sm_H)) :=
  if s.1 ≤ s.2.1 then (some (.inr (1, s.2.2)))
  else ((ldI s.2.2 69 24 s.2.1).bind fun v1 =>
  (F_304 v1 s.2.2).bind fun q2 =>
  if q2.1 = 0 then (some (.inr (0, q2.2)))
  else ((some (s.2.1 + 1 : Int32)).bind fun v3 =>
  some (.inl (s.1, v3, q2.2))))
def F_314_2 (y2 : Int32) (y3 : Int32) (h : sm_H) : Option (Int32 × sm_H) := lp F_314_2B 1000000 (y2, y3, h)
def F_314_0 (x1 : Int32) (x2 : Int32) (h : sm_H) : Option (Int32 × sm_H) :=
  F_314_2 x2 x1 h
abbrev F_314 (x1 : Int32) (x2 : Int32) (h : sm_H) : Option (Int32 × sm_H) := F_314_0 x1 x2 h
def F_315_18 (z0 : Int32) (h : sm_H) : Option (Int32 × sm_H) :=
  if z0 = 0 ∨ z0 = 1 then some (z0, h) else none
def F_315_13  (h : sm_H) : Option (Int32 × sm_H) :=
  F_315_18 1 h
def F_315_0 (x0 : Int64) (x2 : Int64) (x4 : Int64) (h : sm_H) : Option (Int32 × sm_H) :=
  if (lg_cmp x0 x2) < 0 then (F_315_13 h)
  else (if (lg_cmp x0 x4) ≤ 0 then (F_315_18 0 h)
  else (F_315_13 h))
abbrev F_315 (x0 : Int64) (x2 : Int64) (x4 : Int64) (h : sm_H) : Option (Int32 × sm_H) := F_315_0 x0 x2 x4 h
def F_316_40 (z0 : Int32) (h : sm_H) : Option (Int32 × sm_H) :=
  if z0 = 0 ∨ z0 = 1 then some (z0, h) else none
def F_316_17  (h : sm_H) : Option (Int32 × sm_H) :=
  F_316_40 1 h
def F_316_0 (x0 : Int32) (x1 : Int64) (h : sm_H) : Option (Int32 × sm_H) :=
  if x0 = 1 then (if (lg_cmp x1 0) = 0 then (F_316_17 h)
  else (if (lg_cmp x1 1) = 0 then (F_316_17 h)
  else (F_316_40 0 h)))
  else ((F_298 x0 x1 h).bind fun q1 =>
  if (lg_cmp q1.1 x1) = 0 then (F_316_40 1 q1.2)
  else (F_316_40 0 q1.2))
abbrev F_316 (x0 : Int32) (x1 : Int64) (h : sm_H) : Option (Int32 × sm_H) := F_316_0 x0 x1 h
def F_317_72 (z0 : Int32) (h : sm_H) : Option (Int32 × sm_H) :=
  some (z0, h)
def F_317_20 (z0 : Int32) (h : sm_H) : Option (Int32 × sm_H) :=
  some (z0, h)
def F_317_0 (x1 : Int32) (x2 : Int64) (h : sm_H) : Option (Int32 × sm_H) :=
  (F_290 x1 h).bind fun q1 =>
  if q1.1 = 0 then (if (lg_cmp x2 (-1)) = 0 then (some (0, q1.2))
  else ((F_315 x2 0 (Int32.toInt64 ((q1.2.1 67 40) - 1)) q1.2).bind fun q2 =>
  if q2.1 = 0 then ((ldI q2.2 94 100 (Int64.toInt32 x2)).bind fun v3 =>
  (F_295 v3 x1 q2.2).bind fun q4 =>
  if q4.1 = 0 then (F_317_72 3 q4.2)
  else (F_317_72 0 q4.2))
  else (some (1, q2.2))))
  else ((F_316 x1 x2 q1.2).bind fun q5 =>
  if q5.1 = 0 then (F_317_20 2 q5.2)
  else (F_317_20 0 q5.2))
abbrev F_317 (x1 : Int32) (x2 : Int64) (h : sm_H) : Option (Int32 × sm_H) := F_317_0 x1 x2 h
def F_318_25  (h : sm_H) : Option (Int32 × sm_H) :=
  some (1, h)
def F_318_0 (x1 : Int32) (x2 : Int32) (h : sm_H) : Option (Int32 × sm_H) :=
  if (h.1 67 3) = 1 then ((F_314 0 1 h).bind fun q1 =>
  if q1.1 = 0 then (F_318_25 q1.2)
  else ((F_303 x2 q1.2).bind fun q2 =>
  if q2.1 = 0 then (F_318_25 q2.2)
  else ((ldI q2.2 69 24 0).bind fun v3 =>
  (F_305 v3 q2.2).bind fun q4 =>
  (F_315 (Int32.toInt64 x1) 0 (Int32.toInt64 q4.1) q4.2).bind fun q5 =>
  if q5.1 = 0 then ((ldI q5.2 73 300 x2).bind fun v6 =>
  if v6 = 0 then ((F_313 v3 q5.2).bind fun q13 =>
  some (q13.1, q13.2))
  else ((F_307 v3 q5.2).bind fun q7 =>
  (F_308 q7.1 q7.2).bind fun q8 =>
  (F_310 v3 0 x1 q8).bind fun q9 =>
  (F_311 x2 q9).bind fun q10 =>
  (F_305 v3 q10).bind fun q11 =>
  (F_310 v3 x1 q11.1 q11.2).bind fun q12 =>
  some (0, q12)))
  else (some (2, q5.2)))))
  else (F_318_25 h)
abbrev F_318 (x1 : Int32) (x2 : Int32) (h : sm_H) : Option (Int32 × sm_H) := F_318_0 x1 x2 h
def F_319_326 (y1 : Int32) (y2 : Int32) (y4 : Int32) (z0 : Int32) (h : sm_H) : Option ((Int32 × Int32 × Int32 × Int32 × sm_H) ⊕ (Int32 × sm_H)) :=
  (some (y4 + 1 : Int32)).bind fun v1 =>
  some (.inl (y1, y2, z0, v1, h))
def F_319_325 (y1 : Int32) (y2 : Int32) (y4 : Int32) (h : sm_H) : Option ((Int32 × Int32 × Int32 × Int32 × sm_H) ⊕ (Int32 × sm_H)) :=
  F_319_326 y1 y2 y4 0 h
def F_319_294B (s : (Int32 × Int32 × Int32 × Int32 × sm_H)) : Option ((Int32 × Int32 × Int32 × Int32 × sm_H) ⊕ (Int32 × sm_H)) :=
  if (s.2.2.2.2.1 67 3) ≤ s.2.2.2.1 then (if s.2.2.1 = 0 then ((ldI s.2.2.2.2 72 300 s.1).bind fun v2 =>
  (F_308 v2 s.2.2.2.2).bind fun q3 =>
  (F_311 s.1 q3).bind fun q4 =>
  some (.inr (0, q4)))
  else ((F_313 s.2.1 s.2.2.2.2).bind fun q5 =>
  some (.inr (q5.1, q5.2))))
  else (if s.2.2.1 = 0 then (F_319_325 s.1 s.2.1 s.2.2.2.1 s.2.2.2.2)
  else ((ldI s.2.2.2.2 69 24 s.2.2.2.1).bind fun v6 =>
  if v6 = (s.2.2.2.1 - 1) then (F_319_326 s.1 s.2.1 s.2.2.2.1 1 s.2.2.2.2)
  else (F_319_325 s.1 s.2.1 s.2.2.2.1 s.2.2.2.2)))
def F_319_294 (y1 : Int32) (y2 : Int32) (y3 : Int32) (y4 : Int32) (h : sm_H) : Option (Int32 × sm_H) := lp F_319_294B 1000000 (y1, y2, y3, y4, h)
def F_319_290 (y1 : Int32) (y2 : Int32) (z0 : Int32) (h : sm_H) : Option (Int32 × sm_H) :=
  F_319_294 y1 y2 z0 1 h
def F_319_275 (y1 : Int32) (y2 : Int32) (h : sm_H) : Option (Int32 × sm_H) :=
  (ldI h 76 500 y2).bind fun v7 =>
  if v7 = y1 then (F_319_290 y1 y2 1 h)
  else (F_319_290 y1 y2 0 h)
def F_319_229B (s : (Int32 × Int32 × Int32 × Int32 × sm_H)) : Option ((Int32 × Int32 × Int32 × Int32 × sm_H) ⊕ (Int32 × sm_H)) :=
  if s.2.2.1 ≤ s.2.2.2.1 then ((stI s.2.2.2.2 69 24 0 s.2.1).bind fun h8 =>
  (some (sm_wI h8 67 3 (1 + s.2.2.1))).bind fun h9 =>
  (F_319_275 s.1 s.2.1 h9).map fun r => (.inr r))
  else ((ldI s.2.2.2.2 102 24 s.2.2.2.1).bind fun v10 =>
  (stI s.2.2.2.2 69 24 (1 + s.2.2.2.1) v10).bind fun h11 =>
  (some (s.2.2.2.1 + 1 : Int32)).bind fun v12 =>
  some (.inl (s.1, s.2.1, s.2.2.1, v12, h11)))
def F_319_229 (y1 : Int32) (y3 : Int32) (y4 : Int32) (y5 : Int32) (h : sm_H) : Option (Int32 × sm_H) := lp F_319_229B 1000000 (y1, y3, y4, y5, h)
def F_319_185B (s : (Int32 × Int32 × Int32 × Int32 × Int32 × sm_H)) : Option ((Int32 × Int32 × Int32 × Int32 × Int32 × sm_H) ⊕ (Int32 × sm_H)) :=
  if s.2.2.2.1 ≤ s.2.2.2.2.1 then ((F_319_229 s.1 s.2.2.1 s.2.2.2.1 0 s.2.2.2.2.2).map fun r => (.inr r))
  else ((ldI s.2.2.2.2.2 81 12000 (((24 * s.2.1) + 1) + s.2.2.2.2.1)).bind fun v13 =>
  (ldI s.2.2.2.2.2 69 24 (1 + v13)).bind fun v14 =>
  (stI s.2.2.2.2.2 102 24 s.2.2.2.2.1 v14).bind fun h15 =>
  (some (s.2.2.2.2.1 + 1 : Int32)).bind fun v16 =>
  some (.inl (s.1, s.2.1, s.2.2.1, s.2.2.2.1, v16, h15)))
def F_319_185 (y1 : Int32) (y2 : Int32) (y3 : Int32) (y4 : Int32) (y5 : Int32) (h : sm_H) : Option (Int32 × sm_H) := lp F_319_185B 1000000 (y1, y2, y3, y4, y5, h)
def F_319_112B (s : (Int32 × Int32 × Int32 × sm_H)) : Option ((Int32 × Int32 × Int32 × sm_H) ⊕ (Int32 × sm_H)) :=
  if (s.2.2.2.1 67 3) ≤ s.2.2.1 then ((ldI s.2.2.2 75 500 s.2.1).bind fun v17 =>
  if v17 = 5 then ((ldI s.2.2.2 81 12000 (24 * s.2.1)).bind fun v18 =>
  (F_305 v18 s.2.2.2).bind fun q19 =>
  (F_319_185 s.1 s.2.1 v18 q19.1 0 q19.2).map fun r => (.inr r))
  else ((F_319_275 s.1 s.2.1 s.2.2.2).map fun r => (.inr r)))
  else ((ldI s.2.2.2 69 24 s.2.2.1).bind fun v20 =>
  (ldI s.2.2.2 74 3000 ((10 * s.1) + v20)).bind fun v21 =>
  (F_306 s.2.1 (s.2.2.1 - 1) s.2.2.2).bind fun q22 =>
  if v21 = q22.1 then ((some (s.2.2.1 + 1 : Int32)).bind fun v23 =>
  some (.inl (s.1, s.2.1, v23, q22.2)))
  else (some (.inr (3, q22.2))))
def F_319_112 (y1 : Int32) (y2 : Int32) (y3 : Int32) (h : sm_H) : Option (Int32 × sm_H) := lp F_319_112B 1000000 (y1, y2, y3, h)
def F_319_55B (s : (Int32 × Int32 × Int32 × sm_H)) : Option ((Int32 × Int32 × Int32 × sm_H) ⊕ (Int32 × sm_H)) :=
  if (s.2.2.2.1 67 3) ≤ s.2.2.1 then ((ldI s.2.2.2 72 300 s.1).bind fun v24 =>
  (F_307 s.2.1 s.2.2.2).bind fun q25 =>
  if v24 = q25.1 then ((F_319_112 s.1 s.2.1 1 q25.2).map fun r => (.inr r))
  else (some (.inr (3, q25.2))))
  else ((ldI s.2.2.2 69 24 s.2.2.1).bind fun v26 =>
  (ldI s.2.2.2 73 300 s.1).bind fun v27 =>
  (F_315 (Int32.toInt64 v26) 0 (Int32.toInt64 (v27 - 1)) s.2.2.2).bind fun q28 =>
  if q28.1 = 0 then ((some (s.2.2.1 + 1 : Int32)).bind fun v29 =>
  some (.inl (s.1, s.2.1, v29, q28.2)))
  else (some (.inr (2, q28.2))))
def F_319_55 (y1 : Int32) (y2 : Int32) (y3 : Int32) (h : sm_H) : Option (Int32 × sm_H) := lp F_319_55B 1000000 (y1, y2, y3, h)
def F_319_44  (h : sm_H) : Option (Int32 × sm_H) :=
  some (1, h)
def F_319_0 (x1 : Int32) (h : sm_H) : Option (Int32 × sm_H) :=
  if (h.1 67 3) < 1 then (F_319_44 h)
  else ((F_314 0 1 h).bind fun q30 =>
  if q30.1 = 0 then (F_319_44 q30.2)
  else ((F_303 x1 q30.2).bind fun q31 =>
  if q31.1 = 0 then (F_319_44 q31.2)
  else ((ldI q31.2 69 24 0).bind fun v32 =>
  (F_305 v32 q31.2).bind fun q33 =>
  if (q31.2.1 67 3) = (1 + q33.1) then ((ldI q33.2 69 24 0).bind fun v34 =>
  F_319_55 x1 v34 1 q33.2)
  else (F_319_44 q33.2))))
abbrev F_319 (x1 : Int32) (h : sm_H) : Option (Int32 × sm_H) := F_319_0 x1 h
def F_320_17  (h : sm_H) : Option (Int32 × sm_H) :=
  some (1, h)
def F_320_0 (x1 : Int32) (x2 : Int64) (h : sm_H) : Option (Int32 × sm_H) :=
  if (h.1 67 3) = 1 then ((F_314 0 1 h).bind fun q1 =>
  if q1.1 = 0 then (F_320_17 q1.2)
  else ((ldI q1.2 69 24 0).bind fun v2 =>
  (F_305 v2 q1.2).bind fun q3 =>
  (F_315 (Int32.toInt64 x1) 0 (Int32.toInt64 (q3.1 - 1)) q3.2).bind fun q4 =>
  if q4.1 = 0 then ((F_306 v2 x1 q4.2).bind fun q5 =>
  (F_317 q5.1 x2 q5.2).bind fun q6 =>
  if q6.1 = 0 then ((F_307 v2 q6.2).bind fun q7 =>
  (F_308 q7.1 q7.2).bind fun q8 =>
  (F_310 v2 0 x1 q8).bind fun q9 =>
  (F_305 v2 q9).bind fun q10 =>
  (F_310 v2 (x1 + 1) q10.1 q10.2).bind fun q11 =>
  some (0, q11))
  else (some (q6.1, q6.2)))
  else (some (2, q4.2))))
  else (F_320_17 h)
abbrev F_320 (x1 : Int32) (x2 : Int64) (h : sm_H) : Option (Int32 × sm_H) := F_320_0 x1 x2 h
def F_321_90 (y1 : Int32) (y2 : Int32) (y3 : Int32) (y4 : Int32) (h : sm_H) : Option (Int32 × sm_H) :=
  (ldI h 75 500 y3).bind fun v1 =>
  if v1 = 2 then ((F_313 y2 h).bind fun q9 =>
  some (q9.1, q9.2))
  else ((F_307 y2 h).bind fun q2 =>
  (F_308 q2.1 q2.2).bind fun q3 =>
  (F_310 y2 0 y1 q3).bind fun q4 =>
  (F_305 y3 q4).bind fun q5 =>
  (F_310 y3 0 q5.1 q5.2).bind fun q6 =>
  (F_305 y2 q6).bind fun q7 =>
  (F_310 y2 (y1 + y4) q7.1 q7.2).bind fun q8 =>
  some (0, q8))
def F_321_46 (y1 : Int32) (y2 : Int32) (y3 : Int32) (z0 : Int32) (h : sm_H) : Option (Int32 × sm_H) :=
  (F_305 y2 h).bind fun q10 =>
  (F_315 (Int32.toInt64 y1) 0 (Int32.toInt64 (q10.1 - z0)) q10.2).bind fun q11 =>
  if q11.1 = 0 then (if z0 = 1 then ((F_306 y2 y1 q11.2).bind fun q12 =>
  (F_307 y3 q12.2).bind fun q13 =>
  if q12.1 = q13.1 then (F_321_90 y1 y2 y3 z0 q13.2)
  else (some (3, q13.2)))
  else (F_321_90 y1 y2 y3 z0 q11.2))
  else (some (2, q11.2))
def F_321_17  (h : sm_H) : Option (Int32 × sm_H) :=
  some (1, h)
def F_321_0 (x1 : Int32) (h : sm_H) : Option (Int32 × sm_H) :=
  if (h.1 67 3) = 2 then ((F_314 0 2 h).bind fun q14 =>
  if q14.1 = 0 then (F_321_17 q14.2)
  else ((ldI q14.2 69 24 0).bind fun v15 =>
  (ldI q14.2 69 24 1).bind fun v16 =>
  (F_307 v16 q14.2).bind fun q17 =>
  if q17.1 = 0 then (F_321_46 x1 v15 v16 0 q17.2)
  else (F_321_46 x1 v15 v16 1 q17.2)))
  else (F_321_17 h)
abbrev F_321 (x1 : Int32) (h : sm_H) : Option (Int32 × sm_H) := F_321_0 x1 h
def F_322_135 (z0 : Int32) (h : sm_H) : Option (Int32 × sm_H) :=
  some (z0, h)
def F_322_90 (y1 : Int32) (y2 : Int32) (y3 : Int32) (y4 : Int32) (h : sm_H) : Option (Int32 × sm_H) :=
  (F_307 y2 h).bind fun q1 =>
  (F_308 q1.1 q1.2).bind fun q2 =>
  (F_310 y2 0 y1 q2).bind fun q3 =>
  (F_305 y2 q3).bind fun q4 =>
  (F_310 y2 (y1 + y4) q4.1 q4.2).bind fun q5 =>
  (F_312 y3 0 y1 q5).bind fun q6 =>
  if q6.1 = 0 then (F_322_135 3 q6.2)
  else (F_322_135 0 q6.2)
def F_322_46 (y1 : Int32) (y2 : Int32) (y3 : Int32) (z0 : Int32) (h : sm_H) : Option (Int32 × sm_H) :=
  (F_305 y2 h).bind fun q7 =>
  (F_315 (Int32.toInt64 y1) 0 (Int32.toInt64 (q7.1 - z0)) q7.2).bind fun q8 =>
  if q8.1 = 0 then (if z0 = 1 then ((F_306 y2 y1 q8.2).bind fun q9 =>
  (F_307 y3 q9.2).bind fun q10 =>
  if q9.1 = q10.1 then (F_322_90 y1 y2 y3 z0 q10.2)
  else (some (3, q10.2)))
  else (F_322_90 y1 y2 y3 z0 q8.2))
  else (some (2, q8.2))
def F_322_17  (h : sm_H) : Option (Int32 × sm_H) :=
  some (1, h)
def F_322_0 (x1 : Int32) (h : sm_H) : Option (Int32 × sm_H) :=
  if (h.1 67 3) = 2 then ((F_314 0 2 h).bind fun q11 =>
  if q11.1 = 0 then (F_322_17 q11.2)
  else ((ldI q11.2 69 24 0).bind fun v12 =>
  (ldI q11.2 69 24 1).bind fun v13 =>
  (F_307 v13 q11.2).bind fun q14 =>
  if q14.1 = 0 then (F_322_46 x1 v12 v13 0 q14.2)
  else (F_322_46 x1 v12 v13 1 q14.2)))
  else (F_322_17 h)
abbrev F_322 (x1 : Int32) (h : sm_H) : Option (Int32 × sm_H) := F_322_0 x1 h
def F_323_85 (y1 : Int32) (y2 : Int32) (z0 : Int32) (h : sm_H) : Option (Int32 × sm_H) :=
  if z0 = 0 then (some (3, h))
  else ((ldI h 75 500 y2).bind fun v1 =>
  if v1 = 2 then ((F_313 y1 h).bind fun q6 =>
  some (q6.1, q6.2))
  else ((F_307 y2 h).bind fun q2 =>
  (F_308 q2.1 q2.2).bind fun q3 =>
  (F_305 y1 q3).bind fun q4 =>
  (F_310 y1 0 q4.1 q4.2).bind fun q5 =>
  some (0, q5)))
def F_323_84 (y1 : Int32) (y2 : Int32) (h : sm_H) : Option (Int32 × sm_H) :=
  F_323_85 y1 y2 0 h
def F_323_17  (h : sm_H) : Option (Int32 × sm_H) :=
  some (1, h)
def F_323_0  (h : sm_H) : Option (Int32 × sm_H) :=
  if (h.1 67 3) = 2 then ((F_314 0 2 h).bind fun q7 =>
  if q7.1 = 0 then (F_323_17 q7.2)
  else ((ldI q7.2 69 24 0).bind fun v8 =>
  (ldI q7.2 69 24 1).bind fun v9 =>
  (F_307 v8 q7.2).bind fun q10 =>
  if q10.1 = 0 then ((F_305 v9 q10.2).bind fun q14 =>
  if q14.1 = 0 then (F_323_85 v8 v9 1 q14.2)
  else (F_323_85 v8 v9 0 q14.2))
  else ((F_305 v9 q10.2).bind fun q11 =>
  if q11.1 = 1 then ((F_306 v9 0 q11.2).bind fun q12 =>
  (F_307 v8 q12.2).bind fun q13 =>
  if q12.1 = q13.1 then (F_323_85 v8 v9 1 q13.2)
  else (F_323_84 v8 v9 q13.2))
  else (F_323_84 v8 v9 q11.2))))
  else (F_323_17 h)
abbrev F_323  (h : sm_H) : Option (Int32 × sm_H) := F_323_0  h
def F_324_59B (s : (Int32 × Int32 × Int32 × Int32 × sm_H)) : Option ((Int32 × Int32 × Int32 × Int32 × sm_H) ⊕ (Int32 × sm_H)) :=
  (F_305 s.2.2.1 s.2.2.2.2).bind fun q1 =>
  if q1.1 ≤ s.2.2.2.1 then ((F_307 s.2.2.1 q1.2).bind fun q2 =>
  (F_308 q2.1 q2.2).bind fun q3 =>
  (F_305 s.2.2.1 q3).bind fun q4 =>
  (F_310 s.2.2.1 0 (q4.1 - s.2.1) q4.2).bind fun q5 =>
  (F_309 s.1 q5).bind fun q6 =>
  some (.inr (0, q6)))
  else ((F_306 s.2.2.1 s.2.2.2.1 q1.2).bind fun q7 =>
  (F_294 s.1 q7.2).bind fun q8 =>
  if q7.1 = q8.1 then ((some (s.2.2.2.1 + 1 : Int32)).bind fun v9 =>
  some (.inl (s.1, s.2.1, s.2.2.1, v9, q8.2)))
  else (some (.inr (3, q8.2))))
def F_324_59 (y1 : Int32) (y2 : Int32) (y3 : Int32) (y4 : Int32) (h : sm_H) : Option (Int32 × sm_H) := lp F_324_59B 1000000 (y1, y2, y3, y4, h)
def F_324_24  (h : sm_H) : Option (Int32 × sm_H) :=
  some (1, h)
def F_324_0 (x1 : Int32) (x2 : Int32) (h : sm_H) : Option (Int32 × sm_H) :=
  if (h.1 67 3) = 1 then ((F_314 0 1 h).bind fun q10 =>
  if q10.1 = 0 then (F_324_24 q10.2)
  else ((F_293 x1 q10.2).bind fun q11 =>
  if q11.1 = 0 then (F_324_24 q11.2)
  else ((ldI q11.2 69 24 0).bind fun v12 =>
  (F_305 v12 q11.2).bind fun q13 =>
  (F_315 (Int32.toInt64 x2) 0 (Int32.toInt64 q13.1) q13.2).bind fun q14 =>
  if q14.1 = 0 then ((F_305 v12 q14.2).bind fun q15 =>
  (some ((q15.1 - x2) : Int32)).bind fun v16 =>
  F_324_59 x1 x2 v12 v16 q15.2)
  else (some (2, q14.2)))))
  else (F_324_24 h)
abbrev F_324 (x1 : Int32) (x2 : Int32) (h : sm_H) : Option (Int32 × sm_H) := F_324_0 x1 x2 h
def F_325_87B (s : (Int32 × Int32 × Int32 × Int32 × sm_H)) : Option ((Int32 × Int32 × Int32 × Int32 × sm_H) ⊕ (Int32 × sm_H)) :=
  if s.1 ≤ s.2.2.2.1 then (some (.inr (0, s.2.2.2.2)))
  else ((F_306 s.2.1 (s.2.2.1 - 1) s.2.2.2.2).bind fun q1 =>
  (F_294 q1.1 q1.2).bind fun q2 =>
  (F_309 q2.1 q2.2).bind fun q3 =>
  (some (s.2.2.2.1 + 1 : Int32)).bind fun v4 =>
  some (.inl (s.1, s.2.1, s.2.2.1, v4, q3)))
def F_325_87 (y1 : Int32) (y2 : Int32) (y3 : Int32) (y4 : Int32) (h : sm_H) : Option (Int32 × sm_H) := lp F_325_87B 1000000 (y1, y2, y3, y4, h)
def F_325_64  (h : sm_H) : Option (Int32 × sm_H) :=
  some (3, h)
def F_325_17  (h : sm_H) : Option (Int32 × sm_H) :=
  some (1, h)
def F_325_0 (x1 : Int32) (h : sm_H) : Option (Int32 × sm_H) :=
  if (h.1 67 3) = 1 then ((F_314 0 1 h).bind fun q5 =>
  if q5.1 = 0 then (F_325_17 q5.2)
  else ((ldI q5.2 69 24 0).bind fun v6 =>
  (F_305 v6 q5.2).bind fun q7 =>
  (F_315 (Int32.toInt64 x1) 0 10 q7.2).bind fun q8 =>
  if q8.1 = 0 then (if q7.1 = 0 then (F_325_64 q8.2)
  else ((F_306 v6 (q7.1 - 1) q8.2).bind fun q9 =>
  (F_293 q9.1 q9.2).bind fun q10 =>
  if q10.1 = 0 then (F_325_64 q10.2)
  else ((F_307 v6 q10.2).bind fun q11 =>
  (F_308 q11.1 q11.2).bind fun q12 =>
  (F_310 v6 0 (q7.1 - 1) q12).bind fun q13 =>
  F_325_87 x1 v6 q7.1 0 q13)))
  else (some (2, q8.2))))
  else (F_325_17 h)
abbrev F_325 (x1 : Int32) (h : sm_H) : Option (Int32 × sm_H) := F_325_0 x1 h
def F_326_19B (s : (Int32 × Int32 × Int32 × Int32 × sm_H)) : Option ((Int32 × Int32 × Int32 × Int32 × sm_H) ⊕ (Int32 × sm_H)) :=
  (F_305 s.1 s.2.2.2.2).bind fun q1 =>
  if q1.1 ≤ s.2.2.2.1 then ((F_307 s.1 q1.2).bind fun q2 =>
  (ldI q2.2 72 300 s.2.1).bind fun v3 =>
  (F_297 q2.1 v3 s.2.2.1 1 q2.2).bind fun q4 =>
  if q4.1 = 0 ∨ q4.1 = 1 then some (.inr (q4.1, q4.2)) else none)
  else ((ldI q1.2 74 3000 ((10 * s.2.1) + s.2.2.2.1)).bind fun v5 =>
  (F_306 s.1 s.2.2.2.1 q1.2).bind fun q6 =>
  (F_297 v5 q6.1 s.2.2.1 0 q6.2).bind fun q7 =>
  if q7.1 = 0 then (some (.inr (0, q7.2)))
  else ((some (s.2.2.2.1 + 1 : Int32)).bind fun v8 =>
  some (.inl (s.1, s.2.1, s.2.2.1, v8, q7.2))))
def F_326_19 (y1 : Int32) (y2 : Int32) (y3 : Int32) (y4 : Int32) (h : sm_H) : Option (Int32 × sm_H) := lp F_326_19B 1000000 (y1, y2, y3, y4, h)
def F_326_0 (x1 : Int32) (x2 : Int32) (x3 : Int32) (h : sm_H) : Option (Int32 × sm_H) :=
  (ldI h 73 300 x2).bind fun v9 =>
  (F_305 x1 h).bind fun q10 =>
  if v9 = q10.1 then (F_326_19 x1 x2 x3 0 q10.2)
  else (some (0, q10.2))
abbrev F_326 (x1 : Int32) (x2 : Int32) (x3 : Int32) (h : sm_H) : Option (Int32 × sm_H) := F_326_0 x1 x2 x3 h
def F_327_25  (h : sm_H) : Option (Int32 × sm_H) :=
  some (1, h)
def F_327_0 (x1 : Int32) (x2 : Int32) (h : sm_H) : Option (Int32 × sm_H) :=
  if (h.1 67 3) = 1 then ((F_314 0 1 h).bind fun q1 =>
  if q1.1 = 0 then (F_327_25 q1.2)
  else ((F_303 x1 q1.2).bind fun q2 =>
  if q2.1 = 0 then (F_327_25 q2.2)
  else ((ldI q2.2 69 24 0).bind fun v3 =>
  (F_326 v3 x1 x2 q2.2).bind fun q4 =>
  if q4.1 = 0 then (some (3, q4.2))
  else ((ldI q4.2 76 500 v3).bind fun v5 =>
  if v5 = x1 then ((F_313 v3 q4.2).bind fun q9 =>
  some (q9.1, q9.2))
  else ((ldI q4.2 72 300 x1).bind fun v6 =>
  (F_308 v6 q4.2).bind fun q7 =>
  (F_311 x1 q7).bind fun q8 =>
  some (0, q8))))))
  else (F_327_25 h)
abbrev F_327 (x1 : Int32) (x2 : Int32) (h : sm_H) : Option (Int32 × sm_H) := F_327_0 x1 x2 h
def F_328_99 (z0 : Int32) (h : sm_H) : Option (Int32 × sm_H) :=
  some (z0, h)
def F_328_62  (h : sm_H) : Option (Int32 × sm_H) :=
  some (3, h)
def F_328_17  (h : sm_H) : Option (Int32 × sm_H) :=
  some (1, h)
def F_328_0  (h : sm_H) : Option (Int32 × sm_H) :=
  if (h.1 67 3) = 3 then ((F_314 0 3 h).bind fun q1 =>
  if q1.1 = 0 then (F_328_17 q1.2)
  else ((ldI q1.2 69 24 0).bind fun v2 =>
  (ldI q1.2 69 24 1).bind fun v3 =>
  (ldI q1.2 76 500 v3).bind fun v4 =>
  (ldI q1.2 69 24 2).bind fun v5 =>
  (ldI q1.2 76 500 v5).bind fun v6 =>
  if v4 = v6 then ((F_307 v2 q1.2).bind fun q7 =>
  if q7.1 = 1 then ((F_307 v3 q7.2).bind fun q8 =>
  (F_308 q8.1 q8.2).bind fun q9 =>
  (F_305 v3 q9).bind fun q10 =>
  (F_310 v3 0 q10.1 q10.2).bind fun q11 =>
  (F_312 v2 0 0 q11).bind fun q12 =>
  if q12.1 = 0 then (F_328_99 3 q12.2)
  else (F_328_99 0 q12.2))
  else (F_328_62 q7.2))
  else (F_328_62 q1.2)))
  else (F_328_17 h)
abbrev F_328  (h : sm_H) : Option (Int32 × sm_H) := F_328_0  h
def F_329_129 (z0 : Int32) (h : sm_H) : Option (Int32 × sm_H) :=
  some (z0, h)
def F_329_117 (z0 : Int32) (h : sm_H) : Option (Int32 × sm_H) :=
  if z0 = 0 then (F_329_129 3 h)
  else (F_329_129 0 h)
def F_329_116  (h : sm_H) : Option (Int32 × sm_H) :=
  F_329_117 0 h
def F_329_35  (h : sm_H) : Option (Int32 × sm_H) :=
  some (1, h)
def F_329_0 (x1 : Int32) (h : sm_H) : Option (Int32 × sm_H) :=
  if (h.1 67 3) = 2 then ((F_314 0 2 h).bind fun q1 =>
  if q1.1 = 0 then (F_329_35 q1.2)
  else ((F_289 x1 q1.2).bind fun q2 =>
  if q2.1 = 0 then (F_329_35 q2.2)
  else ((F_295 x1 19 q2.2).bind fun q3 =>
  if q3.1 = 0 then (F_329_35 q3.2)
  else ((ldI q3.2 69 24 0).bind fun v4 =>
  (ldI q3.2 69 24 1).bind fun v5 =>
  (F_307 v4 q3.2).bind fun q6 =>
  (F_308 q6.1 q6.2).bind fun q7 =>
  (F_305 v4 q7).bind fun q8 =>
  (F_310 v4 0 q8.1 q8.2).bind fun q9 =>
  (F_305 v5 q9).bind fun q10 =>
  if q10.1 ≤ 0 then (F_329_116 q10.2)
  else ((F_306 v5 0 q10.2).bind fun q11 =>
  if q11.1 = x1 then ((F_307 v5 q11.2).bind fun q12 =>
  (F_307 v4 q12.2).bind fun q13 =>
  if q12.1 = q13.1 then ((F_312 v5 1 0 q13.2).bind fun q14 =>
  if q14.1 = 0 then (F_329_116 q14.2)
  else (F_329_117 1 q14.2))
  else (F_329_116 q13.2))
  else (F_329_116 q11.2))))))
  else (F_329_35 h)
abbrev F_329 (x1 : Int32) (h : sm_H) : Option (Int32 × sm_H) := F_329_0 x1 h
def F_330_146 (z0 : Int32) (h : sm_H) : Option (Int32 × sm_H) :=
  some (z0, h)
def F_330_134 (z0 : Int32) (h : sm_H) : Option (Int32 × sm_H) :=
  if z0 = 0 then (F_330_146 3 h)
  else (F_330_146 0 h)
def F_330_133  (h : sm_H) : Option (Int32 × sm_H) :=
  F_330_134 0 h
def F_330_106 (y1 : Int32) (y2 : Int32) (y3 : Int32) (h : sm_H) : Option (Int32 × sm_H) :=
  (F_307 y2 h).bind fun q1 =>
  (F_307 y1 q1.2).bind fun q2 =>
  if q1.1 = q2.1 then ((F_312 y2 y3 0 q2.2).bind fun q3 =>
  if q3.1 = 0 then (F_330_133 q3.2)
  else (F_330_134 1 q3.2))
  else (F_330_133 q2.2)
def F_330_46 (y1 : Int32) (y2 : Int32) (z0 : Int32) (h : sm_H) : Option (Int32 × sm_H) :=
  (F_307 y1 h).bind fun q4 =>
  (F_308 q4.1 q4.2).bind fun q5 =>
  (F_305 y1 q5).bind fun q6 =>
  (F_310 y1 0 q6.1 q6.2).bind fun q7 =>
  (F_305 y2 q7).bind fun q8 =>
  if q8.1 < z0 then (F_330_133 q8.2)
  else ((F_306 y2 0 q8.2).bind fun q9 =>
  if q9.1 = 19 then (if z0 = 1 then (F_330_106 y1 y2 z0 q9.2)
  else ((F_306 y2 1 q9.2).bind fun q10 =>
  (F_307 y1 q10.2).bind fun q11 =>
  if q10.1 = q11.1 then (F_330_106 y1 y2 z0 q11.2)
  else (F_330_133 q11.2)))
  else (F_330_133 q9.2))
def F_330_17  (h : sm_H) : Option (Int32 × sm_H) :=
  some (1, h)
def F_330_0  (h : sm_H) : Option (Int32 × sm_H) :=
  if (h.1 67 3) = 2 then ((F_314 0 2 h).bind fun q12 =>
  if q12.1 = 0 then (F_330_17 q12.2)
  else ((ldI q12.2 69 24 0).bind fun v13 =>
  (ldI q12.2 69 24 1).bind fun v14 =>
  (F_307 v13 q12.2).bind fun q15 =>
  if q15.1 = 0 then (F_330_46 v13 v14 1 q15.2)
  else (F_330_46 v13 v14 2 q15.2)))
  else (F_330_17 h)
abbrev F_330  (h : sm_H) : Option (Int32 × sm_H) := F_330_0  h
def F_331_85  (h : sm_H) : Option (Int32 × sm_H) :=
  some (3, h)
def F_331_31B (s : (Int32 × Int32 × sm_H)) : Option ((Int32 × Int32 × sm_H) ⊕ (Int32 × sm_H)) :=
  if (s.2.2.1 67 3) ≤ s.2.1 then ((F_305 s.1 s.2.2).bind fun q1 =>
  if q1.1 = 0 then ((F_331_85 q1.2).map fun r => (.inr r))
  else ((F_306 s.1 0 q1.2).bind fun q2 =>
  if q2.1 = 5 then ((F_307 s.1 q2.2).bind fun q3 =>
  (F_308 q3.1 q3.2).bind fun q4 =>
  (F_305 s.1 q4).bind fun q5 =>
  (F_310 s.1 0 q5.1 q5.2).bind fun q6 =>
  some (.inr (0, q6)))
  else ((F_331_85 q2.2).map fun r => (.inr r))))
  else ((ldI s.2.2 69 24 s.2.1).bind fun v7 =>
  (ldI s.2.2 76 500 v7).bind fun v8 =>
  (ldI s.2.2 76 500 s.1).bind fun v9 =>
  if v8 = v9 then ((some (s.2.1 + 1 : Int32)).bind fun v10 =>
  some (.inl (s.1, v10, s.2.2)))
  else (some (.inr (3, s.2.2))))
def F_331_31 (y1 : Int32) (y2 : Int32) (h : sm_H) : Option (Int32 × sm_H) := lp F_331_31B 1000000 (y1, y2, h)
def F_331_20  (h : sm_H) : Option (Int32 × sm_H) :=
  some (1, h)
def F_331_0  (h : sm_H) : Option (Int32 × sm_H) :=
  if (h.1 67 3) < 1 then (F_331_20 h)
  else ((F_314 0 (h.1 67 3) h).bind fun q11 =>
  if q11.1 = 0 then (F_331_20 q11.2)
  else ((ldI q11.2 69 24 0).bind fun v12 =>
  F_331_31 v12 1 q11.2))
abbrev F_331  (h : sm_H) : Option (Int32 × sm_H) := F_331_0  h
def F_332_27 (z0 : Int32) (h : sm_H) : Option (Int32 × sm_H) :=
  some (z0, h)
def F_332_0 (x1 : Int32) (x2 : Int32) (h : sm_H) : Option (Int32 × sm_H) :=
  if x2 = (-1) then (if x1 = (-1) then (F_332_27 0 h)
  else ((F_307 x1 h).bind fun q1 =>
  F_332_27 q1.1 q1.2))
  else ((F_307 x2 h).bind fun q2 =>
  F_332_27 q2.1 q2.2)
abbrev F_332 (x1 : Int32) (x2 : Int32) (h : sm_H) : Option (Int32 × sm_H) := F_332_0 x1 x2 h
def F_333_392 (y1 : Int32) (y2 : Int32) (y3 : Int32) (y4 : Int32) (y5 : Int32) (h : sm_H) : Option ((Int32 × Int32 × Int32 × Int32 × Int32 × sm_H) ⊕ ((Int32 × Int32 × Int32 × Int32 × sm_H) ⊕ (Int32 × sm_H))) :=
  (some (y5 + 1 : Int32)).bind fun v1 =>
  some (.inl (y1, y2, y3, y4, v1, h))
def F_333_351B (s : (Int32 × Int32 × Int32 × Int32 × Int32 × sm_H)) : Option ((Int32 × Int32 × Int32 × Int32 × Int32 × sm_H) ⊕ ((Int32 × Int32 × Int32 × Int32 × sm_H) ⊕ (Int32 × sm_H))) :=
  if 4 ≤ s.2.2.2.2.1 then ((some (s.2.2.2.1 + 4 : Int32)).bind fun v2 =>
  some (.inr (.inl (s.1, s.2.1, s.2.2.1, v2, s.2.2.2.2.2))))
  else ((ldI s.2.2.2.2.2 69 24 (s.2.2.2.1 + s.2.2.2.2.1)).bind fun v3 =>
  if v3 = (-1) then (F_333_392 s.1 s.2.1 s.2.2.1 s.2.2.2.1 s.2.2.2.2.1 s.2.2.2.2.2)
  else ((ldI s.2.2.2.2.2 69 24 (s.2.2.2.1 + s.2.2.2.2.1)).bind fun v4 =>
  (F_312 v4 0 0 s.2.2.2.2.2).bind fun q5 =>
  if q5.1 = 0 then (some (.inr (.inr (3, q5.2))))
  else (F_333_392 s.1 s.2.1 s.2.2.1 s.2.2.2.1 s.2.2.2.2.1 q5.2)))
def F_333_351 (y1 : Int32) (y2 : Int32) (y3 : Int32) (y4 : Int32) (y5 : Int32) (h : sm_H) : Option ((Int32 × Int32 × Int32 × Int32 × sm_H) ⊕ (Int32 × sm_H)) := lp F_333_351B 1000000 (y1, y2, y3, y4, y5, h)
def F_333_348 (y1 : Int32) (y2 : Int32) (y3 : Int32) (y4 : Int32) (h : sm_H) : Option ((Int32 × Int32 × Int32 × Int32 × sm_H) ⊕ (Int32 × sm_H)) :=
  F_333_351 y1 y2 y3 y4 1 h
def F_333_310B (s : (Int32 × Int32 × Int32 × Int32 × sm_H)) : Option ((Int32 × Int32 × Int32 × Int32 × sm_H) ⊕ (Int32 × sm_H)) :=
  if (s.2.2.2.2.1 67 3) ≤ s.2.2.2.1 then (if s.2.1 = 0 then (some (.inr (3, s.2.2.2.2)))
  else ((ldI s.2.2.2.2 72 300 s.1).bind fun v6 =>
  (F_308 v6 s.2.2.2.2).bind fun q7 =>
  (F_311 s.1 q7).bind fun q8 =>
  some (.inr (0, q8))))
  else ((ldI s.2.2.2.2 69 24 s.2.2.2.1).bind fun v9 =>
  if v9 = (-1) then (F_333_348 s.1 s.2.1 s.2.2.1 s.2.2.2.1 s.2.2.2.2)
  else ((ldI s.2.2.2.2 69 24 s.2.2.2.1).bind fun v10 =>
  (F_312 v10 0 s.2.2.1 s.2.2.2.2).bind fun q11 =>
  if q11.1 = 0 then (some (.inr (3, q11.2)))
  else (F_333_348 s.1 s.2.1 s.2.2.1 s.2.2.2.1 q11.2)))
def F_333_310 (y1 : Int32) (y2 : Int32) (y3 : Int32) (y4 : Int32) (h : sm_H) : Option (Int32 × sm_H) := lp F_333_310B 1000000 (y1, y2, y3, y4, h)
def F_333_291 (y1 : Int32) (y2 : Int32) (y3 : Int32) (h : sm_H) : Option ((Int32 × Int32 × Int32 × sm_H) ⊕ (Int32 × sm_H)) :=
  (some (y3 + 4 : Int32)).bind fun v12 =>
  some (.inl (y1, y2, v12, h))
def F_333_256 (y1 : Int32) (y2 : Int32) (y3 : Int32) (h : sm_H) : Option ((Int32 × Int32 × Int32 × sm_H) ⊕ (Int32 × sm_H)) :=
  (ldI h 69 24 (y3 + 3)).bind fun v13 =>
  if v13 = (-1) then (F_333_291 y1 y2 y3 h)
  else ((ldI h 69 24 (y3 + 3)).bind fun v14 =>
  (F_307 v14 h).bind fun q15 =>
  (ldI q15.2 72 300 y1).bind fun v16 =>
  if q15.1 = v16 then (F_333_291 y1 y2 y3 q15.2)
  else (some (.inr (3, q15.2))))
def F_333_226 (y1 : Int32) (y2 : Int32) (y3 : Int32) (h : sm_H) : Option ((Int32 × Int32 × Int32 × sm_H) ⊕ (Int32 × sm_H)) :=
  (ldI h 69 24 (y3 + 2)).bind fun v17 =>
  if v17 = (-1) then (F_333_256 y1 y2 y3 h)
  else ((ldI h 69 24 (y3 + 2)).bind fun v18 =>
  (F_307 v18 h).bind fun q19 =>
  if q19.1 = 1 then (F_333_256 y1 y2 y3 q19.2)
  else (some (.inr (3, q19.2))))
def F_333_199 (y1 : Int32) (y3 : Int32) (z0 : Int32) (h : sm_H) : Option ((Int32 × Int32 × Int32 × sm_H) ⊕ (Int32 × sm_H)) :=
  (ldI h 69 24 (y3 + 3)).bind fun v20 =>
  if v20 = (-1) then (F_333_226 y1 z0 y3 h)
  else ((ldI h 69 24 (y3 + 2)).bind fun v21 =>
  if v21 = (-1) then (some (.inr (3, h)))
  else (F_333_226 y1 z0 y3 h))
def F_333_194 (y1 : Int32) (y3 : Int32) (h : sm_H) : Option ((Int32 × Int32 × Int32 × sm_H) ⊕ (Int32 × sm_H)) :=
  F_333_199 y1 y3 1 h
def F_333_178 (y1 : Int32) (y2 : Int32) (y3 : Int32) (h : sm_H) : Option ((Int32 × Int32 × Int32 × sm_H) ⊕ (Int32 × sm_H)) :=
  if y2 = 0 then ((ldI h 69 24 (y3 + 2)).bind fun v22 =>
  if v22 = (-1) then (F_333_199 y1 y3 0 h)
  else (F_333_194 y1 y3 h))
  else (F_333_194 y1 y3 h)
def F_333_167 (y1 : Int32) (y2 : Int32) (y3 : Int32) (y4 : Int32) (h : sm_H) : Option ((Int32 × Int32 × Int32 × sm_H) ⊕ (Int32 × sm_H)) :=
  if y4 = 0 then (F_333_178 y1 y2 y3 h)
  else ((F_309 y4 h).bind fun q23 =>
  F_333_178 y1 y2 y3 q23)
def F_333_90B (s : (Int32 × Int32 × Int32 × sm_H)) : Option ((Int32 × Int32 × Int32 × sm_H) ⊕ (Int32 × sm_H)) :=
  if (s.2.2.2.1 67 3) ≤ s.2.2.1 then ((some ((s.2.2.2.1 67 21) : Int32)).bind fun v24 =>
  (F_311 s.1 s.2.2.2).bind fun q25 =>
  (F_333_310 s.1 s.2.1 v24 0 q25).map fun r => (.inr r))
  else ((ldI s.2.2.2 69 24 s.2.2.1).bind fun v26 =>
  (ldI s.2.2.2 69 24 (s.2.2.1 + 1)).bind fun v27 =>
  (F_332 v26 v27 s.2.2.2).bind fun q28 =>
  (ldI q28.2 69 24 s.2.2.1).bind fun v29 =>
  if v29 = (-1) then (F_333_167 s.1 s.2.1 s.2.2.1 q28.1 q28.2)
  else ((ldI q28.2 69 24 (s.2.2.1 + 1)).bind fun v30 =>
  if v30 = (-1) then (F_333_167 s.1 s.2.1 s.2.2.1 q28.1 q28.2)
  else ((ldI q28.2 69 24 s.2.2.1).bind fun v31 =>
  (F_307 v31 q28.2).bind fun q32 =>
  (ldI q32.2 69 24 (s.2.2.1 + 1)).bind fun v33 =>
  (F_307 v33 q32.2).bind fun q34 =>
  if q32.1 = q34.1 then (F_333_167 s.1 s.2.1 s.2.2.1 q28.1 q34.2)
  else (some (.inr (3, q34.2))))))
def F_333_90 (y1 : Int32) (y2 : Int32) (y3 : Int32) (h : sm_H) : Option (Int32 × sm_H) := lp F_333_90B 1000000 (y1, y2, y3, h)
def F_333_70 (y1 : Int32) (y2 : Int32) (h : sm_H) : Option ((Int32 × Int32 × sm_H) ⊕ (Int32 × sm_H)) :=
  (some (y2 + 1 : Int32)).bind fun v35 =>
  some (.inl (y1, v35, h))
def F_333_37B (s : (Int32 × Int32 × sm_H)) : Option ((Int32 × Int32 × sm_H) ⊕ (Int32 × sm_H)) :=
  if (s.2.2.1 67 3) ≤ s.2.1 then ((ldI s.2.2 72 300 s.1).bind fun v36 =>
  (F_308 v36 s.2.2).bind fun q37 =>
  (F_333_90 s.1 0 0 q37).map fun r => (.inr r))
  else ((ldI s.2.2 69 24 s.2.1).bind fun v38 =>
  if v38 = (-1) then (F_333_70 s.1 s.2.1 s.2.2)
  else ((ldI s.2.2 69 24 s.2.1).bind fun v39 =>
  (F_304 v39 s.2.2).bind fun q40 =>
  if q40.1 = 0 then (some (.inr (1, q40.2)))
  else (F_333_70 s.1 s.2.1 q40.2)))
def F_333_37 (y1 : Int32) (y2 : Int32) (h : sm_H) : Option (Int32 × sm_H) := lp F_333_37B 1000000 (y1, y2, h)
def F_333_33  (h : sm_H) : Option (Int32 × sm_H) :=
  some (1, h)
def F_333_0 (x1 : Int32) (h : sm_H) : Option (Int32 × sm_H) :=
  (F_303 x1 h).bind fun q41 =>
  if q41.1 = 0 then (F_333_33 q41.2)
  else (if (q41.2.1 67 3) = 0 then (F_333_33 q41.2)
  else (if (4 : Int32) = 0 then none else (if ((q41.2.1 67 3) - (q41.2.1 67 3) / 4 * 4) = 0 then (if (q41.2.1 67 3) ≤ 16 then (F_333_37 x1 0 q41.2)
  else (F_333_33 q41.2))
  else (F_333_33 q41.2))))
abbrev F_333 (x1 : Int32) (h : sm_H) : Option (Int32 × sm_H) := F_333_0 x1 h
def F_334_131  (h : sm_H) : Option (Int32 × sm_H) :=
  some (0, h)
def F_334_120 (y1 : Int32) (y3 : Int32) (h : sm_H) : Option (Int32 × sm_H) :=
  if y1 = 25 then ((F_309 y3 h).bind fun q1 =>
  F_334_131 q1)
  else (F_334_131 h)
def F_334_75 (y1 : Int32) (y2 : Int32) (y3 : Int32) (z1 : Int32) (h : sm_H) : Option (Int32 × sm_H) :=
  (F_308 z1 h).bind fun q2 =>
  if y1 = 20 then ((F_309 5 q2).bind fun q6 =>
  some (0, q6))
  else ((F_309 y2 q2).bind fun q3 =>
  if y1 = 21 then (some (0, q3))
  else ((F_309 5 q3).bind fun q4 =>
  if y1 = 22 then (F_334_120 y1 y3 q4)
  else ((F_309 y3 q4).bind fun q5 =>
  F_334_120 y1 y3 q5)))
def F_334_28 (y1 : Int32) (y2 : Int32) (h : sm_H) : Option (Int32 × sm_H) :=
  (F_294 y2 h).bind fun q7 =>
  if y1 = 20 then (F_334_75 y1 y2 q7.1 y2 q7.2)
  else (if y1 = 21 then (F_334_75 y1 y2 q7.1 5 q7.2)
  else (if y1 = 23 then (F_334_75 y1 y2 q7.1 0 q7.2)
  else (if y1 = 25 then (F_334_75 y1 y2 q7.1 1 q7.2)
  else (F_334_75 y1 y2 q7.1 q7.1 q7.2))))
def F_334_26  (h : sm_H) : Option (Int32 × sm_H) :=
  some (1, h)
def F_334_0 (x1 : Int32) (x2 : Int32) (h : sm_H) : Option (Int32 × sm_H) :=
  if (h.1 67 3) = 0 then ((F_293 x2 h).bind fun q8 =>
  if q8.1 = 0 then (F_334_26 q8.2)
  else (if x1 = 26 then (if x2 = 17 then (F_334_26 q8.2)
  else (F_334_28 x1 x2 q8.2))
  else (F_334_28 x1 x2 q8.2)))
  else (F_334_26 h)
abbrev F_334 (x1 : Int32) (x2 : Int32) (h : sm_H) : Option (Int32 × sm_H) := F_334_0 x1 x2 h
def F_335_611  (h : sm_H) : Option (Int32 × sm_H) :=
  some (1, h)
def F_335_598 (y3 : Int32) (y4 : Int32) (h : sm_H) : Option (Int32 × sm_H) :=
  if y4 = 0 then (F_335_611 h)
  else ((F_303 y3 h).bind fun q1 =>
  if q1.1 = 0 then (F_335_611 q1.2)
  else ((ldI q1.2 72 300 y3).bind fun v2 =>
  (F_308 v2 q1.2).bind fun q3 =>
  (F_311 y3 q3).bind fun q4 =>
  some (0, q4)))
def F_335_537  (h : sm_H) : Option (Int32 × sm_H) :=
  some (1, h)
def F_335_451  (h : sm_H) : Option (Int32 × sm_H) :=
  some (1, h)
def F_335_379  (h : sm_H) : Option (Int32 × sm_H) :=
  some (1, h)
def F_335_333  (h : sm_H) : Option (Int32 × sm_H) :=
  some (1, h)
def F_335_320 (y3 : Int32) (y4 : Int32) (h : sm_H) : Option (Int32 × sm_H) :=
  if y4 = 0 then (F_335_333 h)
  else ((F_303 y3 h).bind fun q5 =>
  if q5.1 = 0 then (F_335_333 q5.2)
  else ((ldI q5.2 72 300 y3).bind fun v6 =>
  (F_308 v6 q5.2).bind fun q7 =>
  (F_309 18 q7).bind fun q8 =>
  (F_311 y3 q8).bind fun q9 =>
  some (0, q9)))
def F_335_306  (h : sm_H) : Option (Int32 × sm_H) :=
  some (1, h)
def F_335_260 (y3 : Int32) (z1 : Int32) (h : sm_H) : Option (Int32 × sm_H) :=
  (F_308 z1 h).bind fun q10 =>
  (F_309 y3 q10).bind fun q11 =>
  (F_309 y3 q11).bind fun q12 =>
  some (0, q12)
def F_335_248 (y2 : Int32) (y3 : Int32) (h : sm_H) : Option (Int32 × sm_H) :=
  if y2 ≤ 10 then (F_335_260 y3 y3 h)
  else (F_335_260 y3 1 h)
def F_335_246  (h : sm_H) : Option (Int32 × sm_H) :=
  some (1, h)
def F_335_204  (h : sm_H) : Option (Int32 × sm_H) :=
  some (1, h)
def F_335_177  (h : sm_H) : Option (Int32 × sm_H) :=
  some (1, h)
def F_335_12 (y1 : Int32) (y2 : Int32) (y3 : Int32) (z0 : Int32) (h : sm_H) : Option (Int32 × sm_H) :=
  if y1 = 1 then (if (h.1 67 3) = 1 then ((F_314 0 1 h).bind fun q13 =>
  if q13.1 = 0 then (F_335_177 q13.2)
  else ((F_308 18 q13.2).bind fun q14 =>
  some (0, q14)))
  else (F_335_177 h))
  else (if y1 = 2 then (if z0 = 0 then (F_335_204 h)
  else ((F_289 y2 h).bind fun q15 =>
  if q15.1 = 0 then (F_335_204 q15.2)
  else (if y2 = 0 then (F_335_204 q15.2)
  else ((F_308 y2 q15.2).bind fun q16 =>
  (F_309 y2 q16).bind fun q17 =>
  some (0, q17)))))
  else (if y1 = 3 then (if z0 = 0 then (F_335_246 h)
  else ((F_315 (Int32.toInt64 y2) 0 12 h).bind fun q18 =>
  if q18.1 = 0 then (if y3 = 5 then (F_335_248 y2 y3 q18.2)
  else (if y3 = 6 then (F_335_248 y2 y3 q18.2)
  else (F_335_246 q18.2)))
  else (F_335_246 q18.2)))
  else (if y1 = 19 then (if z0 = 0 then (F_335_306 h)
  else ((F_289 y2 h).bind fun q19 =>
  if q19.1 = 0 then (F_335_306 q19.2)
  else ((F_289 y3 q19.2).bind fun q20 =>
  if q20.1 = 0 then (F_335_306 q20.2)
  else ((F_295 y3 19 q20.2).bind fun q21 =>
  if q21.1 = 0 then (F_335_306 q21.2)
  else ((F_308 y2 q21.2).bind fun q22 =>
  (F_309 y3 q22).bind fun q23 =>
  some (0, q23))))))
  else (if y1 = 27 then (F_335_320 y3 z0 h)
  else (if y1 = 28 then (F_335_320 y3 z0 h)
  else (if y1 = 29 then (if z0 = 0 then (F_335_379 h)
  else ((F_315 (Int32.toInt64 y2) 0 (Int32.toInt64 ((h.1 67 35) - 1)) h).bind fun q24 =>
  if q24.1 = 0 then ((ldI q24.2 92 80 y2).bind fun v25 =>
  (F_307 v25 q24.2).bind fun q26 =>
  (F_308 q26.1 q26.2).bind fun q27 =>
  (ldI q27 92 80 y2).bind fun v28 =>
  (ldI q27 92 80 y2).bind fun v29 =>
  (F_305 v29 q27).bind fun q30 =>
  (F_310 v28 0 q30.1 q30.2).bind fun q31 =>
  some (0, q31))
  else (F_335_379 q24.2)))
  else (if y1 = 30 then (if (h.1 67 3) = 2 then ((F_314 0 2 h).bind fun q32 =>
  if q32.1 = 0 then (F_335_451 q32.2)
  else ((F_315 (Int32.toInt64 y2) 0 (Int32.toInt64 ((q32.2.1 67 37) - 1)) q32.2).bind fun q33 =>
  if q33.1 = 0 then ((ldI q33.2 69 24 0).bind fun v34 =>
  (ldI q33.2 76 500 v34).bind fun v35 =>
  (ldI q33.2 69 24 1).bind fun v36 =>
  (ldI q33.2 76 500 v36).bind fun v37 =>
  if v35 = v37 then ((ldI q33.2 69 24 0).bind fun v38 =>
  (F_307 v38 q33.2).bind fun q39 =>
  (F_308 q39.1 q39.2).bind fun q40 =>
  (ldI q40 69 24 0).bind fun v41 =>
  (ldI q40 69 24 0).bind fun v42 =>
  (F_305 v42 q40).bind fun q43 =>
  (F_310 v41 0 q43.1 q43.2).bind fun q44 =>
  some (0, q44))
  else (some (3, q33.2)))
  else (F_335_451 q33.2)))
  else (F_335_451 h))
  else (if y1 = 31 then (if z0 = 0 then (F_335_537 h)
  else ((F_289 y2 h).bind fun q45 =>
  if q45.1 = 0 then (F_335_537 q45.2)
  else ((F_291 y2 q45.2).bind fun q46 =>
  if q46.1 = 0 then (F_335_537 q46.2)
  else ((F_308 1 q46.2).bind fun q47 =>
  (F_309 7 q47).bind fun q48 =>
  some (0, q48)))))
  else (if y1 = 32 then (if z0 = 0 then (some (1, h))
  else ((F_308 1 h).bind fun q49 =>
  (F_309 7 q49).bind fun q50 =>
  (F_309 7 q50).bind fun q51 =>
  some (0, q51)))
  else (if y1 = 33 then (if z0 = 0 then (some (1, h))
  else ((F_308 5 h).bind fun q52 =>
  (F_309 19 q52).bind fun q53 =>
  some (0, q53)))
  else (F_335_598 y3 z0 h)))))))))))
def F_335_0 (x1 : Int32) (x2 : Int32) (x3 : Int32) (h : sm_H) : Option (Int32 × sm_H) :=
  if (h.1 67 3) = 0 then (F_335_12 x1 x2 x3 1 h)
  else (F_335_12 x1 x2 x3 0 h)
abbrev F_335 (x1 : Int32) (x2 : Int32) (x3 : Int32) (h : sm_H) : Option (Int32 × sm_H) := F_335_0 x1 x2 x3 h
def F_336_257 (y1 : Int32) (y2 : Int32) (y3 : Int32) (h : sm_H) : Option (Int32 × sm_H) :=
  (F_335 y1 y2 y3 h).bind fun q1 =>
  some (q1.1, q1.2)
def F_336_250 (y1 : Int32) (y2 : Int32) (h : sm_H) : Option (Int32 × sm_H) :=
  (F_334 y1 y2 h).bind fun q2 =>
  some (q2.1, q2.2)
def F_336_143  (h : sm_H) : Option (Int32 × sm_H) :=
  some (1, h)
def F_336_0 (x1 : Int32) (x2 : Int32) (x3 : Int32) (x4 : Int64) (h : sm_H) : Option (Int32 × sm_H) :=
  if x1 = 0 then (if (h.1 67 3) = 0 then ((F_289 x2 h).bind fun q3 =>
  if q3.1 = 0 then (F_336_143 q3.2)
  else (if x2 = 0 then (F_336_143 q3.2)
  else ((F_308 x2 q3.2).bind fun q4 =>
  (F_317 x2 x4 q4).bind fun q5 =>
  some (q5.1, q5.2))))
  else (F_336_143 h))
  else (if x1 = 4 then ((F_318 x2 x3 h).bind fun q6 =>
  some (q6.1, q6.2))
  else (if x1 = 5 then ((F_319 x3 h).bind fun q7 =>
  some (q7.1, q7.2))
  else (if x1 = 6 then ((F_320 x2 x4 h).bind fun q8 =>
  some (q8.1, q8.2))
  else (if x1 = 7 then ((F_321 x2 h).bind fun q9 =>
  some (q9.1, q9.2))
  else (if x1 = 8 then ((F_322 x2 h).bind fun q10 =>
  some (q10.1, q10.2))
  else (if x1 = 9 then ((F_323 h).bind fun q11 =>
  some (q11.1, q11.2))
  else (if x1 = 10 then ((F_324 x2 x3 h).bind fun q12 =>
  some (q12.1, q12.2))
  else (if x1 = 11 then ((F_325 x3 h).bind fun q13 =>
  some (q13.1, q13.2))
  else (if x1 = 12 then ((F_327 x3 0 h).bind fun q14 =>
  some (q14.1, q14.2))
  else (if x1 = 13 then ((F_327 x3 1 h).bind fun q15 =>
  some (q15.1, q15.2))
  else (if x1 = 14 then ((F_328 h).bind fun q16 =>
  some (q16.1, q16.2))
  else (if x1 = 15 then ((F_329 x2 h).bind fun q17 =>
  some (q17.1, q17.2))
  else (if x1 = 16 then ((F_330 h).bind fun q18 =>
  some (q18.1, q18.2))
  else (if x1 = 17 then ((F_331 h).bind fun q19 =>
  some (q19.1, q19.2))
  else (if x1 = 18 then ((F_333 x3 h).bind fun q20 =>
  some (q20.1, q20.2))
  else (if x1 = 20 then (F_336_250 x1 x2 h)
  else (if x1 = 21 then (F_336_250 x1 x2 h)
  else (if x1 = 22 then (F_336_250 x1 x2 h)
  else (if x1 = 23 then (F_336_250 x1 x2 h)
  else (if x1 = 24 then (F_336_250 x1 x2 h)
  else (if x1 = 25 then (F_336_250 x1 x2 h)
  else (if x1 = 26 then (F_336_250 x1 x2 h)
  else (F_336_257 x1 x2 x3 h)))))))))))))))))))))))
abbrev F_336 (x1 : Int32) (x2 : Int32) (x3 : Int32) (x4 : Int64) (h : sm_H) : Option (Int32 × sm_H) := F_336_0 x1 x2 x3 x4 h
def F_337_78 (z0 : Int32) (h : sm_H) : Option (Int32 × sm_H) :=
  if z0 = 0 ∨ z0 = 1 then some (z0, h) else none
def F_337_73  (h : sm_H) : Option (Int32 × sm_H) :=
  F_337_78 1 h
def F_337_67 (y0 : Int32) (h : sm_H) : Option (Int32 × sm_H) :=
  if y0 < 35 then (F_337_78 0 h)
  else (F_337_73 h)
def F_337_55 (y0 : Int32) (h : sm_H) : Option (Int32 × sm_H) :=
  if y0 < 29 then (F_337_67 y0 h)
  else (if y0 ≤ 31 then (F_337_73 h)
  else (F_337_67 y0 h))
def F_337_31 (y0 : Int32) (h : sm_H) : Option (Int32 × sm_H) :=
  if y0 = 10 then (F_337_73 h)
  else (if y0 = 15 then (F_337_73 h)
  else (if y0 < 19 then (F_337_55 y0 h)
  else (if y0 ≤ 26 then (F_337_73 h)
  else (F_337_55 y0 h))))
def F_337_0 (x0 : Int32) (h : sm_H) : Option (Int32 × sm_H) :=
  if x0 = 0 then (F_337_73 h)
  else (if x0 = 2 then (F_337_73 h)
  else (if x0 = 3 then (F_337_73 h)
  else (if x0 = 4 then (F_337_73 h)
  else (if x0 < 6 then (F_337_31 x0 h)
  else (if x0 ≤ 8 then (F_337_73 h)
  else (F_337_31 x0 h))))))
abbrev F_337 (x0 : Int32) (h : sm_H) : Option (Int32 × sm_H) := F_337_0 x0 h
def F_338_69 (z0 : Int32) (h : sm_H) : Option (Int32 × sm_H) :=
  if z0 = 0 ∨ z0 = 1 then some (z0, h) else none
def F_338_64  (h : sm_H) : Option (Int32 × sm_H) :=
  F_338_69 1 h
def F_338_68  (h : sm_H) : Option (Int32 × sm_H) :=
  F_338_69 0 h
def F_338_22 (y0 : Int32) (h : sm_H) : Option (Int32 × sm_H) :=
  if y0 = 18 then (F_338_64 h)
  else (if y0 = 19 then (F_338_64 h)
  else (if y0 = 27 then (F_338_64 h)
  else (if y0 = 28 then (F_338_64 h)
  else (if y0 = 34 then (F_338_64 h)
  else (if y0 < 35 then (F_338_68 h)
  else (if 37 < y0 then (F_338_68 h)
  else (F_338_64 h)))))))
def F_338_10 (y0 : Int32) (h : sm_H) : Option (Int32 × sm_H) :=
  if y0 < 10 then (F_338_22 y0 h)
  else (if y0 ≤ 13 then (F_338_64 h)
  else (F_338_22 y0 h))
def F_338_0 (x0 : Int32) (h : sm_H) : Option (Int32 × sm_H) :=
  if x0 < 3 then (F_338_10 x0 h)
  else (if x0 ≤ 5 then (F_338_64 h)
  else (F_338_10 x0 h))
abbrev F_338 (x0 : Int32) (h : sm_H) : Option (Int32 × sm_H) := F_338_0 x0 h
def F_339_132 (y1 : Int32) (y2 : Int32) (y3 : Int32) (y4 : Int64) (y6 : Int32) (y7 : Int32) (h : sm_H) : Option ((Int32 × Int32 × Int32 × Int64 × Int32 × sm_H) ⊕ (Int32 × sm_H)) :=
  if y7 = 0 then ((some (y6 + 1 : Int32)).bind fun v1 =>
  some (.inl (y1, y2, y3, y4, v1, h)))
  else (some (.inr (y6, h)))
def F_339_124 (y1 : Int32) (y2 : Int32) (y3 : Int32) (y4 : Int64) (y6 : Int32) (y8 : Int32) (z0 : Int32) (h : sm_H) : Option ((Int32 × Int32 × Int32 × Int64 × Int32 × Int32 × Int32 × sm_H) ⊕ ((Int32 × Int32 × Int32 × Int64 × Int32 × sm_H) ⊕ (Int32 × sm_H))) :=
  (some (y8 + 1 : Int32)).bind fun v2 =>
  some (.inl (y1, y2, y3, y4, y6, z0, v2, h))
def F_339_82B (s : (Int32 × Int32 × Int32 × Int64 × Int32 × Int32 × Int32 × sm_H)) : Option ((Int32 × Int32 × Int32 × Int64 × Int32 × Int32 × Int32 × sm_H) ⊕ ((Int32 × Int32 × Int32 × Int64 × Int32 × sm_H) ⊕ (Int32 × sm_H))) :=
  if (s.2.2.2.2.2.2.2.1 67 3) ≤ s.2.2.2.2.2.2.1 then ((F_339_132 s.1 s.2.1 s.2.2.1 s.2.2.2.1 s.2.2.2.2.1 s.2.2.2.2.2.1 s.2.2.2.2.2.2.2).map fun r => (.inr r))
  else (if s.2.2.2.2.2.1 = 0 then ((F_339_132 s.1 s.2.1 s.2.2.1 s.2.2.2.1 s.2.2.2.2.1 s.2.2.2.2.2.1 s.2.2.2.2.2.2.2).map fun r => (.inr r))
  else ((ldI s.2.2.2.2.2.2.2 81 12000 ((24 * s.2.2.2.2.1) + s.2.2.2.2.2.2.1)).bind fun v3 =>
  (ldI s.2.2.2.2.2.2.2 69 24 s.2.2.2.2.2.2.1).bind fun v4 =>
  if v3 = v4 then (F_339_124 s.1 s.2.1 s.2.2.1 s.2.2.2.1 s.2.2.2.2.1 s.2.2.2.2.2.2.1 1 s.2.2.2.2.2.2.2)
  else (F_339_124 s.1 s.2.1 s.2.2.1 s.2.2.2.1 s.2.2.2.2.1 s.2.2.2.2.2.2.1 0 s.2.2.2.2.2.2.2)))
def F_339_82 (y1 : Int32) (y2 : Int32) (y3 : Int32) (y4 : Int64) (y6 : Int32) (y7 : Int32) (y8 : Int32) (h : sm_H) : Option ((Int32 × Int32 × Int32 × Int64 × Int32 × sm_H) ⊕ (Int32 × sm_H)) := lp F_339_82B 1000000 (y1, y2, y3, y4, y6, y7, y8, h)
def F_339_77 (y1 : Int32) (y2 : Int32) (y3 : Int32) (y4 : Int64) (y6 : Int32) (z0 : Int32) (h : sm_H) : Option ((Int32 × Int32 × Int32 × Int64 × Int32 × sm_H) ⊕ (Int32 × sm_H)) :=
  F_339_82 y1 y2 y3 y4 y6 z0 0 h
def F_339_76 (y1 : Int32) (y2 : Int32) (y3 : Int32) (y4 : Int64) (y6 : Int32) (h : sm_H) : Option ((Int32 × Int32 × Int32 × Int64 × Int32 × sm_H) ⊕ (Int32 × sm_H)) :=
  F_339_77 y1 y2 y3 y4 y6 0 h
def F_339_3B (s : (Int32 × Int32 × Int32 × Int64 × Int32 × sm_H)) : Option ((Int32 × Int32 × Int32 × Int64 × Int32 × sm_H) ⊕ (Int32 × sm_H)) :=
  if (s.2.2.2.2.2.1 67 18) ≤ s.2.2.2.2.1 then (some (.inr ((-1), s.2.2.2.2.2)))
  else ((ldI s.2.2.2.2.2 75 500 s.2.2.2.2.1).bind fun v5 =>
  if v5 = s.1 then ((ldI s.2.2.2.2.2 77 500 s.2.2.2.2.1).bind fun v6 =>
  if v6 = s.2.1 then ((ldI s.2.2.2.2.2 78 500 s.2.2.2.2.1).bind fun v7 =>
  if v7 = s.2.2.1 then ((ldJ s.2.2.2.2.2 79 500 s.2.2.2.2.1).bind fun v8 =>
  if (lg_cmp v8 s.2.2.2.1) = 0 then ((ldI s.2.2.2.2.2 80 500 s.2.2.2.2.1).bind fun v9 =>
  if v9 = (s.2.2.2.2.2.1 67 3) then (F_339_77 s.1 s.2.1 s.2.2.1 s.2.2.2.1 s.2.2.2.2.1 1 s.2.2.2.2.2)
  else (F_339_76 s.1 s.2.1 s.2.2.1 s.2.2.2.1 s.2.2.2.2.1 s.2.2.2.2.2))
  else (F_339_76 s.1 s.2.1 s.2.2.1 s.2.2.2.1 s.2.2.2.2.1 s.2.2.2.2.2))
  else (F_339_76 s.1 s.2.1 s.2.2.1 s.2.2.2.1 s.2.2.2.2.1 s.2.2.2.2.2))
  else (F_339_76 s.1 s.2.1 s.2.2.1 s.2.2.2.1 s.2.2.2.2.1 s.2.2.2.2.2))
  else (F_339_76 s.1 s.2.1 s.2.2.1 s.2.2.2.1 s.2.2.2.2.1 s.2.2.2.2.2))
def F_339_3 (y1 : Int32) (y2 : Int32) (y3 : Int32) (y4 : Int64) (y6 : Int32) (h : sm_H) : Option (Int32 × sm_H) := lp F_339_3B 1000000 (y1, y2, y3, y4, y6, h)
def F_339_0 (x1 : Int32) (x2 : Int32) (x3 : Int32) (x4 : Int64) (h : sm_H) : Option (Int32 × sm_H) :=
  F_339_3 x1 x2 x3 x4 0 h
abbrev F_339 (x1 : Int32) (x2 : Int32) (x3 : Int32) (x4 : Int64) (h : sm_H) : Option (Int32 × sm_H) := F_339_0 x1 x2 x3 x4 h
def F_340_143B (s : (Int32 × Int32 × sm_H)) : Option ((Int32 × Int32 × sm_H) ⊕ (Int32 × sm_H)) :=
  if (s.2.2.1 67 3) ≤ s.2.1 then ((some (sm_wI s.2.2 67 18 ((s.2.2.1 67 18) + 1))).bind fun h1 =>
  some (.inr (s.1, h1)))
  else ((ldI s.2.2 69 24 s.2.1).bind fun v2 =>
  (stI s.2.2 81 12000 ((24 * s.1) + s.2.1) v2).bind fun h3 =>
  (some (s.2.1 + 1 : Int32)).bind fun v4 =>
  some (.inl (s.1, v4, h3)))
def F_340_143 (y6 : Int32) (y7 : Int32) (h : sm_H) : Option (Int32 × sm_H) := lp F_340_143B 1000000 (y6, y7, h)
def F_340_42 (y1 : Int32) (y2 : Int32) (y3 : Int32) (y4 : Int64) (h : sm_H) : Option (Int32 × sm_H) :=
  (F_339 y1 y2 y3 y4 h).bind fun q5 =>
  if q5.1 = (-1) then (if (q5.2.1 67 18) = 500 then ((some (sm_wI q5.2 67 19 5)).bind fun h14 =>
  some ((-1), h14))
  else ((some ((q5.2.1 67 18) : Int32)).bind fun v6 =>
  (F_302 q5.2).bind fun q7 =>
  (stI q7.2 76 500 v6 q7.1).bind fun h8 =>
  (stI h8 75 500 v6 y1).bind fun h9 =>
  (stI h9 77 500 v6 y2).bind fun h10 =>
  (stI h10 78 500 v6 y3).bind fun h11 =>
  (stJ h11 79 500 v6 y4).bind fun h12 =>
  (stI h12 80 500 v6 (h12.1 67 3)).bind fun h13 =>
  F_340_143 v6 0 h13))
  else (some (q5.1, q5.2))
def F_340_35  (h : sm_H) : Option (Int32 × sm_H) :=
  (some (sm_wI h 67 19 4)).bind fun h15 =>
  some ((-1), h15)
def F_340_0 (x1 : Int32) (x2 : Int32) (x3 : Int32) (x4 : Int64) (h : sm_H) : Option (Int32 × sm_H) :=
  if 10 < (h.1 67 21) then (F_340_35 h)
  else ((F_301 (h.1 67 20) (h.1 67 21) h).bind fun q16 =>
  if q16.1 = (-1) then (if (q16.2.1 67 10) = 300 then (F_340_35 q16.2)
  else (F_340_42 x1 x2 x3 x4 q16.2))
  else (F_340_42 x1 x2 x3 x4 q16.2))
abbrev F_340 (x1 : Int32) (x2 : Int32) (x3 : Int32) (x4 : Int64) (h : sm_H) : Option (Int32 × sm_H) := F_340_0 x1 x2 x3 x4 h
def F_341_107 (z1 : Int32) (z2 : Int32) (z3 : Int32) (z4 : Int64) (h : sm_H) : Option (Int32 × sm_H) :=
  (F_340 z1 z2 z3 z4 h).bind fun q1 =>
  some (q1.1, q1.2)
def F_341_96 (y4 : Int64) (y7 : Int32) (z1 : Int32) (z2 : Int32) (z3 : Int32) (h : sm_H) : Option (Int32 × sm_H) :=
  if y7 = 0 then (F_341_107 z1 z2 z3 0 h)
  else (F_341_107 z1 z2 z3 y4 h)
def F_341_84 (y1 : Int32) (y3 : Int32) (y4 : Int64) (y7 : Int32) (z1 : Int32) (z2 : Int32) (h : sm_H) : Option (Int32 × sm_H) :=
  (F_338 y1 h).bind fun q2 =>
  if q2.1 = 0 then (F_341_96 y4 y7 z1 z2 0 q2.2)
  else (F_341_96 y4 y7 z1 z2 y3 q2.2)
def F_341_68 (y1 : Int32) (y2 : Int32) (y3 : Int32) (y4 : Int64) (z0 : Int32) (h : sm_H) : Option (Int32 × sm_H) :=
  (F_337 y1 h).bind fun q3 =>
  if q3.1 = 0 then (F_341_84 y1 y3 y4 z0 y1 0 q3.2)
  else (F_341_84 y1 y3 y4 z0 y1 y2 q3.2)
def F_341_63 (y1 : Int32) (y2 : Int32) (y3 : Int32) (y4 : Int64) (h : sm_H) : Option (Int32 × sm_H) :=
  F_341_68 y1 y2 y3 y4 1 h
def F_341_28 (y1 : Int32) (y2 : Int32) (y3 : Int32) (y4 : Int64) (z0 : Int32) (h : sm_H) : Option (Int32 × sm_H) :=
  if z0 ≤ 0 then (if 0 ≤ z0 then (if y1 = 0 then (F_341_63 y1 y2 y3 y4 h)
  else (if y1 = 6 then (F_341_63 y1 y2 y3 y4 h)
  else (F_341_68 y1 y2 y3 y4 0 h)))
  else (some (((-1) - z0), h)))
  else ((some (sm_wI h 67 19 z0)).bind fun h4 =>
  some ((-1), h4))
def F_341_15 (y1 : Int32) (y2 : Int32) (y3 : Int32) (y4 : Int64) (h : sm_H) : Option (Int32 × sm_H) :=
  F_341_28 y1 y2 y3 y4 1 h
def F_341_0 (x1 : Int32) (x2 : Int32) (x3 : Int32) (x4 : Int64) (h : sm_H) : Option (Int32 × sm_H) :=
  (some (sm_wI h 67 19 0)).bind fun h5 =>
  if x1 < 0 then (F_341_15 x1 x2 x3 x4 h5)
  else (if x1 ≤ 34 then ((F_336 x1 x2 x3 x4 h5).bind fun q6 =>
  F_341_28 x1 x2 x3 x4 q6.1 q6.2)
  else (F_341_15 x1 x2 x3 x4 h5))
abbrev F_341 (x1 : Int32) (x2 : Int32) (x3 : Int32) (x4 : Int64) (h : sm_H) : Option (Int32 × sm_H) := F_341_0 x1 x2 x3 x4 h
def F_342_0 (x1 : Int32) (x2 : Int64) (h : sm_H) : Option (sm_H) :=
  (stI h 108 6000 (h.1 67 59) x1).bind fun h1 =>
  (stJ h1 109 6000 (h1.1 67 59) x2).bind fun h2 =>
  (some (sm_wI h2 67 59 ((h2.1 67 59) + 1))).bind fun h3 =>
  some h3
abbrev F_342 (x1 : Int32) (x2 : Int64) (h : sm_H) : Option (sm_H) := F_342_0 x1 x2 h
def F_343_2B (s : (Int32 × Int32 × sm_H)) : Option ((Int32 × Int32 × sm_H) ⊕ (sm_H)) :=
  if s.1 ≤ s.2.1 then (some (.inr (s.2.2)))
  else ((ldI s.2.2 108 6000 s.2.1).bind fun v1 =>
  (ldJ s.2.2 109 6000 s.2.1).bind fun v2 =>
  (F_342 v1 v2 s.2.2).bind fun q3 =>
  (some (s.2.1 + 1 : Int32)).bind fun v4 =>
  some (.inl (s.1, v4, q3)))
def F_343_2 (y2 : Int32) (y3 : Int32) (h : sm_H) : Option (sm_H) := lp F_343_2B 1000000 (y2, y3, h)
def F_343_0 (x1 : Int32) (x2 : Int32) (h : sm_H) : Option (sm_H) :=
  F_343_2 x2 x1 h
abbrev F_343 (x1 : Int32) (x2 : Int32) (h : sm_H) : Option (sm_H) := F_343_0 x1 x2 h
def F_344_0 (x1 : Int32) (h : sm_H) : Option (sm_H) :=
  (some (sm_wI h 67 63 0)).bind fun h1 =>
  if (h1.1 67 56) = 100 then ((some (sm_wI h1 67 64 3)).bind fun h9 =>
  some h9)
  else (if (h1.1 67 66) = (h1.1 67 65) then ((some (sm_wI h1 67 64 2)).bind fun h8 =>
  some h8)
  else ((some (sm_wI h1 67 66 ((h1.1 67 66) + 1))).bind fun h2 =>
  (stI h2 103 100 (h2.1 67 56) x1).bind fun h3 =>
  (stI h3 104 100 (h3.1 67 56) 0).bind fun h4 =>
  (F_305 x1 h4).bind fun q5 =>
  (stI q5.2 105 100 (h4.1 67 56) ((h4.1 67 59) - q5.1)).bind fun h6 =>
  (some (sm_wI h6 67 56 ((h6.1 67 56) + 1))).bind fun h7 =>
  some h7))
abbrev F_344 (x1 : Int32) (h : sm_H) : Option (sm_H) := F_344_0 x1 h
def F_345_0 (x1 : Int32) (x2 : Int64) (h : sm_H) : Option (sm_H) :=
  (some (sm_wI h 67 56 ((h.1 67 56) - 1))).bind fun h1 =>
  (ldI h1 105 100 (h1.1 67 56)).bind fun v2 =>
  (some (sm_wI h1 67 59 v2)).bind fun h3 =>
  (some (sm_wI h3 67 60 x1)).bind fun h4 =>
  (some (sm_wJ h4 67 61 x2)).bind fun h5 =>
  (some (sm_wI h5 67 62 0)).bind fun h6 =>
  (some (sm_wI h6 67 63 1)).bind fun h7 =>
  some h7
abbrev F_345 (x1 : Int32) (x2 : Int64) (h : sm_H) : Option (sm_H) := F_345_0 x1 x2 h
def F_346_0 (x1 : Int32) (h : sm_H) : Option (sm_H) :=
  (F_299 x1 h).bind fun q1 =>
  (F_345 (q1.1 67 48) (q1.2.1 67 49) q1).bind fun q2 =>
  some q2
abbrev F_346 (x1 : Int32) (h : sm_H) : Option (sm_H) := F_346_0 x1 h
def F_347_0 (x1 : Int32) (x2 : Int64) (h : sm_H) : Option (sm_H) :=
  (F_345 x1 x2 h).bind fun q1 =>
  (some (sm_wI q1 67 62 1)).bind fun h2 =>
  some h2
abbrev F_347 (x1 : Int32) (x2 : Int64) (h : sm_H) : Option (sm_H) := F_347_0 x1 x2 h
def F_348_0 (x1 : Int32) (h : sm_H) : Option (sm_H) :=
  (F_347 19 (Int32.toInt64 x1) h).bind fun q1 =>
  some q1
abbrev F_348 (x1 : Int32) (h : sm_H) : Option (sm_H) := F_348_0 x1 h
def F_349_0 (x1 : Int32) (h : sm_H) : Option (sm_H) :=
  (stI h 104 100 ((h.1 67 56) - 1) 90).bind fun h1 =>
  (F_344 x1 h1).bind fun q2 =>
  some q2
abbrev F_349 (x1 : Int32) (h : sm_H) : Option (sm_H) := F_349_0 x1 h
def F_350_0 (x1 : Int32) (x2 : Int32) (h : sm_H) : Option (sm_H) :=
  (stI h 104 100 ((h.1 67 56) - 1) x2).bind fun h1 =>
  (F_344 x1 h1).bind fun q2 =>
  some q2
abbrev F_350 (x1 : Int32) (x2 : Int32) (h : sm_H) : Option (sm_H) := F_350_0 x1 x2 h
def F_351_0 (x1 : Int32) (h : sm_H) : Option (Int32 × sm_H) :=
  (ldI h 105 100 ((h.1 67 56) - 1)).bind fun v1 =>
  (ldI h 108 6000 (v1 + x1)).bind fun v2 =>
  some (v2, h)
abbrev F_351 (x1 : Int32) (h : sm_H) : Option (Int32 × sm_H) := F_351_0 x1 h
def F_352_0 (x1 : Int32) (h : sm_H) : Option (Int64 × sm_H) :=
  (ldI h 105 100 ((h.1 67 56) - 1)).bind fun v1 =>
  (ldJ h 109 6000 (v1 + x1)).bind fun v2 =>
  some (v2, h)
abbrev F_352 (x1 : Int32) (h : sm_H) : Option (Int64 × sm_H) := F_352_0 x1 h
def F_353_59  (h : sm_H) : Option (sm_H) :=
  some h
def F_353_0 (x1 : Int32) (x2 : Int64) (h : sm_H) : Option (sm_H) :=
  (F_290 x1 h).bind fun q1 =>
  if q1.1 = 0 then (if (lg_cmp x2 (-1)) = 0 then ((F_299 7 q1.2).bind fun q6 =>
  F_353_59 q6)
  else ((ldI q1.2 94 100 (Int64.toInt32 x2)).bind fun v2 =>
  (some (sm_wI q1.2 67 48 v2)).bind fun h3 =>
  (ldJ h3 95 100 (Int64.toInt32 x2)).bind fun v4 =>
  (some (sm_wJ h3 67 49 v4)).bind fun h5 =>
  F_353_59 h5))
  else ((some (sm_wI q1.2 67 48 x1)).bind fun h7 =>
  (some (sm_wJ h7 67 49 x2)).bind fun h8 =>
  F_353_59 h8)
abbrev F_353 (x1 : Int32) (x2 : Int64) (h : sm_H) : Option (sm_H) := F_353_0 x1 x2 h
def F_354_252 (z0 : Int64) (h : sm_H) : Option (Int64 × sm_H) :=
  some (z0, h)
def F_354_239 (z0 : Int64) (h : sm_H) : Option (Int64 × sm_H) :=
  some (z0, h)
def F_354_226 (z0 : Int64) (h : sm_H) : Option (Int64 × sm_H) :=
  some (z0, h)
def F_354_198 (z0 : Int64) (h : sm_H) : Option (Int64 × sm_H) :=
  some (z0, h)
def F_354_170 (z0 : Int64) (h : sm_H) : Option (Int64 × sm_H) :=
  some (z0, h)
def F_354_127 (z0 : Int64) (h : sm_H) : Option (Int64 × sm_H) :=
  some (z0, h)
def F_354_109 (z0 : Int64) (h : sm_H) : Option (Int64 × sm_H) :=
  some (z0, h)
def F_354_11 (y0 : Int32) (y1 : Int32) (y2 : Int64) (y4 : Int64) (z0 : Int32) (h : sm_H) : Option (Int64 × sm_H) :=
  if y0 = 0 then (some ((y2 + y4), h))
  else (if y0 = 1 then (some ((y2 - y4), h))
  else (if y0 = 2 then (some ((y2 * y4), h))
  else (if y0 = 3 then (if (lg_cmp y4 (-1)) = 0 then (F_354_109 (-y2) h)
  else (if y4 = 0 then none else (F_354_109 (y2 / y4) h)))
  else (if y0 = 4 then (if (lg_cmp y4 (-1)) = 0 then (F_354_127 0 h)
  else (if y4 = 0 then none else (F_354_127 (y2 - y2 / y4 * y4) h)))
  else (if y0 = 5 then (some ((y2 &&& y4), h))
  else (if y0 = 6 then (some ((y2 ||| y4), h))
  else (if y0 = 7 then (some ((y2 ^^^ y4), h))
  else (if y0 = 8 then (if y1 = 0 then (F_354_170 (Int32.toInt64 ((Int64.toInt32 y2) <<< ((Int64.toInt32 (y4 &&& (Int32.toInt64 z0))) &&& 31))) h)
  else (F_354_170 (y2 <<< (Int32.toInt64 (Int64.toInt32 (y4 &&& (Int32.toInt64 z0))) &&& 63)) h))
  else (if y0 = 9 then (if y1 = 0 then (F_354_198 (Int32.toInt64 ((Int64.toInt32 y2) >>> ((Int64.toInt32 (y4 &&& (Int32.toInt64 z0))) &&& 31))) h)
  else (F_354_198 (y2 >>> (Int32.toInt64 (Int64.toInt32 (y4 &&& (Int32.toInt64 z0))) &&& 63)) h))
  else (if y0 = 10 then (if y1 = 0 then (F_354_226 (Int32.toInt64 (Int32.toUInt32 (Int64.toInt32 y2) >>> (Int32.toUInt32 (Int64.toInt32 (y4 &&& (Int32.toInt64 z0))) &&& Int32.toUInt32 31)).toInt32) h)
  else (F_354_226 (Int64.toUInt64 y2 >>> ((Int32.toInt64 (Int64.toInt32 (y4 &&& (Int32.toInt64 z0)))).toUInt64 &&& Int64.toUInt64 63)).toInt64 h))
  else (if y0 = 11 then (if 0 ≤ (lg_cmp y2 y4) then (F_354_239 0 h)
  else (F_354_239 1 h))
  else (if (lg_cmp y2 y4) = 0 then (F_354_252 1 h)
  else (F_354_252 0 h)))))))))))))
def F_354_0 (x0 : Int32) (x1 : Int32) (x2 : Int64) (x4 : Int64) (h : sm_H) : Option (Int64 × sm_H) :=
  if x1 = 0 then (F_354_11 x0 x1 x2 x4 31 h)
  else (F_354_11 x0 x1 x2 x4 63 h)
abbrev F_354 (x0 : Int32) (x1 : Int32) (x2 : Int64) (x4 : Int64) (h : sm_H) : Option (Int64 × sm_H) := F_354_0 x0 x1 x2 x4 h
def F_355_91  (h : sm_H) : Option (sm_H) :=
  some h
def F_355_88 (z1 : Int32) (z2 : Int64) (h : sm_H) : Option (sm_H) :=
  (F_345 z1 z2 h).bind fun q1 =>
  F_355_91 q1
def F_355_48 (y1 : Int32) (y2 : Int32) (y3 : Int64) (y5 : Int64) (z0 : Int32) (z1 : Int32) (h : sm_H) : Option (sm_H) :=
  (F_354 z0 z1 y3 y5 h).bind fun q2 =>
  if y1 ≤ 10 then (if y2 = 5 then (F_355_88 y2 (Int32.toInt64 (Int64.toInt32 q2.1)) q2.2)
  else (F_355_88 y2 q2.1 q2.2))
  else ((F_345 1 q2.1 q2.2).bind fun q3 =>
  F_355_91 q3)
def F_355_36 (y1 : Int32) (y2 : Int32) (y3 : Int64) (y5 : Int64) (h : sm_H) : Option (sm_H) :=
  if y2 = 6 then (F_355_48 y1 y2 y3 y5 y1 1 h)
  else (F_355_48 y1 y2 y3 y5 y1 0 h)
def F_355_30  (h : sm_H) : Option (sm_H) :=
  (F_348 3 h).bind fun q4 =>
  some q4
def F_355_0 (x1 : Int32) (x2 : Int32) (h : sm_H) : Option (sm_H) :=
  (F_352 0 h).bind fun q5 =>
  (F_352 1 q5.2).bind fun q6 =>
  if (lg_cmp q6.1 0) = 0 then (if x1 = 3 then (F_355_30 q6.2)
  else (if x1 = 4 then (F_355_30 q6.2)
  else (F_355_36 x1 x2 q5.1 q6.1 q6.2)))
  else (F_355_36 x1 x2 q5.1 q6.1 q6.2)
abbrev F_355 (x1 : Int32) (x2 : Int32) (h : sm_H) : Option (sm_H) := F_355_0 x1 x2 h
def F_356_19B (s : (Int32 × Int32 × Int32 × Int32 × Int32 × sm_H)) : Option ((Int32 × Int32 × Int32 × Int32 × Int32 × sm_H) ⊕ (Int32 × sm_H)) :=
  (F_305 s.1 s.2.2.2.2.2).bind fun q1 =>
  if q1.1 ≤ s.2.2.2.2.1 then (some (.inr (1, q1.2)))
  else ((ldI q1.2 74 3000 ((10 * s.2.1) + s.2.2.2.2.1)).bind fun v2 =>
  (F_306 s.1 s.2.2.2.2.1 q1.2).bind fun q3 =>
  (ldI q3.2 108 6000 (s.2.2.2.1 + s.2.2.2.2.1)).bind fun v4 =>
  (ldJ q3.2 109 6000 (s.2.2.2.1 + s.2.2.2.2.1)).bind fun v5 =>
  (F_300 v2 q3.1 v4 v5 s.2.2.1 q3.2).bind fun q6 =>
  if q6.1 = 0 then ((F_342 (q6.2.1 67 48) (q6.2.2.1 67 49) q6.2).bind fun q7 =>
  (some (s.2.2.2.2.1 + 1 : Int32)).bind fun v8 =>
  some (.inl (s.1, s.2.1, s.2.2.1, s.2.2.2.1, v8, q7)))
  else ((F_348 q6.1 q6.2).bind fun q9 =>
  some (.inr (0, q9))))
def F_356_19 (y1 : Int32) (y2 : Int32) (y3 : Int32) (y5 : Int32) (y6 : Int32) (h : sm_H) : Option (Int32 × sm_H) := lp F_356_19B 1000000 (y1, y2, y3, y5, y6, h)
def F_356_0 (x1 : Int32) (x2 : Int32) (x3 : Int32) (x4 : Int32) (h : sm_H) : Option (Int32 × sm_H) :=
  (ldI h 105 100 ((h.1 67 56) - 1)).bind fun v10 =>
  (some ((v10 + x4) : Int32)).bind fun v11 =>
  F_356_19 x1 x2 x3 v11 0 h
abbrev F_356 (x1 : Int32) (x2 : Int32) (x3 : Int32) (x4 : Int32) (h : sm_H) : Option (Int32 × sm_H) := F_356_0 x1 x2 x3 x4 h
def F_357_18  (h : sm_H) : Option (Int32 × sm_H) :=
  (some (sm_wI h 67 64 4)).bind fun h1 =>
  some (1, h1)
def F_357_0 (x1 : Int32) (h : sm_H) : Option (Int32 × sm_H) :=
  if 1000 ≤ (h.1 67 45) then (F_357_18 h)
  else (if 100 < x1 then (F_357_18 h)
  else (some (0, h)))
abbrev F_357 (x1 : Int32) (h : sm_H) : Option (Int32 × sm_H) := F_357_0 x1 h
def F_358_0 (x1 : Int32) (x2 : Int32) (h : sm_H) : Option (Int32 × sm_H) :=
  (stI h 96 1000 (h.1 67 45) x1).bind fun h1 =>
  (stI h1 97 1000 (h1.1 67 45) x2).bind fun h2 =>
  (some (sm_wI h2 67 45 ((h2.1 67 45) + 1))).bind fun h3 =>
  some (((h3.1 67 45) - 1), h3)
abbrev F_358 (x1 : Int32) (x2 : Int32) (h : sm_H) : Option (Int32 × sm_H) := F_358_0 x1 x2 h
def F_359_62B (s : (Int32 × Int64 × Int32 × Int32 × sm_H)) : Option ((Int32 × Int64 × Int32 × Int32 × sm_H) ⊕ (sm_H)) :=
  if 0 ≤ (lg_cmp (Int32.toInt64 s.2.2.2.1) s.2.1) then ((F_345 s.1 (Int32.toInt64 s.2.2.1) s.2.2.2.2).bind fun q1 =>
  some (.inr (q1)))
  else ((stI s.2.2.2.2 98 100000 ((100 * s.2.2.1) + s.2.2.2.1) (s.2.2.2.2.1 67 48)).bind fun h2 =>
  (stJ h2 99 100000 ((100 * s.2.2.1) + s.2.2.2.1) (h2.2.1 67 49)).bind fun h3 =>
  (some (s.2.2.2.1 + 1 : Int32)).bind fun v4 =>
  some (.inl (s.1, s.2.1, s.2.2.1, v4, h3)))
def F_359_62 (y1 : Int32) (y2 : Int64) (y4 : Int32) (y5 : Int32) (h : sm_H) : Option (sm_H) := lp F_359_62B 1000000 (y1, y2, y4, y5, h)
def F_359_0 (x1 : Int32) (h : sm_H) : Option (sm_H) :=
  (F_352 0 h).bind fun q5 =>
  if 0 ≤ (lg_cmp q5.1 0) then (if (lg_cmp q5.1 100) ≤ 0 then ((F_357 (Int64.toInt32 q5.1) q5.2).bind fun q6 =>
  if q6.1 = 0 then ((F_358 x1 (Int64.toInt32 q5.1) q6.2).bind fun q7 =>
  (F_294 x1 q7.2).bind fun q8 =>
  (F_299 q8.1 q8.2).bind fun q9 =>
  F_359_62 x1 q5.1 q7.1 0 q9)
  else (some q6.2))
  else ((some (sm_wI q5.2 67 64 4)).bind fun h10 =>
  some h10))
  else ((F_348 4 q5.2).bind fun q11 =>
  some q11)
abbrev F_359 (x1 : Int32) (h : sm_H) : Option (sm_H) := F_359_0 x1 h
def F_360_253  (h : sm_H) : Option (sm_H) :=
  some h
def F_360_239 (z1 : Int32) (z2 : Int64) (h : sm_H) : Option (sm_H) :=
  (F_345 z1 z2 h).bind fun q1 =>
  F_360_253 q1
def F_360_207 (y1 : Int32) (y6 : Int32) (y7 : Int64) (y12 : Int32) (h : sm_H) : Option (sm_H) :=
  if y1 = 23 then ((F_346 0 h).bind fun q3 =>
  F_360_253 q3)
  else (if y1 = 25 then (if y12 = 0 then (F_360_239 1 0 h)
  else (F_360_239 1 1 h))
  else ((F_345 y6 y7 h).bind fun q2 =>
  F_360_253 q2))
def F_360_168 (y1 : Int32) (y2 : Int32) (y3 : Int32) (y6 : Int32) (y7 : Int64) (y9 : Int32) (y10 : Int64) (y12 : Int32) (h : sm_H) : Option (sm_H) :=
  if y3 = 0 then ((stI h 98 100000 y2 y9).bind fun h4 =>
  (stJ h4 99 100000 y2 y10).bind fun h5 =>
  F_360_207 y1 y6 y7 y12 h5)
  else ((stI h 100 100 y2 y9).bind fun h6 =>
  (stJ h6 101 100 y2 y10).bind fun h7 =>
  F_360_207 y1 y6 y7 y12 h7)
def F_360_157 (y1 : Int32) (y2 : Int32) (y3 : Int32) (y6 : Int32) (y7 : Int64) (y9 : Int32) (y10 : Int64) (y12 : Int32) (h : sm_H) : Option (sm_H) :=
  if y1 = 25 then (if y12 = 0 then (F_360_207 y1 y6 y7 y12 h)
  else (F_360_168 y1 y2 y3 y6 y7 y9 y10 y12 h))
  else (F_360_168 y1 y2 y3 y6 y7 y9 y10 y12 h)
def F_360_139 (y1 : Int32) (y2 : Int32) (y3 : Int32) (y4 : Int32) (y6 : Int32) (y7 : Int64) (y9 : Int32) (y10 : Int64) (y12 : Int32) (h : sm_H) : Option (sm_H) :=
  if y1 = 26 then ((F_298 y4 (y10 + y7) h).bind fun q8 =>
  F_360_157 y1 y2 y3 y6 y7 y9 q8.1 y12 q8.2)
  else (F_360_157 y1 y2 y3 y6 y7 y9 y10 y12 h)
def F_360_111 (y1 : Int32) (y2 : Int32) (y3 : Int32) (y4 : Int32) (y5 : Int32) (y6 : Int32) (y7 : Int64) (y9 : Int32) (y10 : Int64) (z0 : Int32) (h : sm_H) : Option (sm_H) :=
  if y1 = 25 then ((F_351 (y5 + 1) h).bind fun q9 =>
  (F_352 (y5 + 1) q9.2).bind fun q10 =>
  F_360_139 y1 y2 y3 y4 y6 y7 q9.1 q10.1 z0 q10.2)
  else (F_360_139 y1 y2 y3 y4 y6 y7 y9 y10 z0 h)
def F_360_106 (y1 : Int32) (y2 : Int32) (y3 : Int32) (y4 : Int32) (y5 : Int32) (y6 : Int32) (y7 : Int64) (y9 : Int32) (y10 : Int64) (h : sm_H) : Option (sm_H) :=
  F_360_111 y1 y2 y3 y4 y5 y6 y7 y9 y10 1 h
def F_360_110 (y1 : Int32) (y2 : Int32) (y3 : Int32) (y4 : Int32) (y5 : Int32) (y6 : Int32) (y7 : Int64) (y9 : Int32) (y10 : Int64) (h : sm_H) : Option (sm_H) :=
  F_360_111 y1 y2 y3 y4 y5 y6 y7 y9 y10 0 h
def F_360_88 (y1 : Int32) (y2 : Int32) (y3 : Int32) (y4 : Int32) (y5 : Int32) (y6 : Int32) (y7 : Int64) (y9 : Int32) (y10 : Int64) (h : sm_H) : Option (sm_H) :=
  (F_291 y4 h).bind fun q11 =>
  if q11.1 = 0 then (F_360_110 y1 y2 y3 y4 y5 y6 y7 y9 y10 q11.2)
  else (if y9 = 0 then (if y6 = 0 then (F_360_106 y1 y2 y3 y4 y5 y6 y7 y9 y10 q11.2)
  else (F_360_110 y1 y2 y3 y4 y5 y6 y7 y9 y10 q11.2))
  else (F_360_110 y1 y2 y3 y4 y5 y6 y7 y9 y10 q11.2))
def F_360_40 (y1 : Int32) (y2 : Int32) (y3 : Int32) (y4 : Int32) (y5 : Int32) (y6 : Int32) (z0 : Int64) (h : sm_H) : Option (sm_H) :=
  if y1 = 22 then ((F_345 y6 z0 h).bind fun q14 =>
  some q14)
  else ((F_351 y5 h).bind fun q12 =>
  (F_352 y5 q12.2).bind fun q13 =>
  if q12.1 = y6 then (if (lg_cmp q13.1 z0) = 0 then (F_360_106 y1 y2 y3 y4 y5 y6 z0 q12.1 q13.1 q13.2)
  else (F_360_88 y1 y2 y3 y4 y5 y6 z0 q12.1 q13.1 q13.2))
  else (F_360_88 y1 y2 y3 y4 y5 y6 z0 q12.1 q13.1 q13.2))
def F_360_19 (y1 : Int32) (y2 : Int32) (y3 : Int32) (y4 : Int32) (y5 : Int32) (z0 : Int32) (h : sm_H) : Option (sm_H) :=
  if y3 = 0 then ((ldJ h 99 100000 y2).bind fun v15 =>
  F_360_40 y1 y2 y3 y4 y5 z0 v15 h)
  else ((ldJ h 101 100 y2).bind fun v16 =>
  F_360_40 y1 y2 y3 y4 y5 z0 v16 h)
def F_360_0 (x1 : Int32) (x2 : Int32) (x3 : Int32) (x4 : Int32) (x5 : Int32) (h : sm_H) : Option (sm_H) :=
  if x3 = 0 then ((ldI h 98 100000 x2).bind fun v17 =>
  F_360_19 x1 x2 x3 x4 x5 v17 h)
  else ((ldI h 100 100 x2).bind fun v18 =>
  F_360_19 x1 x2 x3 x4 x5 v18 h)
abbrev F_360 (x1 : Int32) (x2 : Int32) (x3 : Int32) (x4 : Int32) (x5 : Int32) (h : sm_H) : Option (sm_H) := F_360_0 x1 x2 x3 x4 x5 h
def F_361_67  (h : sm_H) : Option (sm_H) :=
  (F_348 6 h).bind fun q1 =>
  some q1
def F_361_0 (x1 : Int32) (x2 : Int32) (h : sm_H) : Option (sm_H) :=
  (F_351 0 h).bind fun q2 =>
  if q2.1 = 0 then ((F_348 1 q2.2).bind fun q11 =>
  some q11)
  else ((F_352 0 q2.2).bind fun q3 =>
  (some ((Int64.toInt32 q3.1) : Int32)).bind fun v4 =>
  if x1 = 21 then ((ldI q3.2 97 1000 v4).bind fun v9 =>
  (F_345 5 (Int32.toInt64 v9) q3.2).bind fun q10 =>
  some q10)
  else ((F_352 1 q3.2).bind fun q5 =>
  if (lg_cmp q5.1 0) < 0 then (F_361_67 q5.2)
  else ((ldI q5.2 97 1000 v4).bind fun v6 =>
  if (lg_cmp q5.1 (Int32.toInt64 v6)) < 0 then ((F_294 x2 q5.2).bind fun q7 =>
  (F_360 x1 ((100 * v4) + (Int64.toInt32 q5.1)) 0 q7.1 2 q7.2).bind fun q8 =>
  some q8)
  else (F_361_67 q5.2))))
abbrev F_361 (x1 : Int32) (x2 : Int32) (h : sm_H) : Option (sm_H) := F_361_0 x1 x2 h
def F_362_53 (y1 : Int32) (y2 : Int32) (y3 : Int32) (y4 : Int32) (z0 : Int32) (h : sm_H) : Option (sm_H) :=
  (ldI h 88 100 y1).bind fun v1 =>
  (F_360 ((22 + y2) - 4) z0 y3 v1 y4 h).bind fun q2 =>
  some q2
def F_362_29 (y1 : Int32) (y2 : Int32) (y3 : Int32) (y4 : Int32) (h : sm_H) : Option (sm_H) :=
  if y3 = 0 then ((F_352 0 h).bind fun q3 =>
  (ldI q3.2 91 100 y1).bind fun v4 =>
  F_362_53 y1 y2 y3 y4 ((100 * (Int64.toInt32 q3.1)) + v4) q3.2)
  else (F_362_53 y1 y2 y3 y4 y1 h)
def F_362_9 (y1 : Int32) (y2 : Int32) (y3 : Int32) (z0 : Int32) (h : sm_H) : Option (sm_H) :=
  if y3 = 0 then ((F_351 0 h).bind fun q5 =>
  if q5.1 = 0 then ((F_348 1 q5.2).bind fun q6 =>
  some q6)
  else (F_362_29 y1 y2 y3 z0 q5.2))
  else (F_362_29 y1 y2 y3 z0 h)
def F_362_0 (x1 : Int32) (x2 : Int32) (x3 : Int32) (h : sm_H) : Option (sm_H) :=
  if x3 = 0 then (F_362_9 x1 x2 x3 1 h)
  else (F_362_9 x1 x2 x3 0 h)
abbrev F_362 (x1 : Int32) (x2 : Int32) (x3 : Int32) (h : sm_H) : Option (sm_H) := F_362_0 x1 x2 x3 h
def F_364_46 (z0 : Int32) (h : sm_H) : Option (Int32 × sm_H) :=
  if z0 = 0 ∨ z0 = 1 then some (z0, h) else none
def F_364_45  (h : sm_H) : Option (Int32 × sm_H) :=
  F_364_46 0 h
def F_364_0 (x1 : Int32) (h : sm_H) : Option (Int32 × sm_H) :=
  (ldZ h 87 100 x1).bind fun v1 =>
  if v1 = 0 then ((ldZ h 86 100 x1).bind fun v2 =>
  if v2 = 0 then ((ldI h 84 100 x1).bind fun v3 =>
  if v3 = 0 then ((ldI h 89 100 x1).bind fun v4 =>
  (ldI h 72 300 v4).bind fun v5 =>
  if v5 = 0 then (F_364_46 1 h)
  else (F_364_45 h))
  else (F_364_45 h))
  else (F_364_45 h))
  else (F_364_45 h)
abbrev F_364 (x1 : Int32) (h : sm_H) : Option (Int32 × sm_H) := F_364_0 x1 h
def F_365_120  (h : sm_H) : Option (sm_H) :=
  some h
def F_365_82  (h : sm_H) : Option (sm_H) :=
  (F_348 5 h).bind fun q1 =>
  F_365_120 q1
def F_365_0 (x1 : Int32) (x2 : Int32) (h : sm_H) : Option (sm_H) :=
  (F_351 0 h).bind fun q2 =>
  if q2.1 = 0 then ((F_348 1 q2.2).bind fun q15 =>
  some q15)
  else ((F_352 0 q2.2).bind fun q3 =>
  (some ((Int64.toInt32 q3.1) : Int32)).bind fun v4 =>
  (ldI q3.2 105 100 ((q3.2.1 67 56) - 1)).bind fun v5 =>
  (some ((v5 + 1) : Int32)).bind fun v6 =>
  (ldI q3.2 76 500 v4).bind fun v7 =>
  if v7 = x1 then ((F_305 v4 q3.2).bind fun q12 =>
  (F_343 v6 (v6 + q12.1) q12.2).bind fun q13 =>
  (F_349 v4 q13).bind fun q14 =>
  F_365_120 q14)
  else (if x2 = 0 then (F_365_82 q3.2)
  else ((F_326 v4 x1 0 q3.2).bind fun q8 =>
  if q8.1 = 0 then (F_365_82 q8.2)
  else ((F_356 v4 x1 0 1 q8.2).bind fun q9 =>
  if q9.1 = 0 then (F_365_120 q9.2)
  else ((stI q9.2 106 100 ((q9.2.1 67 56) - 1) v4).bind fun h10 =>
  (F_350 v4 12 h10).bind fun q11 =>
  F_365_120 q11)))))
abbrev F_365 (x1 : Int32) (x2 : Int32) (h : sm_H) : Option (sm_H) := F_365_0 x1 x2 h
def F_366_105B (s : (Int32 × Int32 × Int32 × Int32 × sm_H)) : Option ((Int32 × Int32 × Int32 × Int32 × sm_H) ⊕ (sm_H)) :=
  if s.2.1 ≤ s.2.2.2.1 then ((F_349 s.1 s.2.2.2.2).bind fun q1 =>
  some (.inr (q1)))
  else ((ldI s.2.2.2.2 98 100000 ((100 * s.2.2.1) + s.2.2.2.1)).bind fun v2 =>
  (ldJ s.2.2.2.2 99 100000 ((100 * s.2.2.1) + s.2.2.2.1)).bind fun v3 =>
  (F_342 v2 v3 s.2.2.2.2).bind fun q4 =>
  (some (s.2.2.2.1 + 1 : Int32)).bind fun v5 =>
  some (.inl (s.1, s.2.1, s.2.2.1, v5, q4)))
def F_366_105 (y1 : Int32) (y2 : Int32) (y6 : Int32) (y7 : Int32) (h : sm_H) : Option (sm_H) := lp F_366_105B 1000000 (y1, y2, y6, y7, h)
def F_366_90 (y1 : Int32) (y2 : Int32) (y3 : Int32) (y5 : Int32) (y6 : Int32) (h : sm_H) : Option (sm_H) :=
  (ldI h 105 100 y3).bind fun v6 =>
  (F_343 v6 y5 h).bind fun q7 =>
  F_366_105 y1 y2 y6 0 q7
def F_366_52 (y1 : Int32) (y2 : Int32) (y3 : Int32) (y5 : Int32) (h : sm_H) : Option (sm_H) :=
  (ldJ h 109 6000 y5).bind fun v8 =>
  (some ((Int64.toInt32 v8) : Int32)).bind fun v9 =>
  (ldI h 108 6000 y5).bind fun v10 =>
  if v10 = 0 then (F_366_90 y1 y2 y3 y5 v9 h)
  else ((ldI h 97 1000 v9).bind fun v11 =>
  if v11 = y2 then (F_366_90 y1 y2 y3 y5 v9 h)
  else ((F_348 7 h).bind fun q12 =>
  some q12))
def F_366_0 (x1 : Int32) (x2 : Int32) (h : sm_H) : Option (sm_H) :=
  (some (((h.1 67 56) - 1) : Int32)).bind fun v13 =>
  (ldI h 103 100 v13).bind fun v14 =>
  (F_305 v14 h).bind fun q15 =>
  (ldI q15.2 105 100 v13).bind fun v16 =>
  (some (((v16 + q15.1) - 1) : Int32)).bind fun v17 =>
  (ldI q15.2 108 6000 v17).bind fun v18 =>
  if v18 = 0 then (if x2 ≤ 0 then (F_366_52 x1 x2 v13 v17 q15.2)
  else ((F_348 1 q15.2).bind fun q19 =>
  some q19))
  else (F_366_52 x1 x2 v13 v17 q15.2)
abbrev F_366 (x1 : Int32) (x2 : Int32) (h : sm_H) : Option (sm_H) := F_366_0 x1 x2 h
def F_367_54B (s : (Int32 × Int32 × Int32 × Int32 × Int32 × Int32 × Int32 × sm_H)) : Option ((Int32 × Int32 × Int32 × Int32 × Int32 × Int32 × Int32 × sm_H) ⊕ (sm_H)) :=
  if s.2.1 ≤ s.2.2.2.2.2.2.1 then ((ldI s.2.2.2.2.2.2.2 105 100 s.2.2.1).bind fun v1 =>
  (ldI s.2.2.2.2.2.2.2 105 100 s.2.2.1).bind fun v2 =>
  (F_343 v1 ((v2 + s.2.2.2.1) - s.2.1) s.2.2.2.2.2.2.2).bind fun q3 =>
  (F_342 s.2.2.2.2.1 (Int32.toInt64 s.2.2.2.2.2.1) q3).bind fun q4 =>
  (F_349 s.1 q4).bind fun q5 =>
  some (.inr (q5)))
  else ((ldI s.2.2.2.2.2.2.2 105 100 s.2.2.1).bind fun v6 =>
  (ldI s.2.2.2.2.2.2.2 108 6000 (((v6 + s.2.2.2.1) - s.2.1) + s.2.2.2.2.2.2.1)).bind fun v7 =>
  (stI s.2.2.2.2.2.2.2 98 100000 ((100 * s.2.2.2.2.2.1) + s.2.2.2.2.2.2.1) v7).bind fun h8 =>
  (ldI h8 105 100 s.2.2.1).bind fun v9 =>
  (ldJ h8 109 6000 (((v9 + s.2.2.2.1) - s.2.1) + s.2.2.2.2.2.2.1)).bind fun v10 =>
  (stJ h8 99 100000 ((100 * s.2.2.2.2.2.1) + s.2.2.2.2.2.2.1) v10).bind fun h11 =>
  (some (s.2.2.2.2.2.2.1 + 1 : Int32)).bind fun v12 =>
  some (.inl (s.1, s.2.1, s.2.2.1, s.2.2.2.1, s.2.2.2.2.1, s.2.2.2.2.2.1, v12, h11)))
def F_367_54 (y1 : Int32) (y2 : Int32) (y3 : Int32) (y4 : Int32) (y5 : Int32) (y6 : Int32) (y7 : Int32) (h : sm_H) : Option (sm_H) := lp F_367_54B 1000000 (y1, y2, y3, y4, y5, y6, y7, h)
def F_367_0 (x1 : Int32) (x2 : Int32) (h : sm_H) : Option (sm_H) :=
  (some (((h.1 67 56) - 1) : Int32)).bind fun v13 =>
  (ldI h 103 100 v13).bind fun v14 =>
  (F_305 v14 h).bind fun q15 =>
  (F_357 x2 q15.2).bind fun q16 =>
  if q16.1 = 0 then ((F_305 x1 q16.2).bind fun q17 =>
  (F_306 x1 (q17.1 - 1) q17.2).bind fun q18 =>
  (F_358 q18.1 x2 q18.2).bind fun q19 =>
  F_367_54 x1 x2 v13 q15.1 q18.1 q19.1 0 q19.2)
  else (some q16.2)
abbrev F_367 (x1 : Int32) (x2 : Int32) (h : sm_H) : Option (sm_H) := F_367_0 x1 x2 h
def F_368_0 (x1 : Int32) (h : sm_H) : Option (sm_H) :=
  (F_351 0 h).bind fun q1 =>
  if q1.1 = 0 then ((F_348 1 q1.2).bind fun q8 =>
  some q8)
  else ((ldI q1.2 105 100 ((q1.2.1 67 56) - 1)).bind fun v2 =>
  (ldI q1.2 105 100 ((q1.2.1 67 56) - 1)).bind fun v3 =>
  (ldI q1.2 103 100 ((q1.2.1 67 56) - 1)).bind fun v4 =>
  (F_305 v4 q1.2).bind fun q5 =>
  (F_343 v2 (v3 + q5.1) q5.2).bind fun q6 =>
  (F_349 x1 q6).bind fun q7 =>
  some q7)
abbrev F_368 (x1 : Int32) (h : sm_H) : Option (sm_H) := F_368_0 x1 h
def F_369_119 (y1 : Int32) (y2 : Int32) (y3 : Int32) (y4 : Int32) (h : sm_H) : Option ((Int32 × Int32 × Int32 × Int32 × sm_H) ⊕ (sm_H)) :=
  (some (y4 + 1 : Int32)).bind fun v1 =>
  some (.inl (y1, y2, y3, v1, h))
def F_369_34B (s : (Int32 × Int32 × Int32 × Int32 × sm_H)) : Option ((Int32 × Int32 × Int32 × Int32 × sm_H) ⊕ (sm_H)) :=
  if (s.2.2.2.2.1 67 32) ≤ s.2.2.2.1 then ((stI s.2.2.2.2 106 100 s.2.1 s.2.2.1).bind fun h2 =>
  (ldI h2 83 100 s.1).bind fun v3 =>
  (F_342 v3 (Int32.toInt64 s.2.2.1) h2).bind fun q4 =>
  (ldI q4 105 100 s.2.1).bind fun v5 =>
  (ldI q4 105 100 s.2.1).bind fun v6 =>
  (ldI q4 103 100 s.2.1).bind fun v7 =>
  (F_305 v7 q4).bind fun q8 =>
  (F_343 v5 (v6 + q8.1) q8.2).bind fun q9 =>
  (ldI q9 90 100 s.1).bind fun v10 =>
  (F_350 v10 14 q9).bind fun q11 =>
  some (.inr (q11)))
  else ((ldZ s.2.2.2.2 87 100 s.2.2.2.1).bind fun v12 =>
  if v12 = 0 then (F_369_119 s.1 s.2.1 s.2.2.1 s.2.2.2.1 s.2.2.2.2)
  else ((ldZ s.2.2.2.2 86 100 s.2.2.2.1).bind fun v13 =>
  if v13 = 0 then ((ldI s.2.2.2.2 88 100 s.2.2.2.1).bind fun v14 =>
  (F_299 v14 s.2.2.2.2).bind fun q15 =>
  (ldI q15 91 100 s.2.2.2.1).bind fun v16 =>
  (stI q15 98 100000 ((100 * s.2.2.1) + v16) (q15.1 67 48)).bind fun h17 =>
  (ldI h17 91 100 s.2.2.2.1).bind fun v18 =>
  (stJ h17 99 100000 ((100 * s.2.2.1) + v18) (h17.2.1 67 49)).bind fun h19 =>
  F_369_119 s.1 s.2.1 s.2.2.1 s.2.2.2.1 h19)
  else (F_369_119 s.1 s.2.1 s.2.2.1 s.2.2.2.1 s.2.2.2.2)))
def F_369_34 (y1 : Int32) (y2 : Int32) (y3 : Int32) (y4 : Int32) (h : sm_H) : Option (sm_H) := lp F_369_34B 1000000 (y1, y2, y3, y4, h)
def F_369_0 (x1 : Int32) (h : sm_H) : Option (sm_H) :=
  (F_357 0 h).bind fun q20 =>
  if q20.1 = 0 then ((some (((q20.2.1 67 56) - 1) : Int32)).bind fun v21 =>
  (ldI q20.2 83 100 x1).bind fun v22 =>
  (F_358 v22 (q20.2.1 67 33) q20.2).bind fun q23 =>
  F_369_34 x1 v21 q23.1 0 q23.2)
  else (some q20.2)
abbrev F_369 (x1 : Int32) (h : sm_H) : Option (sm_H) := F_369_0 x1 h
def F_372_54 (y1 : Int32) (y2 : Int32) (y4 : Int32) (z0 : Int32) (z1 : Int32) (h : sm_H) : Option ((Int32 × Int32 × Int32 × Int32 × sm_H) ⊕ (Int32 × sm_H)) :=
  (some ((z0 + z1) : Int32)).bind fun v1 =>
  (some (y4 + 1 : Int32)).bind fun v2 =>
  some (.inl (y1, y2, v1, v2, h))
def F_372_5B (s : (Int32 × Int32 × Int32 × Int32 × sm_H)) : Option ((Int32 × Int32 × Int32 × Int32 × sm_H) ⊕ (Int32 × sm_H)) :=
  if s.2.1 ≤ s.2.2.2.1 then (some (.inr (s.2.2.1, s.2.2.2.2)))
  else ((ldI s.2.2.2.2 81 12000 ((24 * s.1) + (4 * s.2.2.2.1))).bind fun v3 =>
  (ldI s.2.2.2.2 81 12000 (((24 * s.1) + (4 * s.2.2.2.1)) + 1)).bind fun v4 =>
  (F_332 v3 v4 s.2.2.2.2).bind fun q5 =>
  if q5.1 = 0 then (F_372_54 s.1 s.2.1 s.2.2.2.1 s.2.2.1 0 q5.2)
  else (F_372_54 s.1 s.2.1 s.2.2.2.1 s.2.2.1 1 q5.2))
def F_372_5 (y1 : Int32) (y2 : Int32) (y3 : Int32) (y4 : Int32) (h : sm_H) : Option (Int32 × sm_H) := lp F_372_5B 1000000 (y1, y2, y3, y4, h)
def F_372_0 (x1 : Int32) (x2 : Int32) (h : sm_H) : Option (Int32 × sm_H) :=
  F_372_5 x1 x2 0 0 h
abbrev F_372 (x1 : Int32) (x2 : Int32) (h : sm_H) : Option (Int32 × sm_H) := F_372_0 x1 x2 h
def F_373_54 (y2 : Int32) (y3 : Int32) (y4 : Int32) (z0 : Int32) (h : sm_H) : Option (sm_H) :=
  (F_343 y3 (y3 + z0) h).bind fun q1 =>
  (ldI q1 105 100 y2).bind fun v2 =>
  (ldI q1 105 100 y2).bind fun v3 =>
  (F_343 v2 ((v3 + y4) - z0) q1).bind fun q4 =>
  some q4
def F_373_0 (x1 : Int32) (h : sm_H) : Option (sm_H) :=
  (some (((h.1 67 56) - 1) : Int32)).bind fun v5 =>
  (ldI h 105 100 v5).bind fun v6 =>
  (ldI h 103 100 v5).bind fun v7 =>
  (F_305 v7 h).bind fun q8 =>
  (some ((v6 + q8.1) : Int32)).bind fun v9 =>
  (F_305 x1 q8.2).bind fun q10 =>
  (ldI q10.2 106 100 v5).bind fun v11 =>
  if v11 ≤ q10.1 then ((ldI q10.2 106 100 v5).bind fun v12 =>
  F_373_54 v5 v9 q10.1 v12 q10.2)
  else (F_373_54 v5 v9 q10.1 q10.1 q10.2)
abbrev F_373 (x1 : Int32) (h : sm_H) : Option (sm_H) := F_373_0 x1 h
def F_375_36 (z1 : Int32) (z2 : Int32) (h : sm_H) : Option (sm_H) :=
  (stI h 107 100 z1 z2).bind fun h1 =>
  some h1
def F_375_0 (x1 : Int32) (x2 : Int32) (h : sm_H) : Option (sm_H) :=
  (ldI h 107 100 x1).bind fun v2 =>
  (ldI h 80 500 x2).bind fun v3 =>
  if (4 : Int32) = 0 then none else (if (v2 + 1) = (v3 / 4) then (F_375_36 x1 0 h)
  else ((ldI h 107 100 x1).bind fun v4 =>
  F_375_36 x1 (v4 + 1) h))
abbrev F_375 (x1 : Int32) (x2 : Int32) (h : sm_H) : Option (sm_H) := F_375_0 x1 x2 h
def F_378_199  (h : sm_H) : Option (sm_H) :=
  some h
def F_378_191 (y5 : Int32) (y6 : Int64) (h : sm_H) : Option (sm_H) :=
  (F_347 y5 y6 h).bind fun q1 =>
  F_378_199 q1
def F_378_165 (y3 : Int32) (y8 : Int32) (y9 : Int32) (h : sm_H) : Option (sm_H) :=
  (F_305 y8 h).bind fun q2 =>
  (F_343 y3 ((y3 + q2.1) - y9) q2.2).bind fun q3 =>
  (F_350 y8 2 q3).bind fun q4 =>
  F_378_199 q4
def F_378_93 (y1 : Int32) (y2 : Int32) (y3 : Int32) (y5 : Int32) (y6 : Int64) (y8 : Int32) (h : sm_H) : Option (sm_H) :=
  (ldI h 75 500 y2).bind fun v5 =>
  if v5 = 16 then ((ldI h 104 100 y1).bind fun v6 =>
  if v6 = 1 then ((F_342 y5 y6 h).bind fun q7 =>
  (F_342 y5 y6 q7).bind fun q8 =>
  (F_307 y2 q8).bind fun q9 =>
  if q9.1 = 0 then (F_378_165 y3 y8 1 q9.2)
  else ((F_307 y2 q9.2).bind fun q10 =>
  (F_299 q10.1 q10.2).bind fun q11 =>
  (F_342 (q11.1 67 48) (q11.2.1 67 49) q11).bind fun q12 =>
  F_378_165 y3 y8 2 q12))
  else (F_378_191 y5 y6 h))
  else (F_378_191 y5 y6 h)
def F_378_0 (x1 : Int32) (x2 : Int32) (x3 : Int32) (x4 : Int32) (h : sm_H) : Option (sm_H) :=
  (some ((h.1 67 60) : Int32)).bind fun v13 =>
  (some ((h.2.1 67 61) : Int64)).bind fun v14 =>
  (ldI h 81 12000 ((24 * x2) + 1)).bind fun v15 =>
  (ldI h 75 500 x2).bind fun v16 =>
  if v16 = 15 then ((ldI h 104 100 x1).bind fun v17 =>
  if v17 = 1 then ((ldI h 77 500 x2).bind fun v18 =>
  (F_295 v13 v18 h).bind fun q19 =>
  if q19.1 = 0 then (F_378_93 x1 x2 x3 v13 v14 v15 q19.2)
  else ((F_342 v13 v14 q19.2).bind fun q20 =>
  (F_305 v15 q20).bind fun q21 =>
  (F_343 x3 ((x3 + q21.1) - 1) q21.2).bind fun q22 =>
  (F_349 v15 q22).bind fun q23 =>
  F_378_199 q23))
  else (F_378_93 x1 x2 x3 v13 v14 v15 h))
  else (F_378_93 x1 x2 x3 v13 v14 v15 h)
abbrev F_378 (x1 : Int32) (x2 : Int32) (x3 : Int32) (x4 : Int32) (h : sm_H) : Option (sm_H) := F_378_0 x1 x2 x3 x4 h
def F_380_0 (x1 : Int32) (h : sm_H) : Option (Int32 × sm_H) :=
  if (h.1 67 1) = 20 then (some (0, h))
  else ((stI h 68 20 (h.1 67 1) x1).bind fun h1 =>
  (some (sm_wI h1 67 1 ((h1.1 67 1) + 1))).bind fun h2 =>
  some (1, h2))
abbrev F_380 (x1 : Int32) (h : sm_H) : Option (Int32 × sm_H) := F_380_0 x1 h
def F_382_93B (s : (Int32 × Int32 × sm_H)) : Option ((Int32 × Int32 × sm_H) ⊕ (Int32 × sm_H)) :=
  if s.1 ≤ s.2.1 then ((F_302 s.2.2).bind fun q1 =>
  some (.inr (q1.1, q1.2)))
  else ((ldI s.2.2 68 20 s.2.1).bind fun v2 =>
  (F_309 v2 s.2.2).bind fun q3 =>
  (some (s.2.1 + 1 : Int32)).bind fun v4 =>
  some (.inl (s.1, v4, q3)))
def F_382_93 (y2 : Int32) (y4 : Int32) (h : sm_H) : Option (Int32 × sm_H) := lp F_382_93B 1000000 (y2, y4, h)
def F_382_79 (y1 : Int32) (y2 : Int32) (y3 : Int32) (h : sm_H) : Option (Int32 × sm_H) :=
  if y3 = 0 then (some ((-1), h))
  else ((F_308 y1 h).bind fun q5 =>
  F_382_93 y2 0 q5)
def F_382_72 (y1 : Int32) (y2 : Int32) (y4 : Int32) (z0 : Int32) (h : sm_H) : Option ((Int32 × Int32 × Int32 × Int32 × sm_H) ⊕ (Int32 × sm_H)) :=
  (some (y4 + 1 : Int32)).bind fun v6 =>
  some (.inl (y1, y2, z0, v6, h))
def F_382_71 (y1 : Int32) (y2 : Int32) (y4 : Int32) (h : sm_H) : Option ((Int32 × Int32 × Int32 × Int32 × sm_H) ⊕ (Int32 × sm_H)) :=
  F_382_72 y1 y2 y4 0 h
def F_382_33B (s : (Int32 × Int32 × Int32 × Int32 × sm_H)) : Option ((Int32 × Int32 × Int32 × Int32 × sm_H) ⊕ (Int32 × sm_H)) :=
  if s.2.1 ≤ s.2.2.2.1 then ((F_382_79 s.1 s.2.1 s.2.2.1 s.2.2.2.2).map fun r => (.inr r))
  else (if s.2.2.1 = 0 then ((F_382_79 s.1 s.2.1 s.2.2.1 s.2.2.2.2).map fun r => (.inr r))
  else ((ldI s.2.2.2.2 68 20 s.2.2.2.1).bind fun v7 =>
  (F_289 v7 s.2.2.2.2).bind fun q8 =>
  if q8.1 = 0 then (F_382_71 s.1 s.2.1 s.2.2.2.1 q8.2)
  else ((ldI q8.2 68 20 s.2.2.2.1).bind fun v9 =>
  if v9 = 0 then (F_382_71 s.1 s.2.1 s.2.2.2.1 q8.2)
  else (F_382_72 s.1 s.2.1 s.2.2.2.1 1 q8.2))))
def F_382_33 (y1 : Int32) (y2 : Int32) (y3 : Int32) (y4 : Int32) (h : sm_H) : Option (Int32 × sm_H) := lp F_382_33B 1000000 (y1, y2, y3, y4, h)
def F_382_29 (y1 : Int32) (y2 : Int32) (z0 : Int32) (h : sm_H) : Option (Int32 × sm_H) :=
  F_382_33 y1 y2 z0 0 h
def F_382_28 (y1 : Int32) (y2 : Int32) (h : sm_H) : Option (Int32 × sm_H) :=
  F_382_29 y1 y2 0 h
def F_382_0 (x1 : Int32) (h : sm_H) : Option (Int32 × sm_H) :=
  (some ((h.1 67 1) : Int32)).bind fun v10 =>
  (some (sm_wI h 67 1 0)).bind fun h11 =>
  (F_289 x1 h11).bind fun q12 =>
  if q12.1 = 0 then (F_382_28 x1 v10 q12.2)
  else (if 10 < v10 then (F_382_28 x1 v10 q12.2)
  else (F_382_29 x1 v10 1 q12.2))
abbrev F_382 (x1 : Int32) (h : sm_H) : Option (Int32 × sm_H) := F_382_0 x1 h
def F_383_64 (z0 : Int32) (h : sm_H) : Option (Int32 × sm_H) :=
  some (z0, h)
def F_383_63  (h : sm_H) : Option (Int32 × sm_H) :=
  F_383_64 (-1) h
def F_383_0 (x1 : Int32) (x2 : Int32) (h : sm_H) : Option (Int32 × sm_H) :=
  (F_303 x1 h).bind fun q1 =>
  if q1.1 = 0 then (some ((-1), q1.2))
  else (if x2 = (-1) then ((ldI q1.2 72 300 x1).bind fun v5 =>
  some (v5, q1.2))
  else (if x2 = (-2) then ((ldI q1.2 73 300 x1).bind fun v4 =>
  some (v4, q1.2))
  else (if x2 < 0 then (F_383_63 q1.2)
  else ((ldI q1.2 73 300 x1).bind fun v2 =>
  if v2 ≤ x2 then (F_383_63 q1.2)
  else ((ldI q1.2 74 3000 ((10 * x1) + x2)).bind fun v3 =>
  F_383_64 v3 q1.2)))))
abbrev F_383 (x1 : Int32) (x2 : Int32) (h : sm_H) : Option (Int32 × sm_H) := F_383_0 x1 x2 h
def F_384_11B (s : (Int32 × Int32 × Int32 × Int64 × Int32 × sm_H)) : Option ((Int32 × Int32 × Int32 × Int64 × Int32 × sm_H) ⊕ (Int32 × sm_H)) :=
  if (s.2.2.2.2.2.1 67 3) ≤ s.2.2.2.2.1 then ((some (sm_wI s.2.2.2.2.2 67 1 0)).bind fun h1 =>
  (F_341 s.1 s.2.1 s.2.2.1 s.2.2.2.1 h1).bind fun q2 =>
  some (.inr (q2.1, q2.2)))
  else ((ldI s.2.2.2.2.2 68 20 s.2.2.2.2.1).bind fun v3 =>
  (stI s.2.2.2.2.2 69 24 s.2.2.2.2.1 v3).bind fun h4 =>
  (some (s.2.2.2.2.1 + 1 : Int32)).bind fun v5 =>
  some (.inl (s.1, s.2.1, s.2.2.1, s.2.2.2.1, v5, h4)))
def F_384_11 (y1 : Int32) (y2 : Int32) (y3 : Int32) (y4 : Int64) (y6 : Int32) (h : sm_H) : Option (Int32 × sm_H) := lp F_384_11B 1000000 (y1, y2, y3, y4, y6, h)
def F_384_0 (x1 : Int32) (x2 : Int32) (x3 : Int32) (x4 : Int64) (h : sm_H) : Option (Int32 × sm_H) :=
  (some (sm_wI h 67 3 (h.1 67 1))).bind fun h6 =>
  F_384_11 x1 x2 x3 x4 0 h6
abbrev F_384 (x1 : Int32) (x2 : Int32) (x3 : Int32) (x4 : Int64) (h : sm_H) : Option (Int32 × sm_H) := F_384_0 x1 x2 x3 x4 h
def F_385_113 (z0 : Int32) (h : sm_H) : Option (Int32 × sm_H) :=
  some (z0, h)
def F_385_112  (h : sm_H) : Option (Int32 × sm_H) :=
  F_385_113 (-1) h
def F_385_0 (x1 : Int32) (x2 : Int32) (h : sm_H) : Option (Int32 × sm_H) :=
  (F_304 x1 h).bind fun q1 =>
  if q1.1 = 0 then (some ((-1), q1.2))
  else (if x2 = 0 then ((ldI q1.2 76 500 x1).bind fun v2 =>
  some (v2, q1.2))
  else (if x2 = 1 then ((ldI q1.2 75 500 x1).bind fun v3 =>
  some (v3, q1.2))
  else (if x2 = 2 then ((ldI q1.2 77 500 x1).bind fun v4 =>
  some (v4, q1.2))
  else (if x2 = 3 then ((ldI q1.2 78 500 x1).bind fun v5 =>
  some (v5, q1.2))
  else (if x2 = 4 then ((ldI q1.2 80 500 x1).bind fun v6 =>
  some (v6, q1.2))
  else (if x2 < 5 then (F_385_112 q1.2)
  else ((ldI q1.2 80 500 x1).bind fun v7 =>
  if v7 ≤ (x2 - 5) then (F_385_112 q1.2)
  else ((ldI q1.2 81 12000 (((24 * x1) + x2) - 5)).bind fun v8 =>
  F_385_113 v8 q1.2))))))))
abbrev F_385 (x1 : Int32) (x2 : Int32) (h : sm_H) : Option (Int32 × sm_H) := F_385_0 x1 x2 h
def F_386_18 (z0 : Int64) (h : sm_H) : Option (Int64 × sm_H) :=
  some (z0, h)
def F_386_0 (x1 : Int32) (h : sm_H) : Option (Int64 × sm_H) :=
  (F_304 x1 h).bind fun q1 =>
  if q1.1 = 0 then (F_386_18 0 q1.2)
  else ((ldJ q1.2 79 500 x1).bind fun v2 =>
  F_386_18 v2 q1.2)
abbrev F_386 (x1 : Int32) (h : sm_H) : Option (Int64 × sm_H) := F_386_0 x1 h
def F_387_19 (z0 : Int32) (h : sm_H) : Option (Int32 × sm_H) :=
  if z0 = 0 ∨ z0 = 1 then some (z0, h) else none
def F_387_18  (h : sm_H) : Option (Int32 × sm_H) :=
  F_387_19 0 h
def F_387_0 (x1 : Int32) (h : sm_H) : Option (Int32 × sm_H) :=
  if x1 < 20 then (F_387_18 h)
  else ((F_289 x1 h).bind fun q1 =>
  if q1.1 = 0 then (F_387_18 q1.2)
  else (F_387_19 1 q1.2))
abbrev F_387 (x1 : Int32) (h : sm_H) : Option (Int32 × sm_H) := F_387_0 x1 h
def F_388_0 (x1 : Int32) (h : sm_H) : Option (Int32 × sm_H) :=
  (some (sm_wI h 67 19 x1)).bind fun h1 =>
  some ((-1), h1)
abbrev F_388 (x1 : Int32) (h : sm_H) : Option (Int32 × sm_H) := F_388_0 x1 h
def F_389_0 (x1 : Int32) (x2 : Int32) (x3 : Int32) (x4 : Int32) (h : sm_H) : Option (sm_H) :=
  (stI h 83 100 (h.1 67 32) x1).bind fun h1 =>
  (stI h1 84 100 (h1.1 67 32) x2).bind fun h2 =>
  (stI h2 85 100 (h2.1 67 32) x3).bind fun h3 =>
  (stZ h3 86 100 (h3.1 67 32) x4).bind fun h4 =>
  some h4
abbrev F_389 (x1 : Int32) (x2 : Int32) (x3 : Int32) (x4 : Int32) (h : sm_H) : Option (sm_H) := F_389_0 x1 x2 x3 x4 h
def F_390_251  (h : sm_H) : Option (Int32 × sm_H) :=
  (some (sm_wI h 67 32 ((h.1 67 32) + 1))).bind fun h1 =>
  some (((h1.1 67 32) - 1), h1)
def F_390_235 (y6 : Int32) (h : sm_H) : Option ((Int32 × sm_H) ⊕ (Int32 × sm_H)) :=
  (some (y6 + 1 : Int32)).bind fun v2 =>
  some (.inl (v2, h))
def F_390_173B (s : (Int32 × sm_H)) : Option ((Int32 × sm_H) ⊕ (Int32 × sm_H)) :=
  if (s.2.1 67 45) ≤ s.1 then ((some (sm_wI s.2 67 33 ((s.2.1 67 33) + 1))).bind fun h3 =>
  (F_390_251 h3).map fun r => (.inr r))
  else ((ldI s.2 96 1000 s.1).bind fun v4 =>
  if 20 ≤ v4 then ((stI s.2 98 100000 ((100 * s.1) + (s.2.1 67 33)) (s.2.1 67 48)).bind fun h5 =>
  (stJ h5 99 100000 ((100 * s.1) + (h5.1 67 33)) (h5.2.1 67 49)).bind fun h6 =>
  F_390_235 s.1 h6)
  else (F_390_235 s.1 s.2))
def F_390_173 (y6 : Int32) (h : sm_H) : Option (Int32 × sm_H) := lp F_390_173B 1000000 (y6, h)
def F_390_91 (y1 : Int32) (y2 : Int32) (y3 : Int32) (y4 : Int32) (y5 : Int32) (h : sm_H) : Option (Int32 × sm_H) :=
  (F_389 y1 y2 y5 y4 h).bind fun q7 =>
  (stZ q7 87 100 (q7.1 67 32) 1).bind fun h8 =>
  (stI h8 88 100 (h8.1 67 32) y3).bind fun h9 =>
  (F_299 y3 h9).bind fun q10 =>
  (stI q10 100 100 (q10.1 67 32) (q10.1 67 48)).bind fun h11 =>
  (stJ h11 101 100 (h11.1 67 32) (h11.2.1 67 49)).bind fun h12 =>
  if y4 = 0 then ((stI h12 91 100 (h12.1 67 32) (h12.1 67 33)).bind fun h13 =>
  F_390_173 0 h13)
  else (F_390_251 h12)
def F_390_85  (h : sm_H) : Option (Int32 × sm_H) :=
  (F_388 5 h).bind fun q14 =>
  some (q14.1, q14.2)
def F_390_56  (h : sm_H) : Option (Int32 × sm_H) :=
  (F_388 2 h).bind fun q15 =>
  some (q15.1, q15.2)
def F_390_25  (h : sm_H) : Option (Int32 × sm_H) :=
  (F_388 1 h).bind fun q16 =>
  some (q16.1, q16.2)
def F_390_0 (x1 : Int32) (x2 : Int32) (x3 : Int32) (x4 : Int32) (x5 : Int32) (h : sm_H) : Option (Int32 × sm_H) :=
  (some (sm_wI h 67 19 0)).bind fun h17 =>
  (F_387 x1 h17).bind fun q18 =>
  if q18.1 = 0 then (F_390_25 q18.2)
  else ((F_289 x3 q18.2).bind fun q19 =>
  if q19.1 = 0 then (F_390_25 q19.2)
  else (if x3 = 0 then (F_390_25 q19.2)
  else ((F_315 (Int32.toInt64 x2) 0 99 q19.2).bind fun q20 =>
  if q20.1 = 0 then ((F_315 (Int32.toInt64 x5) 0 3 q20.2).bind fun q21 =>
  if q21.1 = 0 then (if (q21.2.1 67 32) = 100 then (F_390_85 q21.2)
  else (if x4 = 0 then (if (q21.2.1 67 33) = 24 then (F_390_85 q21.2)
  else (F_390_91 x1 x2 x3 x4 x5 q21.2))
  else (F_390_91 x1 x2 x3 x4 x5 q21.2)))
  else (F_390_56 q21.2))
  else (F_390_56 q20.2))))
abbrev F_390 (x1 : Int32) (x2 : Int32) (x3 : Int32) (x4 : Int32) (x5 : Int32) (h : sm_H) : Option (Int32 × sm_H) := F_390_0 x1 x2 x3 x4 x5 h
def F_391_148 (y1 : Int32) (y2 : Int32) (y3 : Int32) (y4 : Int32) (y5 : Int32) (h : sm_H) : Option (Int32 × sm_H) :=
  if (h.1 67 32) = 100 then ((F_388 5 h).bind fun q7 =>
  some (q7.1, q7.2))
  else ((F_389 y1 y2 y5 y4 h).bind fun q1 =>
  (stZ q1 87 100 (q1.1 67 32) 0).bind fun h2 =>
  (stI h2 90 100 (h2.1 67 32) y3).bind fun h3 =>
  (F_302 h3).bind fun q4 =>
  (stI q4.2 89 100 (h3.1 67 32) q4.1).bind fun h5 =>
  (some (sm_wI h5 67 32 ((h5.1 67 32) + 1))).bind fun h6 =>
  some (((h6.1 67 32) - 1), h6))
def F_391_108 (y1 : Int32) (y2 : Int32) (y3 : Int32) (y4 : Int32) (y5 : Int32) (z1 : Int32) (z2 : Int32) (h : sm_H) : Option (Int32 × sm_H) :=
  (F_305 y3 h).bind fun q8 =>
  (F_310 z1 z2 q8.1 q8.2).bind fun q9 =>
  (F_301 (q9.1 67 20) (q9.1 67 21) q9).bind fun q10 =>
  if q10.1 = (-1) then (if (q10.2.1 67 10) = 300 then ((F_388 4 q10.2).bind fun q11 =>
  some (q11.1, q11.2))
  else (F_391_148 y1 y2 y3 y4 y5 q10.2))
  else (F_391_148 y1 y2 y3 y4 y5 q10.2)
def F_391_87 (y1 : Int32) (y2 : Int32) (y3 : Int32) (y4 : Int32) (y5 : Int32) (h : sm_H) : Option (Int32 × sm_H) :=
  (F_307 y3 h).bind fun q12 =>
  (F_308 q12.1 q12.2).bind fun q13 =>
  if y4 = 0 then (F_391_108 y1 y2 y3 y4 y5 y3 1 q13)
  else (F_391_108 y1 y2 y3 y4 y5 y3 0 q13)
def F_391_81  (h : sm_H) : Option (Int32 × sm_H) :=
  (F_388 3 h).bind fun q14 =>
  some (q14.1, q14.2)
def F_391_52  (h : sm_H) : Option (Int32 × sm_H) :=
  (F_388 2 h).bind fun q15 =>
  some (q15.1, q15.2)
def F_391_21  (h : sm_H) : Option (Int32 × sm_H) :=
  (F_388 1 h).bind fun q16 =>
  some (q16.1, q16.2)
def F_391_0 (x1 : Int32) (x2 : Int32) (x3 : Int32) (x4 : Int32) (x5 : Int32) (h : sm_H) : Option (Int32 × sm_H) :=
  (some (sm_wI h 67 19 0)).bind fun h17 =>
  (F_387 x1 h17).bind fun q18 =>
  if q18.1 = 0 then (F_391_21 q18.2)
  else ((F_304 x3 q18.2).bind fun q19 =>
  if q19.1 = 0 then (F_391_21 q19.2)
  else ((F_315 (Int32.toInt64 x2) 0 99 q19.2).bind fun q20 =>
  if q20.1 = 0 then ((F_315 (Int32.toInt64 x5) 0 3 q20.2).bind fun q21 =>
  if q21.1 = 0 then (if x4 = 0 then ((F_305 x3 q21.2).bind fun q22 =>
  if q22.1 = 0 then (F_391_81 q22.2)
  else ((F_306 x3 0 q22.2).bind fun q23 =>
  if q23.1 = x1 then (F_391_87 x1 x2 x3 x4 x5 q23.2)
  else (F_391_81 q23.2)))
  else (F_391_87 x1 x2 x3 x4 x5 q21.2))
  else (F_391_52 q21.2))
  else (F_391_52 q20.2)))
abbrev F_391 (x1 : Int32) (x2 : Int32) (x3 : Int32) (x4 : Int32) (x5 : Int32) (h : sm_H) : Option (Int32 × sm_H) := F_391_0 x1 x2 x3 x4 x5 h
def F_392_101 (z0 : Int32) (h : sm_H) : Option (Int32 × sm_H) :=
  if z0 = 0 ∨ z0 = 1 then some (z0, h) else none
def F_392_96  (h : sm_H) : Option (Int32 × sm_H) :=
  F_392_101 1 h
def F_392_78 (z0 : Int32) (h : sm_H) : Option (Int32 × sm_H) :=
  if z0 = 0 ∨ z0 = 1 then some (z0, h) else none
def F_392_33 (y1 : Int32) (y2 : Int32) (y3 : Int32) (z0 : Int32) (h : sm_H) : Option (Int32 × sm_H) :=
  (ldI h 85 100 y2).bind fun v1 =>
  if v1 = 0 then (if y1 = y3 then (F_392_78 1 h)
  else (F_392_78 0 h))
  else (if v1 = 1 then (if z0 = 0 ∨ z0 = 1 then some (z0, h) else none)
  else (if v1 = 2 then (if z0 = 0 then ((F_295 y1 y3 h).bind fun q2 =>
  if q2.1 = 0 then (F_392_101 0 q2.2)
  else (F_392_96 q2.2))
  else (F_392_96 h))
  else (some (1, h))))
def F_392_0 (x1 : Int32) (x2 : Int32) (h : sm_H) : Option (Int32 × sm_H) :=
  (ldI h 83 100 x2).bind fun v3 =>
  (ldI h 71 12 (x1 - 20)).bind fun v4 =>
  (ldI h 71 12 (v3 - 20)).bind fun v5 =>
  if v4 = v5 then (F_392_33 x1 x2 v3 1 h)
  else (F_392_33 x1 x2 v3 0 h)
abbrev F_392 (x1 : Int32) (x2 : Int32) (h : sm_H) : Option (Int32 × sm_H) := F_392_0 x1 x2 h
def F_393_93 (z0 : Int32) (h : sm_H) : Option (Int32 × sm_H) :=
  if z0 = 0 ∨ z0 = 1 then some (z0, h) else none
def F_393_92  (h : sm_H) : Option (Int32 × sm_H) :=
  F_393_93 0 h
def F_393_85 (z0 : Int32) (z1 : Int32) (h : sm_H) : Option (Int32 × sm_H) :=
  if z0 = z1 then (F_393_93 1 h)
  else (F_393_92 h)
def F_393_44  (h : sm_H) : Option (Int32 × sm_H) :=
  some (0, h)
def F_393_0 (x1 : Int32) (x2 : Int32) (x3 : Int32) (x4 : Int32) (h : sm_H) : Option (Int32 × sm_H) :=
  (ldI h 84 100 x1).bind fun v1 =>
  if v1 = x2 then (if x4 ≤ 3 then ((ldZ h 87 100 x1).bind fun v2 =>
  if v2 = 0 then ((ldI h 89 100 x1).bind fun v3 =>
  if v3 = x3 then (if x4 = 0 then ((ldZ h 86 100 x1).bind fun v6 =>
  F_393_93 v6 h)
  else ((ldZ h 86 100 x1).bind fun v4 =>
  if v4 = 0 then ((F_364 x1 h).bind fun q5 =>
  if x4 = 3 then (F_393_85 q5.1 1 q5.2)
  else (F_393_85 q5.1 0 q5.2))
  else (F_393_92 h)))
  else (F_393_44 h))
  else (F_393_44 h))
  else ((ldZ h 87 100 x1).bind fun v7 =>
  if v7 = 0 ∨ v7 = 1 then some (v7, h) else none))
  else (some (0, h))
abbrev F_393 (x1 : Int32) (x2 : Int32) (x3 : Int32) (x4 : Int32) (h : sm_H) : Option (Int32 × sm_H) := F_393_0 x1 x2 x3 x4 h
def F_394_76 (y2 : Int32) (y3 : Int32) (y4 : Int32) (z0 : Int32) (h : sm_H) : Option ((Int32 × Int32 × Int32 × Int32 × sm_H) ⊕ (Int32 × sm_H)) :=
  some (.inl (y2, y3, y4, z0, h))
def F_394_50 (y2 : Int32) (y3 : Int32) (y4 : Int32) (y5 : Int32) (y6 : Int32) (h : sm_H) : Option ((Int32 × Int32 × Int32 × Int32 × Int32 × sm_H) ⊕ ((Int32 × Int32 × Int32 × Int32 × sm_H) ⊕ (Int32 × sm_H))) :=
  (some (y6 + 1 : Int32)).bind fun v1 =>
  some (.inl (y2, y3, y4, y5, v1, h))
def F_394_13B (s : (Int32 × Int32 × Int32 × Int32 × Int32 × sm_H)) : Option ((Int32 × Int32 × Int32 × Int32 × Int32 × sm_H) ⊕ ((Int32 × Int32 × Int32 × Int32 × sm_H) ⊕ (Int32 × sm_H))) :=
  if (s.2.2.2.2.2.1 67 32) ≤ s.2.2.2.2.1 then (if s.2.2.1 = 3 then ((F_394_76 s.1 s.2.1 s.2.2.1 (-1) s.2.2.2.2.2).map fun r => (.inr r))
  else ((ldI s.2.2.2.2.2 70 12 (s.2.2.2.1 - 20)).bind fun v2 =>
  (F_394_76 s.1 s.2.1 s.2.2.1 v2 s.2.2.2.2.2).map fun r => (.inr r)))
  else ((ldI s.2.2.2.2.2 83 100 s.2.2.2.2.1).bind fun v3 =>
  if v3 = s.2.2.2.1 then ((F_393 s.2.2.2.2.1 s.1 s.2.1 s.2.2.1 s.2.2.2.2.2).bind fun q4 =>
  if q4.1 = 0 then (F_394_50 s.1 s.2.1 s.2.2.1 s.2.2.2.1 s.2.2.2.2.1 q4.2)
  else (some (.inr (.inr (s.2.2.2.2.1, q4.2)))))
  else (F_394_50 s.1 s.2.1 s.2.2.1 s.2.2.2.1 s.2.2.2.2.1 s.2.2.2.2.2))
def F_394_13 (y2 : Int32) (y3 : Int32) (y4 : Int32) (y5 : Int32) (y6 : Int32) (h : sm_H) : Option ((Int32 × Int32 × Int32 × Int32 × sm_H) ⊕ (Int32 × sm_H)) := lp F_394_13B 1000000 (y2, y3, y4, y5, y6, h)
def F_394_3B (s : (Int32 × Int32 × Int32 × Int32 × sm_H)) : Option ((Int32 × Int32 × Int32 × Int32 × sm_H) ⊕ (Int32 × sm_H)) :=
  if s.2.2.2.1 < 20 then (some (.inr ((-1), s.2.2.2.2)))
  else (F_394_13 s.1 s.2.1 s.2.2.1 s.2.2.2.1 0 s.2.2.2.2)
def F_394_3 (y2 : Int32) (y3 : Int32) (y4 : Int32) (y5 : Int32) (h : sm_H) : Option (Int32 × sm_H) := lp F_394_3B 1000000 (y2, y3, y4, y5, h)
def F_394_0 (x1 : Int32) (x2 : Int32) (x3 : Int32) (x4 : Int32) (h : sm_H) : Option (Int32 × sm_H) :=
  F_394_3 x2 x3 x4 x1 h
abbrev F_394 (x1 : Int32) (x2 : Int32) (x3 : Int32) (x4 : Int32) (h : sm_H) : Option (Int32 × sm_H) := F_394_0 x1 x2 x3 x4 h
def F_396_101 (z1 : Int32) (z2 : Int32) (z3 : Int32) (z4 : Int64) (h : sm_H) : Option (Int32 × sm_H) :=
  (F_340 z1 z2 z3 z4 h).bind fun q1 =>
  some (q1.1, q1.2)
def F_396_81 (y1 : Int32) (y2 : Int32) (y3 : Int32) (h : sm_H) : Option (Int32 × sm_H) :=
  (ldZ h 86 100 y1).bind fun v2 =>
  if v2 = 0 then (F_396_101 35 y1 y3 (Int32.toInt64 y2) h)
  else (F_396_101 35 y1 y3 0 h)
def F_396_69 (y1 : Int32) (y2 : Int32) (y3 : Int32) (y4 : Int32) (h : sm_H) : Option (Int32 × sm_H) :=
  if y3 = 7 then ((F_309 y4 h).bind fun q3 =>
  F_396_81 y1 y2 y3 q3)
  else (F_396_81 y1 y2 y3 h)
def F_396_58 (y1 : Int32) (y2 : Int32) (y3 : Int32) (y4 : Int32) (h : sm_H) : Option (Int32 × sm_H) :=
  if y3 ≤ 4 then (F_396_69 y1 y2 y3 y4 h)
  else ((F_309 y4 h).bind fun q4 =>
  F_396_69 y1 y2 y3 y4 q4)
def F_396_41 (y1 : Int32) (y2 : Int32) (y3 : Int32) (y4 : Int32) (z1 : Int32) (h : sm_H) : Option (Int32 × sm_H) :=
  (F_308 z1 h).bind fun q5 =>
  (ldZ q5 86 100 y1).bind fun v6 =>
  if v6 = 0 then ((F_309 y2 q5).bind fun q7 =>
  F_396_58 y1 y2 y3 y4 q7)
  else (F_396_58 y1 y2 y3 y4 q5)
def F_396_26 (y1 : Int32) (y2 : Int32) (y3 : Int32) (y4 : Int32) (h : sm_H) : Option (Int32 × sm_H) :=
  F_396_41 y1 y2 y3 y4 y4 h
def F_396_0 (x1 : Int32) (x2 : Int32) (x3 : Int32) (h : sm_H) : Option (Int32 × sm_H) :=
  (ldI h 88 100 x1).bind fun v8 =>
  if x3 = 4 then (F_396_26 x1 x2 x3 v8 h)
  else (if x3 = 6 then (F_396_26 x1 x2 x3 v8 h)
  else (if x3 = 8 then (F_396_26 x1 x2 x3 v8 h)
  else (if x3 = 5 then (F_396_41 x1 x2 x3 v8 0 h)
  else (F_396_41 x1 x2 x3 v8 1 h))))
abbrev F_396 (x1 : Int32) (x2 : Int32) (x3 : Int32) (h : sm_H) : Option (Int32 × sm_H) := F_396_0 x1 x2 x3 h
def F_397_0  (h : sm_H) : Option (Int32 × sm_H) :=
  some ((h.1 67 19), h)
abbrev F_397  (h : sm_H) : Option (Int32 × sm_H) := F_397_0  h
def F_398_17  (h : sm_H) : Option (Int32 × sm_H) :=
  some ((-1), h)
def F_398_0 (x1 : Int32) (h : sm_H) : Option (Int32 × sm_H) :=
  if (h.1 67 35) = 80 then (F_398_17 h)
  else ((F_304 x1 h).bind fun q1 =>
  if q1.1 = 0 then (F_398_17 q1.2)
  else ((stI q1.2 92 80 (q1.2.1 67 35) x1).bind fun h2 =>
  (some (sm_wI h2 67 35 ((h2.1 67 35) + 1))).bind fun h3 =>
  some (((h3.1 67 35) - 1), h3)))
abbrev F_398 (x1 : Int32) (h : sm_H) : Option (Int32 × sm_H) := F_398_0 x1 h
def F_399_44  (h : sm_H) : Option (Int32 × sm_H) :=
  some (0, h)
def F_399_0 (x1 : Int32) (x2 : Int32) (h : sm_H) : Option (Int32 × sm_H) :=
  (F_315 (Int32.toInt64 x1) 0 (Int32.toInt64 ((h.1 67 35) - 1)) h).bind fun q1 =>
  if q1.1 = 0 then ((F_304 x2 q1.2).bind fun q2 =>
  if q2.1 = 0 then (F_399_44 q2.2)
  else ((ldI q2.2 76 500 x2).bind fun v3 =>
  (ldI q2.2 92 80 x1).bind fun v4 =>
  (ldI q2.2 76 500 v4).bind fun v5 =>
  if v3 = v5 then ((stI q2.2 92 80 x1 x2).bind fun h6 =>
  some (1, h6))
  else (F_399_44 q2.2)))
  else (F_399_44 q1.2)
abbrev F_399 (x1 : Int32) (x2 : Int32) (h : sm_H) : Option (Int32 × sm_H) := F_399_0 x1 x2 h
def F_400_0  (h : sm_H) : Option (Int32 × sm_H) :=
  if (h.1 67 37) = 20 then (some ((-1), h))
  else ((some (sm_wI h 67 37 ((h.1 67 37) + 1))).bind fun h1 =>
  some (((h1.1 67 37) - 1), h1))
abbrev F_400  (h : sm_H) : Option (Int32 × sm_H) := F_400_0  h
def F_401_25  (h : sm_H) : Option (Int32 × sm_H) :=
  some (0, h)
def F_401_0 (x1 : Int32) (h : sm_H) : Option (Int32 × sm_H) :=
  (F_315 (Int32.toInt64 x1) 0 (Int32.toInt64 ((h.1 67 37) - 1)) h).bind fun q1 =>
  if q1.1 = 0 then ((ldZ q1.2 93 20 x1).bind fun v2 =>
  if v2 = 0 then ((stZ q1.2 93 20 x1 1).bind fun h3 =>
  some (1, h3))
  else (F_401_25 q1.2))
  else (F_401_25 q1.2)
abbrev F_401 (x1 : Int32) (h : sm_H) : Option (Int32 × sm_H) := F_401_0 x1 h
def F_402_0 (x1 : Int64) (h : sm_H) : Option (Int32 × sm_H) :=
  if (h.1 67 68) = 10 then (some (0, h))
  else ((stJ h 110 10 (h.1 67 68) x1).bind fun h1 =>
  (some (sm_wI h1 67 68 ((h1.1 67 68) + 1))).bind fun h2 =>
  some (1, h2))
abbrev F_402 (x1 : Int64) (h : sm_H) : Option (Int32 × sm_H) := F_402_0 x1 h
def F_403_58 (z0 : Int32) (h : sm_H) : Option (Int32 × sm_H) :=
  if z0 = 0 ∨ z0 = 1 then some (z0, h) else none
def F_403_57  (h : sm_H) : Option (Int32 × sm_H) :=
  F_403_58 0 h
def F_403_0 (x1 : Int32) (x2 : Int64) (h : sm_H) : Option (Int32 × sm_H) :=
  (F_290 x1 h).bind fun q1 =>
  if q1.1 = 0 then (if (lg_cmp x2 (-1)) = 0 then (some (1, q1.2))
  else ((F_315 x2 0 (Int32.toInt64 ((q1.2.1 67 40) - 1)) q1.2).bind fun q2 =>
  if q2.1 = 0 then ((ldI q2.2 94 100 (Int64.toInt32 x2)).bind fun v3 =>
  (F_295 v3 x1 q2.2).bind fun q4 =>
  if q4.1 = 0 then (F_403_57 q4.2)
  else (F_403_58 1 q4.2))
  else (F_403_57 q2.2)))
  else ((F_316 x1 x2 q1.2).bind fun q5 =>
  if q5.1 = 0 ∨ q5.1 = 1 then some (q5.1, q5.2) else none)
abbrev F_403 (x1 : Int32) (x2 : Int64) (h : sm_H) : Option (Int32 × sm_H) := F_403_0 x1 x2 h
def F_405_0 (x1 : Int32) (h : sm_H) : Option (Int32 × sm_H) :=
  if x1 = 0 then (some ((h.1 67 69), h))
  else (if x1 = 1 then (some ((h.1 67 73), h))
  else (if x1 = 2 then (some ((h.1 67 70), h))
  else (if x1 = 3 then (some ((h.1 67 71), h))
  else (if x1 = 4 then (some ((h.1 67 45), h))
  else (if x1 = 5 then (some ((h.1 67 40), h))
  else (if x1 = 6 then (some ((h.1 67 10), h))
  else (if x1 = 7 then (some ((h.1 67 18), h))
  else (if x1 = 8 then (some ((h.1 67 32), h))
  else (some ((-1), h))))))))))
abbrev F_405 (x1 : Int32) (h : sm_H) : Option (Int32 × sm_H) := F_405_0 x1 h
def F_406_27 (z0 : Int64) (h : sm_H) : Option (Int64 × sm_H) :=
  some (z0, h)
def F_406_0 (x1 : Int32) (x2 : Int64) (h : sm_H) : Option (Int64 × sm_H) :=
  (F_293 x1 h).bind fun q1 =>
  if q1.1 = 0 then (if x1 < 20 then (F_406_27 x2 q1.2)
  else (F_406_27 0 q1.2))
  else ((ldI q1.2 97 1000 (Int64.toInt32 x2)).bind fun v2 =>
  some ((Int32.toInt64 v2), q1.2))
abbrev F_406 (x1 : Int32) (x2 : Int64) (h : sm_H) : Option (Int64 × sm_H) := F_406_0 x1 x2 h
def F_407_19 (z1 : Int32) (h : sm_H) : Option (Int64 × sm_H) :=
  (F_406 z1 (h.2.1 67 72) h).bind fun q1 =>
  some (q1.1, q1.2)
def F_407_0  (h : sm_H) : Option (Int64 × sm_H) :=
  (F_291 (h.1 67 70) h).bind fun q2 =>
  if q2.1 = 0 then (F_407_19 0 q2.2)
  else (F_407_19 (q2.2.1 67 71) q2.2)
abbrev F_407  (h : sm_H) : Option (Int64 × sm_H) := F_407_0  h
def F_408_32  (h : sm_H) : Option (Int32 × sm_H) :=
  some ((-1), h)
def F_408_0  (h : sm_H) : Option (Int32 × sm_H) :=
  if (h.1 67 69) = (-1) then (F_408_32 h)
  else (if 1 < (h.1 67 69) then (F_408_32 h)
  else (if (h.1 67 71) = 0 then (F_408_32 h)
  else (if (h.1 67 40) = 100 then (F_408_32 h)
  else ((stI h 94 100 (h.1 67 40) (h.1 67 71)).bind fun h1 =>
  (stJ h1 95 100 (h1.1 67 40) (h1.2.1 67 72)).bind fun h2 =>
  (some (sm_wI h2 67 40 ((h2.1 67 40) + 1))).bind fun h3 =>
  some (((h3.1 67 40) - 1), h3)))))
abbrev F_408  (h : sm_H) : Option (Int32 × sm_H) := F_408_0  h
def F_409_57 (z0 : Int64) (h : sm_H) : Option (Int64 × sm_H) :=
  some (z0, h)
def F_409_0 (x1 : Int32) (x2 : Int32) (h : sm_H) : Option (Int64 × sm_H) :=
  (F_315 (Int32.toInt64 x1) 0 (Int32.toInt64 ((h.1 67 40) - 1)) h).bind fun q1 =>
  if q1.1 = 0 then (if x2 = 0 then ((ldI q1.2 94 100 x1).bind fun v5 =>
  F_409_57 (Int32.toInt64 v5) q1.2)
  else (if x2 = 1 then ((ldI q1.2 94 100 x1).bind fun v2 =>
  (ldJ q1.2 95 100 x1).bind fun v3 =>
  (F_406 v2 v3 q1.2).bind fun q4 =>
  F_409_57 q4.1 q4.2)
  else (F_409_57 0 q1.2)))
  else (some (0, q1.2))
abbrev F_409 (x1 : Int32) (x2 : Int32) (h : sm_H) : Option (Int64 × sm_H) := F_409_0 x1 x2 h
def F_410_115 (z0 : Int64) (h : sm_H) : Option (Int64 × sm_H) :=
  some (z0, h)
def F_410_28  (h : sm_H) : Option (Int64 × sm_H) :=
  some (0, h)
def F_410_0 (x1 : Int32) (x2 : Int32) (x3 : Int32) (h : sm_H) : Option (Int64 × sm_H) :=
  (F_315 (Int32.toInt64 x1) 0 (Int32.toInt64 ((h.1 67 40) - 1)) h).bind fun q1 =>
  if q1.1 = 0 then ((ldI q1.2 94 100 x1).bind fun v2 =>
  (F_293 v2 q1.2).bind fun q3 =>
  if q3.1 = 0 then (F_410_28 q3.2)
  else ((ldJ q3.2 95 100 x1).bind fun v4 =>
  (some ((Int64.toInt32 v4) : Int32)).bind fun v5 =>
  (ldI q3.2 97 1000 v5).bind fun v6 =>
  (F_315 (Int32.toInt64 x2) 0 (Int32.toInt64 (v6 - 1)) q3.2).bind fun q7 =>
  if q7.1 = 0 then ((ldI q7.2 98 100000 ((100 * v5) + x2)).bind fun v8 =>
  (ldJ q7.2 99 100000 ((100 * v5) + x2)).bind fun v9 =>
  if x3 = 0 then ((F_406 v8 v9 q7.2).bind fun q10 =>
  F_410_115 q10.1 q10.2)
  else (if x3 = 1 then (F_410_115 (Int32.toInt64 v8) q7.2)
  else (F_410_115 0 q7.2)))
  else (some (0, q7.2))))
  else (F_410_28 q1.2)
abbrev F_410 (x1 : Int32) (x2 : Int32) (x3 : Int32) (h : sm_H) : Option (Int64 × sm_H) := F_410_0 x1 x2 x3 h
def F_411_3B (s : (Int32 × Int32 × Int32 × Int32 × Int32 × Int32 × sm_H)) : Option ((Int32 × Int32 × Int32 × Int32 × Int32 × Int32 × sm_H) ⊕ (sm_H)) :=
  if 4 ≤ s.2.2.2.2.2.1 then (some (.inr (s.2.2.2.2.2.2)))
  else ((stI s.2.2.2.2.2.2 111 20 s.2.2.2.2.2.1 ((s.1 >>> ((24 - (8 * s.2.2.2.2.2.1)) &&& 31)) &&& 255)).bind fun h1 =>
  (stI h1 111 20 (4 + s.2.2.2.2.2.1) ((s.2.1 >>> ((24 - (8 * s.2.2.2.2.2.1)) &&& 31)) &&& 255)).bind fun h2 =>
  (stI h2 111 20 (8 + s.2.2.2.2.2.1) ((s.2.2.1 >>> ((24 - (8 * s.2.2.2.2.2.1)) &&& 31)) &&& 255)).bind fun h3 =>
  (stI h3 111 20 (12 + s.2.2.2.2.2.1) ((s.2.2.2.1 >>> ((24 - (8 * s.2.2.2.2.2.1)) &&& 31)) &&& 255)).bind fun h4 =>
  (stI h4 111 20 (16 + s.2.2.2.2.2.1) ((s.2.2.2.2.1 >>> ((24 - (8 * s.2.2.2.2.2.1)) &&& 31)) &&& 255)).bind fun h5 =>
  (some (s.2.2.2.2.2.1 + 1 : Int32)).bind fun v6 =>
  some (.inl (s.1, s.2.1, s.2.2.1, s.2.2.2.1, s.2.2.2.2.1, v6, h5)))
def F_411_3 (y1 : Int32) (y2 : Int32) (y3 : Int32) (y4 : Int32) (y5 : Int32) (y6 : Int32) (h : sm_H) : Option (sm_H) := lp F_411_3B 1000000 (y1, y2, y3, y4, y5, y6, h)
def F_411_0 (x1 : Int32) (x2 : Int32) (x3 : Int32) (x4 : Int32) (x5 : Int32) (h : sm_H) : Option (sm_H) :=
  F_411_3 x1 x2 x3 x4 x5 0 h
abbrev F_411 (x1 : Int32) (x2 : Int32) (x3 : Int32) (x4 : Int32) (x5 : Int32) (h : sm_H) : Option (sm_H) := F_411_0 x1 x2 x3 x4 x5 h
def F_412_66B (s : (Int32 × sm_H)) : Option ((Int32 × sm_H) ⊕ (Int32 × sm_H)) :=
  if 20 ≤ s.1 then (some (.inr ((s.2.1 67 76), s.2)))
  else ((stI s.2 111 20 s.1 0).bind fun h1 =>
  (some (s.1 + 1 : Int32)).bind fun v2 =>
  some (.inl (v2, h1)))
def F_412_66 (y2 : Int32) (h : sm_H) : Option (Int32 × sm_H) := lp F_412_66B 1000000 (y2, h)
def F_412_26B (s : (Int32 × Int32 × sm_H)) : Option ((Int32 × Int32 × sm_H) ⊕ (Int32 × sm_H)) :=
  if s.1 ≤ s.2.1 then ((some (sm_wI s.2.2 67 76 ((s.2.2.1 67 76) + s.1))).bind fun h3 =>
  (F_412_66 0 h3).map fun r => (.inr r))
  else ((ldI s.2.2 111 20 s.2.1).bind fun v4 =>
  (stI s.2.2 112 3000 ((s.2.2.1 67 76) + s.2.1) v4).bind fun h5 =>
  (some (s.2.1 + 1 : Int32)).bind fun v6 =>
  some (.inl (s.1, v6, h5)))
def F_412_26 (y1 : Int32) (y2 : Int32) (h : sm_H) : Option (Int32 × sm_H) := lp F_412_26B 1000000 (y1, y2, h)
def F_412_22  (h : sm_H) : Option (Int32 × sm_H) :=
  some ((-1), h)
def F_412_0 (x1 : Int32) (h : sm_H) : Option (Int32 × sm_H) :=
  if x1 < 0 then (F_412_22 h)
  else (if 20 < x1 then (F_412_22 h)
  else (if ((h.1 67 76) + x1) ≤ 3000 then (F_412_26 x1 0 h)
  else (F_412_22 h)))
abbrev F_412 (x1 : Int32) (h : sm_H) : Option (Int32 × sm_H) := F_412_0 x1 h
def F_413_17  (h : sm_H) : Option (Int32 × sm_H) :=
  some (0, h)
def F_413_0 (x1 : Int32) (x2 : Int32) (h : sm_H) : Option (Int32 × sm_H) :=
  if (h.1 67 77) = 0 then ((some (sm_wI h 67 77 x1)).bind fun h1 =>
  (some (sm_wI h1 67 78 x2)).bind fun h2 =>
  F_413_17 h2)
  else (F_413_17 h)
abbrev F_413 (x1 : Int32) (x2 : Int32) (h : sm_H) : Option (Int32 × sm_H) := F_413_0 x1 x2 h
def F_414_18 (z0 : Int32) (h : sm_H) : Option (Int32 × sm_H) :=
  some (z0, h)
def F_414_0 (x1 : Int32) (h : sm_H) : Option (Int32 × sm_H) :=
  if (h.1 67 76) ≤ x1 then (F_414_18 (-1) h)
  else ((ldI h 112 3000 x1).bind fun v1 =>
  F_414_18 v1 h)
abbrev F_414 (x1 : Int32) (h : sm_H) : Option (Int32 × sm_H) := F_414_0 x1 h
def F_415_17 (z0 : Int32) (h : sm_H) : Option (Int32 × sm_H) :=
  if z0 = 0 ∨ z0 = 1 then some (z0, h) else none
def F_415_16  (h : sm_H) : Option (Int32 × sm_H) :=
  F_415_17 0 h
def F_415_0 (x0 : Int32) (h : sm_H) : Option (Int32 × sm_H) :=
  if x0 < 97 then (F_415_16 h)
  else (if 122 < x0 then (F_415_16 h)
  else (F_415_17 1 h))
abbrev F_415 (x0 : Int32) (h : sm_H) : Option (Int32 × sm_H) := F_415_0 x0 h
def F_416_17 (z0 : Int32) (h : sm_H) : Option (Int32 × sm_H) :=
  if z0 = 0 ∨ z0 = 1 then some (z0, h) else none
def F_416_16  (h : sm_H) : Option (Int32 × sm_H) :=
  F_416_17 0 h
def F_416_0 (x0 : Int32) (h : sm_H) : Option (Int32 × sm_H) :=
  if x0 < 48 then (F_416_16 h)
  else (if 57 < x0 then (F_416_16 h)
  else (F_416_17 1 h))
abbrev F_416 (x0 : Int32) (h : sm_H) : Option (Int32 × sm_H) := F_416_0 x0 h
def F_417_65 (z0 : Int32) (h : sm_H) : Option (Int32 × sm_H) :=
  if z0 = 0 ∨ z0 = 1 then some (z0, h) else none
def F_417_60  (h : sm_H) : Option (Int32 × sm_H) :=
  F_417_65 1 h
def F_417_0 (x0 : Int32) (h : sm_H) : Option (Int32 × sm_H) :=
  if x0 = 43 then (F_417_60 h)
  else (if x0 = 45 then (F_417_60 h)
  else (if x0 = 42 then (F_417_60 h)
  else (if x0 = 47 then (F_417_60 h)
  else (if x0 = 37 then (F_417_60 h)
  else (if x0 = 38 then (F_417_60 h)
  else (if x0 = 124 then (F_417_60 h)
  else (if x0 = 94 then (F_417_60 h)
  else (if x0 = 60 then (F_417_60 h)
  else (if x0 = 61 then (F_417_60 h)
  else (F_417_65 0 h))))))))))
abbrev F_417 (x0 : Int32) (h : sm_H) : Option (Int32 × sm_H) := F_417_0 x0 h
def F_419_253  (h : sm_H) : Option (Int32 × sm_H) :=
  some (1, h)
def F_419_243  (h : sm_H) : Option (Int32 × sm_H) :=
  (F_413 3 (h.1 67 81) h).bind fun q1 =>
  if q1.1 = 0 ∨ q1.1 = 1 then some (q1.1, q1.2) else none
def F_419_216 (y4 : Int32) (y5 : Int32) (z1 : Int32) (h : sm_H) : Option (Int32 × sm_H) :=
  (some (sm_wI h 67 85 z1)).bind fun h2 =>
  if y4 = 0 then (if y5 = 0 then (if (lg_cmp (h2.2.1 67 84) (Int32.toInt64 (Int64.toInt32 (h2.2.1 67 84)))) = 0 then (F_419_253 h2)
  else (F_419_243 h2))
  else (F_419_253 h2))
  else (F_419_243 h2)
def F_419_201 (y4 : Int32) (y5 : Int32) (z1 : Int64) (h : sm_H) : Option (Int32 × sm_H) :=
  (some (sm_wJ h 67 84 z1)).bind fun h3 =>
  if y5 = 0 then (F_419_216 y4 y5 5 h3)
  else (F_419_216 y4 y5 6 h3)
def F_419_188 (y1 : Int32) (y2 : Int64) (y5 : Int32) (z0 : Int32) (h : sm_H) : Option (Int32 × sm_H) :=
  if y1 = 0 then (F_419_201 z0 y5 (-y2) h)
  else (F_419_201 z0 y5 y2 h)
def F_419_187 (y1 : Int32) (y2 : Int64) (y5 : Int32) (h : sm_H) : Option (Int32 × sm_H) :=
  F_419_188 y1 y2 y5 0 h
def F_419_183 (y1 : Int32) (y2 : Int64) (y5 : Int32) (h : sm_H) : Option (Int32 × sm_H) :=
  F_419_188 y1 y2 y5 1 h
def F_419_166 (y1 : Int32) (y2 : Int64) (y4 : Int32) (y5 : Int32) (h : sm_H) : Option (Int32 × sm_H) :=
  if y4 = 0 then (if y1 = 0 then (if (lg_cmp y2 (-9223372036854775808)) = 0 then (F_419_183 y1 y2 y5 h)
  else (F_419_187 y1 y2 y5 h))
  else (F_419_187 y1 y2 y5 h))
  else (F_419_183 y1 y2 y5 h)
def F_419_149 (y1 : Int32) (y2 : Int64) (y4 : Int32) (z0 : Int32) (h : sm_H) : Option (Int32 × sm_H) :=
  if z0 = 0 then (F_419_166 y1 y2 y4 z0 h)
  else ((some (sm_wI h 67 82 ((h.1 67 82) + 1))).bind fun h4 =>
  F_419_166 y1 y2 y4 z0 h4)
def F_419_117 (y1 : Int32) (y4 : Int32) (z0 : Int64) (h : sm_H) : Option ((Int32 × Int64 × Int32 × sm_H) ⊕ (Int32 × sm_H)) :=
  (some (sm_wI h 67 82 ((h.1 67 82) + 1))).bind fun h5 =>
  some (.inl (y1, z0, y4, h5))
def F_419_97 (y1 : Int32) (y2 : Int64) (y5 : Int32) (z0 : Int32) (h : sm_H) : Option ((Int32 × Int64 × Int32 × sm_H) ⊕ (Int32 × sm_H)) :=
  if z0 = 0 then (F_419_117 y1 z0 ((10 * y2) - (Int32.toInt64 y5)) h)
  else (F_419_117 y1 z0 0 h)
def F_419_92 (y1 : Int32) (y2 : Int64) (y5 : Int32) (h : sm_H) : Option ((Int32 × Int64 × Int32 × sm_H) ⊕ (Int32 × sm_H)) :=
  F_419_97 y1 y2 y5 1 h
def F_419_43B (s : (Int32 × Int64 × Int32 × sm_H)) : Option ((Int32 × Int64 × Int32 × sm_H) ⊕ (Int32 × sm_H)) :=
  (F_414 (s.2.2.2.1 67 82) s.2.2.2).bind fun q6 =>
  (F_416 q6.1 q6.2).bind fun q7 =>
  if q7.1 = 0 then ((F_414 (q7.2.1 67 82) q7.2).bind fun q8 =>
  if q8.1 = 108 then ((F_419_149 s.1 s.2.1 s.2.2.1 1 q8.2).map fun r => (.inr r))
  else ((F_419_149 s.1 s.2.1 s.2.2.1 0 q8.2).map fun r => (.inr r)))
  else ((ldI q7.2 112 3000 (q7.2.1 67 82)).bind fun v9 =>
  (some ((v9 - 48) : Int32)).bind fun v10 =>
  if s.2.2.1 = 0 then (if (10 : Int64) = 0 then none else (if 0 ≤ (lg_cmp s.2.1 (((-9223372036854775808) + (Int32.toInt64 v10)) / 10)) then (F_419_97 s.1 s.2.1 v10 0 q7.2)
  else (F_419_92 s.1 s.2.1 v10 q7.2)))
  else (F_419_92 s.1 s.2.1 v10 q7.2))
def F_419_43 (y1 : Int32) (y2 : Int64) (y4 : Int32) (h : sm_H) : Option (Int32 × sm_H) := lp F_419_43B 1000000 (y1, y2, y4, h)
def F_419_38 (y1 : Int32) (h : sm_H) : Option (Int32 × sm_H) :=
  F_419_43 y1 0 0 h
def F_419_23 (z0 : Int32) (h : sm_H) : Option (Int32 × sm_H) :=
  if z0 = 0 then (F_419_38 z0 h)
  else ((some (sm_wI h 67 82 ((h.1 67 82) + 1))).bind fun h11 =>
  F_419_38 z0 h11)
def F_419_0  (h : sm_H) : Option (Int32 × sm_H) :=
  (some (sm_wI h 67 80 2)).bind fun h12 =>
  (F_414 (h12.1 67 79) h12).bind fun q13 =>
  if q13.1 = 45 then (F_419_23 1 q13.2)
  else (F_419_23 0 q13.2)
abbrev F_419  (h : sm_H) : Option (Int32 × sm_H) := F_419_0  h
def F_420_0  (h : sm_H) : Option (sm_H) :=
  (some (sm_wI h 67 79 (h.1 67 82))).bind fun h1 =>
  some h1
abbrev F_420  (h : sm_H) : Option (sm_H) := F_420_0  h
def F_421_0  (h : sm_H) : Option (Int32 × sm_H) :=
  (F_413 4 (h.1 67 81) h).bind fun q1 =>
  if q1.1 = 0 ∨ q1.1 = 1 then some (q1.1, q1.2) else none
abbrev F_421  (h : sm_H) : Option (Int32 × sm_H) := F_421_0  h
def F_422_373  (h : sm_H) : Option (Int32 × sm_H) :=
  some ((-1), h)
def F_422_372 (z0 : Int32) (h : sm_H) : Option (Int32 × sm_H) :=
  some (z0, h)
def F_422_345 (y4 : Int32) (h : sm_H) : Option (Int32 × sm_H) :=
  if (h.1 67 6) ≤ ((y4 - 48) + 10) then (F_422_372 (-1) h)
  else (F_422_372 ((30 + y4) - 48) h)
def F_422_316 (y1 : Int64) (y3 : Int32) (y4 : Int32) (h : sm_H) : Option (Int32 × sm_H) :=
  if 0 ≤ (lg_cmp y1 16777216) then (F_422_373 h)
  else (if y3 = 27441 then (if y4 = 48 then (F_422_345 y4 h)
  else (if y4 = 49 then (F_422_345 y4 h)
  else (F_422_373 h)))
  else (F_422_373 h))
def F_422_315 (z0 : Int32) (h : sm_H) : Option (Int32 × sm_H) :=
  some (z0, h)
def F_422_269 (y1 : Int64) (y3 : Int32) (y4 : Int32) (h : sm_H) : Option (Int32 × sm_H) :=
  if 0 ≤ (lg_cmp y1 65536) then (F_422_316 y1 y3 y4 h)
  else (if y3 = 107 then ((F_416 y4 h).bind fun q1 =>
  if q1.1 = 0 then (F_422_316 y1 y3 y4 q1.2)
  else (if (q1.2.1 67 6) ≤ (y4 - 48) then (F_422_315 (-1) q1.2)
  else (F_422_315 ((20 + y4) - 48) q1.2)))
  else (F_422_316 y1 y3 y4 h))
def F_422_268 (z0 : Int32) (h : sm_H) : Option (Int32 × sm_H) :=
  some (z0, h)
def F_422_217 (y1 : Int64) (y3 : Int32) (y4 : Int32) (h : sm_H) : Option (Int32 × sm_H) :=
  if 0 ≤ (lg_cmp y1 65536) then (F_422_269 y1 y3 y4 h)
  else (if y3 = 120 then (if y4 = 105 then (F_422_268 15 h)
  else (if y4 = 106 then (F_422_268 16 h)
  else (if y4 = 111 then (F_422_268 17 h)
  else (F_422_268 (-1) h))))
  else (F_422_269 y1 y3 y4 h))
def F_422_216 (z0 : Int32) (h : sm_H) : Option (Int32 × sm_H) :=
  some (z0, h)
def F_422_0 (x1 : Int64) (h : sm_H) : Option (Int32 × sm_H) :=
  if (lg_cmp x1 118) = 0 then (some (0, h))
  else (if (lg_cmp x1 122) = 0 then (some (1, h))
  else (if (lg_cmp x1 98) = 0 then (some (2, h))
  else (if (lg_cmp x1 115) = 0 then (some (3, h))
  else (if (lg_cmp x1 99) = 0 then (some (4, h))
  else (if (lg_cmp x1 105) = 0 then (some (5, h))
  else (if (lg_cmp x1 106) = 0 then (some (6, h))
  else (if (lg_cmp x1 111) = 0 then (some (7, h))
  else (if (lg_cmp x1 110) = 0 then (some (8, h))
  else (if (lg_cmp x1 104) = 0 then (some (18, h))
  else (if (lg_cmp x1 101) = 0 then (some (19, h))
  else ((some ((Int64.toInt32 (x1 >>> (Int32.toInt64 8 &&& 63))) : Int32)).bind fun v2 =>
  (some ((Int64.toInt32 (x1 &&& 255)) : Int32)).bind fun v3 =>
  if 0 ≤ (lg_cmp x1 65536) then (F_422_217 x1 v2 v3 h)
  else (if v2 = 111 then (if v3 = 122 then (F_422_216 9 h)
  else (if v3 = 98 then (F_422_216 10 h)
  else (if v3 = 115 then (F_422_216 11 h)
  else (if v3 = 99 then (F_422_216 12 h)
  else (if v3 = 105 then (F_422_216 13 h)
  else (if v3 = 106 then (F_422_216 14 h)
  else (F_422_216 (-1) h)))))))
  else (F_422_217 x1 v2 v3 h)))))))))))))
abbrev F_422 (x1 : Int64) (h : sm_H) : Option (Int32 × sm_H) := F_422_0 x1 h
def F_425_0  (h : sm_H) : Option (Int32 × sm_H) :=
  if (h.1 67 86) = 20 then ((F_413 5 (h.1 67 81) h).bind fun q3 =>
  if q3.1 = 0 ∨ q3.1 = 1 then some (q3.1, q3.2) else none)
  else ((some (sm_wI h 67 86 ((h.1 67 86) + 1))).bind fun h1 =>
  (F_420 h1).bind fun q2 =>
  some (1, q2))
abbrev F_425  (h : sm_H) : Option (Int32 × sm_H) := F_425_0  h
def F_428_68 (y2 : Int32) (h : sm_H) : Option (Int32 × sm_H) :=
  some (y2, h)
def F_428_47  (h : sm_H) : Option (Int32 × sm_H) :=
  (F_302 h).bind fun q1 =>
  if q1.1 = (-1) then ((F_413 8 (q1.2.1 67 106) q1.2).bind fun q2 =>
  F_428_68 q1.1 q2.2)
  else (F_428_68 q1.1 q1.2)
def F_428_15B (s : (Int32 × sm_H)) : Option ((Int32 × sm_H) ⊕ (Int32 × sm_H)) :=
  if 400 ≤ s.1 then ((F_428_47 s.2).map fun r => (.inr r))
  else (if 11 ≤ (s.2.1 67 21) then ((F_428_47 s.2).map fun r => (.inr r))
  else ((ldI s.2 118 400 s.1).bind fun v3 =>
  (F_309 v3 s.2).bind fun q4 =>
  (some (s.1 + 1 : Int32)).bind fun v5 =>
  some (.inl (v5, q4))))
def F_428_15 (y2 : Int32) (h : sm_H) : Option (Int32 × sm_H) := lp F_428_15B 1000000 (y2, h)
def F_428_0 (x1 : Int32) (h : sm_H) : Option (Int32 × sm_H) :=
  (some (sm_wI h 67 20 x1)).bind fun h6 =>
  (some (sm_wI h6 67 21 0)).bind fun h7 =>
  (some ((h7.1 67 94) : Int32)).bind fun v8 =>
  F_428_15 v8 h7
abbrev F_428 (x1 : Int32) (h : sm_H) : Option (Int32 × sm_H) := F_428_0 x1 h
def F_429_50 (y6 : Int32) (h : sm_H) : Option (Int32 × sm_H) :=
  some (y6, h)
def F_429_42 (y6 : Int32) (z1 : Int32) (h : sm_H) : Option (Int32 × sm_H) :=
  (F_413 z1 (h.1 67 106) h).bind fun q1 =>
  F_429_50 y6 q1.2
def F_429_0 (x1 : Int32) (x2 : Int32) (x3 : Int32) (x4 : Int64) (h : sm_H) : Option (Int32 × sm_H) :=
  if (h.1 67 77) = 0 then ((F_341 x1 x2 x3 x4 h).bind fun q2 =>
  if q2.1 = (-1) then (if (q2.2.1 67 19) ≤ 3 then (F_429_42 q2.1 7 q2.2)
  else (F_429_42 q2.1 8 q2.2))
  else (F_429_50 q2.1 q2.2))
  else (some ((-1), h))
abbrev F_429 (x1 : Int32) (x2 : Int32) (x3 : Int32) (x4 : Int64) (h : sm_H) : Option (Int32 × sm_H) := F_429_0 x1 x2 x3 x4 h
def F_430_0 (x1 : Int32) (x2 : Int32) (x3 : Int32) (x4 : Int64) (h : sm_H) : Option (Int32 × sm_H) :=
  (some (sm_wI h 67 3 0)).bind fun h1 =>
  (F_429 x1 x2 x3 x4 h1).bind fun q2 =>
  some (q2.1, q2.2)
abbrev F_430 (x1 : Int32) (x2 : Int32) (x3 : Int32) (x4 : Int64) (h : sm_H) : Option (Int32 × sm_H) := F_430_0 x1 x2 x3 x4 h
def F_431_0 (x1 : Int32) (x2 : Int32) (x3 : Int32) (x4 : Int32) (h : sm_H) : Option (Int32 × sm_H) :=
  if x4 = (-1) then (some ((-1), h))
  else ((stI h 69 24 0 x4).bind fun h1 =>
  (some (sm_wI h1 67 3 1)).bind fun h2 =>
  (F_429 x1 x2 x3 0 h2).bind fun q3 =>
  some (q3.1, q3.2))
abbrev F_431 (x1 : Int32) (x2 : Int32) (x3 : Int32) (x4 : Int32) (h : sm_H) : Option (Int32 × sm_H) := F_431_0 x1 x2 x3 x4 h
def F_432_11  (h : sm_H) : Option (Int32 × sm_H) :=
  some ((-1), h)
def F_432_0 (x1 : Int32) (x2 : Int32) (x3 : Int32) (x4 : Int32) (h : sm_H) : Option (Int32 × sm_H) :=
  if x3 = (-1) then (F_432_11 h)
  else (if x4 = (-1) then (F_432_11 h)
  else ((stI h 69 24 0 x3).bind fun h1 =>
  (stI h1 69 24 1 x4).bind fun h2 =>
  (some (sm_wI h2 67 3 2)).bind fun h3 =>
  (F_429 x1 x2 0 0 h3).bind fun q4 =>
  some (q4.1, q4.2)))
abbrev F_432 (x1 : Int32) (x2 : Int32) (x3 : Int32) (x4 : Int32) (h : sm_H) : Option (Int32 × sm_H) := F_432_0 x1 x2 x3 x4 h
def F_433_77 (z0 : Int32) (h : sm_H) : Option (Int32 × sm_H) :=
  some (z0, h)
def F_433_12  (h : sm_H) : Option (Int32 × sm_H) :=
  some ((-1), h)
def F_433_0 (x1 : Int32) (x2 : Int32) (h : sm_H) : Option (Int32 × sm_H) :=
  if (h.1 67 77) = 0 then (if x1 = (-1) then (F_433_12 h)
  else ((F_307 x1 h).bind fun q1 =>
  if q1.1 = x2 then (some (x1, q1.2))
  else ((F_307 x1 q1.2).bind fun q2 =>
  (F_297 q2.1 x2 0 1 q2.2).bind fun q3 =>
  if q3.1 = 0 then ((F_413 7 (q3.2.1 67 106) q3.2).bind fun q6 =>
  some ((-1), q6.2))
  else ((F_428 x2 q3.2).bind fun q4 =>
  if q4.1 = (-1) then (F_433_77 (-1) q4.2)
  else ((F_431 12 0 q4.1 x1 q4.2).bind fun q5 =>
  F_433_77 q5.1 q5.2)))))
  else (F_433_12 h)
abbrev F_433 (x1 : Int32) (x2 : Int32) (h : sm_H) : Option (Int32 × sm_H) := F_433_0 x1 x2 h
def F_434_84 (y4 : Int32) (h : sm_H) : Option (Int32 × sm_H) :=
  some (y4, h)
def F_434_48B (s : (Int32 × Int32 × sm_H)) : Option ((Int32 × Int32 × sm_H) ⊕ (Int32 × sm_H)) :=
  if s.2.1 < 0 then ((F_434_84 s.1 s.2.2).map fun r => (.inr r))
  else (if s.1 = (-1) then ((F_434_84 s.1 s.2.2).map fun r => (.inr r))
  else ((ldI s.2.2 127 8 s.2.1).bind fun v1 =>
  (F_432 8 s.2.1 s.1 v1 s.2.2).bind fun q2 =>
  (some (s.2.1 + (-1) : Int32)).bind fun v3 =>
  some (.inl (q2.1, v3, q2.2))))
def F_434_48 (y4 : Int32) (y5 : Int32) (h : sm_H) : Option (Int32 × sm_H) := lp F_434_48B 1000000 (y4, y5, h)
def F_434_41 (y2 : Int32) (z0 : Int32) (h : sm_H) : Option (Int32 × sm_H) :=
  (some ((y2 - 1) : Int32)).bind fun v4 =>
  F_434_48 z0 v4 h
def F_434_12  (h : sm_H) : Option (Int32 × sm_H) :=
  some ((-1), h)
def F_434_0 (x1 : Int32) (x2 : Int32) (h : sm_H) : Option (Int32 × sm_H) :=
  if x1 = (-1) then (F_434_12 h)
  else (if (h.1 67 77) = 0 then ((F_307 x1 h).bind fun q5 =>
  (F_428 q5.1 q5.2).bind fun q6 =>
  if q6.1 = (-1) then (F_434_41 x2 (-1) q6.2)
  else ((F_431 4 x2 q6.1 x1 q6.2).bind fun q7 =>
  F_434_41 x2 q7.1 q7.2))
  else (F_434_12 h))
abbrev F_434 (x1 : Int32) (x2 : Int32) (h : sm_H) : Option (Int32 × sm_H) := F_434_0 x1 x2 h
def F_435_0 (x1 : Int32) (h : sm_H) : Option (Int32 × sm_H) :=
  (F_434 x1 0 h).bind fun q1 =>
  some (q1.1, q1.2)
abbrev F_435 (x1 : Int32) (h : sm_H) : Option (Int32 × sm_H) := F_435_0 x1 h
def F_436_22 (z0 : Int32) (h : sm_H) : Option (Int32 × sm_H) :=
  some (z0, h)
def F_436_0 (x1 : Int32) (x2 : Int32) (h : sm_H) : Option (Int32 × sm_H) :=
  (stI h 127 8 0 x2).bind fun h1 =>
  if x2 = (-1) then (F_436_22 (-1) h1)
  else ((F_434 x1 1 h1).bind fun q2 =>
  F_436_22 q2.1 q2.2)
abbrev F_436 (x1 : Int32) (x2 : Int32) (h : sm_H) : Option (Int32 × sm_H) := F_436_0 x1 x2 h
def F_437_34 (z0 : Int32) (h : sm_H) : Option (Int32 × sm_H) :=
  some (z0, h)
def F_437_24  (h : sm_H) : Option (Int32 × sm_H) :=
  F_437_34 (-1) h
def F_437_0 (x1 : Int32) (x2 : Int32) (x3 : Int32) (h : sm_H) : Option (Int32 × sm_H) :=
  (stI h 127 8 0 x2).bind fun h1 =>
  (stI h1 127 8 1 x3).bind fun h2 =>
  if x2 = (-1) then (F_437_24 h2)
  else (if x3 = (-1) then (F_437_24 h2)
  else ((F_434 x1 2 h2).bind fun q3 =>
  F_437_34 q3.1 q3.2))
abbrev F_437 (x1 : Int32) (x2 : Int32) (x3 : Int32) (h : sm_H) : Option (Int32 × sm_H) := F_437_0 x1 x2 x3 h
def F_438_48 (z0 : Int32) (h : sm_H) : Option (Int32 × sm_H) :=
  some (z0, h)
def F_438_38  (h : sm_H) : Option (Int32 × sm_H) :=
  F_438_48 (-1) h
def F_438_0 (x1 : Int32) (x2 : Int32) (x3 : Int32) (x4 : Int32) (h : sm_H) : Option (Int32 × sm_H) :=
  (stI h 127 8 0 x2).bind fun h1 =>
  (stI h1 127 8 1 x3).bind fun h2 =>
  (stI h2 127 8 2 x4).bind fun h3 =>
  if x2 = (-1) then (F_438_38 h3)
  else (if x3 = (-1) then (F_438_38 h3)
  else (if x4 = (-1) then (F_438_38 h3)
  else ((F_434 x1 3 h3).bind fun q4 =>
  F_438_48 q4.1 q4.2)))
abbrev F_438 (x1 : Int32) (x2 : Int32) (x3 : Int32) (x4 : Int32) (h : sm_H) : Option (Int32 × sm_H) := F_438_0 x1 x2 x3 x4 h
def F_439_98 (z0 : Int64) (h : sm_H) : Option (Int64 × sm_H) :=
  some (z0, h)
def F_439_77 (y4 : Int32) (z0 : Int64) (h : sm_H) : Option (Int64 × sm_H) :=
  if y4 = 0 then (F_439_98 z0 h)
  else (F_439_98 ((z0 <<< (Int32.toInt64 8 &&& 63)) ||| (Int32.toInt64 y4)) h)
def F_439_58 (y3 : Int32) (y4 : Int32) (z0 : Int64) (h : sm_H) : Option (Int64 × sm_H) :=
  if y3 = 0 then (F_439_77 y4 z0 h)
  else (F_439_77 y4 ((z0 <<< (Int32.toInt64 8 &&& 63)) ||| (Int32.toInt64 y3)) h)
def F_439_39 (y2 : Int32) (y3 : Int32) (y4 : Int32) (z0 : Int64) (h : sm_H) : Option (Int64 × sm_H) :=
  if y2 = 0 then (F_439_58 y3 y4 z0 h)
  else (F_439_58 y3 y4 ((z0 <<< (Int32.toInt64 8 &&& 63)) ||| (Int32.toInt64 y2)) h)
def F_439_20 (y1 : Int32) (y2 : Int32) (y3 : Int32) (y4 : Int32) (z0 : Int64) (h : sm_H) : Option (Int64 × sm_H) :=
  if y1 = 0 then (F_439_39 y2 y3 y4 z0 h)
  else (F_439_39 y2 y3 y4 ((z0 <<< (Int32.toInt64 8 &&& 63)) ||| (Int32.toInt64 y1)) h)
def F_439_0 (x0 : Int32) (x1 : Int32) (x2 : Int32) (x3 : Int32) (x4 : Int32) (h : sm_H) : Option (Int64 × sm_H) :=
  if x0 = 0 then (F_439_20 x1 x2 x3 x4 0 h)
  else (F_439_20 x1 x2 x3 x4 ((0 <<< (Int32.toInt64 8 &&& 63)) ||| (Int32.toInt64 x0)) h)
abbrev F_439 (x0 : Int32) (x1 : Int32) (x2 : Int32) (x3 : Int32) (x4 : Int32) (h : sm_H) : Option (Int64 × sm_H) := F_439_0 x0 x1 x2 x3 x4 h
def F_441_109 (z0 : Int32) (h : sm_H) : Option (Int32 × sm_H) :=
  some (z0, h)
def F_441_0 (x0 : Int64) (h : sm_H) : Option (Int32 × sm_H) :=
  if (lg_cmp x0 43) = 0 then (some (0, h))
  else (if (lg_cmp x0 45) = 0 then (some (1, h))
  else (if (lg_cmp x0 42) = 0 then (some (2, h))
  else (if (lg_cmp x0 47) = 0 then (some (3, h))
  else (if (lg_cmp x0 37) = 0 then (some (4, h))
  else (if (lg_cmp x0 38) = 0 then (some (5, h))
  else (if (lg_cmp x0 124) = 0 then (some (6, h))
  else (if (lg_cmp x0 94) = 0 then (some (7, h))
  else (if (lg_cmp x0 60) = 0 then (F_441_109 11 h)
  else (if (lg_cmp x0 61) = 0 then (F_441_109 12 h)
  else (F_441_109 (-1) h))))))))))
abbrev F_441 (x0 : Int64) (h : sm_H) : Option (Int32 × sm_H) := F_441_0 x0 h
def F_442_96  (h : sm_H) : Option (Int32 × sm_H) :=
  some ((-1), h)
def F_442_92  (h : sm_H) : Option (Int32 × sm_H) :=
  some (3, h)
def F_442_90  (h : sm_H) : Option (Int32 × sm_H) :=
  some (2, h)
def F_442_88  (h : sm_H) : Option (Int32 × sm_H) :=
  some (1, h)
def F_442_0 (x0 : Int32) (h : sm_H) : Option (Int32 × sm_H) :=
  if x0 = 0 then (F_442_88 h)
  else (if x0 = 1 then (F_442_90 h)
  else (if x0 = 2 then (F_442_92 h)
  else (if x0 = 4 then (F_442_90 h)
  else (if x0 = 7 then (F_442_88 h)
  else (if x0 = 8 then (F_442_88 h)
  else (if x0 = 9 then (some (0, h))
  else (if x0 = 10 then (F_442_88 h)
  else (if x0 = 11 then (F_442_88 h)
  else (if x0 = 12 then (F_442_90 h)
  else (if x0 = 13 then (F_442_92 h)
  else (if x0 = 14 then (F_442_88 h)
  else (if x0 = 15 then (F_442_90 h)
  else (if x0 = 16 then (F_442_88 h)
  else (if x0 = 17 then (F_442_88 h)
  else (F_442_96 h)))))))))))))))
abbrev F_442 (x0 : Int32) (h : sm_H) : Option (Int32 × sm_H) := F_442_0 x0 h
def F_443_2B (s : (Int64 × Int32 × sm_H)) : Option ((Int64 × Int32 × sm_H) ⊕ (Int32 × sm_H)) :=
  if (s.2.2.1 67 91) ≤ s.2.1 then (some (.inr ((-1), s.2.2)))
  else ((ldJ s.2.2 113 60 s.2.1).bind fun v1 =>
  if (lg_cmp v1 s.1) = 0 then (some (.inr (s.2.1, s.2.2)))
  else ((some (s.2.1 + 1 : Int32)).bind fun v2 =>
  some (.inl (s.1, v2, s.2.2))))
def F_443_2 (y1 : Int64) (y3 : Int32) (h : sm_H) : Option (Int32 × sm_H) := lp F_443_2B 1000000 (y1, y3, h)
def F_443_0 (x1 : Int64) (h : sm_H) : Option (Int32 × sm_H) :=
  F_443_2 x1 0 h
abbrev F_443 (x1 : Int64) (h : sm_H) : Option (Int32 × sm_H) := F_443_0 x1 h
def F_444_0 (x1 : Int64) (x3 : Int32) (h : sm_H) : Option (sm_H) :=
  (some (sm_wI h 67 94 ((h.1 67 94) - 1))).bind fun h1 =>
  (stJ h1 117 400 (h1.1 67 94) x1).bind fun h2 =>
  (stI h2 118 400 (h2.1 67 94) x3).bind fun h3 =>
  some h3
abbrev F_444 (x1 : Int64) (x3 : Int32) (h : sm_H) : Option (sm_H) := F_444_0 x1 x3 h
def F_445_0 (x1 : Int32) (x2 : Int32) (h : sm_H) : Option (sm_H) :=
  (stI h 119 24 (h.1 67 102) x1).bind fun h1 =>
  (stI h1 120 24 (h1.1 67 102) x2).bind fun h2 =>
  (stI h2 121 24 (h2.1 67 102) 0).bind fun h3 =>
  (stI h3 123 24 (h3.1 67 102) (h3.1 67 94)).bind fun h4 =>
  (stI h4 124 24 (h4.1 67 102) 0).bind fun h5 =>
  (stI h5 122 24 (h5.1 67 102) 0).bind fun h6 =>
  (some (sm_wI h6 67 102 ((h6.1 67 102) + 1))).bind fun h7 =>
  some h7
abbrev F_445 (x1 : Int32) (x2 : Int32) (h : sm_H) : Option (sm_H) := F_445_0 x1 x2 h
def F_447_42 (y2 : Int32) (h : sm_H) : Option (Int32 × sm_H) :=
  (ldI h 124 24 y2).bind fun v1 =>
  (stI h 124 24 y2 (v1 + 1)).bind fun h2 =>
  some (1, h2)
def F_447_0 (x1 : Int32) (h : sm_H) : Option (Int32 × sm_H) :=
  (some (((h.1 67 102) - 1) : Int32)).bind fun v3 =>
  if x1 = (-1) then (some (0, h))
  else ((ldI h 124 24 v3).bind fun v4 =>
  if 20 ≤ v4 then (F_447_42 v3 h)
  else ((ldI h 124 24 v3).bind fun v5 =>
  (stI h 125 480 ((20 * v3) + v5) x1).bind fun h6 =>
  F_447_42 v3 h6))
abbrev F_447 (x1 : Int32) (h : sm_H) : Option (Int32 × sm_H) := F_447_0 x1 h
def F_449_0 (x1 : Int32) (h : sm_H) : Option (Int32 × sm_H) :=
  (ldI h 125 480 ((20 * ((h.1 67 102) - 1)) + x1)).bind fun v1 =>
  some (v1, h)
abbrev F_449 (x1 : Int32) (h : sm_H) : Option (Int32 × sm_H) := F_449_0 x1 h
def F_452_30 (z0 : Int32) (h : sm_H) : Option (Int32 × sm_H) :=
  if z0 = 0 ∨ z0 = 1 then some (z0, h) else none
def F_452_0 (x1 : Int32) (x2 : Int32) (h : sm_H) : Option (Int32 × sm_H) :=
  (F_307 x2 h).bind fun q1 =>
  if q1.1 = 0 then ((ldI q1.2 120 24 x1).bind fun v2 =>
  (F_413 7 v2 q1.2).bind fun q3 =>
  if q3.1 = 0 then (F_452_30 1 q3.2)
  else (F_452_30 0 q3.2))
  else (some (0, q1.2))
abbrev F_452 (x1 : Int32) (x2 : Int32) (h : sm_H) : Option (Int32 × sm_H) := F_452_0 x1 x2 h
def F_458_22 (z0 : Int32) (h : sm_H) : Option (Int32 × sm_H) :=
  if z0 = 0 ∨ z0 = 1 then some (z0, h) else none
def F_458_17  (h : sm_H) : Option (Int32 × sm_H) :=
  F_458_22 1 h
def F_458_0 (x1 : Int32) (h : sm_H) : Option (Int32 × sm_H) :=
  if x1 = 0 then ((F_413 7 (h.1 67 106) h).bind fun q1 =>
  if q1.1 = 0 then (F_458_22 0 q1.2)
  else (F_458_17 q1.2))
  else (F_458_17 h)
abbrev F_458 (x1 : Int32) (h : sm_H) : Option (Int32 × sm_H) := F_458_0 x1 h
def F_459_26 (z0 : Int32) (h : sm_H) : Option (Int32 × sm_H) :=
  some (z0, h)
def F_459_20  (h : sm_H) : Option (Int32 × sm_H) :=
  F_459_26 6 h
def F_459_0 (x1 : Int32) (h : sm_H) : Option (Int32 × sm_H) :=
  (F_307 x1 h).bind fun q1 =>
  if q1.1 = 6 then (F_459_20 q1.2)
  else ((F_307 x1 q1.2).bind fun q2 =>
  if q2.1 = 14 then (F_459_20 q2.2)
  else (F_459_26 5 q2.2))
abbrev F_459 (x1 : Int32) (h : sm_H) : Option (Int32 × sm_H) := F_459_0 x1 h
def F_461_131  (h : sm_H) : Option (Int32 × sm_H) :=
  some ((-1), h)
def F_461_106 (y4 : Int32) (y5 : Int32) (y6 : Int32) (h : sm_H) : Option (Int32 × sm_H) :=
  if y4 = (-1) then (F_461_131 h)
  else (if y5 = (-1) then (F_461_131 h)
  else (if y6 = (-1) then (F_461_131 h)
  else (if (h.1 67 77) = 0 then ((stI h 69 24 0 y4).bind fun h1 =>
  (stI h1 69 24 1 y5).bind fun h2 =>
  (stI h2 69 24 2 y6).bind fun h3 =>
  (some (sm_wI h3 67 3 3)).bind fun h4 =>
  (F_429 14 0 0 0 h4).bind fun q5 =>
  some (q5.1, q5.2))
  else (F_461_131 h))))
def F_461_0 (x1 : Int32) (x2 : Int32) (x3 : Int32) (h : sm_H) : Option (Int32 × sm_H) :=
  (F_433 x1 1 h).bind fun q6 =>
  (F_307 x2 q6.2).bind fun q7 =>
  (F_307 x3 q7.2).bind fun q8 =>
  if q7.1 = q8.1 then (F_461_106 q6.1 x2 x3 q8.2)
  else ((F_307 x3 q8.2).bind fun q9 =>
  (F_307 x2 q9.2).bind fun q10 =>
  (F_297 q9.1 q10.1 0 0 q10.2).bind fun q11 =>
  if q11.1 = 0 then ((F_307 x2 q11.2).bind fun q12 =>
  (F_307 x3 q12.2).bind fun q13 =>
  (F_297 q12.1 q13.1 0 0 q13.2).bind fun q14 =>
  if q14.1 = 0 then ((F_413 7 (q14.2.1 67 106) q14.2).bind fun q15 =>
  F_461_106 q6.1 x2 x3 q15.2)
  else ((F_307 x3 q14.2).bind fun q16 =>
  (F_433 x2 q16.1 q16.2).bind fun q17 =>
  F_461_106 q6.1 q17.1 x3 q17.2))
  else ((F_307 x2 q11.2).bind fun q18 =>
  (F_433 x3 q18.1 q18.2).bind fun q19 =>
  F_461_106 q6.1 x2 q19.1 q19.2))
abbrev F_461 (x1 : Int32) (x2 : Int32) (x3 : Int32) (h : sm_H) : Option (Int32 × sm_H) := F_461_0 x1 x2 x3 h
def F_462_212B (s : (Int32 × Int32 × sm_H)) : Option ((Int32 × Int32 × sm_H) ⊕ (Int32 × sm_H)) :=
  if (s.2.2.1 67 3) ≤ s.2.1 then ((F_429 18 0 s.1 0 s.2.2).bind fun q1 =>
  some (.inr (q1.1, q1.2)))
  else ((ldI s.2.2 128 16 s.2.1).bind fun v2 =>
  (stI s.2.2 69 24 s.2.1 v2).bind fun h3 =>
  (some (s.2.1 + 1 : Int32)).bind fun v4 =>
  some (.inl (s.1, v4, h3)))
def F_462_212 (y3 : Int32) (y4 : Int32) (h : sm_H) : Option (Int32 × sm_H) := lp F_462_212B 1000000 (y3, y4, h)
def F_462_30B (s : (Int32 × Int32 × Int32 × sm_H)) : Option ((Int32 × Int32 × Int32 × sm_H) ⊕ (Int32 × sm_H)) :=
  if s.2.1 ≤ s.2.2.1 then ((ldI s.2.2.2 125 480 ((20 * s.1) + (2 * s.2.1))).bind fun v5 =>
  (F_433 v5 1 s.2.2.2).bind fun q6 =>
  (stI q6.2 128 16 ((4 * s.2.1) + 2) q6.1).bind fun h7 =>
  (ldI h7 125 480 (((20 * s.1) + (2 * s.2.1)) + 1)).bind fun v8 =>
  (stI h7 128 16 ((4 * s.2.1) + 3) v8).bind fun h9 =>
  if (h9.1 67 77) = 0 then ((ldI h9 123 24 s.1).bind fun v10 =>
  (some (sm_wI h9 67 94 v10)).bind fun h11 =>
  (ldI h11 128 16 ((4 * s.2.1) + 3)).bind fun v12 =>
  (F_307 v12 h11).bind fun q13 =>
  (F_428 q13.1 q13.2).bind fun q14 =>
  if q14.1 = (-1) then (some (.inr ((-1), q14.2)))
  else ((some (sm_wI q14.2 67 3 ((4 * s.2.1) + 4))).bind fun h15 =>
  (F_462_212 q14.1 0 h15).map fun r => (.inr r)))
  else (some (.inr ((-1), h9))))
  else ((ldI s.2.2.2 125 480 ((20 * s.1) + s.2.2.1)).bind fun v16 =>
  (stI s.2.2.2 128 16 (4 * s.2.2.1) v16).bind fun h17 =>
  (ldI h17 125 480 (((20 * s.1) + s.2.1) + s.2.2.1)).bind fun v18 =>
  (ldI h17 125 480 ((20 * s.1) + s.2.2.1)).bind fun v19 =>
  (F_307 v19 h17).bind fun q20 =>
  (F_433 v18 q20.1 q20.2).bind fun q21 =>
  (stI q21.2 128 16 ((4 * s.2.2.1) + 1) q21.1).bind fun h22 =>
  (some (s.2.2.1 + 1 : Int32)).bind fun v23 =>
  some (.inl (s.1, s.2.1, v23, h22)))
def F_462_30 (y1 : Int32) (y2 : Int32) (y3 : Int32) (h : sm_H) : Option (Int32 × sm_H) := lp F_462_30B 1000000 (y1, y2, y3, h)
def F_462_9B (s : (Int32 × Int32 × Int32 × sm_H)) : Option ((Int32 × Int32 × Int32 × sm_H) ⊕ (Int32 × sm_H)) :=
  if 16 ≤ s.2.2.1 then ((F_462_30 s.1 s.2.1 0 s.2.2.2).map fun r => (.inr r))
  else ((stI s.2.2.2 128 16 s.2.2.1 (-1)).bind fun h24 =>
  (some (s.2.2.1 + 1 : Int32)).bind fun v25 =>
  some (.inl (s.1, s.2.1, v25, h24)))
def F_462_9 (y1 : Int32) (y2 : Int32) (y3 : Int32) (h : sm_H) : Option (Int32 × sm_H) := lp F_462_9B 1000000 (y1, y2, y3, h)
def F_462_0 (x1 : Int32) (h : sm_H) : Option (Int32 × sm_H) :=
  (ldI h 122 24 x1).bind fun v26 =>
  F_462_9 x1 v26 0 h
abbrev F_462 (x1 : Int32) (h : sm_H) : Option (Int32 × sm_H) := F_462_0 x1 h
def F_463_92B (s : (Int32 × Int32 × sm_H)) : Option ((Int32 × Int32 × sm_H) ⊕ (Int32 × sm_H)) :=
  (ldI s.2.2 115 60 s.1).bind fun v1 =>
  if v1 ≤ s.2.1 then ((ldI s.2.2 114 60 s.1).bind fun v2 =>
  (ldI s.2.2 115 60 s.1).bind fun v3 =>
  (F_434 v2 v3 s.2.2).bind fun q4 =>
  some (.inr (q4.1, q4.2)))
  else ((ldI s.2.2 129 8 s.2.1).bind fun v5 =>
  (stI s.2.2 127 8 s.2.1 v5).bind fun h6 =>
  (some (s.2.1 + 1 : Int32)).bind fun v7 =>
  some (.inl (s.1, v7, h6)))
def F_463_92 (y2 : Int32) (y3 : Int32) (h : sm_H) : Option (Int32 × sm_H) := lp F_463_92B 1000000 (y2, y3, h)
def F_463_30B (s : (Int32 × Int32 × Int32 × sm_H)) : Option ((Int32 × Int32 × Int32 × sm_H) ⊕ (Int32 × sm_H)) :=
  (ldI s.2.2.2 115 60 s.2.1).bind fun v8 =>
  if v8 ≤ s.2.2.1 then ((F_463_92 s.2.1 0 s.2.2.2).map fun r => (.inr r))
  else ((ldI s.2.2.2 125 480 ((20 * s.1) + s.2.2.1)).bind fun v9 =>
  (ldI s.2.2.2 116 360 ((6 * s.2.1) + s.2.2.1)).bind fun v10 =>
  (F_433 v9 v10 s.2.2.2).bind fun q11 =>
  if q11.1 = (-1) then (some (.inr ((-1), q11.2)))
  else ((stI q11.2 129 8 s.2.2.1 q11.1).bind fun h12 =>
  (some (s.2.2.1 + 1 : Int32)).bind fun v13 =>
  some (.inl (s.1, s.2.1, v13, h12))))
def F_463_30 (y1 : Int32) (y2 : Int32) (y3 : Int32) (h : sm_H) : Option (Int32 × sm_H) := lp F_463_30B 1000000 (y1, y2, y3, h)
def F_463_0 (x1 : Int32) (x2 : Int32) (h : sm_H) : Option (Int32 × sm_H) :=
  (ldI h 124 24 x1).bind fun v14 =>
  (ldI h 115 60 x2).bind fun v15 =>
  if v14 = v15 then (F_463_30 x1 x2 0 h)
  else ((F_413 9 (h.1 67 106) h).bind fun q16 =>
  some ((-1), q16.2))
abbrev F_463 (x1 : Int32) (x2 : Int32) (h : sm_H) : Option (Int32 × sm_H) := F_463_0 x1 x2 h
def F_467_36 (z0 : Int32) (h : sm_H) : Option (Int32 × sm_H) :=
  some (z0, h)
def F_467_0 (x1 : Int32) (h : sm_H) : Option (Int32 × sm_H) :=
  if x1 = 0 then (F_467_36 (h.1 67 77) h)
  else (if x1 = 1 then (F_467_36 (h.1 67 78) h)
  else (if x1 = 2 then (F_467_36 (h.1 67 91) h)
  else (F_467_36 (-1) h)))
abbrev F_467 (x1 : Int32) (h : sm_H) : Option (Int32 × sm_H) := F_467_0 x1 h
def F_468_66 (z0 : Int32) (h : sm_H) : Option (Int32 × sm_H) :=
  some (z0, h)
def F_468_36 (y1 : Int64) (y3 : Int64) (y5 : Int32) (h : sm_H) : Option ((Int64 × Int64 × Int32 × sm_H) ⊕ (Int32 × sm_H)) :=
  (some (y5 + (-8) : Int32)).bind fun v1 =>
  some (.inl (y1, y3, v1, h))
def F_468_6B (s : (Int64 × Int64 × Int32 × sm_H)) : Option ((Int64 × Int64 × Int32 × sm_H) ⊕ (Int32 × sm_H)) :=
  if s.2.2.1 < 0 then ((F_443 s.2.1 s.2.2.2).bind fun q2 =>
  if q2.1 = (-1) then ((F_468_66 (-1) q2.2).map fun r => (.inr r))
  else ((ldI q2.2 114 60 q2.1).bind fun v3 =>
  (F_468_66 v3 q2.2).map fun r => (.inr r)))
  else ((some (((s.1 >>> (Int32.toInt64 s.2.2.1 &&& 63)) &&& 255) : Int64)).bind fun v4 =>
  if (lg_cmp v4 0) = 0 then (F_468_36 s.1 s.2.1 s.2.2.1 s.2.2.2)
  else ((some (((s.2.1 <<< (Int32.toInt64 8 &&& 63)) ||| v4) : Int64)).bind fun v5 =>
  F_468_36 s.1 v5 s.2.2.1 s.2.2.2))
def F_468_6 (y1 : Int64) (y3 : Int64) (y5 : Int32) (h : sm_H) : Option (Int32 × sm_H) := lp F_468_6B 1000000 (y1, y3, y5, h)
def F_468_0 (x1 : Int64) (h : sm_H) : Option (Int32 × sm_H) :=
  F_468_6 x1 0 56 h
abbrev F_468 (x1 : Int64) (h : sm_H) : Option (Int32 × sm_H) := F_468_0 x1 h
def F_469_40 (z0 : Int32) (h : sm_H) : Option (Int32 × sm_H) :=
  if z0 = 0 ∨ z0 = 1 then some (z0, h) else none
def F_469_39  (h : sm_H) : Option (Int32 × sm_H) :=
  F_469_40 0 h
def F_469_0 (x1 : Int32) (x2 : Int32) (x3 : Int32) (h : sm_H) : Option (Int32 × sm_H) :=
  (F_289 x1 h).bind fun q1 =>
  if q1.1 = 0 then (F_469_39 q1.2)
  else ((F_289 x2 q1.2).bind fun q2 =>
  if q2.1 = 0 then (F_469_39 q2.2)
  else (if x1 = 0 then (F_469_39 q2.2)
  else (if x2 = 0 then (F_469_39 q2.2)
  else ((F_297 x1 x2 x3 0 q2.2).bind fun q3 =>
  if q3.1 = 0 then (F_469_39 q3.2)
  else (F_469_40 1 q3.2)))))
abbrev F_469 (x1 : Int32) (x2 : Int32) (x3 : Int32) (h : sm_H) : Option (Int32 × sm_H) := F_469_0 x1 x2 x3 h
def F_363_260 (y1 : Int32) (y3 : Int32) (y4 : Int32) (z0 : Int32) (h : sm_H) : Option ((Int32 × Int32 × Int32 × sm_H) ⊕ (Int32 × sm_H)) :=
  if z0 = 0 then ((some (y4 + 1 : Int32)).bind fun v1 =>
  some (.inl (y1, y3, v1, h)))
  else ((ldI h 90 100 y4).bind fun v2 =>
  some (.inr (v2, h)))
def F_363_259 (y1 : Int32) (y3 : Int32) (y4 : Int32) (h : sm_H) : Option ((Int32 × Int32 × Int32 × sm_H) ⊕ (Int32 × sm_H)) :=
  F_363_260 y1 y3 y4 0 h
def F_363_164B (s : (Int32 × Int32 × Int32 × sm_H)) : Option ((Int32 × Int32 × Int32 × sm_H) ⊕ (Int32 × sm_H)) :=
  if (s.2.2.2.1 67 32) ≤ s.2.2.1 then ((ldI s.2.2.2 90 100 s.1).bind fun v3 =>
  some (.inr (v3, s.2.2.2)))
  else ((ldI s.2.2.2 83 100 s.2.2.1).bind fun v4 =>
  if v4 = s.2.1 then ((ldZ s.2.2.2 87 100 s.2.2.1).bind fun v5 =>
  if v5 = 0 then ((ldZ s.2.2.2 86 100 s.2.2.1).bind fun v6 =>
  if v6 = 0 then ((ldI s.2.2.2 85 100 s.2.2.1).bind fun v7 =>
  if v7 = 0 then (F_363_259 s.1 s.2.1 s.2.2.1 s.2.2.2)
  else ((ldI s.2.2.2 84 100 s.2.2.1).bind fun v8 =>
  (ldI s.2.2.2 84 100 s.1).bind fun v9 =>
  if v8 = v9 then ((ldI s.2.2.2 89 100 s.2.2.1).bind fun v10 =>
  (ldI s.2.2.2 89 100 s.1).bind fun v11 =>
  if v10 = v11 then ((F_364 s.2.2.1 s.2.2.2).bind fun q12 =>
  if q12.1 = 0 then (F_363_260 s.1 s.2.1 s.2.2.1 1 q12.2)
  else (F_363_259 s.1 s.2.1 s.2.2.1 q12.2))
  else (F_363_259 s.1 s.2.1 s.2.2.1 s.2.2.2))
  else (F_363_259 s.1 s.2.1 s.2.2.1 s.2.2.2)))
  else (F_363_259 s.1 s.2.1 s.2.2.1 s.2.2.2))
  else (F_363_259 s.1 s.2.1 s.2.2.1 s.2.2.2))
  else (F_363_259 s.1 s.2.1 s.2.2.1 s.2.2.2))
def F_363_164 (y1 : Int32) (y3 : Int32) (y4 : Int32) (h : sm_H) : Option (Int32 × sm_H) := lp F_363_164B 1000000 (y1, y3, y4, h)
def F_363_127 (y1 : Int32) (y3 : Int32) (y4 : Int32) (z0 : Int32) (h : sm_H) : Option ((Int32 × Int32 × Int32 × sm_H) ⊕ ((Int32 × Int32 × sm_H) ⊕ (Int32 × sm_H))) :=
  if z0 = 0 then ((some (y4 + 1 : Int32)).bind fun v13 =>
  some (.inl (y1, y3, v13, h)))
  else ((ldI h 90 100 y4).bind fun v14 =>
  some (.inr (.inr (v14, h))))
def F_363_126 (y1 : Int32) (y3 : Int32) (y4 : Int32) (h : sm_H) : Option ((Int32 × Int32 × Int32 × sm_H) ⊕ ((Int32 × Int32 × sm_H) ⊕ (Int32 × sm_H))) :=
  F_363_127 y1 y3 y4 0 h
def F_363_31B (s : (Int32 × Int32 × Int32 × sm_H)) : Option ((Int32 × Int32 × Int32 × sm_H) ⊕ ((Int32 × Int32 × sm_H) ⊕ (Int32 × sm_H))) :=
  if (s.2.2.2.1 67 32) ≤ s.2.2.1 then ((ldI s.2.2.2 70 12 (s.2.1 - 20)).bind fun v15 =>
  some (.inr (.inl (s.1, v15, s.2.2.2))))
  else ((ldI s.2.2.2 83 100 s.2.2.1).bind fun v16 =>
  if v16 = s.2.1 then ((ldZ s.2.2.2 87 100 s.2.2.1).bind fun v17 =>
  if v17 = 0 then ((ldZ s.2.2.2 86 100 s.2.2.1).bind fun v18 =>
  if v18 = 0 then ((ldI s.2.2.2 85 100 s.2.2.1).bind fun v19 =>
  if v19 = 0 then (F_363_126 s.1 s.2.1 s.2.2.1 s.2.2.2)
  else ((ldI s.2.2.2 84 100 s.2.2.1).bind fun v20 =>
  (ldI s.2.2.2 84 100 s.1).bind fun v21 =>
  if v20 = v21 then ((ldI s.2.2.2 89 100 s.2.2.1).bind fun v22 =>
  (ldI s.2.2.2 89 100 s.1).bind fun v23 =>
  if v22 = v23 then ((F_364 s.2.2.1 s.2.2.2).bind fun q24 =>
  if q24.1 = 0 then (F_363_127 s.1 s.2.1 s.2.2.1 1 q24.2)
  else (F_363_126 s.1 s.2.1 s.2.2.1 q24.2))
  else (F_363_126 s.1 s.2.1 s.2.2.1 s.2.2.2))
  else (F_363_126 s.1 s.2.1 s.2.2.1 s.2.2.2)))
  else (F_363_126 s.1 s.2.1 s.2.2.1 s.2.2.2))
  else (F_363_126 s.1 s.2.1 s.2.2.1 s.2.2.2))
  else (F_363_126 s.1 s.2.1 s.2.2.1 s.2.2.2))
def F_363_31 (y1 : Int32) (y3 : Int32) (y4 : Int32) (h : sm_H) : Option ((Int32 × Int32 × sm_H) ⊕ (Int32 × sm_H)) := lp F_363_31B 1000000 (y1, y3, y4, h)
def F_363_18B (s : (Int32 × Int32 × sm_H)) : Option ((Int32 × Int32 × sm_H) ⊕ (Int32 × sm_H)) :=
  (ldI s.2.2 83 100 s.1).bind fun v25 =>
  if s.2.1 = v25 then ((F_363_164 s.1 s.2.1 0 s.2.2).map fun r => (.inr r))
  else (F_363_31 s.1 s.2.1 0 s.2.2)
def F_363_18 (y1 : Int32) (y3 : Int32) (h : sm_H) : Option (Int32 × sm_H) := lp F_363_18B 1000000 (y1, y3, h)
def F_363_0 (x1 : Int32) (x2 : Int32) (h : sm_H) : Option (Int32 × sm_H) :=
  (ldI h 85 100 x1).bind fun v26 =>
  if v26 = 0 then ((ldI h 90 100 x1).bind fun v27 =>
  some (v27, h))
  else (F_363_18 x1 x2 h)
abbrev F_363 (x1 : Int32) (x2 : Int32) (h : sm_H) : Option (Int32 × sm_H) := F_363_0 x1 x2 h
def F_374_79 (y2 : Int32) (y3 : Int32) (y5 : Int32) (h : sm_H) : Option ((Int32 × Int32 × Int32 × sm_H) ⊕ (sm_H)) :=
  (ldI h 81 12000 (y5 + 2)).bind fun v1 =>
  if v1 = (-1) then ((F_375 y2 y3 h).bind fun q2 =>
  some (.inl (y2, y3, 0, q2)))
  else ((ldI h 81 12000 (y5 + 2)).bind fun v3 =>
  (F_373 v3 h).bind fun q4 =>
  (ldI q4 81 12000 (y5 + 2)).bind fun v5 =>
  (F_350 v5 22 q4).bind fun q6 =>
  some (.inr (q6)))
def F_374_17B (s : (Int32 × Int32 × Int32 × sm_H)) : Option ((Int32 × Int32 × Int32 × sm_H) ⊕ (sm_H)) :=
  (ldI s.2.2.2 107 100 s.1).bind fun v7 =>
  (some (((24 * s.2.1) + (4 * v7)) : Int32)).bind fun v8 =>
  if s.2.2.1 = 0 then ((ldI s.2.2.2 81 12000 (v8 + 1)).bind fun v9 =>
  if v9 = (-1) then (F_374_79 s.1 s.2.1 v8 s.2.2.2)
  else ((ldI s.2.2.2 81 12000 (v8 + 1)).bind fun v10 =>
  (F_373 v10 s.2.2.2).bind fun q11 =>
  (ldI q11 81 12000 (v8 + 1)).bind fun v12 =>
  (F_350 v12 21 q11).bind fun q13 =>
  some (.inr (q13))))
  else (F_374_79 s.1 s.2.1 v8 s.2.2.2)
def F_374_17 (y2 : Int32) (y3 : Int32) (y4 : Int32) (h : sm_H) : Option (sm_H) := lp F_374_17B 1000000 (y2, y3, y4, h)
def F_374_0 (x1 : Int32) (h : sm_H) : Option (sm_H) :=
  (some (((h.1 67 56) - 1) : Int32)).bind fun v14 =>
  (ldI h 103 100 v14).bind fun v15 =>
  F_374_17 v14 v15 x1 h
abbrev F_374 (x1 : Int32) (h : sm_H) : Option (sm_H) := F_374_0 x1 h
def F_381_31 (y1 : Int32) (y2 : Int32) (h : sm_H) : Option (Int32 × sm_H) :=
  (stI h 70 12 (h.1 67 6) y1).bind fun h1 =>
  (stI h1 71 12 (h1.1 67 6) y2).bind fun h2 =>
  (some (sm_wI h2 67 6 ((h2.1 67 6) + 1))).bind fun h3 =>
  some (((20 + (h3.1 67 6)) - 1), h3)
def F_381_29  (h : sm_H) : Option (Int32 × sm_H) :=
  some ((-1), h)
def F_381_0 (x1 : Int32) (x2 : Int32) (h : sm_H) : Option (Int32 × sm_H) :=
  if (h.1 67 6) = 12 then (F_381_29 h)
  else (if x1 = 7 then (F_381_31 x1 x2 h)
  else (if x1 = 19 then (F_381_31 x1 x2 h)
  else ((F_387 x1 h).bind fun q4 =>
  if q4.1 = 0 then (F_381_29 q4.2)
  else (F_381_31 x1 x2 q4.2))))
abbrev F_381 (x1 : Int32) (x2 : Int32) (h : sm_H) : Option (Int32 × sm_H) := F_381_0 x1 x2 h
def F_395_49  (h : sm_H) : Option (Int32 × sm_H) :=
  (F_388 1 h).bind fun q1 =>
  some (q1.1, q1.2)
def F_395_314 (z1 : Int32) (z2 : Int32) (z3 : Int32) (h : sm_H) : Option (Int32 × sm_H) :=
  (F_340 z1 z2 z3 0 h).bind fun q2 =>
  some (q2.1, q2.2)
def F_395_291 (y1 : Int32) (y2 : Int32) (y5 : Int32) (y6 : Int32) (z1 : Int32) (h : sm_H) : Option (Int32 × sm_H) :=
  if y5 = 3 then (F_395_314 z1 y6 0 h)
  else (if y5 = 1 then (F_395_314 z1 y6 y2 h)
  else (F_395_314 z1 y6 y1 h))
def F_395_260 (y1 : Int32) (y2 : Int32) (y4 : Int32) (y5 : Int32) (y6 : Int32) (h : sm_H) : Option (Int32 × sm_H) :=
  (F_311 y4 h).bind fun q3 =>
  if y5 = 1 then (F_395_291 y1 y2 y5 y6 36 q3)
  else (if y5 = 2 then (F_395_291 y1 y2 y5 y6 37 q3)
  else (F_395_291 y1 y2 y5 y6 38 q3))
def F_395_257 (y1 : Int32) (y2 : Int32) (y4 : Int32) (y5 : Int32) (y6 : Int32) (z1 : Int32) (h : sm_H) : Option (Int32 × sm_H) :=
  (F_309 z1 h).bind fun q4 =>
  F_395_260 y1 y2 y4 y5 y6 q4
def F_395_236 (y1 : Int32) (y2 : Int32) (y4 : Int32) (y5 : Int32) (y6 : Int32) (z1 : Int32) (h : sm_H) : Option (Int32 × sm_H) :=
  (F_308 z1 h).bind fun q5 =>
  if 3 ≤ y5 then (F_395_260 y1 y2 y4 y5 y6 q5)
  else (if y5 = 1 then (F_395_257 y1 y2 y4 y5 y6 y2 q5)
  else (F_395_257 y1 y2 y4 y5 y6 y1 q5))
def F_395_184 (y1 : Int32) (y2 : Int32) (y4 : Int32) (y5 : Int32) (y6 : Int32) (h : sm_H) : Option (Int32 × sm_H) :=
  (some (sm_wI h 67 3 0)).bind fun h6 =>
  if y5 = 0 then ((ldI h6 90 100 y6).bind fun v9 =>
  some (v9, h6))
  else (if y5 ≤ 3 then (if y5 = 3 then (F_395_236 y1 y2 y4 y5 y6 y2 h6)
  else ((ldI h6 72 300 y4).bind fun v7 =>
  F_395_236 y1 y2 y4 y5 y6 v7 h6))
  else ((F_396 y6 y2 y5 h6).bind fun q8 =>
  some (q8.1, q8.2)))
def F_395_177  (h : sm_H) : Option (Int32 × sm_H) :=
  (F_388 7 h).bind fun q10 =>
  some (q10.1, q10.2)
def F_395_126 (y1 : Int32) (y2 : Int32) (y4 : Int32) (y5 : Int32) (y6 : Int32) (z0 : Int32) (h : sm_H) : Option (Int32 × sm_H) :=
  if z0 = 0 then ((F_388 3 h).bind fun q14 =>
  some (q14.1, q14.2))
  else (if y6 = (-1) then ((F_388 6 h).bind fun q13 =>
  some (q13.1, q13.2))
  else ((F_392 y1 y6 h).bind fun q11 =>
  if q11.1 = 0 then (F_395_177 q11.2)
  else (if y5 = 2 then ((F_295 y1 y2 q11.2).bind fun q12 =>
  if q12.1 = 0 then (F_395_177 q12.2)
  else (F_395_184 y1 y2 y4 y5 y6 q12.2))
  else (F_395_184 y1 y2 y4 y5 y6 q11.2))))
def F_395_125 (y1 : Int32) (y2 : Int32) (y4 : Int32) (y5 : Int32) (y6 : Int32) (h : sm_H) : Option (Int32 × sm_H) :=
  F_395_126 y1 y2 y4 y5 y6 0 h
def F_395_121 (y1 : Int32) (y2 : Int32) (y4 : Int32) (y5 : Int32) (y6 : Int32) (h : sm_H) : Option (Int32 × sm_H) :=
  F_395_126 y1 y2 y4 y5 y6 1 h
def F_395_36 (y1 : Int32) (y2 : Int32) (y3 : Int32) (y4 : Int32) (y5 : Int32) (h : sm_H) : Option (Int32 × sm_H) :=
  (F_315 (Int32.toInt64 y5) 0 8 h).bind fun q15 =>
  if q15.1 = 0 then ((F_315 (Int32.toInt64 y3) 0 99 q15.2).bind fun q16 =>
  if q16.1 = 0 then ((F_394 y2 y3 y4 y5 q16.2).bind fun q17 =>
  if q17.1 = (-1) then (F_395_121 y1 y2 y4 y5 q17.1 q17.2)
  else (if y5 = 8 then ((ldI q17.2 88 100 q17.1).bind fun v18 =>
  if v18 < 2 then (F_395_125 y1 y2 y4 y5 q17.1 q17.2)
  else ((ldI q17.2 88 100 q17.1).bind fun v19 =>
  if 6 < v19 then (F_395_125 y1 y2 y4 y5 q17.1 q17.2)
  else (F_395_121 y1 y2 y4 y5 q17.1 q17.2)))
  else (F_395_121 y1 y2 y4 y5 q17.1 q17.2)))
  else ((F_388 2 q16.2).bind fun q20 =>
  some (q20.1, q20.2)))
  else (F_395_49 q15.2)
def F_395_0 (x1 : Int32) (x2 : Int32) (x3 : Int32) (x4 : Int32) (x5 : Int32) (h : sm_H) : Option (Int32 × sm_H) :=
  (some (sm_wI h 67 19 0)).bind fun h21 =>
  (F_387 x1 h21).bind fun q22 =>
  if q22.1 = 0 then (F_395_49 q22.2)
  else ((F_387 x2 q22.2).bind fun q23 =>
  if q23.1 = 0 then (F_395_49 q23.2)
  else (if 4 ≤ x5 then (F_395_36 x1 x2 x3 x4 x5 q23.2)
  else ((F_303 x4 q23.2).bind fun q24 =>
  if q24.1 = 0 then (F_395_49 q24.2)
  else (F_395_36 x1 x2 x3 x4 x5 q24.2))))
abbrev F_395 (x1 : Int32) (x2 : Int32) (x3 : Int32) (x4 : Int32) (x5 : Int32) (h : sm_H) : Option (Int32 × sm_H) := F_395_0 x1 x2 x3 x4 x5 h
def F_418_315  (h : sm_H) : Option (Int32 × sm_H) :=
  some (1, h)
def F_418_238B (s : (Int32 × sm_H)) : Option ((Int32 × sm_H) ⊕ (Int32 × sm_H)) :=
  if (s.2.1 67 82) ≤ s.1 then ((F_418_315 s.2).map fun r => (.inr r))
  else ((ldI s.2 112 3000 s.1).bind fun v1 =>
  (some (sm_wJ s.2 67 83 (((s.2.2.1 67 83) <<< (Int32.toInt64 8 &&& 63)) ||| (Int32.toInt64 v1)))).bind fun h2 =>
  (some (s.1 + 1 : Int32)).bind fun v3 =>
  some (.inl (v3, h2)))
def F_418_238 (y2 : Int32) (h : sm_H) : Option (Int32 × sm_H) := lp F_418_238B 1000000 (y2, h)
def F_418_186  (h : sm_H) : Option ((sm_H) ⊕ (Int32 × sm_H)) :=
  (some (sm_wI h 67 82 ((h.1 67 82) + 1))).bind fun h4 =>
  some (.inl (h4))
def F_418_158B (s : (sm_H)) : Option ((sm_H) ⊕ (Int32 × sm_H)) :=
  (F_414 (s.1 67 82) s).bind fun q5 =>
  (F_415 q5.1 q5.2).bind fun q6 =>
  if q6.1 = 0 then ((F_414 (q6.2.1 67 82) q6.2).bind fun q7 =>
  (F_416 q7.1 q7.2).bind fun q8 =>
  if q8.1 = 0 then ((some (sm_wI q8.2 67 80 1)).bind fun h9 =>
  if ((h9.1 67 82) - (h9.1 67 81)) ≤ 8 then ((some (sm_wJ h9 67 83 0)).bind fun h10 =>
  (some ((h10.1 67 81) : Int32)).bind fun v11 =>
  (F_418_238 v11 h10).map fun r => (.inr r))
  else ((F_413 2 (h9.1 67 81) h9).bind fun q12 =>
  if q12.1 = 0 ∨ q12.1 = 1 then some (.inr (q12.1, q12.2)) else none))
  else (F_418_186 q8.2))
  else (F_418_186 q6.2)
def F_418_158  (h : sm_H) : Option (Int32 × sm_H) := lp F_418_158B 1000000 (h)
def F_418_151 (y1 : Int32) (h : sm_H) : Option (Int32 × sm_H) :=
  (F_415 y1 h).bind fun q13 =>
  if q13.1 = 0 then ((F_417 y1 q13.2).bind fun q14 =>
  if q14.1 = 0 then ((F_413 1 (q14.2.1 67 81) q14.2).bind fun q15 =>
  if q15.1 = 0 ∨ q15.1 = 1 then some (q15.1, q15.2) else none)
  else ((some (sm_wI q14.2 67 80 5)).bind fun h16 =>
  (some (sm_wI h16 67 82 ((h16.1 67 79) + 1))).bind fun h17 =>
  (some (sm_wJ h17 67 83 (Int32.toInt64 y1))).bind fun h18 =>
  F_418_315 h18))
  else (F_418_158 q13.2)
def F_418_146  (h : sm_H) : Option (Int32 × sm_H) :=
  (F_419 h).bind fun q19 =>
  if q19.1 = 0 ∨ q19.1 = 1 then some (q19.1, q19.2) else none
def F_418_101 (z1 : Int32) (h : sm_H) : Option (Int32 × sm_H) :=
  (some (sm_wI h 67 80 z1)).bind fun h20 =>
  (some (sm_wI h20 67 82 ((h20.1 67 79) + 1))).bind fun h21 =>
  F_418_315 h21
def F_418_89 (y1 : Int32) (h : sm_H) : Option (Int32 × sm_H) :=
  if y1 = 40 then (F_418_101 3 h)
  else (F_418_101 4 h)
def F_418_26  (h : sm_H) : Option ((sm_H) ⊕ (Int32 × sm_H)) :=
  (some (sm_wI h 67 79 ((h.1 67 79) + 1))).bind fun h22 =>
  some (.inl (h22))
def F_418_0B (s : (sm_H)) : Option ((sm_H) ⊕ (Int32 × sm_H)) :=
  (F_414 (s.1 67 79) s).bind fun q23 =>
  if q23.1 = 32 then (F_418_26 q23.2)
  else ((F_414 (q23.2.1 67 79) q23.2).bind fun q24 =>
  if q24.1 = 10 then (F_418_26 q24.2)
  else ((some (sm_wI q24.2 67 81 (q24.2.1 67 79))).bind fun h25 =>
  (some (sm_wI h25 67 82 (h25.1 67 79))).bind fun h26 =>
  (F_414 (h26.1 67 79) h26).bind fun q27 =>
  if q27.1 = (-1) then ((some (sm_wI q27.2 67 80 0)).bind fun h31 =>
  (F_418_315 h31).map fun r => (.inr r))
  else (if q27.1 = 40 then ((F_418_89 q27.1 q27.2).map fun r => (.inr r))
  else (if q27.1 = 41 then ((F_418_89 q27.1 q27.2).map fun r => (.inr r))
  else ((F_416 q27.1 q27.2).bind fun q28 =>
  if q28.1 = 0 then (if q27.1 = 45 then ((F_414 ((q28.2.1 67 79) + 1) q28.2).bind fun q29 =>
  (F_416 q29.1 q29.2).bind fun q30 =>
  if q30.1 = 0 then ((F_418_151 q27.1 q30.2).map fun r => (.inr r))
  else ((F_418_146 q30.2).map fun r => (.inr r)))
  else ((F_418_151 q27.1 q28.2).map fun r => (.inr r)))
  else ((F_418_146 q28.2).map fun r => (.inr r)))))))
def F_418_0  (h : sm_H) : Option (Int32 × sm_H) := lp F_418_0B 1000000 (h)
abbrev F_418  (h : sm_H) : Option (Int32 × sm_H) := F_418_0  h
def F_423_0 (x1 : Int32) (h : sm_H) : Option (Int32 × sm_H) :=
  (F_418 h).bind fun q1 =>
  if q1.1 = 0 then (some (0, q1.2))
  else (if (q1.2.1 67 80) = x1 then ((F_420 q1.2).bind fun q2 =>
  some (1, q2))
  else ((F_421 q1.2).bind fun q3 =>
  if q3.1 = 0 ∨ q3.1 = 1 then some (q3.1, q3.2) else none))
abbrev F_423 (x1 : Int32) (h : sm_H) : Option (Int32 × sm_H) := F_423_0 x1 h
def F_424_64  (h : sm_H) : Option (Int32 × sm_H) :=
  (F_420 h).bind fun q1 =>
  some (1, q1)
def F_424_53  (h : sm_H) : Option (Int32 × sm_H) :=
  (F_413 6 (h.1 67 81) h).bind fun q2 =>
  if q2.1 = 0 ∨ q2.1 = 1 then some (q2.1, q2.2) else none
def F_424_0 (x1 : Int32) (h : sm_H) : Option (Int32 × sm_H) :=
  (F_418 h).bind fun q3 =>
  if q3.1 = 0 then (some (0, q3.2))
  else (if (q3.2.1 67 80) = 1 then ((F_422 (q3.2.2.1 67 83) q3.2).bind fun q4 =>
  (some (sm_wI q4.2 67 105 q4.1)).bind fun h5 =>
  if (h5.1 67 105) = (-1) then (F_424_53 h5)
  else (if (h5.1 67 105) = 0 then (if x1 = 0 then (F_424_53 h5)
  else (F_424_64 h5))
  else (F_424_64 h5)))
  else ((F_421 q3.2).bind fun q6 =>
  if q6.1 = 0 ∨ q6.1 = 1 then some (q6.1, q6.2) else none))
abbrev F_424 (x1 : Int32) (h : sm_H) : Option (Int32 × sm_H) := F_424_0 x1 h
def F_426_0  (h : sm_H) : Option (Int32 × sm_H) :=
  (F_418 h).bind fun q1 =>
  if q1.1 = 0 then (some (0, q1.2))
  else (if (q1.2.1 67 80) = 3 then ((F_425 q1.2).bind fun q2 =>
  if q2.1 = 0 ∨ q2.1 = 1 then some (q2.1, q2.2) else none)
  else ((F_421 q1.2).bind fun q3 =>
  if q3.1 = 0 ∨ q3.1 = 1 then some (q3.1, q3.2) else none))
abbrev F_426  (h : sm_H) : Option (Int32 × sm_H) := F_426_0  h
def F_427_0  (h : sm_H) : Option (Int32 × sm_H) :=
  (F_423 4 h).bind fun q1 =>
  if q1.1 = 0 then (some (0, q1.2))
  else ((some (sm_wI q1.2 67 86 ((q1.2.1 67 86) - 1))).bind fun h2 =>
  some (1, h2))
abbrev F_427  (h : sm_H) : Option (Int32 × sm_H) := F_427_0  h
def F_440_318 (z0 : Int32) (h : sm_H) : Option (Int32 × sm_H) :=
  some (z0, h)
def F_440_0 (x0 : Int64) (h : sm_H) : Option (Int32 × sm_H) :=
  (F_441 x0 h).bind fun q1 =>
  if q1.1 = (-1) then ((F_439 105 102 0 0 0 q1.2).bind fun q2 =>
  if (lg_cmp x0 q2.1) = 0 then (some (2, q2.2))
  else ((F_439 108 101 116 0 0 q2.2).bind fun q3 =>
  if (lg_cmp x0 q3.1) = 0 then (some (3, q3.2))
  else ((F_439 100 111 0 0 0 q3.2).bind fun q4 =>
  if (lg_cmp x0 q4.1) = 0 then (some (4, q4.2))
  else ((F_439 108 111 111 112 0 q4.2).bind fun q5 =>
  if (lg_cmp x0 q5.1) = 0 then (some (5, q5.2))
  else ((F_439 116 114 121 0 0 q5.2).bind fun q6 =>
  if (lg_cmp x0 q6.1) = 0 then (some (6, q6.2))
  else ((F_439 97 115 0 0 0 q6.2).bind fun q7 =>
  if (lg_cmp x0 q7.1) = 0 then (some (7, q7.2))
  else ((F_439 102 111 114 99 101 q7.2).bind fun q8 =>
  if (lg_cmp x0 q8.1) = 0 then (some (8, q8.2))
  else ((F_439 110 117 108 108 0 q8.2).bind fun q9 =>
  if (lg_cmp x0 q9.1) = 0 then (some (9, q9.2))
  else ((F_439 114 111 119 0 0 q9.2).bind fun q10 =>
  if (lg_cmp x0 q10.1) = 0 then (some (10, q10.2))
  else ((F_439 115 105 122 101 0 q10.2).bind fun q11 =>
  if (lg_cmp x0 q11.1) = 0 then (some (11, q11.2))
  else ((F_439 103 101 116 0 0 q11.2).bind fun q12 =>
  if (lg_cmp x0 q12.1) = 0 then (some (12, q12.2))
  else ((F_439 115 101 116 0 0 q12.2).bind fun q13 =>
  if (lg_cmp x0 q13.1) = 0 then (some (13, q13.2))
  else ((F_439 105 115 0 0 0 q13.2).bind fun q14 =>
  if (lg_cmp x0 q14.1) = 0 then (some (14, q14.2))
  else ((F_439 115 97 109 101 0 q14.2).bind fun q15 =>
  if (lg_cmp x0 q15.1) = 0 then (some (15, q15.2))
  else ((F_439 116 104 114 111 119 q15.2).bind fun q16 =>
  if (lg_cmp x0 q16.1) = 0 then (some (16, q16.2))
  else ((F_439 99 111 100 101 0 q16.2).bind fun q17 =>
  if (lg_cmp x0 q17.1) = 0 then (F_440_318 17 q17.2)
  else (F_440_318 (-1) q17.2)))))))))))))))))
  else (some (1, q1.2))
abbrev F_440 (x0 : Int64) (h : sm_H) : Option (Int32 × sm_H) := F_440_0 x0 h
def F_446_194 (y5 : Int32) (z1 : Int32) (h : sm_H) : Option (Int32 × sm_H) :=
  (F_424 z1 h).bind fun q1 =>
  if q1.1 = 0 then (some (0, q1.2))
  else ((stI q1.2 122 24 y5 (q1.2.1 67 105)).bind fun h2 =>
  some (1, h2))
def F_446_182 (y2 : Int32) (y5 : Int32) (h : sm_H) : Option (Int32 × sm_H) :=
  if y2 = 16 then (F_446_194 y5 1 h)
  else (F_446_194 y5 0 h)
def F_446_143 (y2 : Int32) (y5 : Int32) (z1 : Int32) (z2 : Int32) (h : sm_H) : Option (Int32 × sm_H) :=
  (stI h 122 24 z1 z2).bind fun h3 =>
  if y2 = 7 then (F_446_182 y2 y5 h3)
  else (if y2 = 8 then (F_446_182 y2 y5 h3)
  else (if y2 = 9 then (F_446_182 y2 y5 h3)
  else (if y2 = 10 then (F_446_182 y2 y5 h3)
  else (if y2 = 14 then (F_446_182 y2 y5 h3)
  else (if y2 = 16 then (F_446_182 y2 y5 h3)
  else (some (1, h3)))))))
def F_446_114 (y1 : Int32) (y2 : Int32) (y3 : Int32) (y4 : Int32) (z1 : Int32) (h : sm_H) : Option (Int32 × sm_H) :=
  (F_445 z1 y1 h).bind fun q4 =>
  (some (((q4.1 67 102) - 1) : Int32)).bind fun v5 =>
  if y2 = (-1) then (F_446_143 y2 v5 v5 y3 q4)
  else (F_446_143 y2 v5 v5 y4 q4)
def F_446_89 (y1 : Int32) (y2 : Int32) (y3 : Int32) (h : sm_H) : Option (Int32 × sm_H) :=
  (F_441 (h.2.1 67 83) h).bind fun q6 =>
  (F_420 q6.2).bind fun q7 =>
  if y2 = (-1) then (F_446_114 y1 y2 y3 q6.1 18 q7)
  else (F_446_114 y1 y2 y3 q6.1 y2 q7)
def F_446_67 (y1 : Int32) (y2 : Int32) (z0 : Int32) (h : sm_H) : Option (Int32 × sm_H) :=
  if y2 = (-1) then (if z0 = (-1) then ((F_413 6 (h.1 67 81) h).bind fun q8 =>
  if q8.1 = 0 ∨ q8.1 = 1 then some (q8.1, q8.2) else none)
  else (F_446_89 y1 y2 z0 h))
  else (F_446_89 y1 y2 z0 h)
def F_446_42 (y1 : Int32) (h : sm_H) : Option (Int32 × sm_H) :=
  (F_440 (h.2.1 67 83) h).bind fun q9 =>
  if q9.1 = (-1) then ((F_443 (q9.2.2.1 67 83) q9.2).bind fun q10 =>
  F_446_67 y1 q9.1 q10.1 q10.2)
  else (F_446_67 y1 q9.1 (-1) q9.2)
def F_446_19  (h : sm_H) : Option (Int32 × sm_H) :=
  some (0, h)
def F_446_0  (h : sm_H) : Option (Int32 × sm_H) :=
  (some ((h.1 67 81) : Int32)).bind fun v11 =>
  (F_425 h).bind fun q12 =>
  if q12.1 = 0 then (F_446_19 q12.2)
  else ((F_418 q12.2).bind fun q13 =>
  if q13.1 = 0 then (F_446_19 q13.2)
  else (if (q13.2.1 67 80) = 1 then (F_446_42 v11 q13.2)
  else (if (q13.2.1 67 80) = 5 then (F_446_42 v11 q13.2)
  else ((F_421 q13.2).bind fun q14 =>
  if q14.1 = 0 ∨ q14.1 = 1 then some (q14.1, q14.2) else none))))
abbrev F_446  (h : sm_H) : Option (Int32 × sm_H) := F_446_0  h
def F_448_165 (y1 : Int32) (y2 : Int32) (z0 : Int32) (h : sm_H) : Option (Int32 × sm_H) :=
  if z0 = (-1) then (some (0, h))
  else ((stI h 69 24 0 y2).bind fun h1 =>
  (stI h1 69 24 1 (y1 - (h1.1 67 94))).bind fun h2 =>
  (some (sm_wI h2 67 3 2)).bind fun h3 =>
  (F_429 5 0 z0 0 h3).bind fun q4 =>
  (F_447 q4.1 q4.2).bind fun q5 =>
  if q5.1 = 0 ∨ q5.1 = 1 then some (q5.1, q5.2) else none)
def F_448_110 (y1 : Int32) (h : sm_H) : Option (Int32 × sm_H) :=
  if y1 = 400 then ((F_413 6 (h.1 67 81) h).bind fun q11 =>
  if q11.1 = 0 ∨ q11.1 = 1 then some (q11.1, q11.2) else none)
  else ((F_420 h).bind fun q6 =>
  (ldI q6 118 400 y1).bind fun v7 =>
  (F_430 2 v7 0 0 q6).bind fun q8 =>
  if q8.1 = (-1) then (F_448_165 y1 q8.1 (-1) q8.2)
  else ((ldI q8.2 118 400 y1).bind fun v9 =>
  (F_428 v9 q8.2).bind fun q10 =>
  F_448_165 y1 q8.1 q10.1 q10.2))
def F_448_83B (s : (Int32 × sm_H)) : Option ((Int32 × sm_H) ⊕ (Int32 × sm_H)) :=
  if 400 ≤ s.1 then ((F_448_110 s.1 s.2).map fun r => (.inr r))
  else ((ldJ s.2 117 400 s.1).bind fun v12 =>
  if (lg_cmp v12 (s.2.2.1 67 83)) = 0 then ((F_448_110 s.1 s.2).map fun r => (.inr r))
  else ((some (s.1 + 1 : Int32)).bind fun v13 =>
  some (.inl (v13, s.2))))
def F_448_83 (y1 : Int32) (h : sm_H) : Option (Int32 × sm_H) := lp F_448_83B 1000000 (y1, h)
def F_448_0  (h : sm_H) : Option (Int32 × sm_H) :=
  (F_418 h).bind fun q14 =>
  if q14.1 = 0 then (some (0, q14.2))
  else ((some (sm_wI q14.2 67 106 (q14.2.1 67 81))).bind fun h15 =>
  if (h15.1 67 80) = 2 then ((F_420 h15).bind fun q19 =>
  (F_430 0 (q19.1 67 85) 0 (q19.2.1 67 84) q19).bind fun q20 =>
  (F_435 q20.1 q20.2).bind fun q21 =>
  (F_447 q21.1 q21.2).bind fun q22 =>
  if q22.1 = 0 ∨ q22.1 = 1 then some (q22.1, q22.2) else none)
  else (if (h15.1 67 80) = 3 then ((F_446 h15).bind fun q18 =>
  if q18.1 = 0 ∨ q18.1 = 1 then some (q18.1, q18.2) else none)
  else (if (h15.1 67 80) = 1 then ((some ((h15.1 67 94) : Int32)).bind fun v16 =>
  F_448_83 v16 h15)
  else ((F_421 h15).bind fun q17 =>
  if q17.1 = 0 ∨ q17.1 = 1 then some (q17.1, q17.2) else none))))
abbrev F_448  (h : sm_H) : Option (Int32 × sm_H) := F_448_0  h
def F_450_0  (h : sm_H) : Option (Int32 × sm_H) :=
  (F_418 h).bind fun q1 =>
  if q1.1 = 0 then (some (0, q1.2))
  else (if (q1.2.1 67 80) = 1 then ((some (sm_wJ q1.2 67 108 (q1.2.2.1 67 83))).bind fun h2 =>
  (F_420 h2).bind fun q3 =>
  some (1, q3))
  else ((F_421 q1.2).bind fun q4 =>
  if q4.1 = 0 ∨ q4.1 = 1 then some (q4.1, q4.2) else none))
abbrev F_450  (h : sm_H) : Option (Int32 × sm_H) := F_450_0  h
def F_456_46  (h : sm_H) : Option (Int32 × sm_H) :=
  some (0, h)
def F_456_27  (h : sm_H) : Option (Int32 × sm_H) :=
  (F_421 h).bind fun q1 =>
  if q1.1 = 0 ∨ q1.1 = 1 then some (q1.1, q1.2) else none
def F_456_0 (x1 : Int32) (h : sm_H) : Option (Int32 × sm_H) :=
  (F_418 h).bind fun q2 =>
  if q2.1 = 0 then (some (0, q2.2))
  else (if (q2.2.1 67 80) = 3 then ((ldI q2.2 122 24 x1).bind fun v3 =>
  if v3 = 3 then (F_456_27 q2.2)
  else ((F_425 q2.2).bind fun q4 =>
  if q4.1 = 0 then (F_456_46 q4.2)
  else ((F_450 q4.2).bind fun q5 =>
  if q5.1 = 0 then (F_456_46 q5.2)
  else ((ldI q5.2 122 24 x1).bind fun v6 =>
  (stJ q5.2 126 72 ((3 * x1) + v6) (q5.2.2.1 67 108)).bind fun h7 =>
  (ldI h7 122 24 x1).bind fun v8 =>
  (stI h7 122 24 x1 (v8 + 1)).bind fun h9 =>
  (F_448 h9).bind fun q10 =>
  if q10.1 = 0 ∨ q10.1 = 1 then some (q10.1, q10.2) else none))))
  else (F_456_27 q2.2))
abbrev F_456 (x1 : Int32) (h : sm_H) : Option (Int32 × sm_H) := F_456_0 x1 h
def F_460_745 (z0 : Int32) (h : sm_H) : Option (Int32 × sm_H) :=
  some (z0, h)
def F_460_649 (y5 : Int32) (z0 : Int32) (h : sm_H) : Option (Int32 × sm_H) :=
  (F_430 31 y5 0 0 h).bind fun q1 =>
  (F_436 q1.1 z0 q1.2).bind fun q2 =>
  some (q2.1, q2.2)
def F_460_601 (y2 : Int32) (y6 : Int32) (z0 : Int32) (h : sm_H) : Option (Int32 × sm_H) :=
  (F_307 y2 h).bind fun q3 =>
  (F_430 23 q3.1 0 0 q3.2).bind fun q4 =>
  (F_438 q4.1 y2 y6 z0 q4.2).bind fun q5 =>
  some (q5.1, q5.2)
def F_460_575 (y2 : Int32) (y4 : Int32) (z0 : Int32) (h : sm_H) : Option (Int32 × sm_H) :=
  if z0 = (-1) then (F_460_601 y2 z0 (-1) h)
  else ((F_307 y2 h).bind fun q6 =>
  (F_294 q6.1 q6.2).bind fun q7 =>
  (F_433 y4 q7.1 q7.2).bind fun q8 =>
  F_460_601 y2 z0 q8.1 q8.2)
def F_460_527 (y2 : Int32) (z0 : Int32) (h : sm_H) : Option (Int32 × sm_H) :=
  (F_307 y2 h).bind fun q9 =>
  (F_430 22 q9.1 0 0 q9.2).bind fun q10 =>
  (F_437 q10.1 y2 z0 q10.2).bind fun q11 =>
  some (q11.1, q11.2)
def F_460_501 (z0 : Int32) (h : sm_H) : Option (Int32 × sm_H) :=
  some (z0, h)
def F_460_445 (y5 : Int32) (z0 : Int32) (h : sm_H) : Option (Int32 × sm_H) :=
  (F_430 20 y5 0 0 h).bind fun q12 =>
  (F_436 q12.1 z0 q12.2).bind fun q13 =>
  some (q13.1, q13.2)
def F_460_422 (z0 : Int32) (h : sm_H) : Option (Int32 × sm_H) :=
  some (z0, h)
def F_460_390 (z0 : Int32) (h : sm_H) : Option (Int32 × sm_H) :=
  some (z0, h)
def F_460_368 (y2 : Int32) (z0 : Int32) (h : sm_H) : Option (Int32 × sm_H) :=
  if z0 = (-1) then (F_460_390 (-1) h)
  else ((F_431 13 0 z0 y2 h).bind fun q14 =>
  F_460_390 q14.1 q14.2)
def F_460_358 (y2 : Int32) (y5 : Int32) (h : sm_H) : Option (Int32 × sm_H) :=
  (F_428 y5 h).bind fun q15 =>
  F_460_368 y2 q15.1 q15.2
def F_460_198 (y2 : Int32) (y3 : Int32) (y5 : Int32) (z0 : Int32) (h : sm_H) : Option (Int32 × sm_H) :=
  (F_433 y2 z0 h).bind fun q16 =>
  (F_433 y3 z0 q16.2).bind fun q17 =>
  (F_430 3 y5 z0 0 q17.2).bind fun q18 =>
  (F_437 q18.1 q16.1 q17.1 q18.2).bind fun q19 =>
  some (q19.1, q19.2)
def F_460_192 (y2 : Int32) (y3 : Int32) (y5 : Int32) (h : sm_H) : Option (Int32 × sm_H) :=
  F_460_198 y2 y3 y5 6 h
def F_460_74 (y1 : Int32) (y2 : Int32) (y3 : Int32) (z0 : Int32) (h : sm_H) : Option (Int32 × sm_H) :=
  (ldI h 122 24 y1).bind fun v20 =>
  (ldI h 119 24 y1).bind fun v21 =>
  if v21 = 1 then ((F_459 y2 h).bind fun q22 =>
  if q22.1 = 6 then (F_460_192 y2 y3 v20 q22.2)
  else ((F_459 y3 q22.2).bind fun q23 =>
  if q23.1 = 6 then (F_460_192 y2 y3 v20 q23.2)
  else (F_460_198 y2 y3 v20 5 q23.2)))
  else (if v21 = 2 then ((F_461 y2 y3 z0 h).bind fun q24 =>
  some (q24.1, q24.2))
  else (if v21 = 3 then ((ldI h 123 24 y1).bind fun v25 =>
  (some (sm_wI h 67 94 v25)).bind fun h26 =>
  (F_432 8 0 y3 y2 h26).bind fun q27 =>
  some (q27.1, q27.2))
  else (if v21 = 4 then ((F_433 y2 0 h).bind fun q28 =>
  (F_432 8 0 y3 q28.1 q28.2).bind fun q29 =>
  some (q29.1, q29.2))
  else (if v21 = 5 then ((F_462 y1 h).bind fun q30 =>
  some (q30.1, q30.2))
  else (if v21 = 6 then ((F_307 y2 h).bind fun q31 =>
  (F_433 y3 q31.1 q31.2).bind fun q32 =>
  (ldI q32.2 123 24 y1).bind fun v33 =>
  (some (sm_wI q32.2 67 94 v33)).bind fun h34 =>
  (F_432 15 19 y2 q32.1 h34).bind fun q35 =>
  some (q35.1, q35.2))
  else (if v21 = 7 then ((F_433 y2 v20 h).bind fun q36 =>
  some (q36.1, q36.2))
  else (if v21 = 8 then ((F_307 y2 h).bind fun q37 =>
  (F_297 q37.1 v20 1 1 q37.2).bind fun q38 =>
  if q38.1 = 0 then ((F_413 7 (q38.2.1 67 106) q38.2).bind fun q39 =>
  if q39.1 = 0 then (F_460_368 y2 (-1) q39.2)
  else (F_460_358 y2 v20 q39.2))
  else (F_460_358 y2 v20 q38.2))
  else (if v21 = 9 then ((F_291 v20 h).bind fun q40 =>
  (F_458 q40.1 q40.2).bind fun q41 =>
  if q41.1 = 0 then (F_460_422 (-1) q41.2)
  else ((F_430 0 v20 0 (-1) q41.2).bind fun q42 =>
  (F_435 q42.1 q42.2).bind fun q43 =>
  F_460_422 q43.1 q43.2))
  else (if v21 = 10 then ((F_293 v20 h).bind fun q44 =>
  (F_458 q44.1 q44.2).bind fun q45 =>
  if q45.1 = 0 then (F_460_445 v20 (-1) q45.2)
  else ((F_433 y2 5 q45.2).bind fun q46 =>
  F_460_445 v20 q46.1 q46.2))
  else (if v21 = 11 then ((F_307 y2 h).bind fun q47 =>
  (F_293 q47.1 q47.2).bind fun q48 =>
  (F_458 q48.1 q48.2).bind fun q49 =>
  if q49.1 = 0 then (F_460_501 (-1) q49.2)
  else ((F_307 y2 q49.2).bind fun q50 =>
  (F_430 21 q50.1 0 0 q50.2).bind fun q51 =>
  (F_436 q51.1 y2 q51.2).bind fun q52 =>
  F_460_501 q52.1 q52.2))
  else (if v21 = 12 then ((F_307 y2 h).bind fun q53 =>
  (F_293 q53.1 q53.2).bind fun q54 =>
  (F_458 q54.1 q54.2).bind fun q55 =>
  if q55.1 = 0 then (F_460_527 y2 (-1) q55.2)
  else ((F_433 y3 5 q55.2).bind fun q56 =>
  F_460_527 y2 q56.1 q56.2))
  else (if v21 = 13 then ((F_307 y2 h).bind fun q57 =>
  (F_293 q57.1 q57.2).bind fun q58 =>
  (F_458 q58.1 q58.2).bind fun q59 =>
  if q59.1 = 0 then (F_460_575 y2 z0 (-1) q59.2)
  else ((F_433 y3 5 q59.2).bind fun q60 =>
  F_460_575 y2 z0 q60.1 q60.2))
  else (if v21 = 14 then ((F_291 v20 h).bind fun q61 =>
  (F_458 q61.1 q61.2).bind fun q62 =>
  if q62.1 = 0 then (F_460_649 v20 (-1) q62.2)
  else ((F_433 y2 7 q62.2).bind fun q63 =>
  F_460_649 v20 q63.1 q63.2))
  else (if v21 = 15 then ((F_433 y2 7 h).bind fun q64 =>
  (F_433 y3 7 q64.2).bind fun q65 =>
  (F_430 32 0 0 0 q65.2).bind fun q66 =>
  (F_437 q66.1 q64.1 q65.1 q66.2).bind fun q67 =>
  some (q67.1, q67.2))
  else (if v21 = 16 then ((F_307 y2 h).bind fun q68 =>
  (F_295 q68.1 19 q68.2).bind fun q69 =>
  (F_458 q69.1 q69.2).bind fun q70 =>
  if q70.1 = 0 then (F_460_745 (-1) q70.2)
  else ((F_307 y2 q70.2).bind fun q71 =>
  (F_430 19 v20 q71.1 0 q71.2).bind fun q72 =>
  (F_436 q72.1 y2 q72.2).bind fun q73 =>
  F_460_745 q73.1 q73.2))
  else (if v21 = 17 then ((F_433 y2 19 h).bind fun q74 =>
  (F_430 33 0 0 0 q74.2).bind fun q75 =>
  (F_436 q75.1 q74.1 q75.2).bind fun q76 =>
  some (q76.1, q76.2))
  else ((F_463 y1 v20 h).bind fun q77 =>
  some (q77.1, q77.2))))))))))))))))))
def F_460_48 (y1 : Int32) (y2 : Int32) (z0 : Int32) (h : sm_H) : Option (Int32 × sm_H) :=
  (ldI h 124 24 y1).bind fun v78 =>
  if v78 ≤ 2 then (F_460_74 y1 y2 z0 (-1) h)
  else ((ldI h 125 480 ((20 * y1) + 2)).bind fun v79 =>
  F_460_74 y1 y2 z0 v79 h)
def F_460_22 (y1 : Int32) (z0 : Int32) (h : sm_H) : Option (Int32 × sm_H) :=
  (ldI h 124 24 y1).bind fun v80 =>
  if v80 ≤ 1 then (F_460_48 y1 z0 (-1) h)
  else ((ldI h 125 480 ((20 * y1) + 1)).bind fun v81 =>
  F_460_48 y1 z0 v81 h)
def F_460_0 (x1 : Int32) (h : sm_H) : Option (Int32 × sm_H) :=
  (ldI h 124 24 x1).bind fun v82 =>
  if v82 ≤ 0 then (F_460_22 x1 (-1) h)
  else ((ldI h 125 480 (20 * x1)).bind fun v83 =>
  F_460_22 x1 v83 h)
abbrev F_460 (x1 : Int32) (h : sm_H) : Option (Int32 × sm_H) := F_460_0 x1 h
def F_464_191  (h : sm_H) : Option (Int32 × sm_H) :=
  some (0, h)
def F_464_131 (y1 : Int32) (y3 : Int32) (z0 : Int32) (h : sm_H) : Option ((Int32 × Int32 × Int32 × sm_H) ⊕ ((Int32 × sm_H) ⊕ (Int32 × sm_H))) :=
  (some (y3 + 1 : Int32)).bind fun v1 =>
  some (.inl (y1, z0, v1, h))
def F_464_126 (y1 : Int32) (y3 : Int32) (h : sm_H) : Option ((Int32 × Int32 × Int32 × sm_H) ⊕ ((Int32 × sm_H) ⊕ (Int32 × sm_H))) :=
  F_464_131 y1 y3 1 h
def F_464_94B (s : (Int32 × Int32 × Int32 × sm_H)) : Option ((Int32 × Int32 × Int32 × sm_H) ⊕ ((Int32 × sm_H) ⊕ (Int32 × sm_H))) :=
  (ldI s.2.2.2 115 60 s.1).bind fun v2 =>
  if v2 ≤ s.2.2.1 then (if s.2.1 = 0 then ((ldI s.2.2.2 115 60 s.1).bind fun v3 =>
  (stJ s.2.2.2 117 400 (390 + v3) (s.2.2.2.2.1 67 83)).bind fun h4 =>
  (F_420 h4).bind fun q5 =>
  (F_424 0 q5).bind fun q6 =>
  if q6.1 = 0 then ((F_464_191 q6.2).map fun r => (.inr (.inr r)))
  else ((F_427 q6.2).bind fun q7 =>
  if q7.1 = 0 then ((F_464_191 q7.2).map fun r => (.inr (.inr r)))
  else ((ldI q7.2 115 60 s.1).bind fun v8 =>
  (stI q7.2 116 360 ((6 * s.1) + v8) (q7.2.1 67 105)).bind fun h9 =>
  (ldI h9 115 60 s.1).bind fun v10 =>
  (stI h9 115 60 s.1 (v10 + 1)).bind fun h11 =>
  (F_418 h11).bind fun q12 =>
  if q12.1 = 0 then (some (.inr (.inr (0, q12.2))))
  else (some (.inr (.inl (s.1, q12.2)))))))
  else ((F_413 6 (s.2.2.2.1 67 81) s.2.2.2).bind fun q13 =>
  if q13.1 = 0 ∨ q13.1 = 1 then some (.inr (.inr (q13.1, q13.2))) else none))
  else (if s.2.1 = 0 then ((ldJ s.2.2.2 117 400 (390 + s.2.2.1)).bind fun v14 =>
  if (lg_cmp v14 (s.2.2.2.2.1 67 83)) = 0 then (F_464_126 s.1 s.2.2.1 s.2.2.2)
  else (F_464_131 s.1 s.2.2.1 0 s.2.2.2))
  else (F_464_126 s.1 s.2.2.1 s.2.2.2))
def F_464_94 (y1 : Int32) (y2 : Int32) (y3 : Int32) (h : sm_H) : Option ((Int32 × sm_H) ⊕ (Int32 × sm_H)) := lp F_464_94B 1000000 (y1, y2, y3, h)
def F_464_91 (y1 : Int32) (z0 : Int32) (h : sm_H) : Option ((Int32 × sm_H) ⊕ (Int32 × sm_H)) :=
  F_464_94 y1 z0 0 h
def F_464_60  (h : sm_H) : Option (Int32 × sm_H) :=
  some (0, h)
def F_464_25B (s : (Int32 × sm_H)) : Option ((Int32 × sm_H) ⊕ (Int32 × sm_H)) :=
  if (s.2.1 67 80) = 4 then ((F_420 s.2).bind fun q15 =>
  (some (sm_wI q15 67 86 ((q15.1 67 86) - 1))).bind fun h16 =>
  some (.inr (1, h16)))
  else (if (s.2.1 67 80) = 3 then ((F_425 s.2).bind fun q17 =>
  if q17.1 = 0 then ((F_464_60 q17.2).map fun r => (.inr r))
  else ((F_418 q17.2).bind fun q18 =>
  if q18.1 = 0 then ((F_464_60 q18.2).map fun r => (.inr r))
  else (if (q18.2.1 67 80) = 1 then ((ldI q18.2 115 60 s.1).bind fun v19 =>
  if v19 = 6 then (F_464_91 s.1 1 q18.2)
  else (F_464_91 s.1 0 q18.2))
  else ((F_421 q18.2).bind fun q20 =>
  if q20.1 = 0 ∨ q20.1 = 1 then some (.inr (q20.1, q20.2)) else none))))
  else ((F_421 s.2).bind fun q21 =>
  if q21.1 = 0 ∨ q21.1 = 1 then some (.inr (q21.1, q21.2)) else none))
def F_464_25 (y1 : Int32) (h : sm_H) : Option (Int32 × sm_H) := lp F_464_25B 1000000 (y1, h)
def F_464_0 (x1 : Int32) (h : sm_H) : Option (Int32 × sm_H) :=
  (F_426 h).bind fun q22 =>
  if q22.1 = 0 then (some (0, q22.2))
  else ((stI q22.2 115 60 x1 0).bind fun h23 =>
  (F_418 h23).bind fun q24 =>
  if q24.1 = 0 then (some (0, q24.2))
  else (F_464_25 x1 q24.2))
abbrev F_464 (x1 : Int32) (h : sm_H) : Option (Int32 × sm_H) := F_464_0 x1 h
def F_371_154 (y1 : Int32) (y2 : Int32) (h : sm_H) : Option ((Int32 × Int32 × sm_H) ⊕ (sm_H)) :=
  (ldI h 107 100 y1).bind fun v1 =>
  (stI h 107 100 y1 (v1 + 1)).bind fun h2 =>
  some (.inl (y1, y2, h2))
def F_371_20B (s : (Int32 × Int32 × sm_H)) : Option ((Int32 × Int32 × sm_H) ⊕ (sm_H)) :=
  (ldI s.2.2 107 100 s.1).bind fun v3 =>
  (ldI s.2.2 80 500 s.2.1).bind fun v4 =>
  if (4 : Int32) = 0 then none else (if (v4 / 4) ≤ v3 then ((stI s.2.2 107 100 s.1 0).bind fun h5 =>
  (F_374 0 h5).bind fun q6 =>
  some (.inr (q6)))
  else ((ldI s.2.2 107 100 s.1).bind fun v7 =>
  (some ((4 * v7) : Int32)).bind fun v8 =>
  (ldI s.2.2 81 12000 ((24 * s.2.1) + v8)).bind fun v9 =>
  if v9 = (-1) then ((ldI s.2.2 81 12000 (((24 * s.2.1) + v8) + 1)).bind fun v10 =>
  (F_332 v9 v10 s.2.2).bind fun q11 =>
  if q11.1 = 0 then (F_371_154 s.1 s.2.1 q11.2)
  else ((F_299 q11.1 q11.2).bind fun q12 =>
  (F_342 (q12.1 67 48) (q12.2.1 67 49) q12).bind fun q13 =>
  (ldI q13 106 100 s.1).bind fun v14 =>
  (stI q13 106 100 s.1 (v14 + 1)).bind fun h15 =>
  F_371_154 s.1 s.2.1 h15))
  else ((ldI s.2.2 105 100 s.1).bind fun v16 =>
  (ldI s.2.2 105 100 s.1).bind fun v17 =>
  (F_305 v9 s.2.2).bind fun q18 =>
  (F_343 v16 (v17 + q18.1) q18.2).bind fun q19 =>
  (F_350 v9 20 q19).bind fun q20 =>
  some (.inr (q20)))))
def F_371_20 (y1 : Int32) (y2 : Int32) (h : sm_H) : Option (sm_H) := lp F_371_20B 1000000 (y1, y2, h)
def F_371_0  (h : sm_H) : Option (sm_H) :=
  (some (((h.1 67 56) - 1) : Int32)).bind fun v21 =>
  (ldI h 103 100 v21).bind fun v22 =>
  (F_305 v22 h).bind fun q23 =>
  F_371_20 v21 v22 q23.2
abbrev F_371  (h : sm_H) : Option (sm_H) := F_371_0  h
def F_376_302  (h : sm_H) : Option (sm_H) :=
  some h
def F_376_223  (h : sm_H) : Option (sm_H) :=
  (F_374 1 h).bind fun q1 =>
  F_376_302 q1
def F_376_142 (y1 : Int32) (h : sm_H) : Option (sm_H) :=
  (ldI h 107 100 y1).bind fun v2 =>
  (stI h 107 100 y1 (v2 + 1)).bind fun h3 =>
  (F_371 h3).bind fun q4 =>
  F_376_302 q4
def F_376_0 (x1 : Int32) (x2 : Int32) (h : sm_H) : Option (sm_H) :=
  (ldI h 107 100 x1).bind fun v5 =>
  (some (((24 * x2) + (4 * v5)) : Int32)).bind fun v6 =>
  (ldI h 105 100 x1).bind fun v7 =>
  (F_305 x2 h).bind fun q8 =>
  (some ((v7 + q8.1) : Int32)).bind fun v9 =>
  (ldI q8.2 104 100 x1).bind fun v10 =>
  if v10 = 20 then ((ldI q8.2 81 12000 v6).bind fun v28 =>
  (F_307 v28 q8.2).bind fun q29 =>
  if q29.1 = 0 then ((ldI q29.2 81 12000 v6).bind fun v30 =>
  (ldI q29.2 81 12000 (v6 + 1)).bind fun v31 =>
  (F_332 v30 v31 q29.2).bind fun q32 =>
  if q32.1 = 0 then (F_376_142 x1 q32.2)
  else ((ldI q32.2 81 12000 v6).bind fun v33 =>
  (ldI q32.2 81 12000 (v6 + 1)).bind fun v34 =>
  (F_332 v33 v34 q32.2).bind fun q35 =>
  (F_299 q35.1 q35.2).bind fun q36 =>
  (F_342 (q36.1 67 48) (q36.2.1 67 49) q36).bind fun q37 =>
  (ldI q37 106 100 x1).bind fun v38 =>
  (stI q37 106 100 x1 (v38 + 1)).bind fun h39 =>
  F_376_142 x1 h39))
  else ((F_342 (q29.2.1 67 60) (q29.2.2.1 67 61) q29.2).bind fun q40 =>
  (ldI q40 106 100 x1).bind fun v41 =>
  (stI q40 106 100 x1 (v41 + 1)).bind fun h42 =>
  F_376_142 x1 h42))
  else ((ldI q8.2 104 100 x1).bind fun v11 =>
  if v11 = 21 then ((ldI q8.2 81 12000 (v6 + 1)).bind fun v21 =>
  (F_307 v21 q8.2).bind fun q22 =>
  if q22.1 = 0 then (F_376_223 q22.2)
  else ((ldI q22.2 107 100 x1).bind fun v23 =>
  (F_372 x2 v23 q22.2).bind fun q24 =>
  (some ((v9 + q24.1) : Int32)).bind fun v25 =>
  (stI q24.2 108 6000 v25 (q24.2.1 67 60)).bind fun h26 =>
  (stJ h26 109 6000 v25 (h26.2.1 67 61)).bind fun h27 =>
  F_376_223 h27))
  else (if (lg_cmp (q8.2.2.1 67 61) 1) = 0 then ((F_375 x1 x2 q8.2).bind fun q19 =>
  (F_374 0 q19).bind fun q20 =>
  F_376_302 q20)
  else ((ldI q8.2 81 12000 (v6 + 3)).bind fun v12 =>
  if v12 = (-1) then ((F_307 x2 q8.2).bind fun q17 =>
  (F_346 q17.1 q17.2).bind fun q18 =>
  F_376_302 q18)
  else ((ldI q8.2 81 12000 (v6 + 3)).bind fun v13 =>
  (F_373 v13 q8.2).bind fun q14 =>
  (ldI q14 81 12000 (v6 + 3)).bind fun v15 =>
  (F_349 v15 q14).bind fun q16 =>
  F_376_302 q16))))
abbrev F_376 (x1 : Int32) (x2 : Int32) (h : sm_H) : Option (sm_H) := F_376_0 x1 x2 h
def F_377_622 (y8 : Int32) (y9 : Int64) (h : sm_H) : Option (sm_H) :=
  (F_345 y8 y9 h).bind fun q1 =>
  some q1
def F_377_611 (y7 : Int32) (z1 : Int32) (z2 : Int32) (z3 : Int32) (h : sm_H) : Option (sm_H) :=
  (F_343 z1 (z2 - z3) h).bind fun q2 =>
  (F_349 y7 q2).bind fun q3 =>
  some q3
def F_377_588 (y2 : Int32) (y3 : Int32) (y7 : Int32) (h : sm_H) : Option (sm_H) :=
  (F_305 y7 h).bind fun q4 =>
  (F_307 y2 q4.2).bind fun q5 =>
  if q5.1 = 0 then (F_377_611 y7 y3 (y3 + q4.1) 1 q5.2)
  else (F_377_611 y7 y3 (y3 + q4.1) 2 q5.2)
def F_377_562 (z1 : Int32) (h : sm_H) : Option (sm_H) :=
  (F_349 z1 h).bind fun q6 =>
  some q6
def F_377_528  (h : sm_H) : Option (sm_H) :=
  some h
def F_377_497 (z1 : Int32) (z2 : Int32) (z3 : Int32) (z4 : Int64) (z5 : Int32) (h : sm_H) : Option (sm_H) :=
  (F_300 z1 z2 z3 z4 z5 h).bind fun q7 =>
  if q7.1 = 0 then ((F_345 (q7.2.1 67 48) (q7.2.2.1 67 49) q7.2).bind fun q8 =>
  F_377_528 q8)
  else ((F_348 q7.1 q7.2).bind fun q9 =>
  F_377_528 q9)
def F_377_465 (y2 : Int32) (y6 : Int32) (y8 : Int32) (y9 : Int64) (h : sm_H) : Option (sm_H) :=
  (F_307 y6 h).bind fun q10 =>
  (F_307 y2 q10.2).bind fun q11 =>
  (ldI q11.2 75 500 y2).bind fun v12 =>
  if v12 = 13 then (F_377_497 q10.1 q11.1 y8 y9 1 q11.2)
  else (F_377_497 q10.1 q11.1 y8 y9 0 q11.2)
def F_377_458 (y7 : Int32) (h : sm_H) : Option (sm_H) :=
  (F_349 y7 h).bind fun q13 =>
  some q13
def F_377_422 (y3 : Int32) (y4 : Int32) (y5 : Int32) (y6 : Int32) (h : sm_H) : Option (sm_H) :=
  (F_343 (y3 + y5) (y3 + y4) h).bind fun q14 =>
  (F_349 y6 q14).bind fun q15 =>
  some q15
def F_377_370 (y3 : Int32) (y4 : Int32) (y5 : Int32) (y6 : Int32) (y7 : Int32) (h : sm_H) : Option (sm_H) :=
  (F_305 y7 h).bind fun q16 =>
  (F_343 ((y3 + y5) + q16.1) (y3 + y4) q16.2).bind fun q17 =>
  (F_349 y6 q17).bind fun q18 =>
  some q18
def F_377_276 (y1 : Int32) (y2 : Int32) (h : sm_H) : Option (sm_H) :=
  (F_376 y1 y2 h).bind fun q19 =>
  some q19
def F_377_252  (h : sm_H) : Option (sm_H) :=
  some h
def F_377_0  (h : sm_H) : Option (sm_H) :=
  (some (((h.1 67 56) - 1) : Int32)).bind fun v20 =>
  (ldI h 103 100 v20).bind fun v21 =>
  (ldI h 105 100 v20).bind fun v22 =>
  (F_305 v21 h).bind fun q23 =>
  (ldI q23.2 77 500 v21).bind fun v24 =>
  (ldI q23.2 81 12000 (24 * v21)).bind fun v25 =>
  (ldI q23.2 81 12000 ((24 * v21) + 1)).bind fun v26 =>
  (some (sm_wI q23.2 67 63 0)).bind fun h27 =>
  if (h27.1 67 62) = 0 then ((some ((h27.1 67 60) : Int32)).bind fun v28 =>
  (some ((h27.2.1 67 61) : Int64)).bind fun v29 =>
  (ldI h27 104 100 v20).bind fun v30 =>
  if v30 = 2 then ((ldI h27 108 6000 (v22 + q23.1)).bind fun v31 =>
  (ldJ h27 109 6000 (v22 + q23.1)).bind fun v32 =>
  (F_347 v31 v32 h27).bind fun q33 =>
  some q33)
  else (if v30 = 12 then ((ldI h27 106 100 v20).bind fun v34 =>
  (F_307 v34 h27).bind fun q35 =>
  (F_307 v21 q35.2).bind fun q36 =>
  (F_300 q35.1 q36.1 v28 v29 0 q36.2).bind fun q37 =>
  if q37.1 = 0 then ((F_345 (q37.2.1 67 48) (q37.2.2.1 67 49) q37.2).bind fun q38 =>
  F_377_252 q38)
  else ((F_348 q37.1 q37.2).bind fun q39 =>
  F_377_252 q39))
  else (if v30 = 14 then ((ldI h27 106 100 v20).bind fun v40 =>
  (ldI h27 96 1000 v40).bind fun v41 =>
  (ldI h27 106 100 v20).bind fun v42 =>
  (F_345 v41 (Int32.toInt64 v42) h27).bind fun q43 =>
  some q43)
  else (if v30 = 20 then (F_377_276 v20 v21 h27)
  else (if v30 = 21 then (F_377_276 v20 v21 h27)
  else (if v30 = 22 then (F_377_276 v20 v21 h27)
  else (if v30 = 90 then ((F_345 v28 v29 h27).bind fun q44 =>
  some q44)
  else ((ldI h27 75 500 v21).bind fun v45 =>
  if v45 = 7 then ((F_343 v22 (v22 + v24) h27).bind fun q46 =>
  (F_307 v26 q46).bind fun q47 =>
  if q47.1 = 0 then (F_377_370 v22 q23.1 v24 v25 v26 q47.2)
  else ((F_342 v28 v29 q47.2).bind fun q48 =>
  F_377_370 v22 q23.1 v24 v25 v26 q48))
  else (if v45 = 8 then ((F_343 v22 (v22 + v24) h27).bind fun q49 =>
  (F_307 v26 q49).bind fun q50 =>
  if q50.1 = 0 then (F_377_422 v22 q23.1 v24 v25 q50.2)
  else ((F_342 v28 v29 q50.2).bind fun q51 =>
  F_377_422 v22 q23.1 v24 v25 q51))
  else (if v45 = 9 then ((F_307 v25 h27).bind fun q52 =>
  if q52.1 = 0 then (F_377_458 v26 q52.2)
  else ((F_342 v28 v29 q52.2).bind fun q53 =>
  F_377_458 v26 q53))
  else (if v45 = 12 then (F_377_465 v21 v25 v28 v29 h27)
  else (if v45 = 13 then (F_377_465 v21 v25 v28 v29 h27)
  else (if v45 = 14 then ((F_343 v22 (v22 + q23.1) h27).bind fun q54 =>
  if (lg_cmp v29 1) = 0 then (F_377_562 v26 q54)
  else ((ldI q54 81 12000 ((24 * v21) + 2)).bind fun v55 =>
  F_377_562 v55 q54))
  else (if v45 = 16 then ((F_342 0 0 h27).bind fun q56 =>
  (F_307 v21 q56).bind fun q57 =>
  if q57.1 = 0 then (F_377_588 v21 v22 v26 q57.2)
  else ((F_342 v28 v29 q57.2).bind fun q58 =>
  F_377_588 v21 v22 v26 q58))
  else (F_377_622 v28 v29 h27)))))))))))))))
  else ((F_378 v20 v21 v22 q23.1 h27).bind fun q59 =>
  some q59)
abbrev F_377  (h : sm_H) : Option (sm_H) := F_377_0  h
def F_457_44  (h : sm_H) : Option (Int32 × sm_H) :=
  some (0, h)
def F_457_0  (h : sm_H) : Option (Int32 × sm_H) :=
  (F_427 h).bind fun q1 =>
  if q1.1 = 0 then (some (0, q1.2))
  else ((some (((q1.2.1 67 102) - 1) : Int32)).bind fun v2 =>
  (ldI q1.2 120 24 v2).bind fun v3 =>
  (some (sm_wI q1.2 67 106 v3)).bind fun h4 =>
  (F_460 v2 h4).bind fun q5 =>
  if q5.1 = (-1) then (F_457_44 q5.2)
  else (if (q5.2.1 67 77) = 0 then ((some (sm_wI q5.2 67 102 ((q5.2.1 67 102) - 1))).bind fun h6 =>
  (ldI h6 123 24 v2).bind fun v7 =>
  (some (sm_wI h6 67 94 v7)).bind fun h8 =>
  (F_447 q5.1 h8).bind fun q9 =>
  if q9.1 = 0 ∨ q9.1 = 1 then some (q9.1, q9.2) else none)
  else (F_457_44 q5.2)))
abbrev F_457  (h : sm_H) : Option (Int32 × sm_H) := F_457_0  h
def F_370_977 (z1 : Int32) (h : sm_H) : Option (sm_H) :=
  (F_368 z1 h).bind fun q1 =>
  some q1
def F_370_926  (h : sm_H) : Option (sm_H) :=
  some h
def F_370_923 (z1 : Int32) (z2 : Int64) (h : sm_H) : Option (sm_H) :=
  (F_345 z1 z2 h).bind fun q2 =>
  F_370_926 q2
def F_370_882 (z1 : Int32) (z2 : Int64) (h : sm_H) : Option (sm_H) :=
  (F_345 z1 z2 h).bind fun q3 =>
  some q3
def F_370_881 (z1 : Int32) (h : sm_H) : Option (sm_H) :=
  F_370_882 z1 0 h
def F_370_877 (z1 : Int32) (h : sm_H) : Option (sm_H) :=
  F_370_882 z1 1 h
def F_370_836 (z1 : Int32) (z2 : Int64) (h : sm_H) : Option (sm_H) :=
  (F_345 z1 z2 h).bind fun q4 =>
  some q4
def F_370_835 (z1 : Int32) (h : sm_H) : Option (sm_H) :=
  F_370_836 z1 0 h
def F_370_803 (z1 : Int32) (h : sm_H) : Option (sm_H) :=
  (F_349 z1 h).bind fun q5 =>
  some q5
def F_370_726 (y2 : Int32) (y5 : Int32) (h : sm_H) : Option (sm_H) :=
  (ldI h 75 500 y2).bind fun v6 =>
  (F_361 v6 y5 h).bind fun q7 =>
  some q7
def F_370_718  (h : sm_H) : Option (sm_H) :=
  some h
def F_370_665 (z1 : Int32) (h : sm_H) : Option (sm_H) :=
  (F_349 z1 h).bind fun q8 =>
  some q8
def F_370_663 (y7 : Int32) (h : sm_H) : Option (sm_H) :=
  F_370_665 y7 h
def F_370_584  (h : sm_H) : Option (sm_H) :=
  some h
def F_370_570 (y7 : Int32) (z1 : Int32) (z2 : Int32) (z3 : Int32) (h : sm_H) : Option (sm_H) :=
  (F_356 z1 z2 z3 0 h).bind fun q9 =>
  if q9.1 = 0 then (F_370_584 q9.2)
  else ((F_350 y7 1 q9.2).bind fun q10 =>
  F_370_584 q10)
def F_370_549 (y2 : Int32) (y6 : Int32) (y7 : Int32) (h : sm_H) : Option (sm_H) :=
  (ldI h 75 500 y2).bind fun v11 =>
  if v11 = 13 then (F_370_570 y7 y7 y6 1 h)
  else (F_370_570 y7 y7 y6 0 h)
def F_370_514 (y3 : Int32) (y4 : Int32) (y7 : Int32) (h : sm_H) : Option (sm_H) :=
  (F_343 y3 (y3 + y4) h).bind fun q12 =>
  (F_350 y7 1 q12).bind fun q13 =>
  some q13
def F_370_338B (s : (Int32 × Int32 × Int32 × sm_H)) : Option ((Int32 × Int32 × Int32 × sm_H) ⊕ (sm_H)) :=
  (F_305 s.2.1 s.2.2.2).bind fun q14 =>
  if q14.1 ≤ s.2.2.1 then ((F_349 s.2.1 q14.2).bind fun q15 =>
  some (.inr (q15)))
  else ((ldI q14.2 81 12000 (((24 * s.1) + 1) + s.2.2.1)).bind fun v16 =>
  (F_351 v16 q14.2).bind fun q17 =>
  (ldI q17.2 81 12000 (((24 * s.1) + 1) + s.2.2.1)).bind fun v18 =>
  (F_352 v18 q17.2).bind fun q19 =>
  (F_342 q17.1 q19.1 q19.2).bind fun q20 =>
  (some (s.2.2.1 + 1 : Int32)).bind fun v21 =>
  some (.inl (s.1, s.2.1, v21, q20)))
def F_370_338 (y2 : Int32) (y7 : Int32) (y9 : Int32) (h : sm_H) : Option (sm_H) := lp F_370_338B 1000000 (y2, y7, y9, h)
def F_370_0  (h : sm_H) : Option (sm_H) :=
  (some (((h.1 67 56) - 1) : Int32)).bind fun v22 =>
  (ldI h 103 100 v22).bind fun v23 =>
  (ldI h 105 100 v22).bind fun v24 =>
  (F_305 v23 h).bind fun q25 =>
  (ldI q25.2 77 500 v23).bind fun v26 =>
  (ldI q25.2 78 500 v23).bind fun v27 =>
  (ldI q25.2 81 12000 (24 * v23)).bind fun v28 =>
  (ldI q25.2 81 12000 ((24 * v23) + 1)).bind fun v29 =>
  (ldI q25.2 75 500 v23).bind fun v30 =>
  if v30 = 0 then ((ldJ q25.2 79 500 v23).bind fun v31 =>
  (F_353 v26 v31 q25.2).bind fun q32 =>
  (F_345 (q32.1 67 48) (q32.2.1 67 49) q32).bind fun q33 =>
  some q33)
  else (if v30 = 1 then ((F_345 18 (Int32.toInt64 v28) q25.2).bind fun q34 =>
  some q34)
  else (if v30 = 2 then ((F_351 0 q25.2).bind fun q35 =>
  (F_352 0 q35.2).bind fun q36 =>
  (F_345 q35.1 q36.1 q36.2).bind fun q37 =>
  some q37)
  else (if v30 = 3 then ((F_355 v26 v27 q25.2).bind fun q38 =>
  some q38)
  else (if v30 = 4 then ((F_343 v24 (v24 + v26) q25.2).bind fun q39 =>
  (ldI q39 73 300 v27).bind fun v40 =>
  (F_343 ((v24 + v26) + v40) (v24 + q25.1) q39).bind fun q41 =>
  (F_349 v28 q41).bind fun q42 =>
  some q42)
  else (if v30 = 5 then (F_370_338 v23 v28 0 q25.2)
  else (if v30 = 6 then ((F_343 v24 (v24 + v26) q25.2).bind fun q43 =>
  (F_306 v28 v26 q43).bind fun q44 =>
  (ldJ q44.2 79 500 v23).bind fun v45 =>
  (F_353 q44.1 v45 q44.2).bind fun q46 =>
  (F_342 (q46.1 67 48) (q46.2.1 67 49) q46).bind fun q47 =>
  (F_343 (v24 + v26) (v24 + q25.1) q47).bind fun q48 =>
  (F_349 v28 q48).bind fun q49 =>
  some q49)
  else (if v30 = 7 then ((F_305 v29 q25.2).bind fun q50 =>
  (F_343 (v24 + v26) ((v24 + v26) + q50.1) q50.2).bind fun q51 =>
  (F_350 v29 1 q51).bind fun q52 =>
  some q52)
  else (if v30 = 8 then ((F_305 v29 q25.2).bind fun q53 =>
  (F_343 (v24 + v26) ((v24 + v26) + q53.1) q53.2).bind fun q54 =>
  (F_350 v29 1 q54).bind fun q55 =>
  some q55)
  else (if v30 = 9 then (F_370_514 v24 q25.1 v28 q25.2)
  else (if v30 = 10 then ((F_366 v28 v27 q25.2).bind fun q56 =>
  some q56)
  else (if v30 = 11 then ((F_367 v28 v27 q25.2).bind fun q57 =>
  some q57)
  else (if v30 = 12 then (F_370_549 v23 v27 v28 q25.2)
  else (if v30 = 13 then (F_370_549 v23 v27 v28 q25.2)
  else (if v30 = 14 then ((F_305 v28 q25.2).bind fun q58 =>
  (F_343 v24 (v24 + q58.1) q58.2).bind fun q59 =>
  (F_350 v28 1 q59).bind fun q60 =>
  some q60)
  else (if v30 = 15 then (F_370_514 v24 q25.1 v28 q25.2)
  else (if v30 = 16 then (F_370_514 v24 q25.1 v28 q25.2)
  else (if v30 = 17 then ((F_352 0 q25.2).bind fun q61 =>
  (F_343 v24 (v24 + q25.1) q61.2).bind fun q62 =>
  if (lg_cmp q61.1 0) < 0 then (F_370_663 v28 q62)
  else ((ldI q62 80 500 v23).bind fun v63 =>
  if 0 ≤ (lg_cmp q61.1 (Int32.toInt64 (v63 - 1))) then (F_370_663 v28 q62)
  else ((ldI q62 81 12000 (((24 * v23) + 1) + (Int64.toInt32 q61.1))).bind fun v64 =>
  F_370_665 v64 q62)))
  else (if v30 = 18 then ((stI q25.2 106 100 v22 0).bind fun h65 =>
  (stI h65 107 100 v22 0).bind fun h66 =>
  (F_371 h66).bind fun q67 =>
  some q67)
  else (if v30 = 19 then ((F_351 0 q25.2).bind fun q68 =>
  if q68.1 = 0 then ((F_348 1 q68.2).bind fun q72 =>
  F_370_718 q72)
  else ((F_351 0 q68.2).bind fun q69 =>
  (F_352 0 q69.2).bind fun q70 =>
  (F_347 q69.1 q70.1 q70.2).bind fun q71 =>
  F_370_718 q71))
  else (if v30 = 20 then ((F_359 v26 q25.2).bind fun q73 =>
  some q73)
  else (if v30 = 21 then (F_370_726 v23 v26 q25.2)
  else (if v30 = 22 then (F_370_726 v23 v26 q25.2)
  else (if v30 = 23 then (F_370_726 v23 v26 q25.2)
  else (if v30 = 24 then (F_370_726 v23 v26 q25.2)
  else (if v30 = 25 then (F_370_726 v23 v26 q25.2)
  else (if v30 = 26 then (F_370_726 v23 v26 q25.2)
  else (if v30 = 27 then ((F_365 v27 0 q25.2).bind fun q74 =>
  some q74)
  else (if v30 = 28 then ((F_365 v27 1 q25.2).bind fun q75 =>
  some q75)
  else (if v30 = 29 then ((F_343 v24 (v24 + q25.1) q25.2).bind fun q76 =>
  (ldI q76 92 80 v26).bind fun v77 =>
  (F_349 v77 q76).bind fun q78 =>
  some q78)
  else (if v30 = 30 then ((F_343 v24 (v24 + q25.1) q25.2).bind fun q79 =>
  (ldZ q79 93 20 v26).bind fun v80 =>
  if v80 = 0 then (F_370_803 v28 q79)
  else (F_370_803 v29 q79))
  else (if v30 = 31 then ((F_351 0 q25.2).bind fun q81 =>
  if q81.1 = 0 then (F_370_835 1 q81.2)
  else ((F_351 0 q81.2).bind fun q82 =>
  (F_295 q82.1 v26 q82.2).bind fun q83 =>
  if q83.1 = 0 then (F_370_835 1 q83.2)
  else (F_370_836 1 1 q83.2)))
  else (if v30 = 32 then ((F_351 0 q25.2).bind fun q84 =>
  (F_351 1 q84.2).bind fun q85 =>
  if q84.1 = q85.1 then ((F_351 0 q85.2).bind fun q86 =>
  if q86.1 = 0 then (F_370_877 1 q86.2)
  else ((F_352 0 q86.2).bind fun q87 =>
  (F_352 1 q87.2).bind fun q88 =>
  if (lg_cmp q87.1 q88.1) = 0 then (F_370_877 1 q88.2)
  else (F_370_881 1 q88.2)))
  else (F_370_881 1 q85.2))
  else (if v30 = 33 then ((F_351 0 q25.2).bind fun q89 =>
  if q89.1 = 0 then ((F_348 1 q89.2).bind fun q92 =>
  F_370_926 q92)
  else ((F_351 0 q89.2).bind fun q90 =>
  if q90.1 = 19 then ((F_352 0 q90.2).bind fun q91 =>
  F_370_923 5 q91.1 q91.2)
  else (F_370_923 5 0 q90.2)))
  else (if v30 = 34 then ((F_307 v23 q25.2).bind fun q93 =>
  (F_346 q93.1 q93.2).bind fun q94 =>
  some q94)
  else (if v30 = 35 then ((ldZ q25.2 86 100 v26).bind fun v95 =>
  (F_362 v26 v27 v95 q25.2).bind fun q96 =>
  some q96)
  else (if v30 = 36 then ((F_351 0 q25.2).bind fun q97 =>
  if q97.1 = 0 then (F_370_977 0 q97.2)
  else ((F_351 0 q97.2).bind fun q98 =>
  (F_363 v26 q98.1 q98.2).bind fun q99 =>
  F_370_977 q99.1 q99.2))
  else (if v30 = 37 then ((ldI q25.2 90 100 v26).bind fun v100 =>
  (F_368 v100 q25.2).bind fun q101 =>
  some q101)
  else ((F_369 v26 q25.2).bind fun q102 =>
  some q102))))))))))))))))))))))))))))))))))))))
abbrev F_370  (h : sm_H) : Option (sm_H) := F_370_0  h
def F_379_35  (h : sm_H) : Option (sm_H) :=
  some h
def F_379_0B (s : (sm_H)) : Option ((sm_H) ⊕ (sm_H)) :=
  if (s.1 67 64) = 0 then (if (s.1 67 56) ≤ 0 then ((F_379_35 s).map fun r => (.inr r))
  else (if (s.1 67 63) = 0 then ((F_370 s).bind fun q1 =>
  some (.inl (q1)))
  else ((F_377 s).bind fun q2 =>
  some (.inl (q2)))))
  else ((F_379_35 s).map fun r => (.inr r))
def F_379_0  (h : sm_H) : Option (sm_H) := lp F_379_0B 1000000 (h)
abbrev F_379  (h : sm_H) : Option (sm_H) := F_379_0  h
def F_404_326 (z1 : Int64) (h : sm_H) : Option (Int32 × sm_H) :=
  (some (sm_wJ h 67 72 z1)).bind fun h1 =>
  some ((h1.1 67 69), h1)
def F_404_325  (h : sm_H) : Option (Int32 × sm_H) :=
  F_404_326 0 h
def F_404_318  (h : sm_H) : Option (Int32 × sm_H) :=
  F_404_326 (h.2.1 67 61) h
def F_404_287 (y5 : Int32) (z1 : Int32) (h : sm_H) : Option (Int32 × sm_H) :=
  (some (sm_wI h 67 71 z1)).bind fun h2 =>
  if 2 ≤ (h2.1 67 69) then (F_404_325 h2)
  else (if (h2.1 67 70) = 0 then (F_404_325 h2)
  else (if y5 = 0 then (F_404_318 h2)
  else (if (h2.1 67 60) = 0 then (F_404_325 h2)
  else (F_404_318 h2))))
def F_404_271 (z0 : Int32) (h : sm_H) : Option (Int32 × sm_H) :=
  if z0 = 0 then (F_404_287 z0 0 h)
  else (F_404_287 z0 (h.1 67 60) h)
def F_404_270  (h : sm_H) : Option (Int32 × sm_H) :=
  F_404_271 0 h
def F_404_245 (z1 : Int32) (h : sm_H) : Option (Int32 × sm_H) :=
  (some (sm_wI h 67 70 z1)).bind fun h3 =>
  if 2 ≤ (h3.1 67 69) then (F_404_270 h3)
  else ((F_291 (h3.1 67 70) h3).bind fun q4 =>
  if q4.1 = 0 then (F_404_270 q4.2)
  else (F_404_271 1 q4.2))
def F_404_212 (y1 : Int32) (z1 : Int32) (h : sm_H) : Option (Int32 × sm_H) :=
  (some (sm_wI h 67 69 z1)).bind fun h5 =>
  if (h5.1 67 69) = 0 then ((F_307 y1 h5).bind fun q6 =>
  F_404_245 q6.1 q6.2)
  else (if (h5.1 67 69) = 1 then (F_404_245 19 h5)
  else (F_404_245 0 h5))
def F_404_126B (s : (Int32 × Int32 × Int32 × sm_H)) : Option ((Int32 × Int32 × Int32 × sm_H) ⊕ (Int32 × sm_H)) :=
  if s.2.1 ≤ s.2.2.1 then ((F_344 s.1 s.2.2.2).bind fun q7 =>
  (F_379 q7).bind fun q8 =>
  (some (sm_wI q8 67 73 (q8.1 67 66))).bind fun h9 =>
  if (h9.1 67 64) = 0 then (if (h9.1 67 62) = 0 then ((F_404_212 s.1 0 h9).map fun r => (.inr r))
  else ((F_404_212 s.1 1 h9).map fun r => (.inr r)))
  else ((F_404_212 s.1 (h9.1 67 64) h9).map fun r => (.inr r)))
  else ((F_306 s.1 s.2.2.1 s.2.2.2).bind fun q10 =>
  (ldJ q10.2 110 10 s.2.2.1).bind fun v11 =>
  (F_353 q10.1 v11 q10.2).bind fun q12 =>
  (F_342 (q12.1 67 48) (q12.2.1 67 49) q12).bind fun q13 =>
  (some (s.2.2.1 + 1 : Int32)).bind fun v14 =>
  some (.inl (s.1, s.2.1, v14, q13)))
def F_404_126 (y1 : Int32) (y3 : Int32) (y5 : Int32) (h : sm_H) : Option (Int32 × sm_H) := lp F_404_126B 1000000 (y1, y3, y5, h)
def F_404_86 (y1 : Int32) (y2 : Int32) (y3 : Int32) (y4 : Int32) (h : sm_H) : Option (Int32 × sm_H) :=
  if y4 = 0 then (some ((-1), h))
  else ((some (sm_wI h 67 56 0)).bind fun h15 =>
  (some (sm_wI h15 67 59 0)).bind fun h16 =>
  (some (sm_wI h16 67 64 0)).bind fun h17 =>
  (some (sm_wI h17 67 63 0)).bind fun h18 =>
  (some (sm_wI h18 67 65 y2)).bind fun h19 =>
  (some (sm_wI h19 67 66 0)).bind fun h20 =>
  F_404_126 y1 y3 0 h20)
def F_404_49B (s : (Int32 × Int32 × Int32 × Int32 × Int32 × sm_H)) : Option ((Int32 × Int32 × Int32 × Int32 × Int32 × sm_H) ⊕ (Int32 × sm_H)) :=
  if s.2.2.1 ≤ s.2.2.2.2.1 then ((F_404_86 s.1 s.2.1 s.2.2.1 s.2.2.2.1 s.2.2.2.2.2).map fun r => (.inr r))
  else (if s.2.2.2.1 = 0 then ((F_404_86 s.1 s.2.1 s.2.2.1 s.2.2.2.1 s.2.2.2.2.2).map fun r => (.inr r))
  else ((F_306 s.1 s.2.2.2.2.1 s.2.2.2.2.2).bind fun q21 =>
  (ldJ q21.2 110 10 s.2.2.2.2.1).bind fun v22 =>
  (F_403 q21.1 v22 q21.2).bind fun q23 =>
  (some (s.2.2.2.2.1 + 1 : Int32)).bind fun v24 =>
  some (.inl (s.1, s.2.1, s.2.2.1, q23.1, v24, q23.2))))
def F_404_49 (y1 : Int32) (y2 : Int32) (y3 : Int32) (y4 : Int32) (y5 : Int32) (h : sm_H) : Option (Int32 × sm_H) := lp F_404_49B 1000000 (y1, y2, y3, y4, y5, h)
def F_404_44 (y1 : Int32) (y2 : Int32) (y3 : Int32) (z0 : Int32) (h : sm_H) : Option (Int32 × sm_H) :=
  F_404_49 y1 y2 y3 z0 0 h
def F_404_43 (y1 : Int32) (y2 : Int32) (y3 : Int32) (h : sm_H) : Option (Int32 × sm_H) :=
  F_404_44 y1 y2 y3 0 h
def F_404_0 (x1 : Int32) (x2 : Int32) (h : sm_H) : Option (Int32 × sm_H) :=
  (some ((h.1 67 68) : Int32)).bind fun v25 =>
  (some (sm_wI h 67 68 0)).bind fun h26 =>
  (F_304 x1 h26).bind fun q27 =>
  if q27.1 = 0 then (F_404_43 x1 x2 v25 q27.2)
  else ((F_315 (Int32.toInt64 x2) 1 10000 q27.2).bind fun q28 =>
  if q28.1 = 0 then ((F_305 x1 q28.2).bind fun q29 =>
  if q29.1 = v25 then (F_404_44 x1 x2 v25 1 q29.2)
  else (F_404_43 x1 x2 v25 q29.2))
  else (F_404_43 x1 x2 v25 q28.2))
abbrev F_404 (x1 : Int32) (x2 : Int32) (h : sm_H) : Option (Int32 × sm_H) := F_404_0 x1 x2 h
def F_453_79  (h : sm_H) : Option (Int32 × sm_H) :=
  some (0, h)
def F_453_23  (h : sm_H) : Option (Int32 × sm_H) :=
  some (0, h)
def F_453_0 (x1 : Int32) (h : sm_H) : Option (Int32 × sm_H) :=
  (ldI h 121 24 x1).bind fun v1 =>
  if v1 = 0 then ((F_426 h).bind fun q13 =>
  if q13.1 = 0 then (F_453_23 q13.2)
  else ((F_450 q13.2).bind fun q14 =>
  if q14.1 = 0 then (F_453_23 q14.2)
  else ((stJ q14.2 126 72 (3 * x1) (q14.2.2.1 67 108)).bind fun h15 =>
  (stI h15 121 24 x1 1).bind fun h16 =>
  (F_448 h16).bind fun q17 =>
  if q17.1 = 0 ∨ q17.1 = 1 then some (q17.1, q17.2) else none)))
  else ((ldI h 121 24 x1).bind fun v2 =>
  if v2 = 1 then ((F_449 0 h).bind fun q4 =>
  (F_452 x1 q4.1 q4.2).bind fun q5 =>
  if q5.1 = 0 then ((F_427 q5.2).bind fun q6 =>
  if q6.1 = 0 then (F_453_79 q6.2)
  else ((ldJ q6.2 126 72 (3 * x1)).bind fun v7 =>
  (F_449 0 q6.2).bind fun q8 =>
  (F_307 q8.1 q8.2).bind fun q9 =>
  (F_444 v7 q9.1 q9.2).bind fun q10 =>
  (stI q10 121 24 x1 2).bind fun h11 =>
  (F_448 h11).bind fun q12 =>
  if q12.1 = 0 ∨ q12.1 = 1 then some (q12.1, q12.2) else none))
  else (F_453_79 q5.2))
  else ((F_457 h).bind fun q3 =>
  if q3.1 = 0 ∨ q3.1 = 1 then some (q3.1, q3.2) else none))
abbrev F_453 (x1 : Int32) (h : sm_H) : Option (Int32 × sm_H) := F_453_0 x1 h
def F_454_50  (h : sm_H) : Option (Int32 × sm_H) :=
  some (0, h)
def F_454_0 (x1 : Int32) (h : sm_H) : Option (Int32 × sm_H) :=
  (ldI h 124 24 x1).bind fun v1 =>
  if v1 = 0 then ((F_448 h).bind fun q9 =>
  if q9.1 = 0 ∨ q9.1 = 1 then some (q9.1, q9.2) else none)
  else ((ldI h 124 24 x1).bind fun v2 =>
  if v2 = 2 then ((F_457 h).bind fun q8 =>
  if q8.1 = 0 ∨ q8.1 = 1 then some (q8.1, q8.2) else none)
  else ((F_426 h).bind fun q3 =>
  if q3.1 = 0 then (F_454_50 q3.2)
  else ((F_450 q3.2).bind fun q4 =>
  if q4.1 = 0 then (F_454_50 q4.2)
  else ((F_427 q4.2).bind fun q5 =>
  if q5.1 = 0 then (F_454_50 q5.2)
  else ((F_444 (q5.2.2.1 67 108) 19 q5.2).bind fun q6 =>
  (F_448 q6).bind fun q7 =>
  if q7.1 = 0 ∨ q7.1 = 1 then some (q7.1, q7.2) else none)))))
abbrev F_454 (x1 : Int32) (h : sm_H) : Option (Int32 × sm_H) := F_454_0 x1 h
def F_455_247 (z0 : Int32) (h : sm_H) : Option (Int32 × sm_H) :=
  if z0 = 0 ∨ z0 = 1 then some (z0, h) else none
def F_455_222 (y1 : Int32) (y2 : Int32) (h : sm_H) : Option (Int32 × sm_H) :=
  (ldI h 124 24 y1).bind fun v1 =>
  if ((2 * y2) + 2) ≤ v1 then ((F_457 h).bind fun q2 =>
  F_455_247 q2.1 q2.2)
  else ((F_448 h).bind fun q3 =>
  F_455_247 q3.1 q3.2)
def F_455_123B (s : (Int32 × Int32 × sm_H)) : Option ((Int32 × Int32 × sm_H) ⊕ (Int32 × sm_H)) :=
  if s.2.1 < 0 then ((stI s.2.2 121 24 s.1 2).bind fun h4 =>
  (F_426 h4).bind fun q5 =>
  if q5.1 = 0 then (some (.inr (0, q5.2)))
  else ((F_448 q5.2).bind fun q6 =>
  if q6.1 = 0 ∨ q6.1 = 1 then some (.inr (q6.1, q6.2)) else none))
  else ((ldJ s.2.2 126 72 ((3 * s.1) + s.2.1)).bind fun v7 =>
  (F_449 s.2.1 s.2.2).bind fun q8 =>
  (F_307 q8.1 q8.2).bind fun q9 =>
  (F_444 v7 q9.1 q9.2).bind fun q10 =>
  (some (s.2.1 + (-1) : Int32)).bind fun v11 =>
  some (.inl (s.1, v11, q10)))
def F_455_123 (y1 : Int32) (y2 : Int32) (h : sm_H) : Option (Int32 × sm_H) := lp F_455_123B 1000000 (y1, y2, h)
def F_455_75  (h : sm_H) : Option (Int32 × sm_H) :=
  some (0, h)
def F_455_0 (x1 : Int32) (h : sm_H) : Option (Int32 × sm_H) :=
  (ldI h 121 24 x1).bind fun v12 =>
  if v12 = 0 then ((F_426 h).bind fun q29 =>
  if q29.1 = 0 then (some (0, q29.2))
  else ((stI q29.2 122 24 x1 0).bind fun h30 =>
  (stI h30 121 24 x1 1).bind fun h31 =>
  (F_456 x1 h31).bind fun q32 =>
  if q32.1 = 0 ∨ q32.1 = 1 then some (q32.1, q32.2) else none))
  else ((ldI h 121 24 x1).bind fun v13 =>
  if v13 = 1 then ((ldI h 124 24 x1).bind fun v19 =>
  (F_449 (v19 - 1) h).bind fun q20 =>
  (F_452 x1 q20.1 q20.2).bind fun q21 =>
  if q21.1 = 0 then ((F_427 q21.2).bind fun q22 =>
  if q22.1 = 0 then (F_455_75 q22.2)
  else ((F_418 q22.2).bind fun q23 =>
  if q23.1 = 0 then (some (0, q23.2))
  else (if (q23.2.1 67 80) = 4 then ((F_420 q23.2).bind fun q24 =>
  (some (sm_wI q24 67 86 ((q24.1 67 86) - 1))).bind fun h25 =>
  (ldI h25 122 24 x1).bind fun v26 =>
  (some ((v26 - 1) : Int32)).bind fun v27 =>
  F_455_123 x1 v27 h25)
  else ((F_456 x1 q23.2).bind fun q28 =>
  if q28.1 = 0 ∨ q28.1 = 1 then some (q28.1, q28.2) else none))))
  else (F_455_75 q21.2))
  else ((ldI h 122 24 x1).bind fun v14 =>
  (ldI h 124 24 x1).bind fun v15 =>
  if v15 = (2 * v14) then ((ldI h 121 24 x1).bind fun v16 =>
  if v16 = 2 then ((F_427 h).bind fun q17 =>
  if q17.1 = 0 then (some (0, q17.2))
  else ((stI q17.2 121 24 x1 3).bind fun h18 =>
  F_455_222 x1 v14 h18))
  else (F_455_222 x1 v14 h))
  else (F_455_222 x1 v14 h)))
abbrev F_455 (x1 : Int32) (h : sm_H) : Option (Int32 × sm_H) := F_455_0 x1 h
def F_451_124 (z0 : Int32) (h : sm_H) : Option (Int32 × sm_H) :=
  if z0 = 0 ∨ z0 = 1 then some (z0, h) else none
def F_451_83 (z0 : Int32) (h : sm_H) : Option (Int32 × sm_H) :=
  if z0 = 0 ∨ z0 = 1 then some (z0, h) else none
def F_451_43 (z0 : Int32) (h : sm_H) : Option (Int32 × sm_H) :=
  if z0 = 0 ∨ z0 = 1 then some (z0, h) else none
def F_451_0  (h : sm_H) : Option (Int32 × sm_H) :=
  (some (((h.1 67 102) - 1) : Int32)).bind fun v1 =>
  (ldI h 119 24 v1).bind fun v2 =>
  (F_442 v2 h).bind fun q3 =>
  if q3.1 = (-1) then ((ldI q3.2 119 24 v1).bind fun v4 =>
  if v4 = 18 then ((F_418 q3.2).bind fun q10 =>
  if q10.1 = 0 then (some (0, q10.2))
  else (if (q10.2.1 67 80) = 4 then ((F_457 q10.2).bind fun q12 =>
  F_451_83 q12.1 q12.2)
  else ((F_448 q10.2).bind fun q11 =>
  F_451_83 q11.1 q11.2)))
  else ((ldI q3.2 119 24 v1).bind fun v5 =>
  if v5 = 3 then ((F_453 v1 q3.2).bind fun q9 =>
  if q9.1 = 0 ∨ q9.1 = 1 then some (q9.1, q9.2) else none)
  else ((ldI q3.2 119 24 v1).bind fun v6 =>
  if v6 = 6 then ((F_454 v1 q3.2).bind fun q8 =>
  F_451_124 q8.1 q8.2)
  else ((F_455 v1 q3.2).bind fun q7 =>
  F_451_124 q7.1 q7.2))))
  else ((ldI q3.2 124 24 v1).bind fun v13 =>
  if q3.1 ≤ v13 then ((F_457 q3.2).bind fun q14 =>
  F_451_43 q14.1 q14.2)
  else ((F_448 q3.2).bind fun q15 =>
  F_451_43 q15.1 q15.2))
abbrev F_451  (h : sm_H) : Option (Int32 × sm_H) := F_451_0  h
def F_465_403 (y1 : Int32) (y4 : Int32) (y8 : Int32) (h : sm_H) : Option ((Int32 × Int32 × Int32 × sm_H) ⊕ (Int32 × sm_H)) :=
  (F_451 h).bind fun q1 =>
  if q1.1 = 0 then (some (.inr (0, q1.2)))
  else (some (.inl (y1, y4, y8, q1.2)))
def F_465_386B (s : (Int32 × Int32 × Int32 × sm_H)) : Option ((Int32 × Int32 × Int32 × sm_H) ⊕ (Int32 × sm_H)) :=
  if 1 < (s.2.2.2.1 67 102) then (F_465_403 s.1 s.2.1 s.2.2.1 s.2.2.2)
  else ((ldI s.2.2.2 124 24 0).bind fun v2 =>
  if v2 = 0 then (F_465_403 s.1 s.2.1 s.2.2.1 s.2.2.2)
  else ((F_427 s.2.2.2).bind fun q3 =>
  if q3.1 = 0 then (some (.inr (0, q3.2)))
  else ((some (sm_wI q3.2 67 106 s.1)).bind fun h4 =>
  (ldI h4 125 480 0).bind fun v5 =>
  (F_433 v5 s.2.1 h4).bind fun q6 =>
  if q6.1 = (-1) then (some (.inr (0, q6.2)))
  else ((stI q6.2 92 80 s.2.2.1 q6.1).bind fun h7 =>
  some (.inr (1, h7))))))
def F_465_386 (y1 : Int32) (y4 : Int32) (y8 : Int32) (h : sm_H) : Option (Int32 × sm_H) := lp F_465_386B 1000000 (y1, y4, y8, h)
def F_465_296 (y1 : Int32) (y2 : Int64) (y4 : Int32) (y5 : Int32) (z0 : Int32) (h : sm_H) : Option (Int32 × sm_H) :=
  if z0 = (-1) then (some (0, h))
  else ((F_398 z0 h).bind fun q8 =>
  if q8.1 = (-1) then ((F_413 8 y1 q8.2).bind fun q15 =>
  if q15.1 = 0 ∨ q15.1 = 1 then some (q15.1, q15.2) else none)
  else ((F_430 29 q8.1 0 0 q8.2).bind fun q9 =>
  if q9.1 = (-1) then (some (0, q9.2))
  else ((stJ q9.2 113 60 y5 y2).bind fun h10 =>
  (stI h10 114 60 y5 q9.1).bind fun h11 =>
  (some (sm_wI h11 67 91 ((h11.1 67 91) + 1))).bind fun h12 =>
  (some (sm_wI h12 67 102 0)).bind fun h13 =>
  (F_445 0 y1 h13).bind fun q14 =>
  F_465_386 y1 y4 q8.1 q14)))
def F_465_228B (s : (Int32 × Int64 × Int32 × Int32 × Int32 × sm_H)) : Option ((Int32 × Int64 × Int32 × Int32 × Int32 × sm_H) ⊕ (Int32 × sm_H)) :=
  if s.2.2.2.2.1 < 0 then ((some (sm_wI s.2.2.2.2.2 67 106 s.1)).bind fun h16 =>
  (F_428 s.2.2.1 h16).bind fun q17 =>
  if q17.1 = (-1) then ((F_465_296 s.1 s.2.1 s.2.2.1 s.2.2.2.1 (-1) q17.2).map fun r => (.inr r))
  else ((F_430 34 0 q17.1 0 q17.2).bind fun q18 =>
  (F_465_296 s.1 s.2.1 s.2.2.1 s.2.2.2.1 q18.1 q18.2).map fun r => (.inr r)))
  else ((ldJ s.2.2.2.2.2 130 8 s.2.2.2.2.1).bind fun v19 =>
  (ldI s.2.2.2.2.2 116 360 ((6 * s.2.2.2.1) + s.2.2.2.2.1)).bind fun v20 =>
  (F_444 v19 v20 s.2.2.2.2.2).bind fun q21 =>
  (some (s.2.2.2.2.1 + (-1) : Int32)).bind fun v22 =>
  some (.inl (s.1, s.2.1, s.2.2.1, s.2.2.2.1, v22, q21)))
def F_465_228 (y1 : Int32) (y2 : Int64) (y4 : Int32) (y5 : Int32) (y6 : Int32) (h : sm_H) : Option (Int32 × sm_H) := lp F_465_228B 1000000 (y1, y2, y4, y5, y6, h)
def F_465_174B (s : (Int32 × Int64 × Int32 × Int32 × Int32 × sm_H)) : Option ((Int32 × Int64 × Int32 × Int32 × Int32 × sm_H) ⊕ (Int32 × sm_H)) :=
  (ldI s.2.2.2.2.2 115 60 s.2.2.2.1).bind fun v23 =>
  if v23 ≤ s.2.2.2.2.1 then ((some (sm_wI s.2.2.2.2.2 67 94 400)).bind fun h24 =>
  (ldI h24 115 60 s.2.2.2.1).bind fun v25 =>
  (some ((v25 - 1) : Int32)).bind fun v26 =>
  (F_465_228 s.1 s.2.1 s.2.2.1 s.2.2.2.1 v26 h24).map fun r => (.inr r))
  else ((ldJ s.2.2.2.2.2 117 400 (390 + s.2.2.2.2.1)).bind fun v27 =>
  (stJ s.2.2.2.2.2 130 8 s.2.2.2.2.1 v27).bind fun h28 =>
  (some (s.2.2.2.2.1 + 1 : Int32)).bind fun v29 =>
  some (.inl (s.1, s.2.1, s.2.2.1, s.2.2.2.1, v29, h28)))
def F_465_174 (y1 : Int32) (y2 : Int64) (y4 : Int32) (y5 : Int32) (y6 : Int32) (h : sm_H) : Option (Int32 × sm_H) := lp F_465_174B 1000000 (y1, y2, y4, y5, y6, h)
def F_465_118  (h : sm_H) : Option (Int32 × sm_H) :=
  (F_413 6 (h.1 67 81) h).bind fun q30 =>
  if q30.1 = 0 ∨ q30.1 = 1 then some (q30.1, q30.2) else none
def F_465_66  (h : sm_H) : Option (Int32 × sm_H) :=
  (F_421 h).bind fun q31 =>
  if q31.1 = 0 ∨ q31.1 = 1 then some (q31.1, q31.2) else none
def F_465_37  (h : sm_H) : Option (Int32 × sm_H) :=
  some (0, h)
def F_465_0  (h : sm_H) : Option (Int32 × sm_H) :=
  (some (sm_wI h 67 86 0)).bind fun h32 =>
  (some ((h32.1 67 81) : Int32)).bind fun v33 =>
  if (h32.1 67 80) = 3 then ((F_425 h32).bind fun q34 =>
  if q34.1 = 0 then (F_465_37 q34.2)
  else ((F_418 q34.2).bind fun q35 =>
  if q35.1 = 0 then (F_465_37 q35.2)
  else (if (q35.2.1 67 80) = 1 then ((F_439 100 101 102 0 0 q35.2).bind fun q36 =>
  if (lg_cmp (q35.2.2.1 67 83) q36.1) = 0 then ((F_420 q36.2).bind fun q37 =>
  (F_418 q37).bind fun q38 =>
  if q38.1 = 0 then (some (0, q38.2))
  else (if (q38.2.1 67 80) = 1 then ((F_443 (q38.2.2.1 67 83) q38.2).bind fun q39 =>
  if q39.1 = (-1) then (if (q39.2.1 67 91) = 60 then (F_465_118 q39.2)
  else ((some ((q39.2.2.1 67 83) : Int64)).bind fun v40 =>
  (F_420 q39.2).bind fun q41 =>
  (F_424 1 q41).bind fun q42 =>
  if q42.1 = 0 then (some (0, q42.2))
  else ((some ((q42.2.1 67 105) : Int32)).bind fun v43 =>
  (some ((q42.2.1 67 91) : Int32)).bind fun v44 =>
  (F_464 v44 q42.2).bind fun q45 =>
  if q45.1 = 0 then (some (0, q45.2))
  else (F_465_174 v33 v40 v43 v44 0 q45.2))))
  else (F_465_118 q39.2))
  else ((F_421 q38.2).bind fun q46 =>
  if q46.1 = 0 ∨ q46.1 = 1 then some (q46.1, q46.2) else none)))
  else (F_465_66 q36.2))
  else (F_465_66 q35.2))))
  else ((F_421 h32).bind fun q47 =>
  if q47.1 = 0 ∨ q47.1 = 1 then some (q47.1, q47.2) else none)
abbrev F_465  (h : sm_H) : Option (Int32 × sm_H) := F_465_0  h
def F_466_59 (y1 : Int32) (h : sm_H) : Option (Int32 × sm_H) :=
  (some (sm_wI h 67 19 y1)).bind fun h1 =>
  (some (sm_wI h1 67 76 0)).bind fun h2 =>
  some ((h2.1 67 77), h2)
def F_466_55 (y1 : Int32) (z0 : Int32) (h : sm_H) : Option ((Int32 × Int32 × sm_H) ⊕ (Int32 × sm_H)) :=
  some (.inl (y1, z0, h))
def F_466_54 (y1 : Int32) (h : sm_H) : Option ((Int32 × Int32 × sm_H) ⊕ (Int32 × sm_H)) :=
  F_466_55 y1 0 h
def F_466_25B (s : (Int32 × Int32 × sm_H)) : Option ((Int32 × Int32 × sm_H) ⊕ (Int32 × sm_H)) :=
  if s.2.1 = 0 then ((F_466_59 s.1 s.2.2).map fun r => (.inr r))
  else (if (s.2.2.1 67 80) = 0 then ((F_466_59 s.1 s.2.2).map fun r => (.inr r))
  else ((F_465 s.2.2).bind fun q3 =>
  if q3.1 = 0 then (F_466_54 s.1 q3.2)
  else ((F_418 q3.2).bind fun q4 =>
  if q4.1 = 0 then (F_466_54 s.1 q4.2)
  else (F_466_55 s.1 1 q4.2))))
def F_466_25 (y1 : Int32) (y2 : Int32) (h : sm_H) : Option (Int32 × sm_H) := lp F_466_25B 1000000 (y1, y2, h)
def F_466_0  (h : sm_H) : Option (Int32 × sm_H) :=
  (some (sm_wI h 67 77 0)).bind fun h5 =>
  (some (sm_wI h5 67 78 (-1))).bind fun h6 =>
  (some (sm_wI h6 67 79 0)).bind fun h7 =>
  (some ((h7.1 67 19) : Int32)).bind fun v8 =>
  (F_418 h7).bind fun q9 =>
  F_466_25 v8 q9.1 q9.2
abbrev F_466  (h : sm_H) : Option (Int32 × sm_H) := F_466_0  h
abbrev G0 : sm_G := P_G 0 (fun _ => 0)
def ldD (h : sm_H) (b : Nat) (i : Int32) : Option Int32 := bif Nat.ble 1000000 b then none else sm_ldI G0 h b i
def ldDJ (h : sm_H) (b : Nat) (i : Int32) : Option Int64 := bif Nat.ble 2000000 b then none else sm_ldJ G0 h b i
def alD (h : sm_H) (b : Nat) : Option Int32 := bif Nat.ble 1000000 b then none else sm_al G0 h b
def F_1_0  (h : sm_H) : Option (Nat × sm_H) :=
  some (1, h)
abbrev F_1  (h : sm_H) : Option (Nat × sm_H) := F_1_0  h
def F_2_0  (h : sm_H) : Option (Nat × sm_H) :=
  some (5, h)
abbrev F_2  (h : sm_H) : Option (Nat × sm_H) := F_2_0  h
def F_3_0  (h : sm_H) : Option (Nat × sm_H) :=
  some (10, h)
abbrev F_3  (h : sm_H) : Option (Nat × sm_H) := F_3_0  h
def F_4_0  (h : sm_H) : Option (Nat × sm_H) :=
  some (21, h)
abbrev F_4  (h : sm_H) : Option (Nat × sm_H) := F_4_0  h
def F_35_0  (h : sm_H) : Option (Int32 × sm_H) :=
  some ((h.1 10 11), h)
abbrev F_35  (h : sm_H) : Option (Int32 × sm_H) := F_35_0  h
def F_36_17 (z0 : Int32) (h : sm_H) : Option (Int32 × sm_H) :=
  if z0 = 0 ∨ z0 = 1 then some (z0, h) else none
def F_36_16  (h : sm_H) : Option (Int32 × sm_H) :=
  F_36_17 0 h
def F_36_0 (x1 : Int32) (h : sm_H) : Option (Int32 × sm_H) :=
  if x1 < 0 then (F_36_16 h)
  else (if (h.1 10 11) ≤ x1 then (F_36_16 h)
  else (F_36_17 1 h))
abbrev F_36 (x1 : Int32) (h : sm_H) : Option (Int32 × sm_H) := F_36_0 x1 h
def F_37_22 (z0 : Int32) (h : sm_H) : Option (Int32 × sm_H) :=
  some (z0, h)
def F_37_21  (h : sm_H) : Option (Int32 × sm_H) :=
  F_37_22 (-1) h
def F_37_0 (x1 : Int32) (h : sm_H) : Option (Int32 × sm_H) :=
  if x1 < 0 then (F_37_21 h)
  else (if (h.1 10 11) ≤ x1 then (F_37_21 h)
  else ((ldI h 11 500 x1).bind fun v1 =>
  F_37_22 v1 h))
abbrev F_37 (x1 : Int32) (h : sm_H) : Option (Int32 × sm_H) := F_37_0 x1 h
def F_38_22 (z0 : Int32) (h : sm_H) : Option (Int32 × sm_H) :=
  some (z0, h)
def F_38_21  (h : sm_H) : Option (Int32 × sm_H) :=
  F_38_22 0 h
def F_38_0 (x1 : Int32) (h : sm_H) : Option (Int32 × sm_H) :=
  if x1 < 0 then (F_38_21 h)
  else (if (h.1 10 11) ≤ x1 then (F_38_21 h)
  else ((ldI h 12 500 x1).bind fun v1 =>
  F_38_22 v1 h))
abbrev F_38 (x1 : Int32) (h : sm_H) : Option (Int32 × sm_H) := F_38_0 x1 h
def F_39_22 (z0 : Int32) (h : sm_H) : Option (Int32 × sm_H) :=
  some (z0, h)
def F_39_21  (h : sm_H) : Option (Int32 × sm_H) :=
  F_39_22 0 h
def F_39_0 (x1 : Int32) (h : sm_H) : Option (Int32 × sm_H) :=
  if x1 < 0 then (F_39_21 h)
  else (if (h.1 10 11) ≤ x1 then (F_39_21 h)
  else ((ldI h 13 500 x1).bind fun v1 =>
  F_39_22 v1 h))
abbrev F_39 (x1 : Int32) (h : sm_H) : Option (Int32 × sm_H) := F_39_0 x1 h
def F_40_22 (z0 : Int64) (h : sm_H) : Option (Int64 × sm_H) :=
  some (z0, h)
def F_40_21  (h : sm_H) : Option (Int64 × sm_H) :=
  F_40_22 0 h
def F_40_0 (x1 : Int32) (h : sm_H) : Option (Int64 × sm_H) :=
  if x1 < 0 then (F_40_21 h)
  else (if (h.1 10 11) ≤ x1 then (F_40_21 h)
  else ((ldJ h 14 500 x1).bind fun v1 =>
  F_40_22 v1 h))
abbrev F_40 (x1 : Int32) (h : sm_H) : Option (Int64 × sm_H) := F_40_0 x1 h
def F_41_22 (z0 : Int32) (h : sm_H) : Option (Int32 × sm_H) :=
  some (z0, h)
def F_41_21  (h : sm_H) : Option (Int32 × sm_H) :=
  F_41_22 (-1) h
def F_41_0 (x1 : Int32) (h : sm_H) : Option (Int32 × sm_H) :=
  if x1 < 0 then (F_41_21 h)
  else (if (h.1 10 11) ≤ x1 then (F_41_21 h)
  else ((ldI h 17 500 x1).bind fun v1 =>
  F_41_22 v1 h))
abbrev F_41 (x1 : Int32) (h : sm_H) : Option (Int32 × sm_H) := F_41_0 x1 h
def F_42_22 (z0 : Int32) (h : sm_H) : Option (Int32 × sm_H) :=
  some (z0, h)
def F_42_21  (h : sm_H) : Option (Int32 × sm_H) :=
  F_42_22 0 h
def F_42_0 (x1 : Int32) (h : sm_H) : Option (Int32 × sm_H) :=
  if x1 < 0 then (F_42_21 h)
  else (if (h.1 10 11) ≤ x1 then (F_42_21 h)
  else ((ldI h 15 500 x1).bind fun v1 =>
  F_42_22 v1 h))
abbrev F_42 (x1 : Int32) (h : sm_H) : Option (Int32 × sm_H) := F_42_0 x1 h
def F_43_26  (h : sm_H) : Option (Int32 × sm_H) :=
  some ((-1), h)
def F_43_0 (x1 : Int32) (x2 : Int32) (h : sm_H) : Option (Int32 × sm_H) :=
  if x1 < 0 then (F_43_26 h)
  else (if (h.1 10 11) ≤ x1 then (F_43_26 h)
  else (if x2 < 0 then (F_43_26 h)
  else ((ldI h 15 500 x1).bind fun v1 =>
  if x2 < v1 then ((ldI h 16 10000 ((x1 * 20) + x2)).bind fun v2 =>
  some (v2, h))
  else (F_43_26 h))))
abbrev F_43 (x1 : Int32) (x2 : Int32) (h : sm_H) : Option (Int32 × sm_H) := F_43_0 x1 x2 h
def F_44_22 (z0 : Int32) (h : sm_H) : Option (Int32 × sm_H) :=
  some (z0, h)
def F_44_21  (h : sm_H) : Option (Int32 × sm_H) :=
  F_44_22 (-1) h
def F_44_0 (x1 : Int32) (h : sm_H) : Option (Int32 × sm_H) :=
  if x1 < 0 then (F_44_21 h)
  else (if (h.1 10 11) ≤ x1 then (F_44_21 h)
  else ((ldI h 18 500 x1).bind fun v1 =>
  F_44_22 v1 h))
abbrev F_44 (x1 : Int32) (h : sm_H) : Option (Int32 × sm_H) := F_44_0 x1 h
def F_45_22 (z0 : Int32) (h : sm_H) : Option (Int32 × sm_H) :=
  some (z0, h)
def F_45_21  (h : sm_H) : Option (Int32 × sm_H) :=
  F_45_22 0 h
def F_45_0 (x1 : Int32) (h : sm_H) : Option (Int32 × sm_H) :=
  if x1 < 0 then (F_45_21 h)
  else (if (h.1 10 11) ≤ x1 then (F_45_21 h)
  else ((ldI h 19 500 x1).bind fun v1 =>
  F_45_22 v1 h))
abbrev F_45 (x1 : Int32) (h : sm_H) : Option (Int32 × sm_H) := F_45_0 x1 h
def F_46_26  (h : sm_H) : Option (Int32 × sm_H) :=
  some ((-1), h)
def F_46_0 (x1 : Int32) (x2 : Int32) (h : sm_H) : Option (Int32 × sm_H) :=
  if x1 < 0 then (F_46_26 h)
  else (if (h.1 10 11) ≤ x1 then (F_46_26 h)
  else (if x2 < 0 then (F_46_26 h)
  else ((ldI h 19 500 x1).bind fun v1 =>
  if x2 < v1 then ((ldI h 20 5000 ((x1 * 10) + x2)).bind fun v2 =>
  some (v2, h))
  else (F_46_26 h))))
abbrev F_46 (x1 : Int32) (x2 : Int32) (h : sm_H) : Option (Int32 × sm_H) := F_46_0 x1 x2 h
def F_47_33 (z0 : Int32) (h : sm_H) : Option (Int32 × sm_H) :=
  some (z0, h)
def F_47_23  (h : sm_H) : Option (Int32 × sm_H) :=
  F_47_33 0 h
def F_47_10 (z0 : Int32) (h : sm_H) : Option (Int32 × sm_H) :=
  if z0 < 0 then (F_47_23 h)
  else (if z0 < (h.1 10 11) then ((ldI h 18 500 z0).bind fun v1 =>
  F_47_33 v1 h)
  else (F_47_23 h))
def F_47_0 (x1 : Int32) (x2 : Int32) (h : sm_H) : Option (Int32 × sm_H) :=
  if x2 = (-1) then (F_47_10 x1 h)
  else (F_47_10 x2 h)
abbrev F_47 (x1 : Int32) (x2 : Int32) (h : sm_H) : Option (Int32 × sm_H) := F_47_0 x1 x2 h
def F_53_17 (z0 : Int32) (h : sm_H) : Option (Int32 × sm_H) :=
  if z0 = 0 ∨ z0 = 1 then some (z0, h) else none
def F_53_16  (h : sm_H) : Option (Int32 × sm_H) :=
  F_53_17 0 h
def F_53_0 (x1 : Int32) (h : sm_H) : Option (Int32 × sm_H) :=
  if x1 < 0 then (F_53_16 h)
  else (if (h.1 1 3) ≤ x1 then (F_53_16 h)
  else (F_53_17 1 h))
abbrev F_53 (x1 : Int32) (h : sm_H) : Option (Int32 × sm_H) := F_53_0 x1 h
def F_54_17 (z0 : Int32) (h : sm_H) : Option (Int32 × sm_H) :=
  if z0 = 0 ∨ z0 = 1 then some (z0, h) else none
def F_54_16  (h : sm_H) : Option (Int32 × sm_H) :=
  F_54_17 0 h
def F_54_0 (x1 : Int32) (h : sm_H) : Option (Int32 × sm_H) :=
  (F_53 x1 h).bind fun q1 =>
  if q1.1 = 0 then (F_54_16 q1.2)
  else (if x1 = 0 then (F_54_16 q1.2)
  else (F_54_17 1 q1.2))
abbrev F_54 (x1 : Int32) (h : sm_H) : Option (Int32 × sm_H) := F_54_0 x1 h
def F_55_19 (z0 : Int32) (h : sm_H) : Option (Int32 × sm_H) :=
  if z0 = 0 ∨ z0 = 1 then some (z0, h) else none
def F_55_18  (h : sm_H) : Option (Int32 × sm_H) :=
  F_55_19 0 h
def F_55_0 (x1 : Int32) (h : sm_H) : Option (Int32 × sm_H) :=
  if x1 < 20 then (F_55_18 h)
  else (if (h.1 1 3) ≤ x1 then (F_55_18 h)
  else (F_55_19 1 h))
abbrev F_55 (x1 : Int32) (h : sm_H) : Option (Int32 × sm_H) := F_55_0 x1 h
def F_56_16 (z0 : Int32) (h : sm_H) : Option (Int32 × sm_H) :=
  if z0 = 0 ∨ z0 = 1 then some (z0, h) else none
def F_56_15  (h : sm_H) : Option (Int32 × sm_H) :=
  F_56_16 0 h
def F_56_0 (x1 : Int32) (h : sm_H) : Option (Int32 × sm_H) :=
  if x1 < 1 then (F_56_15 h)
  else (if 6 < x1 then (F_56_15 h)
  else (F_56_16 1 h))
abbrev F_56 (x1 : Int32) (h : sm_H) : Option (Int32 × sm_H) := F_56_0 x1 h
def F_57_19 (z0 : Int32) (h : sm_H) : Option (Int32 × sm_H) :=
  if z0 = 0 ∨ z0 = 1 then some (z0, h) else none
def F_57_18  (h : sm_H) : Option (Int32 × sm_H) :=
  F_57_19 0 h
def F_57_0 (x1 : Int32) (h : sm_H) : Option (Int32 × sm_H) :=
  if x1 < 7 then (F_57_18 h)
  else (if (h.1 1 3) ≤ x1 then (F_57_18 h)
  else (F_57_19 1 h))
abbrev F_57 (x1 : Int32) (h : sm_H) : Option (Int32 × sm_H) := F_57_0 x1 h
def F_58_17 (z0 : Int32) (h : sm_H) : Option (Int32 × sm_H) :=
  if z0 = 0 ∨ z0 = 1 then some (z0, h) else none
def F_58_16  (h : sm_H) : Option (Int32 × sm_H) :=
  F_58_17 0 h
def F_58_0 (x1 : Int32) (h : sm_H) : Option (Int32 × sm_H) :=
  if x1 < 9 then (F_58_16 h)
  else (if 14 < x1 then (F_58_16 h)
  else (F_58_17 1 h))
abbrev F_58 (x1 : Int32) (h : sm_H) : Option (Int32 × sm_H) := F_58_0 x1 h
def F_59_17 (z0 : Int32) (h : sm_H) : Option (Int32 × sm_H) :=
  if z0 = 0 ∨ z0 = 1 then some (z0, h) else none
def F_59_16  (h : sm_H) : Option (Int32 × sm_H) :=
  F_59_17 0 h
def F_59_0 (x1 : Int32) (h : sm_H) : Option (Int32 × sm_H) :=
  if x1 < 15 then (F_59_16 h)
  else (if 17 < x1 then (F_59_16 h)
  else (F_59_17 1 h))
abbrev F_59 (x1 : Int32) (h : sm_H) : Option (Int32 × sm_H) := F_59_0 x1 h
def F_60_24  (h : sm_H) : Option (Int32 × sm_H) :=
  some (0, h)
def F_60_0 (x1 : Int32) (x2 : Int32) (h : sm_H) : Option (Int32 × sm_H) :=
  if x1 < 0 then (F_60_24 h)
  else (if (h.1 1 3) ≤ x1 then (F_60_24 h)
  else (if x2 < 0 then (F_60_24 h)
  else (if x2 < (h.1 1 3) then ((ldZ h 2 1024 ((x1 * 32) + x2)).bind fun v1 =>
  if v1 = 0 ∨ v1 = 1 then some (v1, h) else none)
  else (F_60_24 h))))
abbrev F_60 (x1 : Int32) (x2 : Int32) (h : sm_H) : Option (Int32 × sm_H) := F_60_0 x1 x2 h
def F_61_18 (z0 : Int32) (h : sm_H) : Option (Int32 × sm_H) :=
  some (z0, h)
def F_61_0 (x1 : Int32) (h : sm_H) : Option (Int32 × sm_H) :=
  (F_55 x1 h).bind fun q1 =>
  if q1.1 = 0 then (F_61_18 (-1) q1.2)
  else ((ldI q1.2 3 32 x1).bind fun v2 =>
  F_61_18 v2 q1.2)
abbrev F_61 (x1 : Int32) (h : sm_H) : Option (Int32 × sm_H) := F_61_0 x1 h
def F_62_36 (z0 : Int32) (h : sm_H) : Option (Int32 × sm_H) :=
  if z0 = 0 ∨ z0 = 1 then some (z0, h) else none
def F_62_35  (h : sm_H) : Option (Int32 × sm_H) :=
  F_62_36 0 h
def F_62_0 (x1 : Int32) (x2 : Int32) (h : sm_H) : Option (Int32 × sm_H) :=
  (F_55 x1 h).bind fun q1 =>
  if q1.1 = 0 then (F_62_35 q1.2)
  else ((F_55 x2 q1.2).bind fun q2 =>
  if q2.1 = 0 then (F_62_35 q2.2)
  else ((ldI q2.2 4 32 x1).bind fun v3 =>
  (ldI q2.2 4 32 x2).bind fun v4 =>
  if v3 = v4 then (F_62_36 1 q2.2)
  else (F_62_35 q2.2)))
abbrev F_62 (x1 : Int32) (x2 : Int32) (h : sm_H) : Option (Int32 × sm_H) := F_62_0 x1 x2 h
def F_63_18 (z0 : Int32) (h : sm_H) : Option (Int32 × sm_H) :=
  some (z0, h)
def F_63_0 (x1 : Int32) (h : sm_H) : Option (Int32 × sm_H) :=
  (F_59 x1 h).bind fun q1 =>
  if q1.1 = 0 then (F_63_18 0 q1.2)
  else (F_63_18 ((x1 - 15) + 5) q1.2)
abbrev F_63 (x1 : Int32) (h : sm_H) : Option (Int32 × sm_H) := F_63_0 x1 h
def F_67_43 (z0 : Int32) (h : sm_H) : Option (Int32 × sm_H) :=
  if z0 = 0 ∨ z0 = 1 then some (z0, h) else none
def F_67_38  (h : sm_H) : Option (Int32 × sm_H) :=
  F_67_43 1 h
def F_67_42  (h : sm_H) : Option (Int32 × sm_H) :=
  F_67_43 0 h
def F_67_22 (y1 : Int32) (y2 : Int32) (h : sm_H) : Option (Int32 × sm_H) :=
  if y2 ≤ y1 then (F_67_42 h)
  else (if y2 = 5 then (F_67_38 h)
  else (if y2 = 6 then (F_67_38 h)
  else (F_67_42 h)))
def F_67_10  (h : sm_H) : Option (Int32 × sm_H) :=
  some (0, h)
def F_67_0 (x1 : Int32) (x2 : Int32) (h : sm_H) : Option (Int32 × sm_H) :=
  if x1 < 2 then (F_67_10 h)
  else (if x1 ≤ 5 then (if x1 = 2 then (if x2 = 3 then (F_67_38 h)
  else (F_67_22 x1 x2 h))
  else (F_67_22 x1 x2 h))
  else (F_67_10 h))
abbrev F_67 (x1 : Int32) (x2 : Int32) (h : sm_H) : Option (Int32 × sm_H) := F_67_0 x1 x2 h
def F_68_0 (x1 : Int64) (x3 : Int32) (h : sm_H) : Option (Int64 × sm_H) :=
  if x3 = 1 then (some ((x1 &&& 1), h))
  else (if x3 = 2 then (some ((Int32.toInt64 (Int32.toInt8 (Int64.toInt32 x1)).toInt32), h))
  else (if x3 = 3 then (some ((Int32.toInt64 (Int32.toInt16 (Int64.toInt32 x1)).toInt32), h))
  else (if x3 = 4 then (some ((Int32.toInt64 (Int32.toUInt32 (Int64.toInt32 x1) % 65536).toInt32), h))
  else (if x3 = 5 then (some ((Int32.toInt64 (Int64.toInt32 x1)), h))
  else (some (x1, h))))))
abbrev F_68 (x1 : Int64) (x3 : Int32) (h : sm_H) : Option (Int64 × sm_H) := F_68_0 x1 x3 h
def F_70_0  (h : sm_H) : Option (Int64 × sm_H) :=
  some ((h.2.1 49 9), h)
abbrev F_70  (h : sm_H) : Option (Int64 × sm_H) := F_70_0  h
def F_71_0  (h : sm_H) : Option (Int32 × sm_H) :=
  some ((h.1 49 10), h)
abbrev F_71  (h : sm_H) : Option (Int32 × sm_H) := F_71_0  h
def F_72_0 (x1 : Int32) (h : sm_H) : Option (Int32 × sm_H) :=
  if x1 = 0 then (some ((h.1 49 11), h))
  else (if x1 = 1 then (some ((h.1 49 8), h))
  else (if x1 = 2 then (some ((h.1 49 12), h))
  else (if x1 = 3 then (some ((h.1 49 10), h))
  else (some ((-1), h)))))
abbrev F_72 (x1 : Int32) (h : sm_H) : Option (Int32 × sm_H) := F_72_0 x1 h
def F_75_0 (x1 : Int64) (x3 : Int32) (h : sm_H) : Option (Int32 × sm_H) :=
  (some (sm_wJ h 49 9 x1)).bind fun h1 =>
  (some (sm_wI h1 49 10 x3)).bind fun h2 =>
  some (0, h2)
abbrev F_75 (x1 : Int64) (x3 : Int32) (h : sm_H) : Option (Int32 × sm_H) := F_75_0 x1 x3 h
def F_76_0 (x1 : Int32) (h : sm_H) : Option (Int32 × sm_H) :=
  (some (sm_wJ h 49 9 (Int32.toInt64 x1))).bind fun h1 =>
  (some (sm_wI h1 49 10 19)).bind fun h2 =>
  some (1, h2)
abbrev F_76 (x1 : Int32) (h : sm_H) : Option (Int32 × sm_H) := F_76_0 x1 h
def F_77_30 (z0 : Int64) (h : sm_H) : Option (Int64 × sm_H) :=
  some (z0, h)
def F_77_29  (h : sm_H) : Option (Int64 × sm_H) :=
  F_77_30 0 h
def F_77_0 (x1 : Int32) (x2 : Int32) (h : sm_H) : Option (Int64 × sm_H) :=
  (some (((x1 * 16) + x2) : Int32)).bind fun v1 =>
  if v1 < 0 then (F_77_29 h)
  else ((sm_al G0 h 50).bind fun v2 =>
  if v2 ≤ v1 then (F_77_29 h)
  else ((ldJ h 50 1616 v1).bind fun v3 =>
  F_77_30 v3 h))
abbrev F_77 (x1 : Int32) (x2 : Int32) (h : sm_H) : Option (Int64 × sm_H) := F_77_0 x1 x2 h
def F_78_30 (z0 : Int32) (h : sm_H) : Option (Int32 × sm_H) :=
  some (z0, h)
def F_78_29  (h : sm_H) : Option (Int32 × sm_H) :=
  F_78_30 0 h
def F_78_0 (x1 : Int32) (x2 : Int32) (h : sm_H) : Option (Int32 × sm_H) :=
  (some (((x1 * 16) + x2) : Int32)).bind fun v1 =>
  if v1 < 0 then (F_78_29 h)
  else ((sm_al G0 h 51).bind fun v2 =>
  if v2 ≤ v1 then (F_78_29 h)
  else ((ldI h 51 1616 v1).bind fun v3 =>
  F_78_30 v3 h))
abbrev F_78 (x1 : Int32) (x2 : Int32) (h : sm_H) : Option (Int32 × sm_H) := F_78_0 x1 x2 h
def F_79_50  (h : sm_H) : Option (sm_H) :=
  some h
def F_79_0 (x1 : Int32) (x2 : Int32) (x3 : Int64) (x5 : Int32) (h : sm_H) : Option (sm_H) :=
  (some (((x1 * 16) + x2) : Int32)).bind fun v1 =>
  if v1 < 0 then (F_79_50 h)
  else ((sm_al G0 h 50).bind fun v2 =>
  if v2 ≤ v1 then (F_79_50 h)
  else ((sm_al G0 h 51).bind fun v3 =>
  if v3 ≤ v1 then (F_79_50 h)
  else ((stJ h 50 1616 v1 x3).bind fun h4 =>
  (stI h4 51 1616 v1 x5).bind fun h5 =>
  F_79_50 h5)))
abbrev F_79 (x1 : Int32) (x2 : Int32) (x3 : Int64) (x5 : Int32) (h : sm_H) : Option (sm_H) := F_79_0 x1 x2 x3 x5 h
def F_80_52  (h : sm_H) : Option (sm_H) :=
  some h
def F_80_3B (s : (Int32 × Int32 × Int32 × Int32 × Int32 × sm_H)) : Option ((Int32 × Int32 × Int32 × Int32 × Int32 × sm_H) ⊕ (sm_H)) :=
  if s.2.2.2.1 ≤ s.2.2.2.2.1 then ((F_80_52 s.2.2.2.2.2).map fun r => (.inr r))
  else (if 16 ≤ s.2.2.2.2.1 then ((F_80_52 s.2.2.2.2.2).map fun r => (.inr r))
  else ((F_77 s.1 (s.2.1 + s.2.2.2.2.1) s.2.2.2.2.2).bind fun q1 =>
  (F_78 s.1 (s.2.1 + s.2.2.2.2.1) q1.2).bind fun q2 =>
  (F_79 (s.1 + 1) (s.2.2.1 + s.2.2.2.2.1) q1.1 q2.1 q2.2).bind fun q3 =>
  (some (s.2.2.2.2.1 + 1 : Int32)).bind fun v4 =>
  some (.inl (s.1, s.2.1, s.2.2.1, s.2.2.2.1, v4, q3))))
def F_80_3 (y1 : Int32) (y2 : Int32) (y3 : Int32) (y4 : Int32) (y5 : Int32) (h : sm_H) : Option (sm_H) := lp F_80_3B 1000000 (y1, y2, y3, y4, y5, h)
def F_80_0 (x1 : Int32) (x2 : Int32) (x3 : Int32) (x4 : Int32) (h : sm_H) : Option (sm_H) :=
  F_80_3 x1 x2 x3 x4 0 h
abbrev F_80 (x1 : Int32) (x2 : Int32) (x3 : Int32) (x4 : Int32) (h : sm_H) : Option (sm_H) := F_80_0 x1 x2 x3 x4 h
def F_81_0 (x1 : Int32) (x2 : Int32) (h : sm_H) : Option (sm_H) :=
  (F_45 x2 h).bind fun q1 =>
  (F_80 x1 0 0 q1.1 q1.2).bind fun q2 =>
  some q2
abbrev F_81 (x1 : Int32) (x2 : Int32) (h : sm_H) : Option (sm_H) := F_81_0 x1 x2 h
def F_84_47 (z1 : Int32) (z2 : Int32) (h : sm_H) : Option (Int32 × sm_H) :=
  (F_43 z1 z2 h).bind fun q1 =>
  some (q1.1, q1.2)
def F_84_27 (y1 : Int32) (y2 : Int64) (z0 : Int32) (h : sm_H) : Option (Int32 × sm_H) :=
  if z0 = 0 then (F_84_47 y1 0 h)
  else (F_84_47 y1 ((Int64.toInt32 y2) + 1) h)
def F_84_26 (y1 : Int32) (y2 : Int64) (h : sm_H) : Option (Int32 × sm_H) :=
  F_84_27 y1 y2 0 h
def F_84_0 (x1 : Int32) (x2 : Int64) (h : sm_H) : Option (Int32 × sm_H) :=
  if (lg_cmp x2 0) < 0 then (F_84_26 x1 x2 h)
  else ((F_42 x1 h).bind fun q2 =>
  if 0 ≤ (lg_cmp x2 (Int32.toInt64 (q2.1 - 1))) then (F_84_26 x1 x2 q2.2)
  else (F_84_27 x1 x2 1 q2.2))
abbrev F_84 (x1 : Int32) (x2 : Int64) (h : sm_H) : Option (Int32 × sm_H) := F_84_0 x1 x2 h
def F_97_52 (y1 : Int32) (y3 : Int32) (z0 : Int32) (z1 : Int32) (h : sm_H) : Option ((Int32 × Int32 × Int32 × sm_H) ⊕ (Int32 × sm_H)) :=
  (some ((z0 + z1) : Int32)).bind fun v1 =>
  (some (y3 + 4 : Int32)).bind fun v2 =>
  some (.inl (y1, v1, v2, h))
def F_97_4B (s : (Int32 × Int32 × Int32 × sm_H)) : Option ((Int32 × Int32 × Int32 × sm_H) ⊕ (Int32 × sm_H)) :=
  (F_42 s.1 s.2.2.2).bind fun q3 =>
  if q3.1 ≤ s.2.2.1 then (some (.inr (s.2.1, q3.2)))
  else ((F_43 s.1 s.2.2.1 q3.2).bind fun q4 =>
  (F_43 s.1 (s.2.2.1 + 1) q4.2).bind fun q5 =>
  (F_47 q4.1 q5.1 q5.2).bind fun q6 =>
  if q6.1 = 0 then (F_97_52 s.1 s.2.2.1 s.2.1 0 q6.2)
  else (F_97_52 s.1 s.2.2.1 s.2.1 1 q6.2))
def F_97_4 (y1 : Int32) (y2 : Int32) (y3 : Int32) (h : sm_H) : Option (Int32 × sm_H) := lp F_97_4B 1000000 (y1, y2, y3, h)
def F_97_0 (x1 : Int32) (h : sm_H) : Option (Int32 × sm_H) :=
  F_97_4 x1 0 0 h
abbrev F_97 (x1 : Int32) (h : sm_H) : Option (Int32 × sm_H) := F_97_0 x1 h
def F_98_0 (x1 : Int32) (x2 : Int32) (x3 : Int32) (h : sm_H) : Option (sm_H) :=
  (F_45 x1 h).bind fun q1 =>
  (F_80 x3 10 0 (if q1.1 < x2 then q1.1 else x2) q1.2).bind fun q2 =>
  (F_80 x3 0 x2 (q1.1 - x2) q2).bind fun q3 =>
  some q3
abbrev F_98 (x1 : Int32) (x2 : Int32) (x3 : Int32) (h : sm_H) : Option (sm_H) := F_98_0 x1 x2 x3 h
def F_103_36 (z0 : Int32) (h : sm_H) : Option (Int32 × sm_H) :=
  if z0 = 0 ∨ z0 = 1 then some (z0, h) else none
def F_103_35  (h : sm_H) : Option (Int32 × sm_H) :=
  F_103_36 0 h
def F_103_0 (x1 : Int32) (h : sm_H) : Option (Int32 × sm_H) :=
  (F_77 x1 0 h).bind fun q1 =>
  (F_77 x1 1 q1.2).bind fun q2 =>
  if (lg_cmp q1.1 q2.1) = 0 then ((F_78 x1 0 q2.2).bind fun q3 =>
  (F_78 x1 1 q3.2).bind fun q4 =>
  if q3.1 = q4.1 then (F_103_36 1 q4.2)
  else (F_103_35 q4.2))
  else (F_103_35 q2.2)
abbrev F_103 (x1 : Int32) (h : sm_H) : Option (Int32 × sm_H) := F_103_0 x1 h
def F_105_90 (z0 : Int64) (h : sm_H) : Option (Int64 × sm_H) :=
  some (z0, h)
def F_105_74 (z0 : Int64) (h : sm_H) : Option (Int64 × sm_H) :=
  some (z0, h)
def F_105_0 (x1 : Int32) (x2 : Int64) (x4 : Int64) (h : sm_H) : Option (Int64 × sm_H) :=
  if x1 = 0 then (some ((x2 + x4), h))
  else (if x1 = 1 then (some ((x2 - x4), h))
  else (if x1 = 2 then (some ((x2 * x4), h))
  else (if x1 = 3 then (if (lg_cmp x4 0) = 0 then (F_105_74 0 h)
  else (if x4 = 0 then none else (F_105_74 (x2 / x4) h)))
  else (if x1 = 4 then (if (lg_cmp x4 0) = 0 then (F_105_90 0 h)
  else (if x4 = 0 then none else (F_105_90 (x2 - x2 / x4 * x4) h)))
  else (if x1 = 5 then (some ((x2 &&& x4), h))
  else (if x1 = 6 then (some ((x2 ||| x4), h))
  else (some ((x2 ^^^ x4), h))))))))
abbrev F_105 (x1 : Int32) (x2 : Int64) (x4 : Int64) (h : sm_H) : Option (Int64 × sm_H) := F_105_0 x1 x2 x4 h
def F_106_81 (z0 : Int64) (h : sm_H) : Option (Int64 × sm_H) :=
  some (z0, h)
def F_106_63 (z0 : Int64) (h : sm_H) : Option (Int64 × sm_H) :=
  some (z0, h)
def F_106_45 (z0 : Int64) (h : sm_H) : Option (Int64 × sm_H) :=
  some (z0, h)
def F_106_0 (x1 : Int32) (x2 : Int32) (x3 : Int64) (x5 : Int32) (h : sm_H) : Option (Int64 × sm_H) :=
  if x1 = 8 then (if x2 = 0 then (F_106_45 (Int32.toInt64 ((Int64.toInt32 x3) <<< (x5 &&& 31))) h)
  else (F_106_45 (x3 <<< (Int32.toInt64 x5 &&& 63)) h))
  else (if x1 = 9 then (if x2 = 0 then (F_106_63 (Int32.toInt64 ((Int64.toInt32 x3) >>> (x5 &&& 31))) h)
  else (F_106_63 (x3 >>> (Int32.toInt64 x5 &&& 63)) h))
  else (if x2 = 0 then (F_106_81 (Int32.toInt64 (Int32.toUInt32 (Int64.toInt32 x3) >>> (Int32.toUInt32 x5 &&& Int32.toUInt32 31)).toInt32) h)
  else (F_106_81 (Int64.toUInt64 x3 >>> ((Int32.toInt64 x5).toUInt64 &&& Int64.toUInt64 63)).toInt64 h)))
abbrev F_106 (x1 : Int32) (x2 : Int32) (x3 : Int64) (x5 : Int32) (h : sm_H) : Option (Int64 × sm_H) := F_106_0 x1 x2 x3 x5 h
def F_112_0  (h : sm_H) : Option (Int32 × sm_H) :=
  some ((h.1 38 13), h)
abbrev F_112  (h : sm_H) : Option (Int32 × sm_H) := F_112_0  h
def F_113_17 (z0 : Int32) (h : sm_H) : Option (Int32 × sm_H) :=
  if z0 = 0 ∨ z0 = 1 then some (z0, h) else none
def F_113_16  (h : sm_H) : Option (Int32 × sm_H) :=
  F_113_17 0 h
def F_113_0 (x1 : Int32) (h : sm_H) : Option (Int32 × sm_H) :=
  if x1 < 0 then (F_113_16 h)
  else (if (h.1 38 13) ≤ x1 then (F_113_16 h)
  else (F_113_17 1 h))
abbrev F_113 (x1 : Int32) (h : sm_H) : Option (Int32 × sm_H) := F_113_0 x1 h
def F_116_24 (z0 : Int32) (h : sm_H) : Option (Int32 × sm_H) :=
  if z0 = 0 ∨ z0 = 1 then some (z0, h) else none
def F_116_19  (h : sm_H) : Option (Int32 × sm_H) :=
  F_116_24 1 h
def F_116_0 (x1 : Int32) (x2 : Int32) (h : sm_H) : Option (Int32 × sm_H) :=
  if x1 < 0 then (F_116_19 h)
  else (if 99 < x1 then (F_116_19 h)
  else (if x2 < 0 then (F_116_19 h)
  else (if x2 ≤ 3 then (F_116_24 0 h)
  else (F_116_19 h))))
abbrev F_116 (x1 : Int32) (x2 : Int32) (h : sm_H) : Option (Int32 × sm_H) := F_116_0 x1 x2 h
def F_117_0 (x1 : Int32) (x2 : Int32) (x3 : Int32) (x4 : Int32) (h : sm_H) : Option (Int32 × sm_H) :=
  if (h.1 38 13) < 100 then ((stI h 39 100 (h.1 38 13) x1).bind fun h1 =>
  (stI h1 40 100 (h1.1 38 13) x2).bind fun h2 =>
  (stZ h2 42 100 (h2.1 38 13) x3).bind fun h3 =>
  (stI h3 41 100 (h3.1 38 13) x4).bind fun h4 =>
  (some (sm_wI h4 38 13 ((h4.1 38 13) + 1))).bind fun h5 =>
  some (((h5.1 38 13) - 1), h5))
  else (some ((-5), h))
abbrev F_117 (x1 : Int32) (x2 : Int32) (x3 : Int32) (x4 : Int32) (h : sm_H) : Option (Int32 × sm_H) := F_117_0 x1 x2 x3 x4 h
def F_122_16 (z0 : Int32) (h : sm_H) : Option (Int32 × sm_H) :=
  if z0 = 0 ∨ z0 = 1 then some (z0, h) else none
def F_122_15  (h : sm_H) : Option (Int32 × sm_H) :=
  F_122_16 0 h
def F_122_0 (x1 : Int32) (h : sm_H) : Option (Int32 × sm_H) :=
  if x1 < 2 then (F_122_15 h)
  else (if 6 < x1 then (F_122_15 h)
  else (F_122_16 1 h))
abbrev F_122 (x1 : Int32) (h : sm_H) : Option (Int32 × sm_H) := F_122_0 x1 h
def F_123_90 (z0 : Int32) (h : sm_H) : Option (Int32 × sm_H) :=
  if z0 = 0 ∨ z0 = 1 then some (z0, h) else none
def F_123_85  (h : sm_H) : Option (Int32 × sm_H) :=
  F_123_90 1 h
def F_123_50 (z0 : Int32) (h : sm_H) : Option (Int32 × sm_H) :=
  if z0 = 0 ∨ z0 = 1 then some (z0, h) else none
def F_123_0 (x1 : Int32) (x2 : Int32) (h : sm_H) : Option (Int32 × sm_H) :=
  (ldI h 39 100 x2).bind fun v1 =>
  (ldI h 41 100 x2).bind fun v2 =>
  if v2 = 0 then (if x1 = v1 then (F_123_50 1 h)
  else (F_123_50 0 h))
  else (if v2 = 1 then ((F_62 x1 v1 h).bind fun q3 =>
  if q3.1 = 0 ∨ q3.1 = 1 then some (q3.1, q3.2) else none)
  else (if v2 = 2 then ((F_62 x1 v1 h).bind fun q4 =>
  if q4.1 = 0 then ((F_60 x1 v1 q4.2).bind fun q5 =>
  if q5.1 = 0 then (F_123_90 0 q5.2)
  else (F_123_85 q5.2))
  else (F_123_85 q4.2))
  else (some (1, h))))
abbrev F_123 (x1 : Int32) (x2 : Int32) (h : sm_H) : Option (Int32 × sm_H) := F_123_0 x1 x2 h
def F_128_18 (z0 : Int32) (h : sm_H) : Option (Int32 × sm_H) :=
  some (z0, h)
def F_128_0 (x1 : Int32) (h : sm_H) : Option (Int32 × sm_H) :=
  (F_113 x1 h).bind fun q1 =>
  if q1.1 = 0 then (F_128_18 0 q1.2)
  else ((ldI q1.2 43 100 x1).bind fun v2 =>
  F_128_18 v2 q1.2)
abbrev F_128 (x1 : Int32) (h : sm_H) : Option (Int32 × sm_H) := F_128_0 x1 h
def F_129_18 (z0 : Int32) (h : sm_H) : Option (Int32 × sm_H) :=
  some (z0, h)
def F_129_0 (x1 : Int32) (h : sm_H) : Option (Int32 × sm_H) :=
  (F_113 x1 h).bind fun q1 =>
  if q1.1 = 0 then (F_129_18 (-1) q1.2)
  else ((ldI q1.2 46 100 x1).bind fun v2 =>
  F_129_18 v2 q1.2)
abbrev F_129 (x1 : Int32) (h : sm_H) : Option (Int32 × sm_H) := F_129_0 x1 h
def F_130_22 (z0 : Int32) (h : sm_H) : Option (Int32 × sm_H) :=
  if z0 = 0 ∨ z0 = 1 then some (z0, h) else none
def F_130_21  (h : sm_H) : Option (Int32 × sm_H) :=
  F_130_22 0 h
def F_130_0 (x1 : Int32) (h : sm_H) : Option (Int32 × sm_H) :=
  (F_113 x1 h).bind fun q1 =>
  if q1.1 = 0 then (F_130_21 q1.2)
  else ((ldZ q1.2 42 100 x1).bind fun v2 =>
  if v2 = 0 then (F_130_21 q1.2)
  else (F_130_22 1 q1.2))
abbrev F_130 (x1 : Int32) (h : sm_H) : Option (Int32 × sm_H) := F_130_0 x1 h
def F_131_18 (z0 : Int32) (h : sm_H) : Option (Int32 × sm_H) :=
  some (z0, h)
def F_131_0 (x1 : Int32) (h : sm_H) : Option (Int32 × sm_H) :=
  (F_113 x1 h).bind fun q1 =>
  if q1.1 = 0 then (F_131_18 (-1) q1.2)
  else ((ldI q1.2 44 100 x1).bind fun v2 =>
  F_131_18 v2 q1.2)
abbrev F_131 (x1 : Int32) (h : sm_H) : Option (Int32 × sm_H) := F_131_0 x1 h
def F_132_18 (z0 : Int32) (h : sm_H) : Option (Int32 × sm_H) :=
  some (z0, h)
def F_132_0 (x1 : Int32) (h : sm_H) : Option (Int32 × sm_H) :=
  (F_113 x1 h).bind fun q1 =>
  if q1.1 = 0 then (F_132_18 (-1) q1.2)
  else ((ldI q1.2 39 100 x1).bind fun v2 =>
  F_132_18 v2 q1.2)
abbrev F_132 (x1 : Int32) (h : sm_H) : Option (Int32 × sm_H) := F_132_0 x1 h
def F_136_0 (o : Nat) (h : sm_H) : Option (Int32 × sm_H) :=
  if sm_is G0 h o 5 = true then (some ((h.1 o 1), h)) else none
abbrev F_136 (o : Nat) (h : sm_H) : Option (Int32 × sm_H) := F_136_0 o h
def F_137_22 (z0 : Int32) (h : sm_H) : Option (Int32 × sm_H) :=
  some (z0, h)
def F_137_21  (h : sm_H) : Option (Int32 × sm_H) :=
  F_137_22 (-1) h
def F_137_0 (o : Nat) (x1 : Int32) (h : sm_H) : Option (Int32 × sm_H) :=
  if x1 < 0 then (F_137_21 h)
  else (if sm_is G0 h o 5 = true then (if (h.1 o 1) ≤ x1 then (F_137_21 h)
  else (if sm_is G0 h o 5 = true then ((sm_rr G0 h o 0).bind fun b3 =>
  (ldD h b3 x1).bind fun v4 =>
  F_137_22 v4 h) else none)) else none)
abbrev F_137 (o : Nat) (x1 : Int32) (h : sm_H) : Option (Int32 × sm_H) := F_137_0 o x1 h
def F_138_0 (o : Nat) (h : sm_H) : Option (sm_H) :=
  if sm_is G0 h o 5 = true then ((some (sm_wI h o 1 0)).bind fun h2 =>
  some h2) else none
abbrev F_138 (o : Nat) (h : sm_H) : Option (sm_H) := F_138_0 o h
def F_139_0 (o : Nat) (x1 : Int32) (h : sm_H) : Option (Int32 × sm_H) :=
  if sm_is G0 h o 5 = true then (if (h.1 o 1) < 20 then (if sm_is G0 h o 5 = true then ((sm_rr G0 h o 0).bind fun b3 =>
  if sm_is G0 h o 5 = true then ((sm_stI G0 h b3 (h.1 o 1) x1).bind fun h5 =>
  if sm_is G0 h5 o 5 = true then (if sm_is G0 h5 o 5 = true then ((some (sm_wI h5 o 1 ((h5.1 o 1) + 1))).bind fun h8 =>
  some (1, h8)) else none) else none) else none) else none)
  else (some (0, h))) else none
abbrev F_139 (o : Nat) (x1 : Int32) (h : sm_H) : Option (Int32 × sm_H) := F_139_0 o x1 h
def F_140_0 (o : Nat) (x1 : Int32) (h : sm_H) : Option (Nat × sm_H) :=
  if ¬ (sm_is G0 h o 5 = true) then none else (F_138 o h).bind fun q1 =>
  if ¬ (sm_is G0 q1 o 5 = true) then none else (F_139 o x1 q1).bind fun q3 =>
  some (o, q3.2)
abbrev F_140 (o : Nat) (x1 : Int32) (h : sm_H) : Option (Nat × sm_H) := F_140_0 o x1 h
def F_141_0 (o : Nat) (x1 : Int32) (x2 : Int32) (h : sm_H) : Option (Nat × sm_H) :=
  if ¬ (sm_is G0 h o 5 = true) then none else (F_138 o h).bind fun q1 =>
  if ¬ (sm_is G0 q1 o 5 = true) then none else (F_139 o x1 q1).bind fun q3 =>
  if ¬ (sm_is G0 q3.2 o 5 = true) then none else (F_139 o x2 q3.2).bind fun q5 =>
  some (o, q5.2)
abbrev F_141 (o : Nat) (x1 : Int32) (x2 : Int32) (h : sm_H) : Option (Nat × sm_H) := F_141_0 o x1 x2 h
def F_143_0  (h : sm_H) : Option (Int32 × sm_H) :=
  some ((h.1 21 2), h)
abbrev F_143  (h : sm_H) : Option (Int32 × sm_H) := F_143_0  h
def F_144_0  (h : sm_H) : Option (Int32 × sm_H) :=
  some ((h.1 21 6), h)
abbrev F_144  (h : sm_H) : Option (Int32 × sm_H) := F_144_0  h
def F_145_0  (h : sm_H) : Option (Nat × sm_H) :=
  some (23, h)
abbrev F_145  (h : sm_H) : Option (Nat × sm_H) := F_145_0  h
def F_147_41 (z0 : Nat) (h : sm_H) : Option (Nat × sm_H) :=
  some (z0, h)
def F_147_16  (h : sm_H) : Option (Nat × sm_H) :=
  some (26, h)
def F_147_0 (x1 : Int64) (h : sm_H) : Option (Nat × sm_H) :=
  if (lg_cmp x1 0) < 0 then (F_147_16 h)
  else (if (lg_cmp x1 (Int32.toInt64 (h.1 21 2))) < 0 then (((sm_ldR G0 h 22 (Int64.toInt32 x1)).bind id).bind fun b1 =>
  F_147_41 b1 h)
  else (F_147_16 h))
abbrev F_147 (x1 : Int64) (h : sm_H) : Option (Nat × sm_H) := F_147_0 x1 h
def F_155_0 (x1 : Int32) (h : sm_H) : Option (Int32 × sm_H) :=
  if (h.1 21 8) < 80 then ((stI h 32 80 (h.1 21 8) x1).bind fun h1 =>
  (some (sm_wI h1 21 8 ((h1.1 21 8) + 1))).bind fun h2 =>
  some (((h2.1 21 8) - 1), h2))
  else (some ((-1), h))
abbrev F_155 (x1 : Int32) (h : sm_H) : Option (Int32 × sm_H) := F_155_0 x1 h
def F_156_17 (z0 : Int32) (h : sm_H) : Option (Int32 × sm_H) :=
  if z0 = 0 ∨ z0 = 1 then some (z0, h) else none
def F_156_16  (h : sm_H) : Option (Int32 × sm_H) :=
  F_156_17 0 h
def F_156_0 (x1 : Int32) (h : sm_H) : Option (Int32 × sm_H) :=
  if x1 < 0 then (F_156_16 h)
  else (if (h.1 21 8) ≤ x1 then (F_156_16 h)
  else (F_156_17 1 h))
abbrev F_156 (x1 : Int32) (h : sm_H) : Option (Int32 × sm_H) := F_156_0 x1 h
def F_157_18 (z0 : Int32) (h : sm_H) : Option (Int32 × sm_H) :=
  some (z0, h)
def F_157_0 (x1 : Int32) (h : sm_H) : Option (Int32 × sm_H) :=
  (F_156 x1 h).bind fun q1 =>
  if q1.1 = 0 then (F_157_18 (-1) q1.2)
  else ((ldI q1.2 32 80 x1).bind fun v2 =>
  F_157_18 v2 q1.2)
abbrev F_157 (x1 : Int32) (h : sm_H) : Option (Int32 × sm_H) := F_157_0 x1 h
def F_158_15  (h : sm_H) : Option (sm_H) :=
  some h
def F_158_0 (x1 : Int32) (x2 : Int32) (h : sm_H) : Option (sm_H) :=
  (F_156 x1 h).bind fun q1 =>
  if q1.1 = 0 then (F_158_15 q1.2)
  else ((stI q1.2 32 80 x1 x2).bind fun h2 =>
  F_158_15 h2)
abbrev F_158 (x1 : Int32) (x2 : Int32) (h : sm_H) : Option (sm_H) := F_158_0 x1 x2 h
def F_159_0  (h : sm_H) : Option (Int32 × sm_H) :=
  if (h.1 21 10) < 20 then ((some (sm_wI h 21 10 ((h.1 21 10) + 1))).bind fun h1 =>
  some (((h1.1 21 10) - 1), h1))
  else (some ((-1), h))
abbrev F_159  (h : sm_H) : Option (Int32 × sm_H) := F_159_0  h
def F_160_17 (z0 : Int32) (h : sm_H) : Option (Int32 × sm_H) :=
  if z0 = 0 ∨ z0 = 1 then some (z0, h) else none
def F_160_16  (h : sm_H) : Option (Int32 × sm_H) :=
  F_160_17 0 h
def F_160_0 (x1 : Int32) (h : sm_H) : Option (Int32 × sm_H) :=
  if x1 < 0 then (F_160_16 h)
  else (if (h.1 21 10) ≤ x1 then (F_160_16 h)
  else (F_160_17 1 h))
abbrev F_160 (x1 : Int32) (h : sm_H) : Option (Int32 × sm_H) := F_160_0 x1 h
def F_161_22 (z0 : Int32) (h : sm_H) : Option (Int32 × sm_H) :=
  if z0 = 0 ∨ z0 = 1 then some (z0, h) else none
def F_161_21  (h : sm_H) : Option (Int32 × sm_H) :=
  F_161_22 0 h
def F_161_0 (x1 : Int32) (h : sm_H) : Option (Int32 × sm_H) :=
  (F_160 x1 h).bind fun q1 =>
  if q1.1 = 0 then (F_161_21 q1.2)
  else ((ldZ q1.2 33 20 x1).bind fun v2 =>
  if v2 = 0 then (F_161_21 q1.2)
  else (F_161_22 1 q1.2))
abbrev F_161 (x1 : Int32) (h : sm_H) : Option (Int32 × sm_H) := F_161_0 x1 h
def F_162_17  (h : sm_H) : Option (Int32 × sm_H) :=
  some (0, h)
def F_162_0 (x1 : Int32) (h : sm_H) : Option (Int32 × sm_H) :=
  (F_160 x1 h).bind fun q1 =>
  if q1.1 = 0 then (F_162_17 q1.2)
  else ((ldZ q1.2 33 20 x1).bind fun v2 =>
  if v2 = 0 then ((stZ q1.2 33 20 x1 1).bind fun h3 =>
  some (1, h3))
  else (F_162_17 q1.2))
abbrev F_162 (x1 : Int32) (h : sm_H) : Option (Int32 × sm_H) := F_162_0 x1 h
def F_164_0 (x1 : Int32) (h : sm_H) : Option (Int32 × sm_H) :=
  if x1 = 0 then (some ((h.1 55 17), h))
  else (if x1 = 1 then (some ((h.1 55 18), h))
  else (if x1 = 2 then (some ((h.1 55 15), h))
  else (some ((-1), h))))
abbrev F_164 (x1 : Int32) (h : sm_H) : Option (Int32 × sm_H) := F_164_0 x1 h
def F_166_2B (s : (Int64 × Int32 × sm_H)) : Option ((Int64 × Int32 × sm_H) ⊕ (Int32 × sm_H)) :=
  if (s.2.2.1 55 15) ≤ s.2.1 then (some (.inr ((-1), s.2.2)))
  else ((ldJ s.2.2 62 60 s.2.1).bind fun v1 =>
  if (lg_cmp v1 s.1) = 0 then (some (.inr (s.2.1, s.2.2)))
  else ((some (s.2.1 + 1 : Int32)).bind fun v2 =>
  some (.inl (s.1, v2, s.2.2))))
def F_166_2 (y1 : Int64) (y3 : Int32) (h : sm_H) : Option (Int32 × sm_H) := lp F_166_2B 1000000 (y1, y3, h)
def F_166_0 (x1 : Int64) (h : sm_H) : Option (Int32 × sm_H) :=
  F_166_2 x1 0 h
abbrev F_166 (x1 : Int64) (h : sm_H) : Option (Int32 × sm_H) := F_166_0 x1 h
def F_168_14  (h : sm_H) : Option (sm_H) :=
  some h
def F_168_0 (x1 : Int32) (x2 : Int32) (h : sm_H) : Option (sm_H) :=
  if x2 = (-1) then (F_168_14 h)
  else ((F_158 x1 x2 h).bind fun q1 =>
  F_168_14 q1)
abbrev F_168 (x1 : Int32) (x2 : Int32) (h : sm_H) : Option (sm_H) := F_168_0 x1 x2 h
def F_169_17  (h : sm_H) : Option (Int32 × sm_H) :=
  some ((-1), h)
def F_169_0 (x1 : Int32) (x2 : Int32) (h : sm_H) : Option (Int32 × sm_H) :=
  if (h.1 55 17) = 0 then ((some (sm_wI h 55 17 x1)).bind fun h1 =>
  (some (sm_wI h1 55 18 x2)).bind fun h2 =>
  F_169_17 h2)
  else (F_169_17 h)
abbrev F_169 (x1 : Int32) (x2 : Int32) (h : sm_H) : Option (Int32 × sm_H) := F_169_0 x1 x2 h
def F_181_35  (h : sm_H) : Option (Int32 × sm_H) :=
  some ((-1), h)
def F_181_2B (s : (Int64 × Int32 × sm_H)) : Option ((Int64 × Int32 × sm_H) ⊕ (Int32 × sm_H)) :=
  if (s.2.2.1 55 9) ≤ s.2.1 then ((F_181_35 s.2.2).map fun r => (.inr r))
  else (if 16 ≤ s.2.1 then ((F_181_35 s.2.2).map fun r => (.inr r))
  else ((ldJ s.2.2 58 16 s.2.1).bind fun v1 =>
  if (lg_cmp v1 s.1) = 0 then (some (.inr (s.2.1, s.2.2)))
  else ((some (s.2.1 + 1 : Int32)).bind fun v2 =>
  some (.inl (s.1, v2, s.2.2)))))
def F_181_2 (y1 : Int64) (y3 : Int32) (h : sm_H) : Option (Int32 × sm_H) := lp F_181_2B 1000000 (y1, y3, h)
def F_181_0 (x1 : Int64) (h : sm_H) : Option (Int32 × sm_H) :=
  F_181_2 x1 0 h
abbrev F_181 (x1 : Int64) (h : sm_H) : Option (Int32 × sm_H) := F_181_0 x1 h
def F_182_15 (y2 : Int32) (h : sm_H) : Option (Int32 × sm_H) :=
  (F_169 8 y2 h).bind fun q1 =>
  some (0, q1.2)
def F_182_0 (x1 : Int32) (x2 : Int32) (h : sm_H) : Option (Int32 × sm_H) :=
  if x1 < 0 then (F_182_15 x2 h)
  else (if ((h.1 55 9) + x1) ≤ 16 then ((sm_cpJ G0 h 58 0 58 x1 (h.1 55 9)).bind fun h2 =>
  (sm_cpI G0 h2 59 0 59 x1 (h2.1 55 9)).bind fun h3 =>
  (some (sm_wI h3 55 9 ((h3.1 55 9) + x1))).bind fun h4 =>
  some (1, h4))
  else (F_182_15 x2 h))
abbrev F_182 (x1 : Int32) (x2 : Int32) (h : sm_H) : Option (Int32 × sm_H) := F_182_0 x1 x2 h
def F_183_25  (h : sm_H) : Option (sm_H) :=
  some h
def F_183_0 (x1 : Int32) (x2 : Int64) (x4 : Int32) (h : sm_H) : Option (sm_H) :=
  if x1 < 0 then (F_183_25 h)
  else (if 16 ≤ x1 then (F_183_25 h)
  else ((stJ h 58 16 x1 x2).bind fun h1 =>
  (stI h1 59 16 x1 x4).bind fun h2 =>
  F_183_25 h2))
abbrev F_183 (x1 : Int32) (x2 : Int64) (x4 : Int32) (h : sm_H) : Option (sm_H) := F_183_0 x1 x2 x4 h
def F_184_12  (h : sm_H) : Option (sm_H) :=
  some h
def F_184_0 (x1 : Int32) (h : sm_H) : Option (sm_H) :=
  if x1 < 0 then (F_184_12 h)
  else (if x1 ≤ (h.1 55 9) then ((some (sm_wI h 55 9 ((h.1 55 9) - x1))).bind fun h1 =>
  (sm_cpJ G0 h1 58 x1 58 0 (h1.1 55 9)).bind fun h2 =>
  (sm_cpI G0 h2 59 x1 59 0 (h2.1 55 9)).bind fun h3 =>
  some h3)
  else (F_184_12 h))
abbrev F_184 (x1 : Int32) (h : sm_H) : Option (sm_H) := F_184_0 x1 h
def F_187_29 (z0 : Int32) (h : sm_H) : Option (Int32 × sm_H) :=
  some (z0, h)
def F_187_28  (h : sm_H) : Option (Int32 × sm_H) :=
  F_187_29 (-1) h
def F_187_0 (x1 : Int32) (h : sm_H) : Option (Int32 × sm_H) :=
  if x1 < 0 then (F_187_28 h)
  else (if (h.1 55 12) ≤ x1 then (F_187_28 h)
  else (if 200 ≤ x1 then (F_187_28 h)
  else ((ldI h 60 200 x1).bind fun v1 =>
  F_187_29 v1 h)))
abbrev F_187 (x1 : Int32) (h : sm_H) : Option (Int32 × sm_H) := F_187_0 x1 h
def F_188_15  (h : sm_H) : Option (Int32 × sm_H) :=
  some (0, h)
def F_188_0 (x1 : Int32) (x2 : Int64) (h : sm_H) : Option (Int32 × sm_H) :=
  if x1 = (-1) then (F_188_15 h)
  else (if (h.1 55 12) < 200 then ((stI h 60 200 (h.1 55 12) x1).bind fun h1 =>
  (stJ h1 61 200 (h1.1 55 12) x2).bind fun h2 =>
  (some (sm_wI h2 55 12 ((h2.1 55 12) + 1))).bind fun h3 =>
  some (1, h3))
  else (F_188_15 h))
abbrev F_188 (x1 : Int32) (x2 : Int64) (h : sm_H) : Option (Int32 × sm_H) := F_188_0 x1 x2 h
def F_189_0 (x1 : Int32) (h : sm_H) : Option (Int32 × sm_H) :=
  (F_187 x1 h).bind fun q1 =>
  (F_44 q1.1 q1.2).bind fun q2 =>
  some (q2.1, q2.2)
abbrev F_189 (x1 : Int32) (h : sm_H) : Option (Int32 × sm_H) := F_189_0 x1 h
def F_197_2B (s : (Int64 × Int32 × sm_H)) : Option ((Int64 × Int32 × sm_H) ⊕ (Int32 × sm_H)) :=
  (sm_al G0 s.2.2 2000000).bind fun v1 =>
  if v1 ≤ s.2.1 then (some (.inr ((-1), s.2.2)))
  else ((sm_ldJ G0 s.2.2 2000000 s.2.1).bind fun v2 =>
  if (lg_cmp v2 s.1) = 0 then (some (.inr (s.2.1, s.2.2)))
  else ((some (s.2.1 + 1 : Int32)).bind fun v3 =>
  some (.inl (s.1, v3, s.2.2))))
def F_197_2 (y1 : Int64) (y3 : Int32) (h : sm_H) : Option (Int32 × sm_H) := lp F_197_2B 1000000 (y1, y3, h)
def F_197_0 (x1 : Int64) (h : sm_H) : Option (Int32 × sm_H) :=
  F_197_2 x1 0 h
abbrev F_197 (x1 : Int64) (h : sm_H) : Option (Int32 × sm_H) := F_197_0 x1 h
def F_201_58  (h : sm_H) : Option (Int32 × sm_H) :=
  some (0, h)
def F_201_56  (h : sm_H) : Option (Int32 × sm_H) :=
  some (1, h)
def F_201_0 (x1 : Int32) (h : sm_H) : Option (Int32 × sm_H) :=
  if x1 = 5 then (F_201_56 h)
  else (if x1 = 6 then (F_201_56 h)
  else (if x1 = 7 then (F_201_56 h)
  else (if x1 = 8 then (F_201_56 h)
  else (if x1 = 12 then (F_201_56 h)
  else (if x1 = 14 then (F_201_56 h)
  else (F_201_58 h))))))
abbrev F_201 (x1 : Int32) (h : sm_H) : Option (Int32 × sm_H) := F_201_0 x1 h
def F_203_94  (h : sm_H) : Option (Int32 × sm_H) :=
  some (1, h)
def F_203_66 (y3 : Int32) (h : sm_H) : Option (Int32 × sm_H) :=
  (F_189 y3 h).bind fun q1 =>
  (F_59 q1.1 q1.2).bind fun q2 =>
  if q2.1 = 0 ∨ q2.1 = 1 then some (q2.1, q2.2) else none
def F_203_48 (y2 : Int32) (h : sm_H) : Option (Int32 × sm_H) :=
  (F_57 y2 h).bind fun q3 =>
  if q3.1 = 0 ∨ q3.1 = 1 then some (q3.1, q3.2) else none
def F_203_0 (x1 : Int32) (x2 : Int32) (x3 : Int32) (h : sm_H) : Option (Int32 × sm_H) :=
  if x1 = 7 then (F_203_48 x2 h)
  else (if x1 = 8 then ((F_59 x2 h).bind fun q4 =>
  if q4.1 = 0 ∨ q4.1 = 1 then some (q4.1, q4.2) else none)
  else (if x1 = 9 then (F_203_66 x3 h)
  else (if x1 = 10 then (F_203_66 x3 h)
  else (if x1 = 11 then (F_203_66 x3 h)
  else (if x1 = 12 then (F_203_48 x2 h)
  else (if x1 = 14 then ((F_189 x3 h).bind fun q5 =>
  (F_60 q5.1 19 q5.2).bind fun q6 =>
  if q6.1 = 0 ∨ q6.1 = 1 then some (q6.1, q6.2) else none)
  else (F_203_94 h)))))))
abbrev F_203 (x1 : Int32) (x2 : Int32) (x3 : Int32) (h : sm_H) : Option (Int32 × sm_H) := F_203_0 x1 x2 x3 h
def F_204_17 (z0 : Int32) (h : sm_H) : Option (Int32 × sm_H) :=
  if z0 = 0 ∨ z0 = 1 then some (z0, h) else none
def F_204_12  (h : sm_H) : Option (Int32 × sm_H) :=
  F_204_17 1 h
def F_204_0 (x1 : Int32) (h : sm_H) : Option (Int32 × sm_H) :=
  if x1 = 6 then (F_204_12 h)
  else (if x1 = 14 then (F_204_12 h)
  else (F_204_17 0 h))
abbrev F_204 (x1 : Int32) (h : sm_H) : Option (Int32 × sm_H) := F_204_0 x1 h
def F_208_77  (h : sm_H) : Option (Int32 × sm_H) :=
  some (1, h)
def F_208_32B (s : (Int32 × Int32 × Int32 × sm_H)) : Option ((Int32 × Int32 × Int32 × sm_H) ⊕ (Int32 × sm_H)) :=
  if s.2.1 ≤ s.2.2.1 then ((F_208_77 s.2.2.2).map fun r => (.inr r))
  else (if 200 ≤ (s.1 + s.2.2.1) then ((F_208_77 s.2.2.2).map fun r => (.inr r))
  else ((ldJ s.2.2.2 61 200 (s.1 + s.2.2.1)).bind fun v1 =>
  (F_189 (s.1 + s.2.2.1) s.2.2.2).bind fun q2 =>
  (F_183 s.2.2.1 v1 q2.1 q2.2).bind fun q3 =>
  (some (s.2.2.1 + 1 : Int32)).bind fun v4 =>
  some (.inl (s.1, s.2.1, v4, q3))))
def F_208_32 (y1 : Int32) (y2 : Int32) (y4 : Int32) (h : sm_H) : Option (Int32 × sm_H) := lp F_208_32B 1000000 (y1, y2, y4, h)
def F_208_27  (h : sm_H) : Option (Int32 × sm_H) :=
  some (0, h)
def F_208_0 (x1 : Int32) (x2 : Int32) (x3 : Int32) (h : sm_H) : Option (Int32 × sm_H) :=
  if x1 < 0 then (F_208_27 h)
  else (if x2 < 0 then (F_208_27 h)
  else (if (h.1 55 12) < (x1 + x2) then (F_208_27 h)
  else ((F_182 x2 x3 h).bind fun q5 =>
  if q5.1 = 0 then (F_208_27 q5.2)
  else (F_208_32 x1 x2 0 q5.2))))
abbrev F_208 (x1 : Int32) (x2 : Int32) (x3 : Int32) (h : sm_H) : Option (Int32 × sm_H) := F_208_0 x1 x2 x3 h
def F_213_9B (s : (Int32 × Int32 × Int32 × sm_H)) : Option ((Int32 × Int32 × Int32 × sm_H) ⊕ (sm_H)) :=
  if s.2.1 ≤ s.2.2.1 then ((F_139 56 (-1) s.2.2.2).bind fun q1 =>
  (F_139 56 (-1) q1.2).bind fun q2 =>
  (F_187 (s.1 + (2 * s.2.1)) q2.2).bind fun q3 =>
  (F_139 56 q3.1 q3.2).bind fun q4 =>
  (F_187 ((s.1 + (2 * s.2.1)) + 1) q4.2).bind fun q5 =>
  (F_139 56 q5.1 q5.2).bind fun q6 =>
  some (.inr (q6.2)))
  else ((F_187 (s.1 + s.2.2.1) s.2.2.2).bind fun q7 =>
  (F_139 56 q7.1 q7.2).bind fun q8 =>
  (F_187 ((s.1 + s.2.1) + s.2.2.1) q8.2).bind fun q9 =>
  (F_139 56 q9.1 q9.2).bind fun q10 =>
  (F_139 56 (-1) q10.2).bind fun q11 =>
  (F_139 56 (-1) q11.2).bind fun q12 =>
  (some (s.2.2.1 + 1 : Int32)).bind fun v13 =>
  some (.inl (s.1, s.2.1, v13, q12.2)))
def F_213_9 (y1 : Int32) (y2 : Int32) (y3 : Int32) (h : sm_H) : Option (sm_H) := lp F_213_9B 1000000 (y1, y2, y3, h)
def F_213_0 (x1 : Int32) (x2 : Int32) (h : sm_H) : Option (sm_H) :=
  (F_138 56 h).bind fun q14 =>
  F_213_9 x1 x2 0 q14
abbrev F_213 (x1 : Int32) (x2 : Int32) (h : sm_H) : Option (sm_H) := F_213_0 x1 x2 h
def F_216_0 (o : Nat) (h : sm_H) : Option (Int32 × sm_H) :=
  if sm_is G0 h o 8 = true then ((sm_rr G0 h o 0).bind fun b2 =>
  (alD h b2).bind fun v3 =>
  some (v3, h)) else none
abbrev F_216 (o : Nat) (h : sm_H) : Option (Int32 × sm_H) := F_216_0 o h
def F_217_18 (z0 : Int32) (h : sm_H) : Option (Int32 × sm_H) :=
  if z0 = 0 ∨ z0 = 1 then some (z0, h) else none
def F_217_17  (h : sm_H) : Option (Int32 × sm_H) :=
  F_217_18 0 h
def F_217_0 (o : Nat) (x1 : Int32) (h : sm_H) : Option (Int32 × sm_H) :=
  if x1 < 0 then (F_217_17 h)
  else (if sm_is G0 h o 8 = true then ((sm_rr G0 h o 0).bind fun b2 =>
  (alD h b2).bind fun v3 =>
  if v3 ≤ x1 then (F_217_17 h)
  else (F_217_18 1 h)) else none)
abbrev F_217 (o : Nat) (x1 : Int32) (h : sm_H) : Option (Int32 × sm_H) := F_217_0 o x1 h
def F_218_23 (z0 : Int64) (h : sm_H) : Option (Int64 × sm_H) :=
  some (z0, h)
def F_218_22  (h : sm_H) : Option (Int64 × sm_H) :=
  F_218_23 0 h
def F_218_0 (o : Nat) (x1 : Int32) (h : sm_H) : Option (Int64 × sm_H) :=
  if x1 < 0 then (F_218_22 h)
  else (if sm_is G0 h o 8 = true then ((sm_rr G0 h o 0).bind fun b2 =>
  (alD h b2).bind fun v3 =>
  if v3 ≤ x1 then (F_218_22 h)
  else (if sm_is G0 h o 8 = true then ((sm_rr G0 h o 0).bind fun b5 =>
  (ldDJ h b5 x1).bind fun v6 =>
  F_218_23 v6 h) else none)) else none)
abbrev F_218 (o : Nat) (x1 : Int32) (h : sm_H) : Option (Int64 × sm_H) := F_218_0 o x1 h
def F_219_23 (z0 : Int32) (h : sm_H) : Option (Int32 × sm_H) :=
  some (z0, h)
def F_219_22  (h : sm_H) : Option (Int32 × sm_H) :=
  F_219_23 0 h
def F_219_0 (o : Nat) (x1 : Int32) (h : sm_H) : Option (Int32 × sm_H) :=
  if x1 < 0 then (F_219_22 h)
  else (if sm_is G0 h o 8 = true then ((sm_rr G0 h o 1).bind fun b2 =>
  (alD h b2).bind fun v3 =>
  if v3 ≤ x1 then (F_219_22 h)
  else (if sm_is G0 h o 8 = true then ((sm_rr G0 h o 1).bind fun b5 =>
  (ldD h b5 x1).bind fun v6 =>
  F_219_23 v6 h) else none)) else none)
abbrev F_219 (o : Nat) (x1 : Int32) (h : sm_H) : Option (Int32 × sm_H) := F_219_0 o x1 h
def F_220_25 (z0 : Int32) (h : sm_H) : Option (Int32 × sm_H) :=
  if z0 = 0 ∨ z0 = 1 then some (z0, h) else none
def F_220_24  (h : sm_H) : Option (Int32 × sm_H) :=
  F_220_25 0 h
def F_220_0 (o : Nat) (x1 : Int32) (x2 : Int64) (x4 : Int32) (h : sm_H) : Option (Int32 × sm_H) :=
  if ¬ (sm_is G0 h o 8 = true) then none else (F_218 o x1 h).bind fun q1 =>
  if (lg_cmp q1.1 x2) = 0 then (if ¬ (sm_is G0 q1.2 o 8 = true) then none else (F_219 o x1 q1.2).bind fun q3 =>
  if q3.1 = x4 then (F_220_25 1 q3.2)
  else (F_220_24 q3.2))
  else (F_220_24 q1.2)
abbrev F_220 (o : Nat) (x1 : Int32) (x2 : Int64) (x4 : Int32) (h : sm_H) : Option (Int32 × sm_H) := F_220_0 o x1 x2 x4 h
def F_221_23  (h : sm_H) : Option (sm_H) :=
  some h
def F_221_0 (o : Nat) (x1 : Int32) (x2 : Int64) (x4 : Int32) (h : sm_H) : Option (sm_H) :=
  if ¬ (sm_is G0 h o 8 = true) then none else (F_217 o x1 h).bind fun q1 =>
  if q1.1 = 0 then (F_221_23 q1.2)
  else (if sm_is G0 q1.2 o 8 = true then ((sm_rr G0 q1.2 o 0).bind fun b4 =>
  (sm_stJ G0 q1.2 b4 x1 x2).bind fun h5 =>
  if sm_is G0 h5 o 8 = true then ((sm_rr G0 h5 o 1).bind fun b7 =>
  (sm_stI G0 h5 b7 x1 x4).bind fun h8 =>
  F_221_23 h8) else none) else none)
abbrev F_221 (o : Nat) (x1 : Int32) (x2 : Int64) (x4 : Int32) (h : sm_H) : Option (sm_H) := F_221_0 o x1 x2 x4 h
def F_223_0  (h : sm_H) : Option (Int32 × sm_H) :=
  some ((h.1 5 4), h)
abbrev F_223  (h : sm_H) : Option (Int32 × sm_H) := F_223_0  h
def F_224_17 (z0 : Int32) (h : sm_H) : Option (Int32 × sm_H) :=
  if z0 = 0 ∨ z0 = 1 then some (z0, h) else none
def F_224_16  (h : sm_H) : Option (Int32 × sm_H) :=
  F_224_17 0 h
def F_224_0 (x1 : Int32) (h : sm_H) : Option (Int32 × sm_H) :=
  if x1 < 0 then (F_224_16 h)
  else (if (h.1 5 4) ≤ x1 then (F_224_16 h)
  else (F_224_17 1 h))
abbrev F_224 (x1 : Int32) (h : sm_H) : Option (Int32 × sm_H) := F_224_0 x1 h
def F_225_22 (z0 : Int32) (h : sm_H) : Option (Int32 × sm_H) :=
  some (z0, h)
def F_225_21  (h : sm_H) : Option (Int32 × sm_H) :=
  F_225_22 (-1) h
def F_225_0 (x1 : Int32) (h : sm_H) : Option (Int32 × sm_H) :=
  if x1 < 0 then (F_225_21 h)
  else (if (h.1 5 4) ≤ x1 then (F_225_21 h)
  else ((ldI h 6 300 x1).bind fun v1 =>
  F_225_22 v1 h))
abbrev F_225 (x1 : Int32) (h : sm_H) : Option (Int32 × sm_H) := F_225_0 x1 h
def F_226_22 (z0 : Int32) (h : sm_H) : Option (Int32 × sm_H) :=
  some (z0, h)
def F_226_21  (h : sm_H) : Option (Int32 × sm_H) :=
  F_226_22 0 h
def F_226_0 (x1 : Int32) (h : sm_H) : Option (Int32 × sm_H) :=
  if x1 < 0 then (F_226_21 h)
  else (if (h.1 5 4) ≤ x1 then (F_226_21 h)
  else ((ldI h 7 300 x1).bind fun v1 =>
  F_226_22 v1 h))
abbrev F_226 (x1 : Int32) (h : sm_H) : Option (Int32 × sm_H) := F_226_0 x1 h
def F_227_26  (h : sm_H) : Option (Int32 × sm_H) :=
  some ((-1), h)
def F_227_0 (x1 : Int32) (x2 : Int32) (h : sm_H) : Option (Int32 × sm_H) :=
  if x1 < 0 then (F_227_26 h)
  else (if (h.1 5 4) ≤ x1 then (F_227_26 h)
  else (if x2 < 0 then (F_227_26 h)
  else ((ldI h 7 300 x1).bind fun v1 =>
  if x2 < v1 then ((ldI h 8 3000 ((x1 * 10) + x2)).bind fun v2 =>
  some (v2, h))
  else (F_227_26 h))))
abbrev F_227 (x1 : Int32) (x2 : Int32) (h : sm_H) : Option (Int32 × sm_H) := F_227_0 x1 x2 h
def F_228_0  (h : sm_H) : Option (sm_H) :=
  (some (sm_wI h 5 6 0)).bind fun h1 =>
  some h1
abbrev F_228  (h : sm_H) : Option (sm_H) := F_228_0  h
def F_229_19  (h : sm_H) : Option (sm_H) :=
  (some (sm_wI h 5 6 ((h.1 5 6) + 1))).bind fun h1 =>
  some h1
def F_229_0 (x1 : Int32) (h : sm_H) : Option (sm_H) :=
  if 10 ≤ (h.1 5 6) then (F_229_19 h)
  else ((stI h 9 10 (h.1 5 6) x1).bind fun h2 =>
  F_229_19 h2)
abbrev F_229 (x1 : Int32) (h : sm_H) : Option (sm_H) := F_229_0 x1 h
def F_230_37  (h : sm_H) : Option (sm_H) :=
  some h
def F_230_7B (s : (Int32 × Int32 × Int32 × sm_H)) : Option ((Int32 × Int32 × Int32 × sm_H) ⊕ (sm_H)) :=
  if s.2.1 ≤ s.2.2.1 then ((F_230_37 s.2.2.2).map fun r => (.inr r))
  else (if 10 ≤ s.2.2.1 then ((F_230_37 s.2.2.2).map fun r => (.inr r))
  else ((F_227 s.1 s.2.2.1 s.2.2.2).bind fun q1 =>
  (F_229 q1.1 q1.2).bind fun q2 =>
  (some (s.2.2.1 + 1 : Int32)).bind fun v3 =>
  some (.inl (s.1, s.2.1, v3, q2))))
def F_230_7 (y1 : Int32) (y3 : Int32) (y4 : Int32) (h : sm_H) : Option (sm_H) := lp F_230_7B 1000000 (y1, y3, y4, h)
def F_230_0 (x1 : Int32) (x2 : Int32) (x3 : Int32) (h : sm_H) : Option (sm_H) :=
  (some ((if x2 < 0 then 0 else x2) : Int32)).bind fun v4 =>
  F_230_7 x1 x3 v4 h
abbrev F_230 (x1 : Int32) (x2 : Int32) (x3 : Int32) (h : sm_H) : Option (sm_H) := F_230_0 x1 x2 x3 h
def F_232_44  (h : sm_H) : Option (Int32 × sm_H) :=
  some (1, h)
def F_232_2B (s : (Int32 × Int32 × sm_H)) : Option ((Int32 × Int32 × sm_H) ⊕ (Int32 × sm_H)) :=
  if (s.2.2.1 5 6) ≤ s.2.1 then ((F_232_44 s.2.2).map fun r => (.inr r))
  else (if 10 ≤ s.2.1 then ((F_232_44 s.2.2).map fun r => (.inr r))
  else ((ldI s.2.2 8 3000 ((s.1 * 10) + s.2.1)).bind fun v1 =>
  (ldI s.2.2 9 10 s.2.1).bind fun v2 =>
  if v1 = v2 then ((some (s.2.1 + 1 : Int32)).bind fun v3 =>
  some (.inl (s.1, v3, s.2.2)))
  else (some (.inr (0, s.2.2)))))
def F_232_2 (y1 : Int32) (y2 : Int32) (h : sm_H) : Option (Int32 × sm_H) := lp F_232_2B 1000000 (y1, y2, h)
def F_232_0 (x1 : Int32) (h : sm_H) : Option (Int32 × sm_H) :=
  F_232_2 x1 0 h
abbrev F_232 (x1 : Int32) (h : sm_H) : Option (Int32 × sm_H) := F_232_0 x1 h
def F_235_74B (s : (Int32 × Int32 × Int32 × Int32 × Int32 × Int32 × sm_H)) : Option ((Int32 × Int32 × Int32 × Int32 × Int32 × Int32 × sm_H) ⊕ (Int32 × sm_H)) :=
  if s.2.2.2.2.1 ≤ s.2.2.2.2.2.1 then (some (.inr (1, s.2.2.2.2.2.2)))
  else ((ldI s.2.2.2.2.2.2 8 3000 (((s.1 * 10) + s.2.1) + s.2.2.2.2.2.1)).bind fun v1 =>
  (ldI s.2.2.2.2.2.2 8 3000 (((s.2.2.1 * 10) + s.2.2.2.1) + s.2.2.2.2.2.1)).bind fun v2 =>
  if v1 = v2 then ((some (s.2.2.2.2.2.1 + 1 : Int32)).bind fun v3 =>
  some (.inl (s.1, s.2.1, s.2.2.1, s.2.2.2.1, s.2.2.2.2.1, v3, s.2.2.2.2.2.2)))
  else (some (.inr (0, s.2.2.2.2.2.2))))
def F_235_74 (y1 : Int32) (y2 : Int32) (y3 : Int32) (y4 : Int32) (y5 : Int32) (y6 : Int32) (h : sm_H) : Option (Int32 × sm_H) := lp F_235_74B 1000000 (y1, y2, y3, y4, y5, y6, h)
def F_235_69  (h : sm_H) : Option (Int32 × sm_H) :=
  some (0, h)
def F_235_40  (h : sm_H) : Option (Int32 × sm_H) :=
  some (0, h)
def F_235_24  (h : sm_H) : Option (Int32 × sm_H) :=
  some (0, h)
def F_235_0 (x1 : Int32) (x2 : Int32) (x3 : Int32) (x4 : Int32) (x5 : Int32) (h : sm_H) : Option (Int32 × sm_H) :=
  if x1 < 0 then (F_235_24 h)
  else (if (h.1 5 4) ≤ x1 then (F_235_24 h)
  else (if x3 < 0 then (F_235_24 h)
  else (if x3 < (h.1 5 4) then (if x2 < 0 then (F_235_40 h)
  else (if x4 < 0 then (F_235_40 h)
  else (if 0 ≤ x5 then ((ldI h 7 300 x1).bind fun v4 =>
  if v4 < (x2 + x5) then (F_235_69 h)
  else ((ldI h 7 300 x3).bind fun v5 =>
  if (x4 + x5) ≤ v5 then (F_235_74 x1 x2 x3 x4 x5 0 h)
  else (F_235_69 h)))
  else (F_235_40 h))))
  else (F_235_24 h))))
abbrev F_235 (x1 : Int32) (x2 : Int32) (x3 : Int32) (x4 : Int32) (x5 : Int32) (h : sm_H) : Option (Int32 × sm_H) := F_235_0 x1 x2 x3 x4 x5 h
def F_238_46  (h : sm_H) : Option (sm_H) :=
  some h
def F_238_2B (s : (Int32 × Int32 × Int32 × sm_H)) : Option ((Int32 × Int32 × Int32 × sm_H) ⊕ (sm_H)) :=
  if 4 ≤ s.2.2.1 then ((F_238_46 s.2.2.2).map fun r => (.inr r))
  else (if s.1 < 0 then ((F_238_46 s.2.2.2).map fun r => (.inr r))
  else (if 20 ≤ (s.1 + s.2.2.1) then ((F_238_46 s.2.2.2).map fun r => (.inr r))
  else ((stI s.2.2.2 54 20 (s.1 + s.2.2.1) ((Int32.toUInt32 s.2.1 >>> (Int32.toUInt32 (24 - (8 * s.2.2.1)) &&& Int32.toUInt32 31)).toInt32 &&& 255)).bind fun h1 =>
  (some (s.2.2.1 + 1 : Int32)).bind fun v2 =>
  some (.inl (s.1, s.2.1, v2, h1)))))
def F_238_2 (y1 : Int32) (y2 : Int32) (y3 : Int32) (h : sm_H) : Option (sm_H) := lp F_238_2B 1000000 (y1, y2, y3, h)
def F_238_0 (x1 : Int32) (x2 : Int32) (h : sm_H) : Option (sm_H) :=
  F_238_2 x1 x2 0 h
abbrev F_238 (x1 : Int32) (x2 : Int32) (h : sm_H) : Option (sm_H) := F_238_0 x1 x2 h
def F_239_72 (y1 : Int32) (y2 : Int32) (h : sm_H) : Option ((Int32 × Int32 × sm_H) ⊕ (Int32 × sm_H)) :=
  (stI h 54 20 y2 0).bind fun h1 =>
  (some (y2 + 1 : Int32)).bind fun v2 =>
  some (.inl (y1, v2, h1))
def F_239_26B (s : (Int32 × Int32 × sm_H)) : Option ((Int32 × Int32 × sm_H) ⊕ (Int32 × sm_H)) :=
  if 20 ≤ s.2.1 then (some (.inr ((s.2.2.1 52 1), s.2.2)))
  else (if s.1 ≤ s.2.1 then (F_239_72 s.1 s.2.1 s.2.2)
  else (if 3000 ≤ (s.2.2.1 52 1) then (F_239_72 s.1 s.2.1 s.2.2)
  else ((ldI s.2.2 54 20 s.2.1).bind fun v3 =>
  (stI s.2.2 53 3000 (s.2.2.1 52 1) v3).bind fun h4 =>
  (some (sm_wI h4 52 1 ((h4.1 52 1) + 1))).bind fun h5 =>
  F_239_72 s.1 s.2.1 h5)))
def F_239_26 (y1 : Int32) (y2 : Int32) (h : sm_H) : Option (Int32 × sm_H) := lp F_239_26B 1000000 (y1, y2, h)
def F_239_22  (h : sm_H) : Option (Int32 × sm_H) :=
  some ((-1), h)
def F_239_0 (x1 : Int32) (h : sm_H) : Option (Int32 × sm_H) :=
  if x1 < 0 then (F_239_22 h)
  else (if 20 < x1 then (F_239_22 h)
  else (if ((h.1 52 1) + x1) ≤ 3000 then (F_239_26 x1 0 h)
  else (F_239_22 h)))
abbrev F_239 (x1 : Int32) (h : sm_H) : Option (Int32 × sm_H) := F_239_0 x1 h
def F_240_0  (h : sm_H) : Option (sm_H) :=
  (some (sm_wI h 52 3 0)).bind fun h1 =>
  some h1
abbrev F_240  (h : sm_H) : Option (sm_H) := F_240_0  h
def F_241_0  (h : sm_H) : Option (sm_H) :=
  (some (sm_wI h 52 1 0)).bind fun h1 =>
  some h1
abbrev F_241  (h : sm_H) : Option (sm_H) := F_241_0  h
def F_242_0  (h : sm_H) : Option (Int32 × sm_H) :=
  some ((h.1 52 4), h)
abbrev F_242  (h : sm_H) : Option (Int32 × sm_H) := F_242_0  h
def F_243_0  (h : sm_H) : Option (Int32 × sm_H) :=
  some ((h.1 52 5), h)
abbrev F_243  (h : sm_H) : Option (Int32 × sm_H) := F_243_0  h
def F_244_0  (h : sm_H) : Option (Int32 × sm_H) :=
  some ((h.1 52 6), h)
abbrev F_244  (h : sm_H) : Option (Int32 × sm_H) := F_244_0  h
def F_245_0  (h : sm_H) : Option (Int32 × sm_H) :=
  some ((h.1 52 7), h)
abbrev F_245  (h : sm_H) : Option (Int32 × sm_H) := F_245_0  h
def F_246_0  (h : sm_H) : Option (Int64 × sm_H) :=
  some ((h.2.1 52 8), h)
abbrev F_246  (h : sm_H) : Option (Int64 × sm_H) := F_246_0  h
def F_247_0  (h : sm_H) : Option (Int32 × sm_H) :=
  some ((h.1 52 9), h)
abbrev F_247  (h : sm_H) : Option (Int32 × sm_H) := F_247_0  h
def F_248_0  (h : sm_H) : Option (Int64 × sm_H) :=
  some ((h.2.1 52 10), h)
abbrev F_248  (h : sm_H) : Option (Int64 × sm_H) := F_248_0  h
def F_250_29 (z0 : Int32) (h : sm_H) : Option (Int32 × sm_H) :=
  some (z0, h)
def F_250_28  (h : sm_H) : Option (Int32 × sm_H) :=
  F_250_29 (-1) h
def F_250_0 (x1 : Int32) (h : sm_H) : Option (Int32 × sm_H) :=
  if x1 < 0 then (F_250_28 h)
  else (if (h.1 52 1) ≤ x1 then (F_250_28 h)
  else (if 3000 ≤ x1 then (F_250_28 h)
  else ((ldI h 53 3000 x1).bind fun v1 =>
  F_250_29 v1 h)))
abbrev F_250 (x1 : Int32) (h : sm_H) : Option (Int32 × sm_H) := F_250_0 x1 h
def F_251_17 (z0 : Int32) (h : sm_H) : Option (Int32 × sm_H) :=
  if z0 = 0 ∨ z0 = 1 then some (z0, h) else none
def F_251_16  (h : sm_H) : Option (Int32 × sm_H) :=
  F_251_17 0 h
def F_251_0 (x1 : Int32) (h : sm_H) : Option (Int32 × sm_H) :=
  if x1 < 48 then (F_251_16 h)
  else (if 57 < x1 then (F_251_16 h)
  else (F_251_17 1 h))
abbrev F_251 (x1 : Int32) (h : sm_H) : Option (Int32 × sm_H) := F_251_0 x1 h
def F_252_17 (z0 : Int32) (h : sm_H) : Option (Int32 × sm_H) :=
  if z0 = 0 ∨ z0 = 1 then some (z0, h) else none
def F_252_16  (h : sm_H) : Option (Int32 × sm_H) :=
  F_252_17 0 h
def F_252_0 (x1 : Int32) (h : sm_H) : Option (Int32 × sm_H) :=
  if x1 < 97 then (F_252_16 h)
  else (if 122 < x1 then (F_252_16 h)
  else (F_252_17 1 h))
abbrev F_252 (x1 : Int32) (h : sm_H) : Option (Int32 × sm_H) := F_252_0 x1 h
def F_253_52  (h : sm_H) : Option (sm_H) :=
  some h
def F_253_39  (h : sm_H) : Option ((sm_H) ⊕ (sm_H)) :=
  (some (sm_wI h 52 3 ((h.1 52 3) + 1))).bind fun h1 =>
  some (.inl (h1))
def F_253_0B (s : (sm_H)) : Option ((sm_H) ⊕ (sm_H)) :=
  if (s.1 52 1) ≤ (s.1 52 3) then ((F_253_52 s).map fun r => (.inr r))
  else ((ldI s 53 3000 (s.1 52 3)).bind fun v2 =>
  if v2 = 32 then (F_253_39 s)
  else ((ldI s 53 3000 (s.1 52 3)).bind fun v3 =>
  if v3 = 10 then (F_253_39 s)
  else ((F_253_52 s).map fun r => (.inr r))))
def F_253_0  (h : sm_H) : Option (sm_H) := lp F_253_0B 1000000 (h)
abbrev F_253  (h : sm_H) : Option (sm_H) := F_253_0  h
def F_254_20  (h : sm_H) : Option (Int32 × sm_H) :=
  (some (sm_wI h 52 6 1)).bind fun h1 =>
  some (6, h1)
def F_254_0 (x1 : Int32) (h : sm_H) : Option (Int32 × sm_H) :=
  (some ((P_ix (Int32.toUInt32 x1 % 65536).toInt32) : Int32)).bind fun v2 =>
  if v2 < 0 then (F_254_20 h)
  else ((sm_al G0 h 1000002).bind fun v3 =>
  if v2 < v3 then ((sm_ldI G0 h 1000002 v2).bind fun v4 =>
  (some (sm_wI h 52 7 v4)).bind fun h5 =>
  some (5, h5))
  else (F_254_20 h))
abbrev F_254 (x1 : Int32) (h : sm_H) : Option (Int32 × sm_H) := F_254_0 x1 h
def F_255_129 (z0 : Int32) (h : sm_H) : Option (Int32 × sm_H) :=
  some (z0, h)
def F_255_112 (y1 : Int32) (h : sm_H) : Option (Int32 × sm_H) :=
  (some (sm_wI h 52 6 2)).bind fun h1 =>
  if y1 ≤ 8 then (F_255_129 4 h1)
  else (F_255_129 6 h1)
def F_255_74 (y1 : Int32) (h : sm_H) : Option ((Int32 × sm_H) ⊕ (Int32 × sm_H)) :=
  (ldI h 53 3000 (h.1 52 3)).bind fun v2 =>
  (some (sm_wJ h 52 10 (((h.2.1 52 10) <<< (Int32.toInt64 8 &&& 63)) ||| (Int32.toInt64 v2)))).bind fun h3 =>
  (some (y1 + 1 : Int32)).bind fun v4 =>
  (some (sm_wI h3 52 3 ((h3.1 52 3) + 1))).bind fun h5 =>
  some (.inl (v4, h5))
def F_255_46 (y1 : Int32) (h : sm_H) : Option ((Int32 × sm_H) ⊕ (Int32 × sm_H)) :=
  (ldI h 53 3000 (h.1 52 3)).bind fun v6 =>
  if v6 < 48 then ((F_255_112 y1 h).map fun r => (.inr r))
  else ((ldI h 53 3000 (h.1 52 3)).bind fun v7 =>
  if 57 < v7 then ((F_255_112 y1 h).map fun r => (.inr r))
  else (F_255_74 y1 h))
def F_255_7B (s : (Int32 × sm_H)) : Option ((Int32 × sm_H) ⊕ (Int32 × sm_H)) :=
  if (s.2.1 52 1) ≤ (s.2.1 52 3) then ((F_255_112 s.1 s.2).map fun r => (.inr r))
  else ((ldI s.2 53 3000 (s.2.1 52 3)).bind fun v8 =>
  if v8 < 97 then (F_255_46 s.1 s.2)
  else ((ldI s.2 53 3000 (s.2.1 52 3)).bind fun v9 =>
  if v9 ≤ 122 then (F_255_74 s.1 s.2)
  else (F_255_46 s.1 s.2)))
def F_255_7 (y1 : Int32) (h : sm_H) : Option (Int32 × sm_H) := lp F_255_7B 1000000 (y1, h)
def F_255_0  (h : sm_H) : Option (Int32 × sm_H) :=
  (some (sm_wJ h 52 10 0)).bind fun h10 =>
  F_255_7 0 h10
abbrev F_255  (h : sm_H) : Option (Int32 × sm_H) := F_255_0  h
def F_256_244 (z0 : Int32) (h : sm_H) : Option (Int32 × sm_H) :=
  some (z0, h)
def F_256_229 (y2 : Int32) (h : sm_H) : Option (Int32 × sm_H) :=
  (some (sm_wI h 52 6 3)).bind fun h1 =>
  if y2 = 0 then (F_256_244 6 h1)
  else (F_256_244 3 h1)
def F_256_228 (z0 : Int32) (h : sm_H) : Option (Int32 × sm_H) :=
  F_256_229 z0 h
def F_256_227  (h : sm_H) : Option (Int32 × sm_H) :=
  F_256_228 0 h
def F_256_205 (y2 : Int32) (h : sm_H) : Option (Int32 × sm_H) :=
  if y2 = 0 then (F_256_227 h)
  else (if (lg_cmp (h.2.1 52 8) (Int32.toInt64 (Int64.toInt32 (h.2.1 52 8)))) = 0 then (F_256_228 1 h)
  else (F_256_227 h))
def F_256_153 (y2 : Int32) (z1 : Int64) (h : sm_H) : Option (Int32 × sm_H) :=
  (some (sm_wJ h 52 8 z1)).bind fun h2 =>
  (some (sm_wI h2 52 9 5)).bind fun h3 =>
  if (h3.1 52 1) ≤ (h3.1 52 3) then (F_256_205 y2 h3)
  else ((ldI h3 53 3000 (h3.1 52 3)).bind fun v4 =>
  if v4 = 108 then ((some (sm_wI h3 52 9 6)).bind fun h5 =>
  (some (sm_wI h5 52 3 ((h5.1 52 3) + 1))).bind fun h6 =>
  F_256_229 y2 h6)
  else (F_256_205 y2 h3))
def F_256_141 (y1 : Int32) (y3 : Int64) (z0 : Int32) (h : sm_H) : Option (Int32 × sm_H) :=
  if y1 = 0 then (F_256_153 z0 (-y3) h)
  else (F_256_153 z0 y3 h)
def F_256_140 (y1 : Int32) (y3 : Int64) (h : sm_H) : Option (Int32 × sm_H) :=
  F_256_141 y1 y3 0 h
def F_256_136 (y1 : Int32) (y3 : Int64) (h : sm_H) : Option (Int32 × sm_H) :=
  F_256_141 y1 y3 1 h
def F_256_120 (y1 : Int32) (y2 : Int32) (y3 : Int64) (h : sm_H) : Option (Int32 × sm_H) :=
  if y2 = 0 then (F_256_140 y1 y3 h)
  else (if y1 = 0 then (if (lg_cmp y3 (-9223372036854775808)) = 0 then (F_256_140 y1 y3 h)
  else (F_256_136 y1 y3 h))
  else (F_256_136 y1 y3 h))
def F_256_96 (y1 : Int32) (y3 : Int64) (y5 : Int32) (z0 : Int32) (h : sm_H) : Option ((Int32 × Int32 × Int64 × sm_H) ⊕ (Int32 × sm_H)) :=
  (some (((y3 * 10) - (Int32.toInt64 y5)) : Int64)).bind fun v7 =>
  (some (sm_wI h 52 3 ((h.1 52 3) + 1))).bind fun h8 =>
  some (.inl (y1, z0, v7, h8))
def F_256_95 (y1 : Int32) (y3 : Int64) (y5 : Int32) (h : sm_H) : Option ((Int32 × Int32 × Int64 × sm_H) ⊕ (Int32 × sm_H)) :=
  F_256_96 y1 y3 y5 0 h
def F_256_18B (s : (Int32 × Int32 × Int64 × sm_H)) : Option ((Int32 × Int32 × Int64 × sm_H) ⊕ (Int32 × sm_H)) :=
  if (s.2.2.2.1 52 1) ≤ (s.2.2.2.1 52 3) then ((F_256_120 s.1 s.2.1 s.2.2.1 s.2.2.2).map fun r => (.inr r))
  else ((ldI s.2.2.2 53 3000 (s.2.2.2.1 52 3)).bind fun v9 =>
  if v9 < 48 then ((F_256_120 s.1 s.2.1 s.2.2.1 s.2.2.2).map fun r => (.inr r))
  else ((ldI s.2.2.2 53 3000 (s.2.2.2.1 52 3)).bind fun v10 =>
  if 57 < v10 then ((F_256_120 s.1 s.2.1 s.2.2.1 s.2.2.2).map fun r => (.inr r))
  else ((ldI s.2.2.2 53 3000 (s.2.2.2.1 52 3)).bind fun v11 =>
  (some ((v11 - 48) : Int32)).bind fun v12 =>
  if s.2.1 = 0 then (F_256_95 s.1 s.2.2.1 v12 s.2.2.2)
  else (if (10 : Int64) = 0 then none else (if (lg_cmp s.2.2.1 (((-9223372036854775808) + (Int32.toInt64 v12)) / 10)) < 0 then (F_256_95 s.1 s.2.2.1 v12 s.2.2.2)
  else (F_256_96 s.1 s.2.2.1 v12 1 s.2.2.2))))))
def F_256_18 (y1 : Int32) (y2 : Int32) (y3 : Int64) (h : sm_H) : Option (Int32 × sm_H) := lp F_256_18B 1000000 (y1, y2, y3, h)
def F_256_0 (x1 : Int32) (h : sm_H) : Option (Int32 × sm_H) :=
  if x1 = 0 then (F_256_18 x1 1 0 h)
  else ((some (sm_wI h 52 3 ((h.1 52 3) + 1))).bind fun h13 =>
  F_256_18 x1 1 0 h13)
abbrev F_256 (x1 : Int32) (h : sm_H) : Option (Int32 × sm_H) := F_256_0 x1 h
def F_258_0 (x1 : Int32) (h : sm_H) : Option (Int32 × sm_H) :=
  (F_139 64 x1 h).bind fun q1 =>
  if q1.1 = 0 ∨ q1.1 = 1 then some (q1.1, q1.2) else none
abbrev F_258 (x1 : Int32) (h : sm_H) : Option (Int32 × sm_H) := F_258_0 x1 h
def F_261_9B (s : (Int32 × sm_H)) : Option ((Int32 × sm_H) ⊕ (Int32 × sm_H)) :=
  (F_136 64 s.2).bind fun q1 =>
  if q1.1 ≤ s.1 then (some (.inr (1, q1.2)))
  else ((F_137 64 s.1 q1.2).bind fun q2 =>
  (F_54 q2.1 q2.2).bind fun q3 =>
  if q3.1 = 0 then (some (.inr (0, q3.2)))
  else ((F_137 64 s.1 q3.2).bind fun q4 =>
  (F_229 q4.1 q4.2).bind fun q5 =>
  (some (s.1 + 1 : Int32)).bind fun v6 =>
  some (.inl (v6, q5))))
def F_261_9 (y1 : Int32) (h : sm_H) : Option (Int32 × sm_H) := lp F_261_9B 1000000 (y1, h)
def F_261_0  (h : sm_H) : Option (Int32 × sm_H) :=
  (F_228 h).bind fun q7 =>
  F_261_9 0 q7
abbrev F_261  (h : sm_H) : Option (Int32 × sm_H) := F_261_0  h
def F_262_43 (z0 : Int32) (h : sm_H) : Option (Int32 × sm_H) :=
  some (z0, h)
def F_262_0 (x1 : Int32) (x2 : Int32) (h : sm_H) : Option (Int32 × sm_H) :=
  if x2 = (-1) then ((F_225 x1 h).bind fun q4 =>
  some (q4.1, q4.2))
  else (if x2 = (-2) then ((F_224 x1 h).bind fun q2 =>
  if q2.1 = 0 then (F_262_43 (-1) q2.2)
  else ((F_226 x1 q2.2).bind fun q3 =>
  F_262_43 q3.1 q3.2))
  else ((F_227 x1 x2 h).bind fun q1 =>
  some (q1.1, q1.2)))
abbrev F_262 (x1 : Int32) (x2 : Int32) (h : sm_H) : Option (Int32 × sm_H) := F_262_0 x1 x2 h
def F_264_23 (z0 : Int32) (h : sm_H) : Option (Int32 × sm_H) :=
  some (z0, h)
def F_264_11 (y1 : Int32) (z1 : Int32) (h : sm_H) : Option (Int32 × sm_H) :=
  (some (sm_wI h 0 12 z1)).bind fun h1 =>
  if 0 ≤ y1 then (F_264_23 y1 h1)
  else (F_264_23 (-1) h1)
def F_264_0 (x1 : Int32) (h : sm_H) : Option (Int32 × sm_H) :=
  if 0 ≤ x1 then (F_264_11 x1 0 h)
  else (F_264_11 x1 (-x1) h)
abbrev F_264 (x1 : Int32) (h : sm_H) : Option (Int32 × sm_H) := F_264_0 x1 h
def F_265_15  (h : sm_H) : Option (Int32 × sm_H) :=
  some ((-1), h)
def F_265_0 (x1 : Int32) (x2 : Int32) (h : sm_H) : Option (Int32 × sm_H) :=
  (F_36 x1 h).bind fun q1 =>
  if q1.1 = 0 then (F_265_15 q1.2)
  else (if 0 ≤ x2 then (if x2 = 0 then ((F_41 x1 q1.2).bind fun q2 =>
  some (q2.1, q2.2))
  else (if x2 = 1 then ((F_37 x1 q1.2).bind fun q3 =>
  some (q3.1, q3.2))
  else (if x2 = 2 then ((F_38 x1 q1.2).bind fun q4 =>
  some (q4.1, q4.2))
  else (if x2 = 3 then ((F_39 x1 q1.2).bind fun q5 =>
  some (q5.1, q5.2))
  else (if x2 = 4 then ((F_42 x1 q1.2).bind fun q6 =>
  some (q6.1, q6.2))
  else ((F_43 x1 (x2 - 5) q1.2).bind fun q7 =>
  some (q7.1, q7.2)))))))
  else (F_265_15 q1.2))
abbrev F_265 (x1 : Int32) (x2 : Int32) (h : sm_H) : Option (Int32 × sm_H) := F_265_0 x1 x2 h
def F_266_0 (x1 : Int32) (h : sm_H) : Option (Int64 × sm_H) :=
  (F_40 x1 h).bind fun q1 =>
  some (q1.1, q1.2)
abbrev F_266 (x1 : Int32) (h : sm_H) : Option (Int64 × sm_H) := F_266_0 x1 h
def F_270_0  (h : sm_H) : Option (Int32 × sm_H) :=
  some ((h.1 0 12), h)
abbrev F_270  (h : sm_H) : Option (Int32 × sm_H) := F_270_0  h
def F_271_23 (z0 : Int32) (h : sm_H) : Option (Int32 × sm_H) :=
  some (z0, h)
def F_271_0 (x1 : Int32) (h : sm_H) : Option (Int32 × sm_H) :=
  (F_36 x1 h).bind fun q1 =>
  if q1.1 = 0 then (F_271_23 (-1) q1.2)
  else ((F_155 x1 q1.2).bind fun q2 =>
  F_271_23 q2.1 q2.2)
abbrev F_271 (x1 : Int32) (h : sm_H) : Option (Int32 × sm_H) := F_271_0 x1 h
def F_272_22  (h : sm_H) : Option (Int32 × sm_H) :=
  some (0, h)
def F_272_0 (x1 : Int32) (x2 : Int32) (h : sm_H) : Option (Int32 × sm_H) :=
  (F_156 x1 h).bind fun q1 =>
  if q1.1 = 0 then (F_272_22 q1.2)
  else ((F_36 x2 q1.2).bind fun q2 =>
  if q2.1 = 0 then (F_272_22 q2.2)
  else ((F_157 x1 q2.2).bind fun q3 =>
  (F_41 q3.1 q3.2).bind fun q4 =>
  (F_41 x2 q4.2).bind fun q5 =>
  if q4.1 = q5.1 then ((F_158 x1 x2 q5.2).bind fun q6 =>
  some (1, q6))
  else (some (0, q5.2))))
abbrev F_272 (x1 : Int32) (x2 : Int32) (h : sm_H) : Option (Int32 × sm_H) := F_272_0 x1 x2 h
def F_273_0  (h : sm_H) : Option (Int32 × sm_H) :=
  (F_159 h).bind fun q1 =>
  some (q1.1, q1.2)
abbrev F_273  (h : sm_H) : Option (Int32 × sm_H) := F_273_0  h
def F_274_0 (x1 : Int32) (h : sm_H) : Option (Int32 × sm_H) :=
  (F_162 x1 h).bind fun q1 =>
  if q1.1 = 0 ∨ q1.1 = 1 then some (q1.1, q1.2) else none
abbrev F_274 (x1 : Int32) (h : sm_H) : Option (Int32 × sm_H) := F_274_0 x1 h
def F_275_0 (x1 : Int64) (h : sm_H) : Option (Int32 × sm_H) :=
  if (h.1 0 11) < 10 then ((stJ h 66 10 (h.1 0 11) x1).bind fun h1 =>
  (some (sm_wI h1 0 11 ((h1.1 0 11) + 1))).bind fun h2 =>
  some (1, h2))
  else (some (0, h))
abbrev F_275 (x1 : Int64) (h : sm_H) : Option (Int32 × sm_H) := F_275_0 x1 h
def F_277_0 (x1 : Int32) (h : sm_H) : Option (Int32 × sm_H) :=
  if x1 = 4 then ((F_143 h).bind fun q1 =>
  some (q1.1, q1.2))
  else (if x1 = 5 then ((F_144 h).bind fun q2 =>
  some (q2.1, q2.2))
  else (if x1 = 6 then ((F_223 h).bind fun q3 =>
  some (q3.1, q3.2))
  else (if x1 = 7 then ((F_35 h).bind fun q4 =>
  some (q4.1, q4.2))
  else (if x1 = 8 then ((F_112 h).bind fun q5 =>
  some (q5.1, q5.2))
  else ((F_72 x1 h).bind fun q6 =>
  some (q6.1, q6.2))))))
abbrev F_277 (x1 : Int32) (h : sm_H) : Option (Int32 × sm_H) := F_277_0 x1 h
def F_282_0 (x1 : Int32) (x2 : Int32) (x3 : Int32) (x4 : Int32) (x5 : Int32) (h : sm_H) : Option (sm_H) :=
  (F_238 0 x1 h).bind fun q1 =>
  (F_238 4 x2 q1).bind fun q2 =>
  (F_238 8 x3 q2).bind fun q3 =>
  (F_238 12 x4 q3).bind fun q4 =>
  (F_238 16 x5 q4).bind fun q5 =>
  some q5
abbrev F_282 (x1 : Int32) (x2 : Int32) (x3 : Int32) (x4 : Int32) (x5 : Int32) (h : sm_H) : Option (sm_H) := F_282_0 x1 x2 x3 x4 x5 h
def F_283_0 (x1 : Int32) (h : sm_H) : Option (Int32 × sm_H) :=
  (F_239 x1 h).bind fun q1 =>
  some (q1.1, q1.2)
abbrev F_283 (x1 : Int32) (h : sm_H) : Option (Int32 × sm_H) := F_283_0 x1 h
def F_285_0 (x1 : Int32) (h : sm_H) : Option (Int32 × sm_H) :=
  (F_164 x1 h).bind fun q1 =>
  some (q1.1, q1.2)
abbrev F_285 (x1 : Int32) (h : sm_H) : Option (Int32 × sm_H) := F_285_0 x1 h
def F_8_49 (y1 : Int32) (y2 : Int32) (h : sm_H) : Option ((Int32 × Int32 × sm_H) ⊕ (Int32 × sm_H)) :=
  (some (y2 + 1 : Int32)).bind fun v1 =>
  some (.inl (y1, v1, h))
def F_8_47  (h : sm_H) : Option (Int32 × sm_H) :=
  some (1, h)
def F_8_2B (s : (Int32 × Int32 × sm_H)) : Option ((Int32 × Int32 × sm_H) ⊕ (Int32 × sm_H)) :=
  (sm_rr G0 s.2.2 34 11).bind fun b2 =>
  if ¬ (sm_is G0 s.2.2 b2 5 = true) then none else (F_136 b2 s.2.2).bind fun q3 =>
  if q3.1 ≤ s.2.1 then (some (.inr (0, q3.2)))
  else ((sm_rr G0 q3.2 34 11).bind fun b5 =>
  if ¬ (sm_is G0 q3.2 b5 5 = true) then none else (F_137 b5 s.2.1 q3.2).bind fun q6 =>
  (F_36 q6.1 q6.2).bind fun q8 =>
  if q8.1 = 0 then (if s.1 = 0 then ((F_8_47 q8.2).map fun r => (.inr r))
  else ((sm_rr G0 q8.2 34 11).bind fun b9 =>
  if ¬ (sm_is G0 q8.2 b9 5 = true) then none else (F_137 b9 s.2.1 q8.2).bind fun q10 =>
  if q10.1 = (-1) then (F_8_49 s.1 s.2.1 q10.2)
  else ((F_8_47 q10.2).map fun r => (.inr r))))
  else (F_8_49 s.1 s.2.1 q8.2))
def F_8_2 (y1 : Int32) (y2 : Int32) (h : sm_H) : Option (Int32 × sm_H) := lp F_8_2B 1000000 (y1, y2, h)
def F_8_0 (x1 : Int32) (h : sm_H) : Option (Int32 × sm_H) :=
  F_8_2 x1 0 h
abbrev F_8 (x1 : Int32) (h : sm_H) : Option (Int32 × sm_H) := F_8_0 x1 h
def F_12_19 (z0 : Int32) (h : sm_H) : Option (Int32 × sm_H) :=
  some (z0, h)
def F_12_0  (h : sm_H) : Option (Int32 × sm_H) :=
  (F_44 (h.1 34 13) h).bind fun q1 =>
  if q1.1 = 0 then (F_12_19 0 q1.2)
  else (F_12_19 1 q1.2)
abbrev F_12  (h : sm_H) : Option (Int32 × sm_H) := F_12_0  h
def F_13_46  (h : sm_H) : Option (Int32 × sm_H) :=
  some (1, h)
def F_13_2B (s : (Int32 × sm_H)) : Option ((Int32 × sm_H) ⊕ (Int32 × sm_H)) :=
  (sm_rr G0 s.2 34 11).bind fun b1 =>
  if ¬ (sm_is G0 s.2 b1 5 = true) then none else (F_136 b1 s.2).bind fun q2 =>
  if q2.1 ≤ s.1 then (some (.inr (0, q2.2)))
  else ((sm_rr G0 q2.2 34 11).bind fun b4 =>
  if ¬ (sm_is G0 q2.2 b4 5 = true) then none else (F_137 b4 s.1 q2.2).bind fun q5 =>
  if q5.1 < 0 then ((F_13_46 q5.2).map fun r => (.inr r))
  else ((sm_rr G0 q5.2 34 11).bind fun b7 =>
  if ¬ (sm_is G0 q5.2 b7 5 = true) then none else (F_137 b7 s.1 q5.2).bind fun q8 =>
  (F_226 (q8.2.1 34 9) q8.2).bind fun q10 =>
  if q8.1 < q10.1 then ((some (s.1 + 1 : Int32)).bind fun v11 =>
  some (.inl (v11, q10.2)))
  else ((F_13_46 q10.2).map fun r => (.inr r))))
def F_13_2 (y1 : Int32) (h : sm_H) : Option (Int32 × sm_H) := lp F_13_2B 1000000 (y1, h)
def F_13_0  (h : sm_H) : Option (Int32 × sm_H) :=
  F_13_2 1 h
abbrev F_13  (h : sm_H) : Option (Int32 × sm_H) := F_13_0  h
def F_15_0  (h : sm_H) : Option (Int32 × sm_H) :=
  (F_45 (h.1 34 12) h).bind fun q1 =>
  (F_46 (h.1 34 12) (q1.1 - 1) q1.2).bind fun q2 =>
  some (q2.1, q2.2)
abbrev F_15  (h : sm_H) : Option (Int32 × sm_H) := F_15_0  h
def F_16_29B (s : (Int32 × sm_H)) : Option ((Int32 × sm_H) ⊕ (Int32 × sm_H)) :=
  (sm_rr G0 s.2 34 11).bind fun b1 =>
  if ¬ (sm_is G0 s.2 b1 5 = true) then none else (F_136 b1 s.2).bind fun q2 =>
  if q2.1 ≤ s.1 then (some (.inr (0, q2.2)))
  else ((sm_rr G0 q2.2 34 11).bind fun b4 =>
  if ¬ (sm_is G0 q2.2 b4 5 = true) then none else (F_137 b4 s.1 q2.2).bind fun q5 =>
  (F_227 (q2.2.1 34 9) q5.1 q5.2).bind fun q7 =>
  (F_46 (q7.2.1 34 12) (s.1 - 1) q7.2).bind fun q8 =>
  if q7.1 = q8.1 then ((some (s.1 + 1 : Int32)).bind fun v9 =>
  some (.inl (v9, q8.2)))
  else (some (.inr (1, q8.2))))
def F_16_29 (y1 : Int32) (h : sm_H) : Option (Int32 × sm_H) := lp F_16_29B 1000000 (y1, h)
def F_16_0  (h : sm_H) : Option (Int32 × sm_H) :=
  (F_225 (h.1 34 9) h).bind fun q10 =>
  (F_44 (q10.2.1 34 12) q10.2).bind fun q11 =>
  if q10.1 = q11.1 then (F_16_29 1 q11.2)
  else (some (1, q11.2))
abbrev F_16  (h : sm_H) : Option (Int32 × sm_H) := F_16_0  h
def F_17_48 (z0 : Int32) (h : sm_H) : Option (Int32 × sm_H) :=
  if z0 = 0 ∨ z0 = 1 then some (z0, h) else none
def F_17_47  (h : sm_H) : Option (Int32 × sm_H) :=
  F_17_48 0 h
def F_17_0  (h : sm_H) : Option (Int32 × sm_H) :=
  (F_44 (h.1 34 13) h).bind fun q1 =>
  if q1.1 = 0 then (F_17_47 q1.2)
  else ((F_46 (q1.2.1 34 12) (q1.2.1 34 8) q1.2).bind fun q2 =>
  (F_44 (q2.2.1 34 13) q2.2).bind fun q3 =>
  if q2.1 = q3.1 then (F_17_47 q3.2)
  else (F_17_48 1 q3.2))
abbrev F_17  (h : sm_H) : Option (Int32 × sm_H) := F_17_0  h
def F_18_23B (s : (Int32 × Int32 × sm_H)) : Option ((Int32 × Int32 × sm_H) ⊕ (Int32 × sm_H)) :=
  if s.1 ≤ s.2.1 then (some (.inr (0, s.2.2)))
  else ((F_46 (s.2.2.1 34 12) s.2.1 s.2.2).bind fun q1 =>
  (F_63 (q1.2.1 34 8) q1.2).bind fun q2 =>
  if q1.1 = q2.1 then ((some (s.2.1 + 1 : Int32)).bind fun v3 =>
  some (.inl (s.1, v3, q2.2)))
  else (some (.inr (1, q2.2))))
def F_18_23 (y1 : Int32) (y2 : Int32) (h : sm_H) : Option (Int32 × sm_H) := lp F_18_23B 1000000 (y1, y2, h)
def F_18_0  (h : sm_H) : Option (Int32 × sm_H) :=
  (F_45 (h.1 34 12) h).bind fun q4 =>
  (some ((if (q4.1 - (q4.2.1 34 9)) < 0 then 0 else (q4.1 - (q4.2.1 34 9))) : Int32)).bind fun v5 =>
  F_18_23 q4.1 v5 q4.2
abbrev F_18  (h : sm_H) : Option (Int32 × sm_H) := F_18_0  h
def F_19_77 (z0 : Int32) (h : sm_H) : Option (Int32 × sm_H) :=
  if z0 = 0 ∨ z0 = 1 then some (z0, h) else none
def F_19_72  (h : sm_H) : Option (Int32 × sm_H) :=
  F_19_77 1 h
def F_19_0 (x1 : Int32) (h : sm_H) : Option (Int32 × sm_H) :=
  (F_44 (h.1 34 13) h).bind fun q1 =>
  (F_44 (q1.2.1 34 12) q1.2).bind fun q2 =>
  if q1.1 = q2.1 then ((F_41 (q2.2.1 34 13) q2.2).bind fun q3 =>
  (F_41 (q3.2.1 34 12) q3.2).bind fun q4 =>
  (F_45 (q4.2.1 34 13) q4.2).bind fun q5 =>
  (F_235 q3.1 x1 q4.1 0 (q5.1 - x1) q5.2).bind fun q6 =>
  if q6.1 = 0 then (F_19_72 q6.2)
  else (F_19_77 0 q6.2))
  else (F_19_72 q2.2)
abbrev F_19 (x1 : Int32) (h : sm_H) : Option (Int32 × sm_H) := F_19_0 x1 h
def F_20_78 (z0 : Int32) (h : sm_H) : Option (Int32 × sm_H) :=
  if z0 = 0 ∨ z0 = 1 then some (z0, h) else none
def F_20_73  (h : sm_H) : Option (Int32 × sm_H) :=
  F_20_78 1 h
def F_20_0  (h : sm_H) : Option (Int32 × sm_H) :=
  (F_46 (h.1 34 13) 0 h).bind fun q1 =>
  if q1.1 = 19 then ((F_44 (q1.2.1 34 12) q1.2).bind fun q2 =>
  if q2.1 = 0 then ((F_19 1 q2.2).bind fun q6 =>
  if q6.1 = 0 ∨ q6.1 = 1 then some (q6.1, q6.2) else none)
  else ((F_46 (q2.2.1 34 13) 1 q2.2).bind fun q3 =>
  (F_44 (q3.2.1 34 12) q3.2).bind fun q4 =>
  if q3.1 = q4.1 then ((F_19 2 q4.2).bind fun q5 =>
  if q5.1 = 0 then (F_20_78 0 q5.2)
  else (F_20_73 q5.2))
  else (F_20_73 q4.2)))
  else (some (1, q1.2))
abbrev F_20  (h : sm_H) : Option (Int32 × sm_H) := F_20_0  h
def F_21_71 (z0 : Int32) (h : sm_H) : Option (Int32 × sm_H) :=
  if z0 = 0 ∨ z0 = 1 then some (z0, h) else none
def F_21_2B (s : (Int32 × sm_H)) : Option ((Int32 × sm_H) ⊕ (Int32 × sm_H)) :=
  (sm_rr G0 s.2 34 11).bind fun b1 =>
  if ¬ (sm_is G0 s.2 b1 5 = true) then none else (F_136 b1 s.2).bind fun q2 =>
  if q2.1 ≤ s.1 then ((F_46 (q2.2.1 34 12) 0 q2.2).bind fun q4 =>
  if q4.1 = 5 then ((F_21_71 0 q4.2).map fun r => (.inr r))
  else ((F_21_71 1 q4.2).map fun r => (.inr r)))
  else ((sm_rr G0 q2.2 34 11).bind fun b5 =>
  if ¬ (sm_is G0 q2.2 b5 5 = true) then none else (F_137 b5 s.1 q2.2).bind fun q6 =>
  (F_41 q6.1 q6.2).bind fun q8 =>
  (F_41 (q8.2.1 34 12) q8.2).bind fun q9 =>
  if q8.1 = q9.1 then ((some (s.1 + 1 : Int32)).bind fun v10 =>
  some (.inl (v10, q9.2)))
  else (some (.inr (1, q9.2))))
def F_21_2 (y1 : Int32) (h : sm_H) : Option (Int32 × sm_H) := lp F_21_2B 1000000 (y1, h)
def F_21_0  (h : sm_H) : Option (Int32 × sm_H) :=
  F_21_2 1 h
abbrev F_21  (h : sm_H) : Option (Int32 × sm_H) := F_21_0  h
def F_23_82  (h : sm_H) : Option (sm_H) :=
  some h
def F_23_76 (y1 : Int32) (h : sm_H) : Option ((Int32 × sm_H) ⊕ (sm_H)) :=
  (some (y1 + 4 : Int32)).bind fun v1 =>
  some (.inl (v1, h))
def F_23_7B (s : (Int32 × sm_H)) : Option ((Int32 × sm_H) ⊕ (sm_H)) :=
  (sm_rr G0 s.2 34 11).bind fun b2 =>
  if ¬ (sm_is G0 s.2 b2 5 = true) then none else (F_136 b2 s.2).bind fun q3 =>
  if q3.1 ≤ s.1 then ((F_23_82 q3.2).map fun r => (.inr r))
  else (if 4 ≤ (q3.2.1 34 6) then ((F_23_82 q3.2).map fun r => (.inr r))
  else ((sm_rr G0 q3.2 34 11).bind fun b5 =>
  if ¬ (sm_is G0 q3.2 b5 5 = true) then none else (F_137 b5 s.1 q3.2).bind fun q6 =>
  (sm_rr G0 q6.2 34 11).bind fun b8 =>
  if ¬ (sm_is G0 q6.2 b8 5 = true) then none else (F_137 b8 (s.1 + 1) q6.2).bind fun q9 =>
  (F_47 q6.1 q9.1 q9.2).bind fun q11 =>
  if q11.1 = 0 then (F_23_76 s.1 q11.2)
  else ((stI q11.2 37 4 (q11.2.1 34 6) q11.1).bind fun h12 =>
  (some (sm_wI h12 34 6 ((h12.1 34 6) + 1))).bind fun h13 =>
  F_23_76 s.1 h13)))
def F_23_7 (y1 : Int32) (h : sm_H) : Option (sm_H) := lp F_23_7B 1000000 (y1, h)
def F_23_0  (h : sm_H) : Option (sm_H) :=
  (some (sm_wI h 34 6 0)).bind fun h14 =>
  F_23_7 0 h14
abbrev F_23  (h : sm_H) : Option (sm_H) := F_23_0  h
def F_24_68 (z0 : Int32) (h : sm_H) : Option (Int32 × sm_H) :=
  if z0 = 0 ∨ z0 = 1 then some (z0, h) else none
def F_24_63  (h : sm_H) : Option (Int32 × sm_H) :=
  F_24_68 1 h
def F_24_31 (y1 : Int32) (h : sm_H) : Option (Int32 × sm_H) :=
  (F_41 y1 h).bind fun q1 =>
  (F_45 y1 q1.2).bind fun q2 =>
  (F_235 q1.1 0 (q1.2.1 34 9) 0 q2.1 q2.2).bind fun q3 =>
  if q3.1 = 0 then (F_24_63 q3.2)
  else (F_24_68 0 q3.2)
def F_24_0 (x1 : Int32) (x2 : Int32) (h : sm_H) : Option (Int32 × sm_H) :=
  if x1 = (-1) then (some (0, h))
  else (if x2 = (-1) then (F_24_31 x1 h)
  else ((F_44 x2 h).bind fun q4 =>
  (F_44 x1 q4.2).bind fun q5 =>
  if q4.1 = q5.1 then (F_24_31 x1 q5.2)
  else (F_24_63 q5.2)))
abbrev F_24 (x1 : Int32) (x2 : Int32) (h : sm_H) : Option (Int32 × sm_H) := F_24_0 x1 x2 h
def F_25_53 (y1 : Int32) (y2 : Int32) (z0 : Int32) (h : sm_H) : Option ((Int32 × Int32 × sm_H) ⊕ (Int32 × sm_H)) :=
  (F_46 y1 y2 h).bind fun q1 =>
  if q1.1 = z0 then ((some (y2 + 1 : Int32)).bind fun v2 =>
  some (.inl (y1, v2, q1.2)))
  else (some (.inr (1, q1.2)))
def F_25_36 (y1 : Int32) (y2 : Int32) (h : sm_H) : Option ((Int32 × Int32 × sm_H) ⊕ (Int32 × sm_H)) :=
  (F_227 (h.1 34 9) (y2 - (h.1 34 6)) h).bind fun q3 =>
  F_25_53 y1 y2 q3.1 q3.2
def F_25_2B (s : (Int32 × Int32 × sm_H)) : Option ((Int32 × Int32 × sm_H) ⊕ (Int32 × sm_H)) :=
  (F_45 s.1 s.2.2).bind fun q4 =>
  if q4.1 ≤ s.2.1 then (some (.inr (0, q4.2)))
  else (if (q4.2.1 34 6) ≤ s.2.1 then (F_25_36 s.1 s.2.1 q4.2)
  else (if 4 ≤ s.2.1 then (F_25_36 s.1 s.2.1 q4.2)
  else ((ldI q4.2 37 4 s.2.1).bind fun v5 =>
  F_25_53 s.1 s.2.1 v5 q4.2)))
def F_25_2 (y1 : Int32) (y2 : Int32) (h : sm_H) : Option (Int32 × sm_H) := lp F_25_2B 1000000 (y1, y2, h)
def F_25_0 (x1 : Int32) (h : sm_H) : Option (Int32 × sm_H) :=
  F_25_2 x1 0 h
abbrev F_25 (x1 : Int32) (h : sm_H) : Option (Int32 × sm_H) := F_25_0 x1 h
def F_27_45B (s : (Nat × Int32 × Int32 × sm_H)) : Option ((Nat × Int32 × Int32 × sm_H) ⊕ (sm_H)) :=
  (F_42 (s.2.2.2.1 34 12) s.2.2.2).bind fun q1 =>
  if q1.1 ≤ s.2.2.1 then ((some (sm_wI q1.2 34 12 s.2.1)).bind fun h2 =>
  (some (sm_wR h2 34 11 (some 35))).bind fun h3 =>
  some (.inr (h3)))
  else ((F_43 (q1.2.1 34 12) s.2.2.1 q1.2).bind fun q4 =>
  if ¬ (sm_is G0 q4.2 s.1 5 = true) then none else (F_137 s.1 (q4.1 + 1) q4.2).bind fun q5 =>
  (F_139 35 q5.1 q5.2).bind fun q7 =>
  (some (s.2.2.1 + 1 : Int32)).bind fun v8 =>
  some (.inl (s.1, s.2.1, v8, q7.2)))
def F_27_45 (y1 : Nat) (y2 : Int32) (y3 : Int32) (h : sm_H) : Option (sm_H) := lp F_27_45B 1000000 (y1, y2, y3, h)
def F_27_0  (h : sm_H) : Option (sm_H) :=
  (F_37 (h.1 34 12) h).bind fun q9 =>
  if q9.1 = 5 then ((sm_rr G0 q9.2 34 11).bind fun b10 =>
  (F_43 (q9.2.1 34 12) 0 q9.2).bind fun q11 =>
  (F_140 35 q11.1 q11.2).bind fun q12 =>
  F_27_45 b10 q11.1 1 q12.2)
  else (some q9.2)
abbrev F_27  (h : sm_H) : Option (sm_H) := F_27_0  h
def F_28_2B (s : (Int32 × sm_H)) : Option ((Int32 × sm_H) ⊕ (Int32 × sm_H)) :=
  (sm_rr G0 s.2 34 11).bind fun b1 =>
  if ¬ (sm_is G0 s.2 b1 5 = true) then none else (F_136 b1 s.2).bind fun q2 =>
  if q2.1 ≤ s.1 then (some (.inr (1, q2.2)))
  else ((sm_rr G0 q2.2 34 11).bind fun b4 =>
  if ¬ (sm_is G0 q2.2 b4 5 = true) then none else (F_137 b4 s.1 q2.2).bind fun q5 =>
  if q5.1 = (s.1 - 1) then ((some (s.1 + 1 : Int32)).bind fun v7 =>
  some (.inl (v7, q5.2)))
  else (some (.inr (0, q5.2))))
def F_28_2 (y1 : Int32) (h : sm_H) : Option (Int32 × sm_H) := lp F_28_2B 1000000 (y1, h)
def F_28_0  (h : sm_H) : Option (Int32 × sm_H) :=
  F_28_2 1 h
abbrev F_28  (h : sm_H) : Option (Int32 × sm_H) := F_28_0  h
def F_30_0 (x1 : Int32) (x2 : Int32) (h : sm_H) : Option (Int32 × sm_H) :=
  (F_41 (h.1 34 12) h).bind fun q1 =>
  (F_230 q1.1 0 (q1.2.1 34 8) q1.2).bind fun q2 =>
  (F_226 x1 q2).bind fun q3 =>
  (F_230 x1 0 q3.1 q3.2).bind fun q4 =>
  (F_41 (q4.1 34 12) q4).bind fun q5 =>
  (F_45 (q5.2.1 34 12) q5.2).bind fun q6 =>
  (F_230 q5.1 x2 q6.1 q6.2).bind fun q7 =>
  (F_44 (q7.1 34 12) q7).bind fun q8 =>
  some (q8.1, q8.2)
abbrev F_30 (x1 : Int32) (x2 : Int32) (h : sm_H) : Option (Int32 × sm_H) := F_30_0 x1 x2 h
def F_31_0 (x1 : Int32) (h : sm_H) : Option (Int32 × sm_H) :=
  (F_226 x1 h).bind fun q1 =>
  (F_230 x1 0 q1.1 q1.2).bind fun q2 =>
  (F_225 x1 q2).bind fun q3 =>
  some (q3.1, q3.2)
abbrev F_31 (x1 : Int32) (h : sm_H) : Option (Int32 × sm_H) := F_31_0 x1 h
def F_33_39 (z0 : Int32) (h : sm_H) : Option (Int32 × sm_H) :=
  some (z0, h)
def F_33_13 (y1 : Int32) (y2 : Int32) (h : sm_H) : Option (Int32 × sm_H) :=
  if y2 = 7 then ((F_229 y1 h).bind fun q1 =>
  some (1, q1))
  else (if y2 = 5 then (F_33_39 0 h)
  else (F_33_39 y1 h))
def F_33_0 (x1 : Int32) (x2 : Int32) (h : sm_H) : Option (Int32 × sm_H) :=
  if x2 = 4 then (F_33_13 x1 x2 h)
  else ((F_229 x1 h).bind fun q2 =>
  F_33_13 x1 x2 q2)
abbrev F_33 (x1 : Int32) (x2 : Int32) (h : sm_H) : Option (Int32 × sm_H) := F_33_0 x1 x2 h
def F_49_17B (s : (Int32 × Nat × Int32 × sm_H)) : Option ((Int32 × Nat × Int32 × sm_H) ⊕ (Int32 × sm_H)) :=
  if ¬ (sm_is G0 s.2.2.2 s.2.1 5 = true) then none else (F_136 s.2.1 s.2.2.2).bind fun q1 =>
  if q1.1 ≤ s.2.2.1 then (some (.inr (1, q1.2)))
  else ((F_43 s.1 s.2.2.1 q1.2).bind fun q3 =>
  if ¬ (sm_is G0 q3.2 s.2.1 5 = true) then none else (F_137 s.2.1 s.2.2.1 q3.2).bind fun q4 =>
  if q3.1 = q4.1 then ((some (s.2.2.1 + 1 : Int32)).bind fun v6 =>
  some (.inl (s.1, s.2.1, v6, q4.2)))
  else (some (.inr (0, q4.2))))
def F_49_17 (y1 : Int32) (y2 : Nat) (y3 : Int32) (h : sm_H) : Option (Int32 × sm_H) := lp F_49_17B 1000000 (y1, y2, y3, h)
def F_49_0 (x1 : Int32) (x2 : Nat) (h : sm_H) : Option (Int32 × sm_H) :=
  (ldI h 15 500 x1).bind fun v7 =>
  if ¬ (sm_is G0 h x2 5 = true) then none else (F_136 x2 h).bind fun q8 =>
  if v7 = q8.1 then (F_49_17 x1 x2 0 q8.2)
  else (some (0, q8.2))
abbrev F_49 (x1 : Int32) (x2 : Nat) (h : sm_H) : Option (Int32 × sm_H) := F_49_0 x1 x2 h
def F_50_218  (h : sm_H) : Option (Int32 × sm_H) :=
  (some (sm_wI h 10 11 ((h.1 10 11) + 1))).bind fun h1 =>
  some (((h1.1 10 11) - 1), h1)
def F_50_165B (s : (Int32 × Int32 × sm_H)) : Option ((Int32 × Int32 × sm_H) ⊕ (Int32 × sm_H)) :=
  (F_226 s.1 s.2.2).bind fun q2 =>
  if q2.1 ≤ s.2.1 then ((F_50_218 q2.2).map fun r => (.inr r))
  else (if 10 ≤ s.2.1 then ((F_50_218 q2.2).map fun r => (.inr r))
  else ((F_227 s.1 s.2.1 q2.2).bind fun q3 =>
  (stI q3.2 20 5000 (((q2.2.1 10 11) * 10) + s.2.1) q3.1).bind fun h4 =>
  (some (s.2.1 + 1 : Int32)).bind fun v5 =>
  some (.inl (s.1, v5, h4))))
def F_50_165 (y7 : Int32) (y8 : Int32) (h : sm_H) : Option (Int32 × sm_H) := lp F_50_165B 1000000 (y7, y8, h)
def F_50_115 (y7 : Int32) (h : sm_H) : Option (Int32 × sm_H) :=
  (stI h 17 500 (h.1 10 11) y7).bind fun h6 =>
  (F_225 y7 h6).bind fun q7 =>
  (stI q7.2 18 500 (h6.1 10 11) q7.1).bind fun h8 =>
  (F_226 y7 h8).bind fun q9 =>
  (stI q9.2 19 500 (h8.1 10 11) q9.1).bind fun h10 =>
  F_50_165 y7 0 h10
def F_50_70B (s : (Nat × Int32 × Int32 × sm_H)) : Option ((Nat × Int32 × Int32 × sm_H) ⊕ (Int32 × sm_H)) :=
  if ¬ (sm_is G0 s.2.2.2 s.1 5 = true) then none else (F_136 s.1 s.2.2.2).bind fun q11 =>
  if q11.1 ≤ s.2.2.1 then ((F_50_115 s.2.1 q11.2).map fun r => (.inr r))
  else (if 20 ≤ s.2.2.1 then ((F_50_115 s.2.1 q11.2).map fun r => (.inr r))
  else (if ¬ (sm_is G0 q11.2 s.1 5 = true) then none else (F_137 s.1 s.2.2.1 q11.2).bind fun q13 =>
  (stI q13.2 16 10000 (((q11.2.1 10 11) * 20) + s.2.2.1) q13.1).bind fun h15 =>
  (some (s.2.2.1 + 1 : Int32)).bind fun v16 =>
  some (.inl (s.1, s.2.1, v16, h15))))
def F_50_70 (y6 : Nat) (y7 : Int32) (y8 : Int32) (h : sm_H) : Option (Int32 × sm_H) := lp F_50_70B 1000000 (y6, y7, y8, h)
def F_50_0 (x1 : Int32) (x2 : Int32) (x3 : Int32) (x4 : Int64) (x6 : Nat) (x7 : Int32) (h : sm_H) : Option (Int32 × sm_H) :=
  if (h.1 10 11) < 500 then ((stI h 11 500 (h.1 10 11) x1).bind fun h17 =>
  (stI h17 12 500 (h17.1 10 11) x2).bind fun h18 =>
  (stI h18 13 500 (h18.1 10 11) x3).bind fun h19 =>
  (stJ h19 14 500 (h19.1 10 11) x4).bind fun h20 =>
  if ¬ (sm_is G0 h20 x6 5 = true) then none else (F_136 x6 h20).bind fun q21 =>
  (stI q21.2 15 500 (h20.1 10 11) q21.1).bind fun h23 =>
  F_50_70 x6 x7 0 h23)
  else (some ((-1), h))
abbrev F_50 (x1 : Int32) (x2 : Int32) (x3 : Int32) (x4 : Int64) (x6 : Nat) (x7 : Int32) (h : sm_H) : Option (Int32 × sm_H) := F_50_0 x1 x2 x3 x4 x6 x7 h
def F_52_39B (s : (Int32 × Int32 × Int32 × Int32 × sm_H)) : Option ((Int32 × Int32 × Int32 × Int32 × sm_H) ⊕ (Int32 × sm_H)) :=
  if 32 ≤ s.2.2.2.1 then ((stZ s.2.2.2.2 2 1024 ((s.2.2.1 * 32) + s.2.2.1) 1).bind fun h1 =>
  (stI h1 3 32 s.2.2.1 s.1).bind fun h2 =>
  (stI h2 4 32 s.2.2.1 s.2.1).bind fun h3 =>
  (some (sm_wI h3 1 3 ((h3.1 1 3) + 1))).bind fun h4 =>
  some (.inr (s.2.2.1, h4)))
  else ((ldZ s.2.2.2.2 2 1024 ((s.1 * 32) + s.2.2.2.1)).bind fun v5 =>
  (stZ s.2.2.2.2 2 1024 ((s.2.2.1 * 32) + s.2.2.2.1) v5).bind fun h6 =>
  (some (s.2.2.2.1 + 1 : Int32)).bind fun v7 =>
  some (.inl (s.1, s.2.1, s.2.2.1, v7, h6)))
def F_52_39 (y1 : Int32) (y2 : Int32) (y3 : Int32) (y4 : Int32) (h : sm_H) : Option (Int32 × sm_H) := lp F_52_39B 1000000 (y1, y2, y3, y4, h)
def F_52_31 (y1 : Int32) (y2 : Int32) (h : sm_H) : Option (Int32 × sm_H) :=
  (some ((h.1 1 3) : Int32)).bind fun v8 =>
  F_52_39 y1 y2 v8 0 h
def F_52_29  (h : sm_H) : Option (Int32 × sm_H) :=
  some ((-1), h)
def F_52_0 (x1 : Int32) (x2 : Int32) (h : sm_H) : Option (Int32 × sm_H) :=
  if 32 ≤ (h.1 1 3) then (F_52_29 h)
  else (if x1 = 7 then (F_52_31 x1 x2 h)
  else (if x1 = 19 then (F_52_31 x1 x2 h)
  else ((F_55 x1 h).bind fun q9 =>
  if q9.1 = 0 then (F_52_29 q9.2)
  else (F_52_31 x1 x2 q9.2))))
abbrev F_52 (x1 : Int32) (x2 : Int32) (h : sm_H) : Option (Int32 × sm_H) := F_52_0 x1 x2 h
def F_64_49  (h : sm_H) : Option (Int32 × sm_H) :=
  some (1, h)
def F_64_164 (z0 : Int32) (h : sm_H) : Option (Int32 × sm_H) :=
  if z0 = 0 ∨ z0 = 1 then some (z0, h) else none
def F_64_163  (h : sm_H) : Option (Int32 × sm_H) :=
  F_64_164 0 h
def F_64_159  (h : sm_H) : Option (Int32 × sm_H) :=
  F_64_164 1 h
def F_64_126 (z0 : Int32) (h : sm_H) : Option (Int32 × sm_H) :=
  if z0 = 0 ∨ z0 = 1 then some (z0, h) else none
def F_64_121  (h : sm_H) : Option (Int32 × sm_H) :=
  F_64_126 1 h
def F_64_82 (y1 : Int32) (y2 : Int32) (y3 : Int32) (h : sm_H) : Option (Int32 × sm_H) :=
  if 6 < y1 then (if y1 = 8 then (if y3 = 0 then ((F_60 (y2 + 8) 8 h).bind fun q3 =>
  if q3.1 = 0 then (F_64_126 0 q3.2)
  else (F_64_121 q3.2))
  else (F_64_121 h))
  else ((F_58 y1 h).bind fun q1 =>
  if q1.1 = 0 then (F_64_163 q1.2)
  else (if y3 = 0 then (if (y1 - 8) = y2 then (F_64_159 q1.2)
  else ((F_67 (y1 - 8) y2 q1.2).bind fun q2 =>
  if q2.1 = 0 then (F_64_163 q2.2)
  else (F_64_159 q2.2)))
  else (F_64_159 q1.2))))
  else ((F_60 (y1 + 8) y2 h).bind fun q4 =>
  if q4.1 = 0 ∨ q4.1 = 1 then some (q4.1, q4.2) else none)
def F_64_81 (z0 : Int32) (h : sm_H) : Option (Int32 × sm_H) :=
  if z0 = 0 ∨ z0 = 1 then some (z0, h) else none
def F_64_76  (h : sm_H) : Option (Int32 × sm_H) :=
  F_64_81 1 h
def F_64_43 (y1 : Int32) (y2 : Int32) (y3 : Int32) (h : sm_H) : Option (Int32 × sm_H) :=
  if y1 = 7 then (F_64_49 h)
  else (if 6 < y1 then (F_64_82 y1 y2 y3 h)
  else (if 6 < y2 then (F_64_82 y1 y2 y3 h)
  else (if y3 = 0 then ((F_67 y1 y2 h).bind fun q5 =>
  if q5.1 = 0 then (F_64_81 0 q5.2)
  else (F_64_76 q5.2))
  else (F_64_76 h))))
def F_64_24  (h : sm_H) : Option (Int32 × sm_H) :=
  some (0, h)
def F_64_0 (x1 : Int32) (x2 : Int32) (x3 : Int32) (h : sm_H) : Option (Int32 × sm_H) :=
  if x1 ≤ 0 then (F_64_24 h)
  else (if (h.1 1 3) ≤ x1 then (F_64_24 h)
  else (if x2 ≤ 0 then (F_64_24 h)
  else (if x2 < (h.1 1 3) then (if x1 = x2 then (F_64_49 h)
  else (if x1 < 7 then (F_64_43 x1 x2 x3 h)
  else (if 7 ≤ x2 then (F_64_49 h)
  else (F_64_43 x1 x2 x3 h))))
  else (F_64_24 h))))
abbrev F_64 (x1 : Int32) (x2 : Int32) (x3 : Int32) (h : sm_H) : Option (Int32 × sm_H) := F_64_0 x1 x2 x3 h
def F_65_39 (z0 : Int32) (h : sm_H) : Option (Int32 × sm_H) :=
  if z0 = 0 ∨ z0 = 1 then some (z0, h) else none
def F_65_34  (h : sm_H) : Option (Int32 × sm_H) :=
  F_65_39 1 h
def F_65_24 (y1 : Int32) (y2 : Int32) (y3 : Int32) (h : sm_H) : Option (Int32 × sm_H) :=
  (F_64 y1 y2 y3 h).bind fun q1 =>
  if q1.1 = 0 then (F_65_39 0 q1.2)
  else (F_65_34 q1.2)
def F_65_12 (y1 : Int32) (y2 : Int32) (y3 : Int32) (h : sm_H) : Option (Int32 × sm_H) :=
  if y2 = 0 then ((F_53 y1 h).bind fun q2 =>
  if q2.1 = 0 then (F_65_24 y1 y2 y3 q2.2)
  else (F_65_34 q2.2))
  else (F_65_24 y1 y2 y3 h)
def F_65_0 (x1 : Int32) (x2 : Int32) (x3 : Int32) (h : sm_H) : Option (Int32 × sm_H) :=
  if x1 = 0 then ((F_53 x2 h).bind fun q3 =>
  if q3.1 = 0 then (F_65_12 x1 x2 x3 q3.2)
  else (F_65_34 q3.2))
  else (F_65_12 x1 x2 x3 h)
abbrev F_65 (x1 : Int32) (x2 : Int32) (x3 : Int32) (h : sm_H) : Option (Int32 × sm_H) := F_65_0 x1 x2 x3 h
def F_66_33 (z0 : Int32) (h : sm_H) : Option (Int32 × sm_H) :=
  if z0 = 0 ∨ z0 = 1 then some (z0, h) else none
def F_66_32  (h : sm_H) : Option (Int32 × sm_H) :=
  F_66_33 0 h
def F_66_28  (h : sm_H) : Option (Int32 × sm_H) :=
  F_66_33 1 h
def F_66_0 (x1 : Int32) (x2 : Int32) (h : sm_H) : Option (Int32 × sm_H) :=
  (F_58 x1 h).bind fun q1 =>
  if q1.1 = 0 then (F_66_32 q1.2)
  else (if (x1 - 8) = x2 then (F_66_28 q1.2)
  else ((F_67 (x1 - 8) x2 q1.2).bind fun q2 =>
  if q2.1 = 0 then (F_66_32 q2.2)
  else (F_66_28 q2.2)))
abbrev F_66 (x1 : Int32) (x2 : Int32) (h : sm_H) : Option (Int32 × sm_H) := F_66_0 x1 x2 h
def F_91_52 (y1 : Int32) (h : sm_H) : Option (Int32 × sm_H) :=
  (F_68 (h.2.1 49 9) y1 h).bind fun q1 =>
  (F_75 q1.1 0 q1.2).bind fun q2 =>
  some (0, q2.2)
def F_91_50  (h : sm_H) : Option (Int32 × sm_H) :=
  some (2, h)
def F_91_16 (z0 : Int32) (h : sm_H) : Option (Int32 × sm_H) :=
  some (z0, h)
def F_91_0 (x1 : Int32) (x2 : Int32) (h : sm_H) : Option (Int32 × sm_H) :=
  if (h.1 49 10) = 0 then (if x2 = 0 then (F_91_16 1 h)
  else (F_91_16 0 h))
  else ((F_58 (h.1 49 10) h).bind fun q3 =>
  if q3.1 = 0 then (F_91_50 q3.2)
  else (if x2 = 0 then ((F_66 (q3.2.1 49 10) x1 q3.2).bind fun q4 =>
  if q4.1 = 0 then (F_91_50 q4.2)
  else (F_91_52 x1 q4.2))
  else (F_91_52 x1 q3.2)))
abbrev F_91 (x1 : Int32) (x2 : Int32) (h : sm_H) : Option (Int32 × sm_H) := F_91_0 x1 x2 h
def F_104_114 (z1 : Int64) (h : sm_H) : Option (Int32 × sm_H) :=
  (F_75 z1 0 h).bind fun q1 =>
  some (q1.1, q1.2)
def F_104_98 (y2 : Int32) (z0 : Int64) (h : sm_H) : Option (Int32 × sm_H) :=
  if y2 = 0 then (F_104_114 (Int32.toInt64 (Int64.toInt32 z0)) h)
  else (F_104_114 z0 h)
def F_104_71 (y1 : Int32) (y2 : Int32) (y3 : Int64) (y5 : Int64) (h : sm_H) : Option (Int32 × sm_H) :=
  if y1 < 8 then ((F_105 y1 y3 y5 h).bind fun q2 =>
  F_104_98 y2 q2.1 q2.2)
  else ((F_106 y1 y2 y3 (Int64.toInt32 y5) h).bind fun q3 =>
  F_104_98 y2 q3.1 q3.2)
def F_104_58 (y1 : Int32) (y2 : Int32) (y3 : Int64) (y5 : Int64) (h : sm_H) : Option (Int32 × sm_H) :=
  if (lg_cmp y5 0) = 0 then ((F_76 3 h).bind fun q4 =>
  some (q4.1, q4.2))
  else (F_104_71 y1 y2 y3 y5 h)
def F_104_43 (z1 : Int64) (h : sm_H) : Option (Int32 × sm_H) :=
  (F_75 z1 0 h).bind fun q5 =>
  some (q5.1, q5.2)
def F_104_19 (z1 : Int64) (h : sm_H) : Option (Int32 × sm_H) :=
  (F_75 z1 0 h).bind fun q6 =>
  some (q6.1, q6.2)
def F_104_0 (x1 : Int32) (x2 : Int32) (x3 : Int64) (x5 : Int64) (h : sm_H) : Option (Int32 × sm_H) :=
  if x1 = 11 then (if 0 ≤ (lg_cmp x3 x5) then (F_104_19 0 h)
  else (F_104_19 1 h))
  else (if x1 = 12 then (if (lg_cmp x3 x5) = 0 then (F_104_43 1 h)
  else (F_104_43 0 h))
  else (if x1 = 3 then (F_104_58 x1 x2 x3 x5 h)
  else (if x1 = 4 then (F_104_58 x1 x2 x3 x5 h)
  else (F_104_71 x1 x2 x3 x5 h))))
abbrev F_104 (x1 : Int32) (x2 : Int32) (x3 : Int64) (x5 : Int64) (h : sm_H) : Option (Int32 × sm_H) := F_104_0 x1 x2 x3 x5 h
def F_110_158 (z0 : Int32) (h : sm_H) : Option (Int32 × sm_H) :=
  some (z0, h)
def F_110_143 (y3 : Int32) (h : sm_H) : Option (Int32 × sm_H) :=
  if y3 = 5 then ((F_75 0 0 h).bind fun q1 =>
  F_110_158 q1.1 q1.2)
  else (F_110_158 0 h)
def F_110_78 (z1 : Int64) (h : sm_H) : Option (Int32 × sm_H) :=
  (F_75 z1 0 h).bind fun q2 =>
  some (q2.1, q2.2)
def F_110_67 (y10 : Int32) (h : sm_H) : Option (Int32 × sm_H) :=
  if y10 = 0 then (F_110_78 0 h)
  else (F_110_78 1 h)
def F_110_0 (x1 : Nat) (x2 : Int32) (x3 : Int32) (x4 : Int32) (x5 : Int32) (x6 : Int32) (h : sm_H) : Option (Int32 × sm_H) :=
  (F_77 x5 x6 h).bind fun q3 =>
  (F_78 x5 x6 q3.2).bind fun q4 =>
  if x3 = 7 then (if ¬ (sm_is G0 q4.2 x1 8 = true) then none else (F_220 x1 x2 q3.1 q4.1 q4.2).bind fun q15 =>
  if q15.1 = 0 then (F_110_67 q15.1 q15.2)
  else ((F_77 x5 (x6 + 1) q15.2).bind fun q17 =>
  (F_78 x5 (x6 + 1) q17.2).bind fun q18 =>
  if ¬ (sm_is G0 q18.2 x1 8 = true) then none else (F_221 x1 x2 q17.1 q18.1 q18.2).bind fun q19 =>
  F_110_67 q15.1 q19))
  else (if ¬ (sm_is G0 q4.2 x1 8 = true) then none else (F_218 x1 x2 q4.2).bind fun q5 =>
  if ¬ (sm_is G0 q5.2 x1 8 = true) then none else (F_219 x1 x2 q5.2).bind fun q7 =>
  (F_75 q5.1 q7.1 q7.2).bind fun q9 =>
  if x3 = 8 then ((F_68 ((q9.2.2.1 49 9) + q3.1) x4 q9.2).bind fun q12 =>
  if ¬ (sm_is G0 q12.2 x1 8 = true) then none else (F_221 x1 x2 q12.1 0 q12.2).bind fun q13 =>
  F_110_143 x3 q13)
  else (if x3 = 4 then (F_110_143 x3 q9.2)
  else (if ¬ (sm_is G0 q9.2 x1 8 = true) then none else (F_221 x1 x2 q3.1 q4.1 q9.2).bind fun q10 =>
  F_110_143 x3 q10)))
abbrev F_110 (x1 : Nat) (x2 : Int32) (x3 : Int32) (x4 : Int32) (x5 : Int32) (x6 : Int32) (h : sm_H) : Option (Int32 × sm_H) := F_110_0 x1 x2 x3 x4 x5 x6 h
def F_114_133 (y1 : Int32) (y2 : Int32) (y4 : Int32) (y5 : Int32) (z1 : Int32) (z2 : Int32) (h : sm_H) : Option (Int32 × sm_H) :=
  (some (sm_wI h 38 14 (z1 + z2))).bind fun h1 =>
  (F_117 y1 y2 y4 y5 h1).bind fun q2 =>
  some (q2.1, q2.2)
def F_114_117 (y1 : Int32) (y2 : Int32) (y4 : Int32) (y5 : Int32) (z1 : Int32) (z2 : Int32) (h : sm_H) : Option (Int32 × sm_H) :=
  (stI h 46 100 z1 z2).bind fun h3 =>
  if y4 = 0 then (F_114_133 y1 y2 y4 y5 (h3.1 38 14) 1 h3)
  else (F_114_133 y1 y2 y4 y5 (h3.1 38 14) 0 h3)
def F_114_63 (y1 : Int32) (y2 : Int32) (y3 : Int32) (y4 : Int32) (y5 : Int32) (h : sm_H) : Option (Int32 × sm_H) :=
  (stI h 43 100 (h.1 38 13) y3).bind fun h4 =>
  (stI h4 44 100 (h4.1 38 13) (-1)).bind fun h5 =>
  (stI h5 45 100 (h5.1 38 13) (-1)).bind fun h6 =>
  if y4 = 0 then (F_114_117 y1 y2 y4 y5 (h6.1 38 13) (h6.1 38 14) h6)
  else (F_114_117 y1 y2 y4 y5 (h6.1 38 13) (h6.1 38 13) h6)
def F_114_60  (h : sm_H) : Option (Int32 × sm_H) :=
  some ((-5), h)
def F_114_22  (h : sm_H) : Option (Int32 × sm_H) :=
  some ((-1), h)
def F_114_0 (x1 : Int32) (x2 : Int32) (x3 : Int32) (x4 : Int32) (x5 : Int32) (h : sm_H) : Option (Int32 × sm_H) :=
  (F_55 x1 h).bind fun q7 =>
  if q7.1 = 0 then (F_114_22 q7.2)
  else ((F_54 x3 q7.2).bind fun q8 =>
  if q8.1 = 0 then (F_114_22 q8.2)
  else ((F_116 x2 x5 q8.2).bind fun q9 =>
  if q9.1 = 0 then (if 100 ≤ (q9.2.1 38 13) then (F_114_60 q9.2)
  else (if x4 = 0 then (if (q9.2.1 38 14) < 24 then (F_114_63 x1 x2 x3 x4 x5 q9.2)
  else (F_114_60 q9.2))
  else (F_114_63 x1 x2 x3 x4 x5 q9.2)))
  else (some ((-2), q9.2))))
abbrev F_114 (x1 : Int32) (x2 : Int32) (x3 : Int32) (x4 : Int32) (x5 : Int32) (h : sm_H) : Option (Int32 × sm_H) := F_114_0 x1 x2 x3 x4 x5 h
def F_121_47 (z0 : Int32) (h : sm_H) : Option (Int32 × sm_H) :=
  if z0 = 0 ∨ z0 = 1 then some (z0, h) else none
def F_121_46  (h : sm_H) : Option (Int32 × sm_H) :=
  F_121_47 0 h
def F_121_0 (x1 : Int32) (h : sm_H) : Option (Int32 × sm_H) :=
  (F_128 x1 h).bind fun q1 =>
  if q1.1 = 0 then ((ldZ q1.2 42 100 x1).bind fun v2 =>
  if v2 = 0 then ((ldI q1.2 40 100 x1).bind fun v3 =>
  if v3 = 0 then ((ldI q1.2 45 100 x1).bind fun v4 =>
  (F_225 v4 q1.2).bind fun q5 =>
  if q5.1 = 0 then (F_121_47 1 q5.2)
  else (F_121_46 q5.2))
  else (F_121_46 q1.2))
  else (F_121_46 q1.2))
  else (F_121_46 q1.2)
abbrev F_121 (x1 : Int32) (h : sm_H) : Option (Int32 × sm_H) := F_121_0 x1 h
def F_125_0 (x1 : Int32) (h : sm_H) : Option (Int32 × sm_H) :=
  (ldI h 45 100 x1).bind fun v1 =>
  (ldI h 45 100 x1).bind fun v2 =>
  (F_226 v2 h).bind fun q3 =>
  (F_230 v1 0 q3.1 q3.2).bind fun q4 =>
  (ldI q4 45 100 x1).bind fun v5 =>
  (F_225 v5 q4).bind fun q6 =>
  some (q6.1, q6.2)
abbrev F_125 (x1 : Int32) (h : sm_H) : Option (Int32 × sm_H) := F_125_0 x1 h
def F_134_69 (z0 : Int32) (h : sm_H) : Option (Int32 × sm_H) :=
  if z0 = 0 ∨ z0 = 1 then some (z0, h) else none
def F_134_68  (h : sm_H) : Option (Int32 × sm_H) :=
  F_134_69 0 h
def F_134_0 (x1 : Int32) (x2 : Int32) (h : sm_H) : Option (Int32 × sm_H) :=
  (ldI h 40 100 x1).bind fun v1 =>
  (ldI h 40 100 x2).bind fun v2 =>
  if v1 = v2 then ((ldI h 45 100 x1).bind fun v3 =>
  (ldI h 45 100 x2).bind fun v4 =>
  if v3 = v4 then ((F_128 x1 h).bind fun q5 =>
  if q5.1 = 0 then ((ldZ q5.2 42 100 x1).bind fun v6 =>
  if v6 = 0 then ((F_121 x1 q5.2).bind fun q7 =>
  if q7.1 = 0 then ((ldI q7.2 41 100 x1).bind fun v8 =>
  if v8 = 0 then (F_134_68 q7.2)
  else (F_134_69 1 q7.2))
  else (F_134_68 q7.2))
  else (F_134_68 q5.2))
  else (F_134_68 q5.2))
  else (F_134_68 h))
  else (F_134_68 h)
abbrev F_134 (x1 : Int32) (x2 : Int32) (h : sm_H) : Option (Int32 × sm_H) := F_134_0 x1 x2 h
def F_148_37 (z0 : Int64) (h : sm_H) : Option (Int64 × sm_H) :=
  some (z0, h)
def F_148_0 (x1 : Int64) (x3 : Int32) (h : sm_H) : Option (Int64 × sm_H) :=
  (F_59 x3 h).bind fun q1 =>
  if q1.1 = 0 then ((F_55 x3 q1.2).bind fun q2 =>
  if q2.1 = 0 then (F_148_37 x1 q2.2)
  else (F_148_37 0 q2.2))
  else ((F_147 x1 q1.2).bind fun q3 =>
  if ¬ (sm_is G0 q3.2 q3.1 8 = true) then none else (F_216 q3.1 q3.2).bind fun q4 =>
  some ((Int32.toInt64 q4.1), q4.2))
abbrev F_148 (x1 : Int64) (x3 : Int32) (h : sm_H) : Option (Int64 × sm_H) := F_148_0 x1 x3 h
def F_149_13  (h : sm_H) : Option (Int32 × sm_H) :=
  some ((-1), h)
def F_149_0 (x1 : Int64) (x3 : Int32) (h : sm_H) : Option (Int32 × sm_H) :=
  if x3 = 0 then (F_149_13 h)
  else (if (h.1 21 6) < 100 then ((F_221 29 (h.1 21 6) x1 x3 h).bind fun q1 =>
  (some (sm_wI q1 21 6 ((q1.1 21 6) + 1))).bind fun h2 =>
  some (((h2.1 21 6) - 1), h2))
  else (F_149_13 h))
abbrev F_149 (x1 : Int64) (x3 : Int32) (h : sm_H) : Option (Int32 × sm_H) := F_149_0 x1 x3 h
def F_150_29 (z0 : Int64) (h : sm_H) : Option (Int64 × sm_H) :=
  some (z0, h)
def F_150_28  (h : sm_H) : Option (Int64 × sm_H) :=
  F_150_29 0 h
def F_150_0 (x1 : Int64) (h : sm_H) : Option (Int64 × sm_H) :=
  if (lg_cmp x1 0) < 0 then (F_150_28 h)
  else (if 0 ≤ (lg_cmp x1 (Int32.toInt64 (h.1 21 6))) then (F_150_28 h)
  else ((F_218 29 (Int64.toInt32 x1) h).bind fun q1 =>
  F_150_29 q1.1 q1.2))
abbrev F_150 (x1 : Int64) (h : sm_H) : Option (Int64 × sm_H) := F_150_0 x1 h
def F_151_29 (z0 : Int32) (h : sm_H) : Option (Int32 × sm_H) :=
  some (z0, h)
def F_151_28  (h : sm_H) : Option (Int32 × sm_H) :=
  F_151_29 0 h
def F_151_0 (x1 : Int64) (h : sm_H) : Option (Int32 × sm_H) :=
  if (lg_cmp x1 0) < 0 then (F_151_28 h)
  else (if 0 ≤ (lg_cmp x1 (Int32.toInt64 (h.1 21 6))) then (F_151_28 h)
  else ((F_219 29 (Int64.toInt32 x1) h).bind fun q1 =>
  F_151_29 q1.1 q1.2))
abbrev F_151 (x1 : Int64) (h : sm_H) : Option (Int32 × sm_H) := F_151_0 x1 h
def F_152_84 (z0 : Int32) (h : sm_H) : Option (Int32 × sm_H) :=
  some (z0, h)
def F_152_57  (h : sm_H) : Option (Int32 × sm_H) :=
  some (1, h)
def F_152_30 (z0 : Int32) (h : sm_H) : Option (Int32 × sm_H) :=
  some (z0, h)
def F_152_0 (x1 : Int32) (x2 : Int64) (h : sm_H) : Option (Int32 × sm_H) :=
  (F_56 x1 h).bind fun q1 =>
  if q1.1 = 0 then (if (lg_cmp x2 (-1)) = 0 then (some (0, q1.2))
  else (if (lg_cmp x2 0) < 0 then (F_152_57 q1.2)
  else (if (lg_cmp x2 (Int32.toInt64 (q1.2.1 21 6))) < 0 then ((F_219 29 (Int64.toInt32 x2) q1.2).bind fun q2 =>
  (F_60 q2.1 x1 q2.2).bind fun q3 =>
  if q3.1 = 0 then (F_152_84 3 q3.2)
  else (F_152_84 0 q3.2))
  else (F_152_57 q1.2))))
  else ((F_68 x2 x1 q1.2).bind fun q4 =>
  if (lg_cmp q4.1 x2) = 0 then (F_152_30 0 q4.2)
  else (F_152_30 2 q4.2))
abbrev F_152 (x1 : Int32) (x2 : Int64) (h : sm_H) : Option (Int32 × sm_H) := F_152_0 x1 x2 h
def F_153_20 (z0 : Int64) (h : sm_H) : Option (Int64 × sm_H) :=
  some (z0, h)
def F_153_0 (x1 : Int32) (x2 : Int64) (h : sm_H) : Option (Int64 × sm_H) :=
  (F_56 x1 h).bind fun q1 =>
  if q1.1 = 0 then ((F_150 x2 q1.2).bind fun q2 =>
  F_153_20 q2.1 q2.2)
  else (F_153_20 x2 q1.2)
abbrev F_153 (x1 : Int32) (x2 : Int64) (h : sm_H) : Option (Int64 × sm_H) := F_153_0 x1 x2 h
def F_154_20 (z0 : Int32) (h : sm_H) : Option (Int32 × sm_H) :=
  some (z0, h)
def F_154_0 (x1 : Int32) (x2 : Int64) (h : sm_H) : Option (Int32 × sm_H) :=
  (F_56 x1 h).bind fun q1 =>
  if q1.1 = 0 then ((F_151 x2 q1.2).bind fun q2 =>
  F_154_20 q2.1 q2.2)
  else (F_154_20 0 q1.2)
abbrev F_154 (x1 : Int32) (x2 : Int64) (h : sm_H) : Option (Int32 × sm_H) := F_154_0 x1 x2 h
def F_165_70 (z0 : Int32) (h : sm_H) : Option (Int32 × sm_H) :=
  some (z0, h)
def F_165_39 (y1 : Int64) (y5 : Int32) (z0 : Int64) (h : sm_H) : Option ((Int64 × Int64 × Int32 × sm_H) ⊕ (Int32 × sm_H)) :=
  (some (y5 + (-8) : Int32)).bind fun v1 =>
  some (.inl (y1, z0, v1, h))
def F_165_6B (s : (Int64 × Int64 × Int32 × sm_H)) : Option ((Int64 × Int64 × Int32 × sm_H) ⊕ (Int32 × sm_H)) :=
  if s.2.2.1 < 0 then ((F_166 s.2.1 s.2.2.2).bind fun q2 =>
  if q2.1 = (-1) then ((F_165_70 (-1) q2.2).map fun r => (.inr r))
  else ((ldI q2.2 63 60 q2.1).bind fun v3 =>
  (F_165_70 v3 q2.2).map fun r => (.inr r)))
  else ((some (((Int64.toUInt64 s.1 >>> ((Int32.toInt64 s.2.2.1).toUInt64 &&& Int64.toUInt64 63)).toInt64 &&& 255) : Int64)).bind fun v4 =>
  if (lg_cmp v4 0) = 0 then (F_165_39 s.1 s.2.2.1 s.2.1 s.2.2.2)
  else (F_165_39 s.1 s.2.2.1 ((s.2.1 <<< (Int32.toInt64 8 &&& 63)) ||| v4) s.2.2.2))
def F_165_6 (y1 : Int64) (y3 : Int64) (y5 : Int32) (h : sm_H) : Option (Int32 × sm_H) := lp F_165_6B 1000000 (y1, y3, y5, h)
def F_165_0 (x1 : Int64) (h : sm_H) : Option (Int32 × sm_H) :=
  F_165_6 x1 0 56 h
abbrev F_165 (x1 : Int64) (h : sm_H) : Option (Int32 × sm_H) := F_165_0 x1 h
def F_170_0 (x1 : Int32) (h : sm_H) : Option (Int32 × sm_H) :=
  (F_243 h).bind fun q1 =>
  (F_169 x1 q1.1 q1.2).bind fun q2 =>
  some (q2.1, q2.2)
abbrev F_170 (x1 : Int32) (h : sm_H) : Option (Int32 × sm_H) := F_170_0 x1 h
def F_173_37 (z0 : Int32) (h : sm_H) : Option (Int32 × sm_H) :=
  if z0 = 0 ∨ z0 = 1 then some (z0, h) else none
def F_173_15  (h : sm_H) : Option (Int32 × sm_H) :=
  (some (sm_wI h 55 16 ((h.1 55 16) + 1))).bind fun h1 =>
  if (h1.1 55 17) = 0 then (F_173_37 1 h1)
  else (F_173_37 0 h1)
def F_173_0  (h : sm_H) : Option (Int32 × sm_H) :=
  if (h.1 55 16) < 20 then (F_173_15 h)
  else ((F_170 5 h).bind fun q2 =>
  F_173_15 q2.2)
abbrev F_173  (h : sm_H) : Option (Int32 × sm_H) := F_173_0  h
def F_231_43 (y1 : Int32) (y2 : Int32) (h : sm_H) : Option ((Int32 × Int32 × sm_H) ⊕ (Int32 × sm_H)) :=
  (some (y2 + 1 : Int32)).bind fun v1 =>
  some (.inl (y1, v1, h))
def F_231_2B (s : (Int32 × Int32 × sm_H)) : Option ((Int32 × Int32 × sm_H) ⊕ (Int32 × sm_H)) :=
  if (s.2.2.1 5 4) ≤ s.2.1 then (some (.inr ((-1), s.2.2)))
  else ((ldI s.2.2 6 300 s.2.1).bind fun v2 =>
  if v2 = s.1 then ((ldI s.2.2 7 300 s.2.1).bind fun v3 =>
  if v3 = (s.2.2.1 5 6) then ((F_232 s.2.1 s.2.2).bind fun q4 =>
  if q4.1 = 0 then (F_231_43 s.1 s.2.1 q4.2)
  else (some (.inr (s.2.1, q4.2))))
  else (F_231_43 s.1 s.2.1 s.2.2))
  else (F_231_43 s.1 s.2.1 s.2.2))
def F_231_2 (y1 : Int32) (y2 : Int32) (h : sm_H) : Option (Int32 × sm_H) := lp F_231_2B 1000000 (y1, y2, h)
def F_231_0 (x1 : Int32) (h : sm_H) : Option (Int32 × sm_H) :=
  F_231_2 x1 0 h
abbrev F_231 (x1 : Int32) (h : sm_H) : Option (Int32 × sm_H) := F_231_0 x1 h
def F_233_33 (z0 : Int32) (h : sm_H) : Option (Int32 × sm_H) :=
  if z0 = 0 ∨ z0 = 1 then some (z0, h) else none
def F_233_32  (h : sm_H) : Option (Int32 × sm_H) :=
  F_233_33 0 h
def F_233_28  (h : sm_H) : Option (Int32 × sm_H) :=
  F_233_33 1 h
def F_233_0 (x1 : Int32) (h : sm_H) : Option (Int32 × sm_H) :=
  if 10 < (h.1 5 6) then (F_233_32 h)
  else (if (h.1 5 4) < 300 then (F_233_28 h)
  else ((F_231 x1 h).bind fun q1 =>
  if q1.1 = (-1) then (F_233_32 q1.2)
  else (F_233_28 q1.2)))
abbrev F_233 (x1 : Int32) (h : sm_H) : Option (Int32 × sm_H) := F_233_0 x1 h
def F_234_43 (y2 : Int32) (h : sm_H) : Option (Int32 × sm_H) :=
  some (y2, h)
def F_234_18 (y1 : Int32) (z0 : Int32) (h : sm_H) : Option (Int32 × sm_H) :=
  if z0 = (-1) then (if 10 < (h.1 5 6) then (F_234_43 z0 h)
  else (if (h.1 5 4) < 300 then ((stI h 6 300 (h.1 5 4) y1).bind fun h1 =>
  (stI h1 7 300 (h1.1 5 4) (h1.1 5 6)).bind fun h2 =>
  (sm_cpI G0 h2 9 0 8 ((h2.1 5 4) * 10) (h2.1 5 6)).bind fun h3 =>
  (some (sm_wI h3 5 4 ((h3.1 5 4) + 1))).bind fun h4 =>
  some (((h4.1 5 4) - 1), h4))
  else (F_234_43 z0 h)))
  else (F_234_43 z0 h)
def F_234_0 (x1 : Int32) (h : sm_H) : Option (Int32 × sm_H) :=
  if 10 < (h.1 5 6) then (F_234_18 x1 (-1) h)
  else ((F_231 x1 h).bind fun q5 =>
  F_234_18 x1 q5.1 q5.2)
abbrev F_234 (x1 : Int32) (h : sm_H) : Option (Int32 × sm_H) := F_234_0 x1 h
def F_236_112 (z0 : Int32) (h : sm_H) : Option (Int32 × sm_H) :=
  if z0 = 0 ∨ z0 = 1 then some (z0, h) else none
def F_236_107  (h : sm_H) : Option (Int32 × sm_H) :=
  F_236_112 1 h
def F_236_68 (y1 : Int32) (y2 : Int32) (y3 : Int32) (h : sm_H) : Option (Int32 × sm_H) :=
  (F_225 y1 h).bind fun q1 =>
  (F_225 y2 q1.2).bind fun q2 =>
  if q1.1 = 0 then (F_236_107 q2.2)
  else (if q2.1 = 0 then (F_236_107 q2.2)
  else ((F_64 q1.1 q2.1 y3 q2.2).bind fun q3 =>
  if q3.1 = 0 then (F_236_112 0 q3.2)
  else (F_236_107 q3.2)))
def F_236_18B (s : (Int32 × Int32 × Int32 × Int32 × sm_H)) : Option ((Int32 × Int32 × Int32 × Int32 × sm_H) ⊕ (Int32 × sm_H)) :=
  (F_226 s.1 s.2.2.2.2).bind fun q4 =>
  if q4.1 ≤ s.2.2.2.1 then ((F_236_68 s.1 s.2.1 s.2.2.1 q4.2).map fun r => (.inr r))
  else (if 10 ≤ s.2.2.2.1 then ((F_236_68 s.1 s.2.1 s.2.2.1 q4.2).map fun r => (.inr r))
  else ((F_227 s.2.1 s.2.2.2.1 q4.2).bind fun q5 =>
  (F_227 s.1 s.2.2.2.1 q5.2).bind fun q6 =>
  (F_64 q5.1 q6.1 s.2.2.1 q6.2).bind fun q7 =>
  if q7.1 = 0 then (some (.inr (0, q7.2)))
  else ((some (s.2.2.2.1 + 1 : Int32)).bind fun v8 =>
  some (.inl (s.1, s.2.1, s.2.2.1, v8, q7.2)))))
def F_236_18 (y1 : Int32) (y2 : Int32) (y3 : Int32) (y4 : Int32) (h : sm_H) : Option (Int32 × sm_H) := lp F_236_18B 1000000 (y1, y2, y3, y4, h)
def F_236_0 (x1 : Int32) (x2 : Int32) (x3 : Int32) (h : sm_H) : Option (Int32 × sm_H) :=
  (F_226 x1 h).bind fun q9 =>
  (F_226 x2 q9.2).bind fun q10 =>
  if q9.1 = q10.1 then (F_236_18 x1 x2 x3 0 q10.2)
  else (some (0, q10.2))
abbrev F_236 (x1 : Int32) (x2 : Int32) (x3 : Int32) (h : sm_H) : Option (Int32 × sm_H) := F_236_0 x1 x2 x3 h
def F_249_145  (h : sm_H) : Option (Int32 × sm_H) :=
  some ((h.1 52 4), h)
def F_249_142 (z1 : Int32) (h : sm_H) : Option (Int32 × sm_H) :=
  (some (sm_wI h 52 4 z1)).bind fun h1 =>
  F_249_145 h1
def F_249_87 (y1 : Int32) (h : sm_H) : Option (Int32 × sm_H) :=
  (F_252 y1 h).bind fun q2 =>
  if q2.1 = 0 then ((some (sm_wI q2.2 52 3 ((q2.2.1 52 3) + 1))).bind fun h3 =>
  if y1 = 40 then (F_249_142 1 h3)
  else (if y1 = 41 then (F_249_142 2 h3)
  else ((F_254 y1 h3).bind fun q4 =>
  F_249_142 q4.1 q4.2)))
  else ((F_255 q2.2).bind fun q5 =>
  (some (sm_wI q5.2 52 4 q5.1)).bind fun h6 =>
  F_249_145 h6)
def F_249_78 (z2 : Int32) (h : sm_H) : Option (Int32 × sm_H) :=
  (F_256 z2 h).bind fun q7 =>
  (some (sm_wI q7.2 52 4 q7.1)).bind fun h8 =>
  F_249_145 h8
def F_249_65 (y1 : Int32) (h : sm_H) : Option (Int32 × sm_H) :=
  if y1 = 45 then (F_249_78 1 h)
  else (F_249_78 0 h)
def F_249_0  (h : sm_H) : Option (Int32 × sm_H) :=
  (F_253 h).bind fun q9 =>
  (some (sm_wI q9 52 5 (q9.1 52 3))).bind fun h10 =>
  (F_250 (h10.1 52 3) h10).bind fun q11 =>
  if q11.1 = (-1) then ((some (sm_wI q11.2 52 4 0)).bind fun h15 =>
  F_249_145 h15)
  else ((F_251 q11.1 q11.2).bind fun q12 =>
  if q12.1 = 0 then (if q11.1 = 45 then ((F_250 ((q12.2.1 52 3) + 1) q12.2).bind fun q13 =>
  (F_251 q13.1 q13.2).bind fun q14 =>
  if q14.1 = 0 then (F_249_87 q11.1 q14.2)
  else (F_249_65 q11.1 q14.2))
  else (F_249_87 q11.1 q12.2))
  else (F_249_65 q11.1 q12.2))
abbrev F_249  (h : sm_H) : Option (Int32 × sm_H) := F_249_0  h
def F_259_0 (x1 : Int32) (x2 : Int32) (h : sm_H) : Option (Int32 × sm_H) :=
  (F_52 x1 x2 h).bind fun q1 =>
  some (q1.1, q1.2)
abbrev F_259 (x1 : Int32) (x2 : Int32) (h : sm_H) : Option (Int32 × sm_H) := F_259_0 x1 x2 h
def F_260_29 (y2 : Int32) (h : sm_H) : Option (Int32 × sm_H) :=
  (F_138 64 h).bind fun q1 =>
  some (y2, q1)
def F_260_0 (x1 : Int32) (h : sm_H) : Option (Int32 × sm_H) :=
  (F_53 x1 h).bind fun q2 =>
  if q2.1 = 0 then (F_260_29 (-1) q2.2)
  else ((F_261 q2.2).bind fun q3 =>
  if q3.1 = 0 then (F_260_29 (-1) q3.2)
  else ((F_234 x1 q3.2).bind fun q4 =>
  F_260_29 q4.1 q4.2))
abbrev F_260 (x1 : Int32) (h : sm_H) : Option (Int32 × sm_H) := F_260_0 x1 h
def F_267_0 (x1 : Int32) (x2 : Int32) (x3 : Int32) (x4 : Int32) (x5 : Int32) (h : sm_H) : Option (Int32 × sm_H) :=
  (F_114 x1 x2 x3 x4 x5 h).bind fun q1 =>
  (F_264 q1.1 q1.2).bind fun q2 =>
  some (q2.1, q2.2)
abbrev F_267 (x1 : Int32) (x2 : Int32) (x3 : Int32) (x4 : Int32) (x5 : Int32) (h : sm_H) : Option (Int32 × sm_H) := F_267_0 x1 x2 x3 x4 x5 h
def F_278_0  (h : sm_H) : Option (Int64 × sm_H) :=
  (F_70 h).bind fun q1 =>
  (F_71 q1.2).bind fun q2 =>
  (F_148 q1.1 q2.1 q2.2).bind fun q3 =>
  some (q3.1, q3.2)
abbrev F_278  (h : sm_H) : Option (Int64 × sm_H) := F_278_0  h
def F_279_0  (h : sm_H) : Option (Int32 × sm_H) :=
  (F_70 h).bind fun q1 =>
  (F_71 q1.2).bind fun q2 =>
  (F_149 q1.1 q2.1 q2.2).bind fun q3 =>
  some (q3.1, q3.2)
abbrev F_279  (h : sm_H) : Option (Int32 × sm_H) := F_279_0  h
def F_280_49 (z0 : Int64) (h : sm_H) : Option (Int64 × sm_H) :=
  some (z0, h)
def F_280_0 (x1 : Int32) (x2 : Int32) (h : sm_H) : Option (Int64 × sm_H) :=
  if x2 = 0 then ((F_151 (Int32.toInt64 x1) h).bind fun q4 =>
  some ((Int32.toInt64 q4.1), q4.2))
  else (if x2 = 1 then ((F_150 (Int32.toInt64 x1) h).bind fun q1 =>
  (F_151 (Int32.toInt64 x1) q1.2).bind fun q2 =>
  (F_148 q1.1 q2.1 q2.2).bind fun q3 =>
  F_280_49 q3.1 q3.2)
  else (F_280_49 0 h))
abbrev F_280 (x1 : Int32) (x2 : Int32) (h : sm_H) : Option (Int64 × sm_H) := F_280_0 x1 x2 h
def F_281_112 (z0 : Int64) (h : sm_H) : Option (Int64 × sm_H) :=
  some (z0, h)
def F_281_0 (x1 : Int32) (x2 : Int32) (x3 : Int32) (h : sm_H) : Option (Int64 × sm_H) :=
  (F_151 (Int32.toInt64 x1) h).bind fun q1 =>
  (F_59 q1.1 q1.2).bind fun q2 =>
  if q2.1 = 0 then (some (0, q2.2))
  else ((F_150 (Int32.toInt64 x1) q2.2).bind fun q3 =>
  (F_147 q3.1 q3.2).bind fun q4 =>
  if ¬ (sm_is G0 q4.2 q4.1 8 = true) then none else (F_217 q4.1 x2 q4.2).bind fun q5 =>
  if q5.1 = 0 then (some (0, q5.2))
  else (if x3 = 0 then (if ¬ (sm_is G0 q5.2 q4.1 8 = true) then none else (F_218 q4.1 x2 q5.2).bind fun q10 =>
  if ¬ (sm_is G0 q10.2 q4.1 8 = true) then none else (F_219 q4.1 x2 q10.2).bind fun q12 =>
  (F_148 q10.1 q12.1 q12.2).bind fun q14 =>
  some (q14.1, q14.2))
  else (if x3 = 1 then (if q1.1 = 17 then (if ¬ (sm_is G0 q5.2 q4.1 8 = true) then none else (F_219 q4.1 x2 q5.2).bind fun q8 =>
  F_281_112 (Int32.toInt64 q8.1) q8.2)
  else ((F_63 q1.1 q5.2).bind fun q7 =>
  F_281_112 (Int32.toInt64 q7.1) q7.2))
  else (some (0, q5.2)))))
abbrev F_281 (x1 : Int32) (x2 : Int32) (x3 : Int32) (h : sm_H) : Option (Int64 × sm_H) := F_281_0 x1 x2 x3 h
def F_286_0 (x1 : Int64) (h : sm_H) : Option (Int32 × sm_H) :=
  (F_165 x1 h).bind fun q1 =>
  some (q1.1, q1.2)
abbrev F_286 (x1 : Int64) (h : sm_H) : Option (Int32 × sm_H) := F_286_0 x1 h
def F_287_0 (x1 : Int32) (x2 : Int32) (x3 : Int32) (h : sm_H) : Option (Int32 × sm_H) :=
  (F_64 x1 x2 x3 h).bind fun q1 =>
  if q1.1 = 0 ∨ q1.1 = 1 then some (q1.1, q1.2) else none
abbrev F_287 (x1 : Int32) (x2 : Int32) (x3 : Int32) (h : sm_H) : Option (Int32 × sm_H) := F_287_0 x1 x2 x3 h
def F_7_172 (z0 : Int32) (h : sm_H) : Option (Int32 × sm_H) :=
  if z0 = 0 ∨ z0 = 1 then some (z0, h) else none
def F_7_167  (h : sm_H) : Option (Int32 × sm_H) :=
  F_7_172 1 h
def F_7_140 (z0 : Int32) (h : sm_H) : Option (Int32 × sm_H) :=
  if z0 = 0 ∨ z0 = 1 then some (z0, h) else none
def F_7_135  (h : sm_H) : Option (Int32 × sm_H) :=
  F_7_140 1 h
def F_7_107 (z0 : Int32) (h : sm_H) : Option (Int32 × sm_H) :=
  if z0 = 0 ∨ z0 = 1 then some (z0, h) else none
def F_7_102  (h : sm_H) : Option (Int32 × sm_H) :=
  F_7_107 1 h
def F_7_50 (z0 : Int32) (h : sm_H) : Option (Int32 × sm_H) :=
  if z0 = 0 ∨ z0 = 1 then some (z0, h) else none
def F_7_45  (h : sm_H) : Option (Int32 × sm_H) :=
  F_7_50 1 h
def F_7_0  (h : sm_H) : Option (Int32 × sm_H) :=
  if (h.1 34 7) = 5 then ((F_36 (h.1 34 12) h).bind fun q20 =>
  if q20.1 = 0 then (F_7_45 q20.2)
  else ((sm_rr G0 q20.2 34 11).bind fun b21 =>
  if ¬ (sm_is G0 q20.2 b21 5 = true) then none else (F_136 b21 q20.2).bind fun q22 =>
  (F_45 (q22.2.1 34 12) q22.2).bind fun q24 =>
  if q22.1 = (1 + q24.1) then (F_7_50 0 q24.2)
  else (F_7_45 q24.2)))
  else (if (h.1 34 7) = 18 then ((sm_rr G0 h 34 11).bind fun b10 =>
  if ¬ (sm_is G0 h b10 5 = true) then none else (F_136 b10 h).bind fun q11 =>
  if q11.1 = 0 then (F_7_102 q11.2)
  else ((sm_rr G0 q11.2 34 11).bind fun b13 =>
  if ¬ (sm_is G0 q11.2 b13 5 = true) then none else (F_136 b13 q11.2).bind fun q14 =>
  if (4 : Int32) = 0 then none else (if (q14.1 - q14.1 / 4 * 4) = 0 then ((sm_rr G0 q14.2 34 11).bind fun b16 =>
  if ¬ (sm_is G0 q14.2 b16 5 = true) then none else (F_136 b16 q14.2).bind fun q17 =>
  if 16 < q17.1 then (F_7_102 q17.2)
  else ((F_8 1 q17.2).bind fun q19 =>
  if q19.1 = 0 then (F_7_107 0 q19.2)
  else (F_7_102 q19.2)))
  else (F_7_102 q14.2))))
  else (if (h.1 34 7) = 17 then ((sm_rr G0 h 34 11).bind fun b6 =>
  if ¬ (sm_is G0 h b6 5 = true) then none else (F_136 b6 h).bind fun q7 =>
  if q7.1 = 0 then (F_7_135 q7.2)
  else ((F_8 0 q7.2).bind fun q9 =>
  if q9.1 = 0 then (F_7_140 0 q9.2)
  else (F_7_135 q9.2)))
  else ((sm_rr G0 h 34 11).bind fun b1 =>
  if ¬ (sm_is G0 h b1 5 = true) then none else (F_136 b1 h).bind fun q2 =>
  (sm_ldI G0 q2.2 1000001 (q2.2.1 34 7)).bind fun v4 =>
  if q2.1 = v4 then ((F_8 0 q2.2).bind fun q5 =>
  if q5.1 = 0 then (F_7_172 0 q5.2)
  else (F_7_167 q5.2))
  else (F_7_167 q2.2))))
abbrev F_7  (h : sm_H) : Option (Int32 × sm_H) := F_7_0  h
def F_10_37 (z0 : Int32) (h : sm_H) : Option (Int32 × sm_H) :=
  some (z0, h)
def F_10_0  (h : sm_H) : Option (Int32 × sm_H) :=
  (F_46 (h.1 34 12) (h.1 34 8) h).bind fun q1 =>
  if q1.1 = (-1) then (F_10_37 2 q1.2)
  else ((F_152 q1.1 (q1.2.2.1 34 10) q1.2).bind fun q2 =>
  F_10_37 q2.1 q2.2)
abbrev F_10  (h : sm_H) : Option (Int32 × sm_H) := F_10_0  h
def F_11_214  (h : sm_H) : Option (Int32 × sm_H) :=
  some (0, h)
def F_11_213 (z0 : Int32) (h : sm_H) : Option (Int32 × sm_H) :=
  if z0 = 0 ∨ z0 = 1 then some (z0, h) else none
def F_11_208  (h : sm_H) : Option (Int32 × sm_H) :=
  F_11_213 1 h
def F_11_191 (z0 : Int32) (h : sm_H) : Option (Int32 × sm_H) :=
  if z0 = 0 ∨ z0 = 1 then some (z0, h) else none
def F_11_186  (h : sm_H) : Option (Int32 × sm_H) :=
  F_11_191 1 h
def F_11_170 (z0 : Int32) (h : sm_H) : Option (Int32 × sm_H) :=
  if z0 = 0 ∨ z0 = 1 then some (z0, h) else none
def F_11_165  (h : sm_H) : Option (Int32 × sm_H) :=
  F_11_170 1 h
def F_11_145 (y1 : Int32) (h : sm_H) : Option (Int32 × sm_H) :=
  if (h.1 34 8) < 0 then (F_11_165 h)
  else ((F_12 h).bind fun q1 =>
  if (h.1 34 8) ≤ (y1 - q1.1) then (F_11_170 0 q1.2)
  else (F_11_165 q1.2))
def F_11_144 (z0 : Int32) (h : sm_H) : Option (Int32 × sm_H) :=
  if z0 = 0 ∨ z0 = 1 then some (z0, h) else none
def F_11_125 (z0 : Int32) (h : sm_H) : Option (Int32 × sm_H) :=
  if z0 = 0 ∨ z0 = 1 then some (z0, h) else none
def F_11_120  (h : sm_H) : Option (Int32 × sm_H) :=
  F_11_125 1 h
def F_11_104 (z0 : Int32) (h : sm_H) : Option (Int32 × sm_H) :=
  if z0 = 0 ∨ z0 = 1 then some (z0, h) else none
def F_11_0  (h : sm_H) : Option (Int32 × sm_H) :=
  (F_45 (h.1 34 12) h).bind fun q2 =>
  if (q2.2.1 34 7) = 0 then ((F_152 (q2.2.1 34 8) (q2.2.2.1 34 10) q2.2).bind fun q3 =>
  if q3.1 = 2 then (F_11_104 1 q3.2)
  else (F_11_104 0 q3.2))
  else (if (q2.2.1 34 7) = 4 then (if (q2.2.1 34 8) < 0 then (F_11_120 q2.2)
  else (if (q2.2.1 34 8) ≤ q2.1 then (F_11_125 0 q2.2)
  else (F_11_120 q2.2)))
  else (if (q2.2.1 34 7) = 5 then ((F_13 q2.2).bind fun q4 =>
  if q4.1 = 0 ∨ q4.1 = 1 then some (q4.1, q4.2) else none)
  else (if (q2.2.1 34 7) = 6 then ((F_10 q2.2).bind fun q5 =>
  if q5.1 = 2 then (F_11_144 1 q5.2)
  else (F_11_144 0 q5.2))
  else (if (q2.2.1 34 7) = 7 then (F_11_145 q2.1 q2.2)
  else (if (q2.2.1 34 7) = 8 then (F_11_145 q2.1 q2.2)
  else (if (q2.2.1 34 7) = 10 then (if (q2.2.1 34 9) < 0 then (F_11_186 q2.2)
  else (if (q2.2.1 34 9) ≤ q2.1 then (F_11_191 0 q2.2)
  else (F_11_186 q2.2)))
  else (if (q2.2.1 34 7) = 11 then (if (q2.2.1 34 9) < 0 then (F_11_208 q2.2)
  else (if (q2.2.1 34 9) ≤ 10 then (F_11_213 0 q2.2)
  else (F_11_208 q2.2)))
  else (F_11_214 q2.2))))))))
abbrev F_11  (h : sm_H) : Option (Int32 × sm_H) := F_11_0  h
def F_22_200 (z0 : Int32) (h : sm_H) : Option (Int32 × sm_H) :=
  if z0 = 0 ∨ z0 = 1 then some (z0, h) else none
def F_22_102  (h : sm_H) : Option (Int32 × sm_H) :=
  some (1, h)
def F_22_185 (y1 : Int32) (y2 : Int32) (h : sm_H) : Option ((Int32 × Int32 × sm_H) ⊕ (Int32 × sm_H)) :=
  (some (y2 + 4 : Int32)).bind fun v1 =>
  some (.inl (y1, v1, h))
def F_22_154 (y1 : Int32) (y2 : Int32) (y6 : Int32) (h : sm_H) : Option ((Int32 × Int32 × sm_H) ⊕ (Int32 × sm_H)) :=
  if y6 = (-1) then (F_22_185 y1 y2 h)
  else ((F_44 y6 h).bind fun q2 =>
  (F_225 (q2.2.1 34 9) q2.2).bind fun q3 =>
  if q2.1 = q3.1 then (F_22_185 y1 y2 q3.2)
  else (some (.inr (1, q3.2))))
def F_22_131  (h : sm_H) : Option (Int32 × sm_H) :=
  some (1, h)
def F_22_92 (y1 : Int32) (y2 : Int32) (y3 : Int32) (y4 : Int32) (y5 : Int32) (y6 : Int32) (h : sm_H) : Option ((Int32 × Int32 × sm_H) ⊕ (Int32 × sm_H)) :=
  (F_24 y3 y4 h).bind fun q4 =>
  if q4.1 = 0 then ((F_25 y4 q4.2).bind fun q5 =>
  if q5.1 = 0 then ((F_25 y5 q5.2).bind fun q6 =>
  if q6.1 = 0 then ((F_25 y6 q6.2).bind fun q7 =>
  if q7.1 = 0 then (if y5 = (-1) then (F_22_154 y1 y2 y6 q7.2)
  else ((F_44 y5 q7.2).bind fun q8 =>
  if q8.1 = 1 then (F_22_154 y1 y2 y6 q8.2)
  else (some (.inr (1, q8.2)))))
  else ((F_22_131 q7.2).map fun r => (.inr r)))
  else ((F_22_131 q6.2).map fun r => (.inr r)))
  else ((F_22_131 q5.2).map fun r => (.inr r)))
  else ((F_22_102 q4.2).map fun r => (.inr r))
def F_22_79 (y2 : Int32) (y3 : Int32) (y4 : Int32) (y5 : Int32) (y6 : Int32) (z0 : Int32) (h : sm_H) : Option ((Int32 × Int32 × sm_H) ⊕ (Int32 × sm_H)) :=
  if y6 = (-1) then (F_22_92 z0 y2 y3 y4 y5 y6 h)
  else (if y5 = (-1) then ((F_22_102 h).map fun r => (.inr r))
  else (F_22_92 z0 y2 y3 y4 y5 y6 h))
def F_22_74 (y2 : Int32) (y3 : Int32) (y4 : Int32) (y5 : Int32) (y6 : Int32) (h : sm_H) : Option ((Int32 × Int32 × sm_H) ⊕ (Int32 × sm_H)) :=
  F_22_79 y2 y3 y4 y5 y6 1 h
def F_22_8B (s : (Int32 × Int32 × sm_H)) : Option ((Int32 × Int32 × sm_H) ⊕ (Int32 × sm_H)) :=
  (sm_rr G0 s.2.2 34 11).bind fun b9 =>
  if ¬ (sm_is G0 s.2.2 b9 5 = true) then none else (F_136 b9 s.2.2).bind fun q10 =>
  if q10.1 ≤ s.2.1 then (if s.1 = 0 then ((F_22_200 1 q10.2).map fun r => (.inr r))
  else ((F_22_200 0 q10.2).map fun r => (.inr r)))
  else ((sm_rr G0 q10.2 34 11).bind fun b12 =>
  if ¬ (sm_is G0 q10.2 b12 5 = true) then none else (F_137 b12 s.2.1 q10.2).bind fun q13 =>
  (sm_rr G0 q13.2 34 11).bind fun b15 =>
  if ¬ (sm_is G0 q13.2 b15 5 = true) then none else (F_137 b15 (s.2.1 + 1) q13.2).bind fun q16 =>
  (sm_rr G0 q16.2 34 11).bind fun b18 =>
  if ¬ (sm_is G0 q16.2 b18 5 = true) then none else (F_137 b18 (s.2.1 + 2) q16.2).bind fun q19 =>
  (sm_rr G0 q19.2 34 11).bind fun b21 =>
  if ¬ (sm_is G0 q19.2 b21 5 = true) then none else (F_137 b21 (s.2.1 + 3) q19.2).bind fun q22 =>
  if s.1 = 0 then (if q19.1 = (-1) then (F_22_79 s.2.1 q13.1 q16.1 q19.1 q22.1 0 q22.2)
  else (F_22_74 s.2.1 q13.1 q16.1 q19.1 q22.1 q22.2))
  else (F_22_74 s.2.1 q13.1 q16.1 q19.1 q22.1 q22.2))
def F_22_8 (y1 : Int32) (y2 : Int32) (h : sm_H) : Option (Int32 × sm_H) := lp F_22_8B 1000000 (y1, y2, h)
def F_22_0  (h : sm_H) : Option (Int32 × sm_H) :=
  (F_23 h).bind fun q24 =>
  F_22_8 0 0 q24
abbrev F_22  (h : sm_H) : Option (Int32 × sm_H) := F_22_0  h
def F_26_172  (h : sm_H) : Option (Int32 × sm_H) :=
  some ((-1), h)
def F_26_171 (z0 : Int32) (h : sm_H) : Option (Int32 × sm_H) :=
  some (z0, h)
def F_26_148  (h : sm_H) : Option (Int32 × sm_H) :=
  (F_37 (h.1 34 13) h).bind fun q1 =>
  if q1.1 = 2 then (F_26_171 (q1.2.1 34 12) q1.2)
  else (F_26_171 (-1) q1.2)
def F_26_147 (z0 : Int32) (h : sm_H) : Option (Int32 × sm_H) :=
  some (z0, h)
def F_26_121  (h : sm_H) : Option (Int32 × sm_H) :=
  (F_41 (h.1 34 12) h).bind fun q2 =>
  if (h.1 34 9) = q2.1 then (F_26_147 (q2.2.1 34 12) q2.2)
  else (F_26_147 (-1) q2.2)
def F_26_120 (z0 : Int32) (h : sm_H) : Option (Int32 × sm_H) :=
  some (z0, h)
def F_26_119  (h : sm_H) : Option (Int32 × sm_H) :=
  F_26_120 (-1) h
def F_26_82 (z0 : Int32) (h : sm_H) : Option (Int32 × sm_H) :=
  some (z0, h)
def F_26_0  (h : sm_H) : Option (Int32 × sm_H) :=
  if (h.1 34 7) = 4 then ((F_226 (h.1 34 9) h).bind fun q3 =>
  if q3.1 = 0 then (F_26_82 (q3.2.1 34 12) q3.2)
  else (F_26_82 (-1) q3.2))
  else (if (h.1 34 7) = 5 then ((F_27 h).bind fun q4 =>
  (F_41 (q4.1 34 12) q4).bind fun q5 =>
  if (q4.1 34 9) = q5.1 then ((F_28 q5.2).bind fun q6 =>
  if q6.1 = 0 then (F_26_119 q6.2)
  else (F_26_120 (q6.2.1 34 12) q6.2))
  else (F_26_119 q5.2))
  else (if (h.1 34 7) = 7 then (F_26_148 h)
  else (if (h.1 34 7) = 9 then (F_26_148 h)
  else (if (h.1 34 7) = 12 then (F_26_121 h)
  else (if (h.1 34 7) = 13 then (F_26_121 h)
  else (F_26_172 h))))))
abbrev F_26  (h : sm_H) : Option (Int32 × sm_H) := F_26_0  h
def F_32_304  (h : sm_H) : Option (Int32 × sm_H) :=
  (F_229 (h.1 34 8) h).bind fun q1 =>
  (F_229 5 q1).bind fun q2 =>
  (F_63 (q2.1 34 8) q2).bind fun q3 =>
  (F_33 q3.1 (((q3.2.1 34 7) - 22) + 4) q3.2).bind fun q4 =>
  some (q4.1, q4.2)
def F_32_219 (z0 : Int32) (h : sm_H) : Option (Int32 × sm_H) :=
  some (z0, h)
def F_32_0  (h : sm_H) : Option (Int32 × sm_H) :=
  if (h.1 34 7) = 0 then (some ((h.1 34 8), h))
  else (if (h.1 34 7) = 1 then (some (18, h))
  else (if (h.1 34 7) = 2 then ((F_229 (h.1 34 8) h).bind fun q5 =>
  some ((q5.1 34 8), q5))
  else (if (h.1 34 7) = 3 then ((F_229 (h.1 34 9) h).bind fun q6 =>
  (F_229 (q6.1 34 9) q6).bind fun q7 =>
  if (q7.1 34 8) < 11 then (F_32_219 (q7.1 34 9) q7)
  else (F_32_219 1 q7))
  else (if (h.1 34 7) = 19 then ((F_229 (h.1 34 9) h).bind fun q8 =>
  some ((q8.1 34 8), q8))
  else (if (h.1 34 7) = 20 then ((F_229 5 h).bind fun q9 =>
  some ((q9.1 34 8), q9))
  else (if (h.1 34 7) = 21 then ((F_229 (h.1 34 8) h).bind fun q10 =>
  some (5, q10))
  else (if (h.1 34 7) = 31 then ((F_229 7 h).bind fun q11 =>
  some (1, q11))
  else (if (h.1 34 7) = 32 then ((F_229 7 h).bind fun q12 =>
  (F_229 7 q12).bind fun q13 =>
  some (1, q13))
  else (if (h.1 34 7) = 33 then ((F_229 19 h).bind fun q14 =>
  some (5, q14))
  else (F_32_304 h))))))))))
abbrev F_32  (h : sm_H) : Option (Int32 × sm_H) := F_32_0  h
def F_48_72 (y1 : Int32) (y2 : Int32) (y3 : Int32) (y4 : Int64) (y6 : Nat) (y7 : Int32) (h : sm_H) : Option ((Int32 × Int32 × Int32 × Int64 × Nat × Int32 × sm_H) ⊕ (Int32 × sm_H)) :=
  (some (y7 + 1 : Int32)).bind fun v1 =>
  some (.inl (y1, y2, y3, y4, y6, v1, h))
def F_48_3B (s : (Int32 × Int32 × Int32 × Int64 × Nat × Int32 × sm_H)) : Option ((Int32 × Int32 × Int32 × Int64 × Nat × Int32 × sm_H) ⊕ (Int32 × sm_H)) :=
  if (s.2.2.2.2.2.2.1 10 11) ≤ s.2.2.2.2.2.1 then (some (.inr ((-1), s.2.2.2.2.2.2)))
  else ((ldI s.2.2.2.2.2.2 11 500 s.2.2.2.2.2.1).bind fun v2 =>
  if v2 = s.1 then ((ldI s.2.2.2.2.2.2 12 500 s.2.2.2.2.2.1).bind fun v3 =>
  if v3 = s.2.1 then ((ldI s.2.2.2.2.2.2 13 500 s.2.2.2.2.2.1).bind fun v4 =>
  if v4 = s.2.2.1 then ((ldJ s.2.2.2.2.2.2 14 500 s.2.2.2.2.2.1).bind fun v5 =>
  if (lg_cmp v5 s.2.2.2.1) = 0 then ((F_49 s.2.2.2.2.2.1 s.2.2.2.2.1 s.2.2.2.2.2.2).bind fun q6 =>
  if q6.1 = 0 then (F_48_72 s.1 s.2.1 s.2.2.1 s.2.2.2.1 s.2.2.2.2.1 s.2.2.2.2.2.1 q6.2)
  else (some (.inr (s.2.2.2.2.2.1, q6.2))))
  else (F_48_72 s.1 s.2.1 s.2.2.1 s.2.2.2.1 s.2.2.2.2.1 s.2.2.2.2.2.1 s.2.2.2.2.2.2))
  else (F_48_72 s.1 s.2.1 s.2.2.1 s.2.2.2.1 s.2.2.2.2.1 s.2.2.2.2.2.1 s.2.2.2.2.2.2))
  else (F_48_72 s.1 s.2.1 s.2.2.1 s.2.2.2.1 s.2.2.2.2.1 s.2.2.2.2.2.1 s.2.2.2.2.2.2))
  else (F_48_72 s.1 s.2.1 s.2.2.1 s.2.2.2.1 s.2.2.2.2.1 s.2.2.2.2.2.1 s.2.2.2.2.2.2))
def F_48_3 (y1 : Int32) (y2 : Int32) (y3 : Int32) (y4 : Int64) (y6 : Nat) (y7 : Int32) (h : sm_H) : Option (Int32 × sm_H) := lp F_48_3B 1000000 (y1, y2, y3, y4, y6, y7, h)
def F_48_0 (x1 : Int32) (x2 : Int32) (x3 : Int32) (x4 : Int64) (x6 : Nat) (h : sm_H) : Option (Int32 × sm_H) :=
  F_48_3 x1 x2 x3 x4 x6 0 h
abbrev F_48 (x1 : Int32) (x2 : Int32) (x3 : Int32) (x4 : Int64) (x6 : Nat) (h : sm_H) : Option (Int32 × sm_H) := F_48_0 x1 x2 x3 x4 x6 h
def F_73_0 (x1 : Int32) (x2 : Int32) (x3 : Int64) (h : sm_H) : Option (sm_H) :=
  (F_153 x2 x3 h).bind fun q1 =>
  (F_154 x2 x3 q1.2).bind fun q2 =>
  (F_79 0 x1 q1.1 q2.1 q2.2).bind fun q3 =>
  some q3
abbrev F_73 (x1 : Int32) (x2 : Int32) (x3 : Int64) (h : sm_H) : Option (sm_H) := F_73_0 x1 x2 x3 h
def F_90_127 (z0 : Int32) (h : sm_H) : Option (Int32 × sm_H) :=
  some (z0, h)
def F_90_122  (h : sm_H) : Option (Int32 × sm_H) :=
  F_90_127 0 h
def F_90_80  (h : sm_H) : Option (Int32 × sm_H) :=
  some (0, h)
def F_90_8  (h : sm_H) : Option (Int32 × sm_H) :=
  (F_75 0 0 h).bind fun q1 =>
  some (0, q1.2)
def F_90_0 (x1 : Int32) (x2 : Int32) (x3 : Int32) (h : sm_H) : Option (Int32 × sm_H) :=
  if x1 = 0 then (F_90_8 h)
  else (if x2 = 0 then (F_90_8 h)
  else (if x1 = x2 then (some (0, h))
  else ((F_56 x1 h).bind fun q2 =>
  if q2.1 = 0 then ((F_56 x2 q2.2).bind fun q3 =>
  if q3.1 = 0 then (if (q3.2.1 49 10) = 0 then (F_90_122 q3.2)
  else ((F_60 (q3.2.1 49 10) x2 q3.2).bind fun q4 =>
  if q4.1 = 0 then (F_90_127 2 q4.2)
  else (F_90_122 q4.2)))
  else ((F_91 x2 x3 q3.2).bind fun q5 =>
  some (q5.1, q5.2)))
  else ((F_56 x2 q2.2).bind fun q6 =>
  if q6.1 = 0 then ((F_75 (q6.2.2.1 49 9) (x1 + 8) q6.2).bind fun q7 =>
  F_90_80 q7.2)
  else ((F_68 (q6.2.2.1 49 9) x2 q6.2).bind fun q8 =>
  (F_75 q8.1 0 q8.2).bind fun q9 =>
  F_90_80 q9.2)))))
abbrev F_90 (x1 : Int32) (x2 : Int32) (x3 : Int32) (h : sm_H) : Option (Int32 × sm_H) := F_90_0 x1 x2 x3 h
def F_99_106 (z0 : Int32) (h : sm_H) : Option (Int32 × sm_H) :=
  some (z0, h)
def F_99_100 (y3 : Int32) (h : sm_H) : Option (Int32 × sm_H) :=
  F_99_106 y3 h
def F_99_88 (y3 : Int32) (y5 : Int32) (z0 : Int32) (h : sm_H) : Option (Int32 × sm_H) :=
  if y5 = 0 then (if z0 = 0 then (F_99_106 (-5) h)
  else (F_99_100 y3 h))
  else (F_99_100 y3 h)
def F_99_87 (y3 : Int32) (y5 : Int32) (h : sm_H) : Option (Int32 × sm_H) :=
  F_99_88 y3 y5 0 h
def F_99_47 (y1 : Int32) (y3 : Int32) (y4 : Int32) (z0 : Int32) (h : sm_H) : Option (Int32 × sm_H) :=
  (F_37 y1 h).bind fun q1 =>
  if q1.1 = 28 then ((F_41 y3 q1.2).bind fun q2 =>
  (F_236 q2.1 y4 0 q2.2).bind fun q3 =>
  if q3.1 = 0 then (F_99_87 y3 z0 q3.2)
  else (F_99_88 y3 z0 1 q3.2))
  else (F_99_87 y3 z0 q1.2)
def F_99_0 (x1 : Int32) (x2 : Int32) (h : sm_H) : Option (Int32 × sm_H) :=
  (F_78 x2 0 h).bind fun q4 =>
  if q4.1 = 0 then (some ((-1), q4.2))
  else ((F_77 x2 0 q4.2).bind fun q5 =>
  (some ((Int64.toInt32 q5.1) : Int32)).bind fun v6 =>
  (F_39 x1 q5.2).bind fun q7 =>
  (F_41 v6 q7.2).bind fun q8 =>
  if q8.1 = q7.1 then (F_99_47 x1 v6 q7.1 1 q8.2)
  else (F_99_47 x1 v6 q7.1 0 q8.2))
abbrev F_99 (x1 : Int32) (x2 : Int32) (h : sm_H) : Option (Int32 × sm_H) := F_99_0 x1 x2 h
def F_108_0 (x1 : Int32) (x2 : Int32) (h : sm_H) : Option (Int32 × sm_H) :=
  (F_78 x2 0 h).bind fun q1 =>
  if q1.1 = 0 then ((F_76 1 q1.2).bind fun q14 =>
  some (q14.1, q14.2))
  else ((F_77 x2 0 q1.2).bind fun q2 =>
  (F_147 q2.1 q2.2).bind fun q3 =>
  (F_77 x2 1 q3.2).bind fun q4 =>
  (some ((Int64.toInt32 q4.1) : Int32)).bind fun v5 =>
  if ¬ (sm_is G0 q4.2 q3.1 8 = true) then none else (F_217 q3.1 v5 q4.2).bind fun q6 =>
  if q6.1 = 0 then ((F_76 6 q6.2).bind fun q13 =>
  some (q13.1, q13.2))
  else ((F_37 x1 q6.2).bind fun q8 =>
  (some (((q8.1 - 22) + 4) : Int32)).bind fun v9 =>
  (F_38 x1 q8.2).bind fun q10 =>
  (F_63 q10.1 q10.2).bind fun q11 =>
  (F_110 q3.1 v5 v9 q11.1 x2 2 q11.2).bind fun q12 =>
  some (q12.1, q12.2)))
abbrev F_108 (x1 : Int32) (x2 : Int32) (h : sm_H) : Option (Int32 × sm_H) := F_108_0 x1 x2 h
def F_109_0 (x1 : Int32) (x2 : Int32) (h : sm_H) : Option (Int32 × sm_H) :=
  (F_38 x1 h).bind fun q1 =>
  (F_39 x1 q1.2).bind fun q2 =>
  (F_129 q1.1 q2.2).bind fun q3 =>
  (F_130 q1.1 q3.2).bind fun q4 =>
  if q4.1 = 0 then ((F_78 x2 0 q4.2).bind fun q5 =>
  if q5.1 = 0 then ((F_76 1 q5.2).bind fun q10 =>
  some (q10.1, q10.2))
  else ((F_77 x2 0 q5.2).bind fun q6 =>
  (F_147 q6.1 q6.2).bind fun q7 =>
  (F_128 q1.1 q7.2).bind fun q8 =>
  (F_110 q7.1 q3.1 q2.1 q8.1 x2 1 q8.2).bind fun q9 =>
  some (q9.1, q9.2)))
  else ((F_145 q4.2).bind fun q11 =>
  (F_128 q1.1 q11.2).bind fun q12 =>
  (F_110 q11.1 q3.1 q2.1 q12.1 x2 0 q12.2).bind fun q13 =>
  some (q13.1, q13.2))
abbrev F_109 (x1 : Int32) (x2 : Int32) (h : sm_H) : Option (Int32 × sm_H) := F_109_0 x1 x2 h
def F_115_87 (y1 : Int32) (y2 : Int32) (y3 : Int32) (y4 : Int32) (y5 : Int32) (z1 : Int32) (z2 : Int32) (h : sm_H) : Option (Int32 × sm_H) :=
  (F_45 y3 h).bind fun q1 =>
  (F_230 z1 z2 q1.1 q1.2).bind fun q2 =>
  (F_44 y3 q2).bind fun q3 =>
  (F_233 q3.1 q3.2).bind fun q4 =>
  if q4.1 = 0 then (some ((-4), q4.2))
  else (if (q4.2.1 38 13) < 100 then ((stI q4.2 43 100 (q4.2.1 38 13) 0).bind fun h5 =>
  (stI h5 44 100 (h5.1 38 13) y3).bind fun h6 =>
  (F_44 y3 h6).bind fun q7 =>
  (F_234 q7.1 q7.2).bind fun q8 =>
  (stI q8.2 45 100 (h6.1 38 13) q8.1).bind fun h9 =>
  (stI h9 46 100 (h9.1 38 13) (-1)).bind fun h10 =>
  (F_117 y1 y2 y4 y5 h10).bind fun q11 =>
  some (q11.1, q11.2))
  else (some ((-5), q4.2)))
def F_115_58 (y1 : Int32) (y2 : Int32) (y3 : Int32) (y4 : Int32) (y5 : Int32) (h : sm_H) : Option (Int32 × sm_H) :=
  (F_228 h).bind fun q12 =>
  (F_41 y3 q12).bind fun q13 =>
  if y4 = 0 then (F_115_87 y1 y2 y3 y4 y5 q13.1 1 q13.2)
  else (F_115_87 y1 y2 y3 y4 y5 q13.1 0 q13.2)
def F_115_22  (h : sm_H) : Option (Int32 × sm_H) :=
  some ((-1), h)
def F_115_0 (x1 : Int32) (x2 : Int32) (x3 : Int32) (x4 : Int32) (x5 : Int32) (h : sm_H) : Option (Int32 × sm_H) :=
  (F_55 x1 h).bind fun q14 =>
  if q14.1 = 0 then (F_115_22 q14.2)
  else ((F_36 x3 q14.2).bind fun q15 =>
  if q15.1 = 0 then (F_115_22 q15.2)
  else ((F_116 x2 x5 q15.2).bind fun q16 =>
  if q16.1 = 0 then (if x4 = 0 then ((F_46 x3 0 q16.2).bind fun q17 =>
  if q17.1 = x1 then (F_115_58 x1 x2 x3 x4 x5 q17.2)
  else (some ((-3), q17.2)))
  else (F_115_58 x1 x2 x3 x4 x5 q16.2))
  else (some ((-2), q16.2))))
abbrev F_115 (x1 : Int32) (x2 : Int32) (x3 : Int32) (x4 : Int32) (x5 : Int32) (h : sm_H) : Option (Int32 × sm_H) := F_115_0 x1 x2 x3 x4 x5 h
def F_120_82 (z0 : Int32) (h : sm_H) : Option (Int32 × sm_H) :=
  if z0 = 0 ∨ z0 = 1 then some (z0, h) else none
def F_120_81  (h : sm_H) : Option (Int32 × sm_H) :=
  F_120_82 0 h
def F_120_74 (z0 : Int32) (z1 : Int32) (h : sm_H) : Option (Int32 × sm_H) :=
  if z0 = z1 then (F_120_82 1 h)
  else (F_120_81 h)
def F_120_37  (h : sm_H) : Option (Int32 × sm_H) :=
  some (0, h)
def F_120_18 (z0 : Int32) (h : sm_H) : Option (Int32 × sm_H) :=
  if z0 = 0 ∨ z0 = 1 then some (z0, h) else none
def F_120_0 (x1 : Int32) (x2 : Int32) (x3 : Int32) (h : sm_H) : Option (Int32 × sm_H) :=
  if x3 < 4 then ((F_128 x1 h).bind fun q1 =>
  if q1.1 = 0 then ((ldI q1.2 45 100 x1).bind fun v2 =>
  if v2 = x2 then (if x3 = 0 then ((ldZ q1.2 42 100 x1).bind fun v5 =>
  if v5 = 0 ∨ v5 = 1 then some (v5, q1.2) else none)
  else ((ldZ q1.2 42 100 x1).bind fun v3 =>
  if v3 = 0 then ((F_121 x1 q1.2).bind fun q4 =>
  if x3 = 3 then (F_120_74 q4.1 1 q4.2)
  else (F_120_74 q4.1 0 q4.2))
  else (F_120_81 q1.2)))
  else (F_120_37 q1.2))
  else (F_120_37 q1.2))
  else ((F_128 x1 h).bind fun q6 =>
  if q6.1 = 0 then (F_120_18 0 q6.2)
  else (F_120_18 1 q6.2))
abbrev F_120 (x1 : Int32) (x2 : Int32) (x3 : Int32) (h : sm_H) : Option (Int32 × sm_H) := F_120_0 x1 x2 x3 h
def F_133_119 (y1 : Int32) (y2 : Int32) (y3 : Int32) (y4 : Int32) (h : sm_H) : Option ((Int32 × Int32 × Int32 × Int32 × sm_H) ⊕ (Int32 × sm_H)) :=
  (some (y4 + 1 : Int32)).bind fun v1 =>
  some (.inl (y1, y2, y3, v1, h))
def F_133_81 (y1 : Int32) (y2 : Int32) (y3 : Int32) (y4 : Int32) (z0 : Int32) (h : sm_H) : Option ((Int32 × Int32 × Int32 × Int32 × sm_H) ⊕ (Int32 × sm_H)) :=
  if z0 = 0 then (F_133_119 y1 y2 y3 y4 h)
  else ((ldI h 39 100 y4).bind fun v2 =>
  (F_60 y2 v2 h).bind fun q3 =>
  if q3.1 = 0 then (F_133_119 y1 y2 y3 y4 q3.2)
  else ((F_134 y4 y1 q3.2).bind fun q4 =>
  if q4.1 = 0 then (F_133_119 y1 y2 y3 y4 q4.2)
  else (F_133_119 y1 y2 y4 y4 q4.2)))
def F_133_80 (y1 : Int32) (y2 : Int32) (y3 : Int32) (y4 : Int32) (h : sm_H) : Option ((Int32 × Int32 × Int32 × Int32 × sm_H) ⊕ (Int32 × sm_H)) :=
  F_133_81 y1 y2 y3 y4 0 h
def F_133_28B (s : (Int32 × Int32 × Int32 × Int32 × sm_H)) : Option ((Int32 × Int32 × Int32 × Int32 × sm_H) ⊕ (Int32 × sm_H)) :=
  if (s.2.2.2.2.1 38 13) ≤ s.2.2.2.1 then ((F_131 s.2.2.1 s.2.2.2.2).bind fun q5 =>
  some (.inr (q5.1, q5.2)))
  else ((ldI s.2.2.2.2 39 100 s.2.2.2.1).bind fun v6 =>
  (ldI s.2.2.2.2 39 100 s.2.2.1).bind fun v7 =>
  if v6 = v7 then (F_133_80 s.1 s.2.1 s.2.2.1 s.2.2.2.1 s.2.2.2.2)
  else ((ldI s.2.2.2.2 39 100 s.2.2.2.1).bind fun v8 =>
  (ldI s.2.2.2.2 39 100 s.2.2.1).bind fun v9 =>
  (F_60 v8 v9 s.2.2.2.2).bind fun q10 =>
  if q10.1 = 0 then (F_133_80 s.1 s.2.1 s.2.2.1 s.2.2.2.1 q10.2)
  else (F_133_81 s.1 s.2.1 s.2.2.1 s.2.2.2.1 1 q10.2)))
def F_133_28 (y1 : Int32) (y2 : Int32) (y3 : Int32) (y4 : Int32) (h : sm_H) : Option (Int32 × sm_H) := lp F_133_28B 1000000 (y1, y2, y3, y4, h)
def F_133_17 (y1 : Int32) (h : sm_H) : Option (Int32 × sm_H) :=
  (F_131 y1 h).bind fun q11 =>
  some (q11.1, q11.2)
def F_133_0 (x1 : Int32) (x2 : Int32) (h : sm_H) : Option (Int32 × sm_H) :=
  (F_113 x1 h).bind fun q12 =>
  if q12.1 = 0 then (F_133_17 x1 q12.2)
  else ((ldI q12.2 41 100 x1).bind fun v13 =>
  if v13 = 0 then (F_133_17 x1 q12.2)
  else (F_133_28 x1 x2 x1 0 q12.2))
abbrev F_133 (x1 : Int32) (x2 : Int32) (h : sm_H) : Option (Int32 × sm_H) := F_133_0 x1 x2 h
def F_171_26 (y1 : Int32) (h : sm_H) : Option (Int32 × sm_H) :=
  some (y1, h)
def F_171_0  (h : sm_H) : Option (Int32 × sm_H) :=
  (F_249 h).bind fun q1 =>
  if q1.1 = 6 then ((F_244 q1.2).bind fun q2 =>
  (F_170 q2.1 q2.2).bind fun q3 =>
  F_171_26 q1.1 q3.2)
  else (F_171_26 q1.1 q1.2)
abbrev F_171  (h : sm_H) : Option (Int32 × sm_H) := F_171_0  h
def F_172_47 (z0 : Int32) (h : sm_H) : Option (Int32 × sm_H) :=
  if z0 = 0 ∨ z0 = 1 then some (z0, h) else none
def F_172_35  (h : sm_H) : Option (Int32 × sm_H) :=
  if (h.1 55 17) = 0 then (F_172_47 1 h)
  else (F_172_47 0 h)
def F_172_31 (z1 : Int32) (h : sm_H) : Option (Int32 × sm_H) :=
  (F_170 z1 h).bind fun q1 =>
  F_172_35 q1.2
def F_172_0 (x1 : Int32) (h : sm_H) : Option (Int32 × sm_H) :=
  (F_249 h).bind fun q2 =>
  if q2.1 = x1 then (F_172_35 q2.2)
  else (if q2.1 = 6 then ((F_244 q2.2).bind fun q3 =>
  F_172_31 q3.1 q3.2)
  else (F_172_31 4 q2.2))
abbrev F_172 (x1 : Int32) (h : sm_H) : Option (Int32 × sm_H) := F_172_0 x1 h
def F_174_20 (z0 : Int32) (h : sm_H) : Option (Int32 × sm_H) :=
  if z0 = 0 ∨ z0 = 1 then some (z0, h) else none
def F_174_19  (h : sm_H) : Option (Int32 × sm_H) :=
  F_174_20 0 h
def F_174_0  (h : sm_H) : Option (Int32 × sm_H) :=
  (F_172 1 h).bind fun q1 =>
  if q1.1 = 0 then (F_174_19 q1.2)
  else ((F_173 q1.2).bind fun q2 =>
  if q2.1 = 0 then (F_174_19 q2.2)
  else (F_174_20 1 q2.2))
abbrev F_174  (h : sm_H) : Option (Int32 × sm_H) := F_174_0  h
def F_175_0  (h : sm_H) : Option (Int32 × sm_H) :=
  (some (sm_wI h 55 16 ((h.1 55 16) - 1))).bind fun h1 =>
  (F_172 2 h1).bind fun q2 =>
  if q2.1 = 0 ∨ q2.1 = 1 then some (q2.1, q2.2) else none
abbrev F_175  (h : sm_H) : Option (Int32 × sm_H) := F_175_0  h
def F_176_57 (y2 : Int32) (h : sm_H) : Option ((Int32 × sm_H) ⊕ (Int32 × sm_H)) :=
  (some (y2 + 1 : Int32)).bind fun v1 =>
  some (.inl (v1, h))
def F_176_20B (s : (Int32 × sm_H)) : Option ((Int32 × sm_H) ⊕ (Int32 × sm_H)) :=
  (sm_al G0 s.2 2000001).bind fun v2 =>
  if v2 ≤ s.1 then ((F_170 6 s.2).bind fun q3 =>
  some (.inr (q3.1, q3.2)))
  else ((sm_ldJ G0 s.2 2000001 s.1).bind fun v4 =>
  (F_248 s.2).bind fun q5 =>
  if (lg_cmp v4 q5.1) = 0 then ((F_53 s.1 q5.2).bind fun q6 =>
  if q6.1 = 0 then (F_176_57 s.1 q6.2)
  else (some (.inr (s.1, q6.2))))
  else (F_176_57 s.1 q5.2))
def F_176_20 (y2 : Int32) (h : sm_H) : Option (Int32 × sm_H) := lp F_176_20B 1000000 (y2, h)
def F_176_19 (z0 : Int32) (h : sm_H) : Option (Int32 × sm_H) :=
  F_176_20 z0 h
def F_176_0 (x1 : Int32) (h : sm_H) : Option (Int32 × sm_H) :=
  (F_172 4 h).bind fun q7 =>
  if q7.1 = 0 then (some ((-1), q7.2))
  else (if x1 = 0 then (F_176_19 1 q7.2)
  else (F_176_19 0 q7.2))
abbrev F_176 (x1 : Int32) (h : sm_H) : Option (Int32 × sm_H) := F_176_0 x1 h
def F_177_92  (h : sm_H) : Option (Int32 × sm_H) :=
  (F_170 6 h).bind fun q1 =>
  some (0, q1.2)
def F_177_34  (h : sm_H) : Option (Int32 × sm_H) :=
  some (0, h)
def F_177_0  (h : sm_H) : Option (Int32 × sm_H) :=
  (F_242 h).bind fun q2 =>
  if q2.1 = 1 then ((F_173 q2.2).bind fun q3 =>
  if q3.1 = 0 then (F_177_34 q3.2)
  else ((F_172 4 q3.2).bind fun q4 =>
  if q4.1 = 0 then (F_177_34 q4.2)
  else ((F_248 q4.2).bind fun q5 =>
  if (lg_cmp q5.1 6579558) = 0 then ((F_172 4 q5.2).bind fun q6 =>
  if q6.1 = 0 then (some (0, q6.2))
  else (if 60 ≤ (q6.2.1 55 15) then (F_177_92 q6.2)
  else ((F_248 q6.2).bind fun q7 =>
  (F_166 q7.1 q7.2).bind fun q8 =>
  if q8.1 = (-1) then ((F_248 q8.2).bind fun q9 =>
  (stJ q9.2 62 60 (q8.2.1 55 15) q9.1).bind fun h10 =>
  some (1, h10))
  else (F_177_92 q8.2))))
  else ((F_170 4 q5.2).bind fun q11 =>
  some (0, q11.2)))))
  else ((F_170 4 q2.2).bind fun q12 =>
  some (0, q12.2))
abbrev F_177  (h : sm_H) : Option (Int32 × sm_H) := F_177_0  h
def F_179_63  (h : sm_H) : Option (Int32 × sm_H) :=
  some (0, h)
def F_179_36  (h : sm_H) : Option (Int32 × sm_H) :=
  (F_170 6 h).bind fun q1 =>
  some (0, q1.2)
def F_179_0  (h : sm_H) : Option (Int32 × sm_H) :=
  (F_172 4 h).bind fun q2 =>
  if q2.1 = 0 then (some (0, q2.2))
  else ((F_248 q2.2).bind fun q3 =>
  if 6 ≤ (q3.2.1 55 9) then (F_179_36 q3.2)
  else ((F_181 q3.1 q3.2).bind fun q4 =>
  if q4.1 = (-1) then ((F_176 0 q4.2).bind fun q5 =>
  if q5.1 = (-1) then (F_179_63 q5.2)
  else ((F_175 q5.2).bind fun q6 =>
  if q6.1 = 0 then (F_179_63 q6.2)
  else ((stJ q6.2 58 16 (q6.2.1 55 9) q3.1).bind fun h7 =>
  (stI h7 59 16 (h7.1 55 9) q5.1).bind fun h8 =>
  (some (sm_wI h8 55 9 ((h8.1 55 9) + 1))).bind fun h9 =>
  some (1, h9))))
  else (F_179_36 q4.2)))
abbrev F_179  (h : sm_H) : Option (Int32 × sm_H) := F_179_0  h
def F_185_67 (z0 : Int32) (h : sm_H) : Option (Int32 × sm_H) :=
  some (z0, h)
def F_185_42 (y1 : Int32) (y2 : Int32) (h : sm_H) : Option (Int32 × sm_H) :=
  (F_234 y1 h).bind fun q1 =>
  if q1.1 = (-1) then ((F_169 8 y2 q1.2).bind fun q2 =>
  F_185_67 q2.1 q2.2)
  else (F_185_67 q1.1 q1.2)
def F_185_9B (s : (Int32 × Int32 × Int32 × sm_H)) : Option ((Int32 × Int32 × Int32 × sm_H) ⊕ (Int32 × sm_H)) :=
  if (s.2.2.2.1 55 9) ≤ s.2.2.1 then ((F_185_42 s.1 s.2.1 s.2.2.2).map fun r => (.inr r))
  else (if 16 ≤ s.2.2.1 then ((F_185_42 s.1 s.2.1 s.2.2.2).map fun r => (.inr r))
  else ((ldI s.2.2.2 59 16 s.2.2.1).bind fun v3 =>
  (F_229 v3 s.2.2.2).bind fun q4 =>
  (some (s.2.2.1 + 1 : Int32)).bind fun v5 =>
  some (.inl (s.1, s.2.1, v5, q4))))
def F_185_9 (y1 : Int32) (y2 : Int32) (y3 : Int32) (h : sm_H) : Option (Int32 × sm_H) := lp F_185_9B 1000000 (y1, y2, y3, h)
def F_185_0 (x1 : Int32) (x2 : Int32) (h : sm_H) : Option (Int32 × sm_H) :=
  (F_228 h).bind fun q6 =>
  F_185_9 x1 x2 0 q6
abbrev F_185 (x1 : Int32) (x2 : Int32) (h : sm_H) : Option (Int32 × sm_H) := F_185_0 x1 x2 h
def F_268_0 (x1 : Int32) (x2 : Int32) (x3 : Int32) (x4 : Int32) (x5 : Int32) (h : sm_H) : Option (Int32 × sm_H) :=
  (F_115 x1 x2 x3 x4 x5 h).bind fun q1 =>
  (F_264 q1.1 q1.2).bind fun q2 =>
  some (q2.1, q2.2)
abbrev F_268 (x1 : Int32) (x2 : Int32) (x3 : Int32) (x4 : Int32) (x5 : Int32) (h : sm_H) : Option (Int32 × sm_H) := F_268_0 x1 x2 x3 x4 x5 h
def F_6_0 (x1 : Int32) (x2 : Int32) (x3 : Int32) (x4 : Int64) (x6 : Nat) (x7 : Int32) (h : sm_H) : Option (Int32 × sm_H) :=
  (F_233 x7 h).bind fun q1 =>
  if q1.1 = 0 then (some ((-4), q1.2))
  else ((F_48 x1 x2 x3 x4 x6 q1.2).bind fun q2 =>
  if q2.1 = (-1) then ((F_35 q2.2).bind fun q3 =>
  if q3.1 < 500 then ((F_234 x7 q3.2).bind fun q4 =>
  (F_50 x1 x2 x3 x4 x6 q4.1 q4.2).bind fun q5 =>
  some (q5.1, q5.2))
  else (some ((-5), q3.2)))
  else (some (q2.1, q2.2)))
abbrev F_6 (x1 : Int32) (x2 : Int32) (x3 : Int32) (x4 : Int64) (x6 : Nat) (x7 : Int32) (h : sm_H) : Option (Int32 × sm_H) := F_6_0 x1 x2 x3 x4 x6 x7 h
def F_9_454  (h : sm_H) : Option (Int32 × sm_H) :=
  some (0, h)
def F_9_453 (z0 : Int32) (h : sm_H) : Option (Int32 × sm_H) :=
  if z0 = 0 ∨ z0 = 1 then some (z0, h) else none
def F_9_433 (z0 : Int32) (h : sm_H) : Option (Int32 × sm_H) :=
  if z0 = 0 ∨ z0 = 1 then some (z0, h) else none
def F_9_413 (z0 : Int32) (h : sm_H) : Option (Int32 × sm_H) :=
  if z0 = 0 ∨ z0 = 1 then some (z0, h) else none
def F_9_393 (z0 : Int32) (h : sm_H) : Option (Int32 × sm_H) :=
  if z0 = 0 ∨ z0 = 1 then some (z0, h) else none
def F_9_392  (h : sm_H) : Option (Int32 × sm_H) :=
  F_9_393 0 h
def F_9_369 (z0 : Int32) (h : sm_H) : Option (Int32 × sm_H) :=
  if z0 = 0 ∨ z0 = 1 then some (z0, h) else none
def F_9_350  (h : sm_H) : Option (Int32 × sm_H) :=
  (F_59 (h.1 34 8) h).bind fun q1 =>
  if q1.1 = 0 then (F_9_369 1 q1.2)
  else (F_9_369 0 q1.2)
def F_9_349 (z0 : Int32) (h : sm_H) : Option (Int32 × sm_H) :=
  if z0 = 0 ∨ z0 = 1 then some (z0, h) else none
def F_9_344  (h : sm_H) : Option (Int32 × sm_H) :=
  F_9_349 1 h
def F_9_313 (z0 : Int32) (h : sm_H) : Option (Int32 × sm_H) :=
  if z0 = 0 ∨ z0 = 1 then some (z0, h) else none
def F_9_291 (z0 : Int32) (h : sm_H) : Option (Int32 × sm_H) :=
  if z0 = 0 ∨ z0 = 1 then some (z0, h) else none
def F_9_272  (h : sm_H) : Option (Int32 × sm_H) :=
  (F_224 (h.1 34 9) h).bind fun q2 =>
  if q2.1 = 0 then (F_9_291 1 q2.2)
  else (F_9_291 0 q2.2)
def F_9_271 (z0 : Int32) (h : sm_H) : Option (Int32 × sm_H) :=
  if z0 = 0 ∨ z0 = 1 then some (z0, h) else none
def F_9_257 (z0 : Int32) (h : sm_H) : Option (Int32 × sm_H) :=
  if z0 = 0 ∨ z0 = 1 then some (z0, h) else none
def F_9_256  (h : sm_H) : Option (Int32 × sm_H) :=
  F_9_257 0 h
def F_9_252  (h : sm_H) : Option (Int32 × sm_H) :=
  F_9_257 1 h
def F_9_218 (z0 : Int32) (h : sm_H) : Option (Int32 × sm_H) :=
  if z0 = 0 ∨ z0 = 1 then some (z0, h) else none
def F_9_198 (z0 : Int32) (h : sm_H) : Option (Int32 × sm_H) :=
  if z0 = 0 ∨ z0 = 1 then some (z0, h) else none
def F_9_193  (h : sm_H) : Option (Int32 × sm_H) :=
  F_9_198 1 h
def F_9_0  (h : sm_H) : Option (Int32 × sm_H) :=
  if (h.1 34 7) = 0 then ((F_54 (h.1 34 8) h).bind fun q3 =>
  if q3.1 = 0 then (F_9_193 q3.2)
  else ((F_152 (q3.2.1 34 8) (q3.2.2.1 34 10) q3.2).bind fun q4 =>
  if q4.1 = 1 then (F_9_193 q4.2)
  else (F_9_198 0 q4.2)))
  else (if (h.1 34 7) = 2 then ((F_54 (h.1 34 8) h).bind fun q5 =>
  if q5.1 = 0 then (F_9_218 1 q5.2)
  else (F_9_218 0 q5.2))
  else (if (h.1 34 7) = 3 then (if (h.1 34 8) < 0 then (F_9_252 h)
  else (if 12 < (h.1 34 8) then (F_9_252 h)
  else (if (h.1 34 9) = 5 then (F_9_256 h)
  else (if (h.1 34 9) = 6 then (F_9_256 h)
  else (F_9_252 h)))))
  else (if (h.1 34 7) = 4 then (F_9_272 h)
  else (if (h.1 34 7) = 5 then (F_9_272 h)
  else (if (h.1 34 7) = 6 then ((F_10 h).bind fun q6 =>
  if q6.1 = 1 then (F_9_271 1 q6.2)
  else (F_9_271 0 q6.2))
  else (if (h.1 34 7) = 10 then (F_9_350 h)
  else (if (h.1 34 7) = 12 then (F_9_272 h)
  else (if (h.1 34 7) = 13 then (F_9_272 h)
  else (if (h.1 34 7) = 15 then ((F_60 (h.1 34 8) 19 h).bind fun q7 =>
  if q7.1 = 0 then (F_9_313 1 q7.2)
  else (F_9_313 0 q7.2))
  else (if (h.1 34 7) = 18 then (F_9_272 h)
  else (if (h.1 34 7) = 19 then ((F_53 (h.1 34 8) h).bind fun q8 =>
  if q8.1 = 0 then (F_9_344 q8.2)
  else ((F_60 (q8.2.1 34 9) 19 q8.2).bind fun q9 =>
  if q9.1 = 0 then (F_9_344 q9.2)
  else (F_9_349 0 q9.2)))
  else (if (h.1 34 7) = 20 then (F_9_350 h)
  else (if (h.1 34 7) = 21 then (F_9_350 h)
  else (if (h.1 34 7) = 22 then (F_9_350 h)
  else (if (h.1 34 7) = 23 then (F_9_350 h)
  else (if (h.1 34 7) = 24 then (F_9_350 h)
  else (if (h.1 34 7) = 25 then (F_9_350 h)
  else (if (h.1 34 7) = 26 then (if (h.1 34 8) = 15 then (F_9_392 h)
  else (if (h.1 34 8) = 16 then (F_9_392 h)
  else (F_9_393 1 h)))
  else (if (h.1 34 7) = 27 then (F_9_272 h)
  else (if (h.1 34 7) = 28 then (F_9_272 h)
  else (if (h.1 34 7) = 29 then ((F_156 (h.1 34 8) h).bind fun q10 =>
  if q10.1 = 0 then (F_9_413 1 q10.2)
  else (F_9_413 0 q10.2))
  else (if (h.1 34 7) = 30 then ((F_160 (h.1 34 8) h).bind fun q11 =>
  if q11.1 = 0 then (F_9_433 1 q11.2)
  else (F_9_433 0 q11.2))
  else (if (h.1 34 7) = 31 then ((F_57 (h.1 34 8) h).bind fun q12 =>
  if q12.1 = 0 then (F_9_453 1 q12.2)
  else (F_9_453 0 q12.2))
  else (if (h.1 34 7) = 34 then (F_9_272 h)
  else (F_9_454 h)))))))))))))))))))))))))
abbrev F_9  (h : sm_H) : Option (Int32 × sm_H) := F_9_0  h
def F_14_578  (h : sm_H) : Option (Int32 × sm_H) :=
  some (0, h)
def F_14_577 (z0 : Int32) (h : sm_H) : Option (Int32 × sm_H) :=
  if z0 = 0 ∨ z0 = 1 then some (z0, h) else none
def F_14_531 (z0 : Int32) (h : sm_H) : Option (Int32 × sm_H) :=
  if z0 = 0 ∨ z0 = 1 then some (z0, h) else none
def F_14_526  (h : sm_H) : Option (Int32 × sm_H) :=
  F_14_531 1 h
def F_14_498 (z0 : Int32) (h : sm_H) : Option (Int32 × sm_H) :=
  if z0 = 0 ∨ z0 = 1 then some (z0, h) else none
def F_14_493  (h : sm_H) : Option (Int32 × sm_H) :=
  F_14_498 1 h
def F_14_407 (z0 : Int32) (h : sm_H) : Option (Int32 × sm_H) :=
  if z0 = 0 ∨ z0 = 1 then some (z0, h) else none
def F_14_396 (z1 : Int32) (z2 : Int32) (z3 : Int32) (h : sm_H) : Option (Int32 × sm_H) :=
  (F_236 z1 z2 z3 h).bind fun q1 =>
  if q1.1 = 0 then (F_14_407 1 q1.2)
  else (F_14_407 0 q1.2)
def F_14_363  (h : sm_H) : Option (Int32 × sm_H) :=
  (F_41 (h.1 34 12) h).bind fun q2 =>
  if (q2.2.1 34 7) = 13 then (F_14_396 q2.1 (q2.2.1 34 9) 1 q2.2)
  else (F_14_396 q2.1 (q2.2.1 34 9) 0 q2.2)
def F_14_362 (z0 : Int32) (h : sm_H) : Option (Int32 × sm_H) :=
  if z0 = 0 ∨ z0 = 1 then some (z0, h) else none
def F_14_337 (z0 : Int32) (h : sm_H) : Option (Int32 × sm_H) :=
  if z0 = 0 ∨ z0 = 1 then some (z0, h) else none
def F_14_336  (h : sm_H) : Option (Int32 × sm_H) :=
  F_14_337 0 h
def F_14_332  (h : sm_H) : Option (Int32 × sm_H) :=
  F_14_337 1 h
def F_14_289 (z0 : Int32) (z1 : Int32) (h : sm_H) : Option (Int32 × sm_H) :=
  if z0 = z1 then ((F_44 (h.1 34 12) h).bind fun q3 =>
  if q3.1 = 0 then (F_14_336 q3.2)
  else ((F_46 (q3.2.1 34 13) 0 q3.2).bind fun q4 =>
  (F_44 (q4.2.1 34 12) q4.2).bind fun q5 =>
  if q4.1 = q5.1 then (F_14_336 q5.2)
  else (F_14_332 q5.2)))
  else (F_14_332 h)
def F_14_258 (z0 : Int32) (h : sm_H) : Option (Int32 × sm_H) :=
  if z0 = 0 ∨ z0 = 1 then some (z0, h) else none
def F_14_253  (h : sm_H) : Option (Int32 × sm_H) :=
  F_14_258 1 h
def F_14_187 (z0 : Int32) (h : sm_H) : Option (Int32 × sm_H) :=
  if z0 = 0 ∨ z0 = 1 then some (z0, h) else none
def F_14_168 (z0 : Int32) (h : sm_H) : Option (Int32 × sm_H) :=
  if z0 = 0 ∨ z0 = 1 then some (z0, h) else none
def F_14_0  (h : sm_H) : Option (Int32 × sm_H) :=
  if (h.1 34 7) = 0 then ((F_152 (h.1 34 8) (h.2.1 34 10) h).bind fun q6 =>
  if q6.1 = 3 then (F_14_168 1 q6.2)
  else (F_14_168 0 q6.2))
  else (if (h.1 34 7) = 5 then ((F_16 h).bind fun q7 =>
  if q7.1 = 0 ∨ q7.1 = 1 then some (q7.1, q7.2) else none)
  else (if (h.1 34 7) = 6 then ((F_10 h).bind fun q8 =>
  if q8.1 = 3 then (F_14_187 1 q8.2)
  else (F_14_187 0 q8.2))
  else (if (h.1 34 7) = 7 then ((F_17 h).bind fun q9 =>
  if q9.1 = 0 ∨ q9.1 = 1 then some (q9.1, q9.2) else none)
  else (if (h.1 34 7) = 8 then ((F_17 h).bind fun q10 =>
  if q10.1 = 0 then ((F_41 (q10.2.1 34 13) q10.2).bind fun q11 =>
  (F_41 (q11.2.1 34 12) q11.2).bind fun q12 =>
  (F_12 q12.2).bind fun q13 =>
  (F_45 (q13.2.1 34 13) q13.2).bind fun q14 =>
  (F_235 q11.1 0 q12.1 ((q12.2.1 34 8) + q13.1) q14.1 q14.2).bind fun q15 =>
  if q15.1 = 0 then (F_14_253 q15.2)
  else (F_14_258 0 q15.2))
  else (F_14_253 q10.2))
  else (if (h.1 34 7) = 9 then ((F_45 (h.1 34 13) h).bind fun q16 =>
  (F_44 (q16.2.1 34 12) q16.2).bind fun q17 =>
  if q17.1 = 0 then (F_14_289 q16.1 0 q17.2)
  else (F_14_289 q16.1 1 q17.2))
  else (if (h.1 34 7) = 10 then ((F_18 h).bind fun q18 =>
  if q18.1 = 0 ∨ q18.1 = 1 then some (q18.1, q18.2) else none)
  else (if (h.1 34 7) = 11 then ((F_15 h).bind fun q19 =>
  (F_59 q19.1 q19.2).bind fun q20 =>
  if q20.1 = 0 then (F_14_362 1 q20.2)
  else (F_14_362 0 q20.2))
  else (if (h.1 34 7) = 12 then (F_14_363 h)
  else (if (h.1 34 7) = 13 then (F_14_363 h)
  else (if (h.1 34 7) = 14 then ((F_41 (h.1 34 13) h).bind fun q21 =>
  (F_41 (q21.2.1 34 14) q21.2).bind fun q22 =>
  if q21.1 = q22.1 then ((F_44 (q22.2.1 34 12) q22.2).bind fun q23 =>
  if q23.1 = 1 then ((F_41 (q23.2.1 34 12) q23.2).bind fun q24 =>
  (F_41 (q24.2.1 34 13) q24.2).bind fun q25 =>
  (F_45 (q25.2.1 34 12) q25.2).bind fun q26 =>
  (F_235 q24.1 0 q25.1 0 q26.1 q26.2).bind fun q27 =>
  if q27.1 = 0 then (F_14_493 q27.2)
  else (F_14_498 0 q27.2))
  else (F_14_493 q23.2))
  else (F_14_493 q22.2))
  else (if (h.1 34 7) = 15 then ((F_46 (h.1 34 13) 0 h).bind fun q28 =>
  if q28.1 = (q28.2.1 34 8) then ((F_19 1 q28.2).bind fun q29 =>
  if q29.1 = 0 then (F_14_531 0 q29.2)
  else (F_14_526 q29.2))
  else (F_14_526 q28.2))
  else (if (h.1 34 7) = 16 then ((F_20 h).bind fun q30 =>
  if q30.1 = 0 ∨ q30.1 = 1 then some (q30.1, q30.2) else none)
  else (if (h.1 34 7) = 17 then ((F_21 h).bind fun q31 =>
  if q31.1 = 0 ∨ q31.1 = 1 then some (q31.1, q31.2) else none)
  else (if (h.1 34 7) = 18 then ((F_22 h).bind fun q32 =>
  if q32.1 = 0 ∨ q32.1 = 1 then some (q32.1, q32.2) else none)
  else (if (h.1 34 7) = 30 then ((F_41 (h.1 34 12) h).bind fun q33 =>
  (F_41 (q33.2.1 34 13) q33.2).bind fun q34 =>
  if q33.1 = q34.1 then (F_14_577 0 q34.2)
  else (F_14_577 1 q34.2))
  else (F_14_578 h))))))))))))))))
abbrev F_14  (h : sm_H) : Option (Int32 × sm_H) := F_14_0  h
def F_29_461  (h : sm_H) : Option (Int32 × sm_H) :=
  (F_32 h).bind fun q1 =>
  some (q1.1, q1.2)
def F_29_420  (h : sm_H) : Option (Int32 × sm_H) :=
  (F_229 18 h).bind fun q2 =>
  (F_31 (q2.1 34 9) q2).bind fun q3 =>
  some (q3.1, q3.2)
def F_29_411  (h : sm_H) : Option (Int32 × sm_H) :=
  (F_31 (h.1 34 9) h).bind fun q4 =>
  some (q4.1, q4.2)
def F_29_395  (h : sm_H) : Option (Int32 × sm_H) :=
  (F_41 (h.1 34 12) h).bind fun q5 =>
  (F_31 q5.1 q5.2).bind fun q6 =>
  some (q6.1, q6.2)
def F_29_367  (h : sm_H) : Option (Int32 × sm_H) :=
  (F_44 (h.1 34 12) h).bind fun q7 =>
  some (q7.1, q7.2)
def F_29_329B (s : (Int32 × sm_H)) : Option ((Int32 × sm_H) ⊕ (Int32 × sm_H)) :=
  if (s.2.1 34 9) ≤ s.1 then ((F_29_367 s.2).map fun r => (.inr r))
  else (if 10 ≤ s.1 then ((F_29_367 s.2).map fun r => (.inr r))
  else ((F_15 s.2).bind fun q8 =>
  (F_63 q8.1 q8.2).bind fun q9 =>
  (F_229 q9.1 q9.2).bind fun q10 =>
  (some (s.1 + 1 : Int32)).bind fun v11 =>
  some (.inl (v11, q10))))
def F_29_329 (y2 : Int32) (h : sm_H) : Option (Int32 × sm_H) := lp F_29_329B 1000000 (y2, h)
def F_29_0  (h : sm_H) : Option (Int32 × sm_H) :=
  (F_228 h).bind fun q12 =>
  (F_45 (q12.1 34 12) q12).bind fun q13 =>
  if (q13.2.1 34 7) = 4 then ((F_30 (q13.2.1 34 9) (q13.2.1 34 8) q13.2).bind fun q14 =>
  some (q14.1, q14.2))
  else (if (q13.2.1 34 7) = 5 then (F_29_411 q13.2)
  else (if (q13.2.1 34 7) = 6 then ((F_30 (-1) ((q13.2.1 34 8) + 1) q13.2).bind fun q15 =>
  some (q15.1, q15.2))
  else (if (q13.2.1 34 7) = 7 then ((F_41 (q13.2.1 34 13) q13.2).bind fun q16 =>
  (F_12 q16.2).bind fun q17 =>
  (F_30 q16.1 ((q16.2.1 34 8) + q17.1) q17.2).bind fun q18 =>
  some (q18.1, q18.2))
  else (if (q13.2.1 34 7) = 8 then ((F_12 q13.2).bind fun q19 =>
  (F_30 (-1) ((q13.2.1 34 8) + q19.1) q19.2).bind fun q20 =>
  some (q20.1, q20.2))
  else (if (q13.2.1 34 7) = 9 then ((F_41 (q13.2.1 34 12) q13.2).bind fun q21 =>
  (F_230 q21.1 0 q13.1 q21.2).bind fun q22 =>
  (F_44 (q22.1 34 13) q22).bind fun q23 =>
  some (q23.1, q23.2))
  else (if (q13.2.1 34 7) = 10 then ((F_41 (q13.2.1 34 12) q13.2).bind fun q24 =>
  (F_230 q24.1 0 (q13.1 - (q24.2.1 34 9)) q24.2).bind fun q25 =>
  (F_229 (q25.1 34 8) q25).bind fun q26 =>
  (F_44 (q26.1 34 12) q26).bind fun q27 =>
  some (q27.1, q27.2))
  else (if (q13.2.1 34 7) = 11 then ((F_41 (q13.2.1 34 12) q13.2).bind fun q28 =>
  (F_230 q28.1 0 (q13.1 - 1) q28.2).bind fun q29 =>
  F_29_329 0 q29)
  else (if (q13.2.1 34 7) = 12 then (F_29_411 q13.2)
  else (if (q13.2.1 34 7) = 13 then (F_29_411 q13.2)
  else (if (q13.2.1 34 7) = 14 then ((F_41 (q13.2.1 34 13) q13.2).bind fun q30 =>
  (F_31 q30.1 q30.2).bind fun q31 =>
  some (q31.1, q31.2))
  else (if (q13.2.1 34 7) = 15 then (F_29_395 q13.2)
  else (if (q13.2.1 34 7) = 16 then (F_29_395 q13.2)
  else (if (q13.2.1 34 7) = 17 then (F_29_395 q13.2)
  else (if (q13.2.1 34 7) = 18 then (F_29_411 q13.2)
  else (if (q13.2.1 34 7) = 27 then (F_29_420 q13.2)
  else (if (q13.2.1 34 7) = 28 then (F_29_420 q13.2)
  else (if (q13.2.1 34 7) = 29 then ((F_157 (q13.2.1 34 8) q13.2).bind fun q32 =>
  (F_41 q32.1 q32.2).bind fun q33 =>
  (F_31 q33.1 q33.2).bind fun q34 =>
  some (q34.1, q34.2))
  else (if (q13.2.1 34 7) = 30 then (F_29_395 q13.2)
  else (if (q13.2.1 34 7) = 34 then (F_29_411 q13.2)
  else (F_29_461 q13.2))))))))))))))))))))
abbrev F_29  (h : sm_H) : Option (Int32 × sm_H) := F_29_0  h
def F_119_108  (h : sm_H) : Option (Int32 × sm_H) :=
  some ((-1), h)
def F_119_100 (y2 : Int32) (y3 : Int32) (y4 : Int32) (y6 : Int32) (z0 : Int32) (h : sm_H) : Option ((Int32 × Int32 × Int32 × Int32 × Int32 × sm_H) ⊕ (Int32 × sm_H)) :=
  (some (y6 + 1 : Int32)).bind fun v1 =>
  some (.inl (y2, y3, y4, z0, v1, h))
def F_119_75 (y2 : Int32) (y3 : Int32) (y4 : Int32) (y5 : Int32) (y6 : Int32) (y7 : Int32) (h : sm_H) : Option ((Int32 × Int32 × Int32 × Int32 × Int32 × Int32 × sm_H) ⊕ ((Int32 × Int32 × Int32 × Int32 × Int32 × sm_H) ⊕ (Int32 × sm_H))) :=
  (some (y7 + 1 : Int32)).bind fun v2 =>
  some (.inl (y2, y3, y4, y5, y6, v2, h))
def F_119_28B (s : (Int32 × Int32 × Int32 × Int32 × Int32 × Int32 × sm_H)) : Option ((Int32 × Int32 × Int32 × Int32 × Int32 × Int32 × sm_H) ⊕ ((Int32 × Int32 × Int32 × Int32 × Int32 × sm_H) ⊕ (Int32 × sm_H))) :=
  if (s.2.2.2.2.2.2.1 38 13) ≤ s.2.2.2.2.2.1 then (if s.2.2.1 = 3 then ((F_119_100 s.1 s.2.1 s.2.2.1 s.2.2.2.2.1 (-1) s.2.2.2.2.2.2).map fun r => (.inr r))
  else ((F_61 s.2.2.2.1 s.2.2.2.2.2.2).bind fun q3 =>
  (F_119_100 s.1 s.2.1 s.2.2.1 s.2.2.2.2.1 q3.1 q3.2).map fun r => (.inr r)))
  else ((ldI s.2.2.2.2.2.2 39 100 s.2.2.2.2.2.1).bind fun v4 =>
  if v4 = s.2.2.2.1 then ((ldI s.2.2.2.2.2.2 40 100 s.2.2.2.2.2.1).bind fun v5 =>
  if v5 = s.1 then ((F_120 s.2.2.2.2.2.1 s.2.1 s.2.2.1 s.2.2.2.2.2.2).bind fun q6 =>
  if q6.1 = 0 then (F_119_75 s.1 s.2.1 s.2.2.1 s.2.2.2.1 s.2.2.2.2.1 s.2.2.2.2.2.1 q6.2)
  else (some (.inr (.inr (s.2.2.2.2.2.1, q6.2)))))
  else (F_119_75 s.1 s.2.1 s.2.2.1 s.2.2.2.1 s.2.2.2.2.1 s.2.2.2.2.2.1 s.2.2.2.2.2.2))
  else (F_119_75 s.1 s.2.1 s.2.2.1 s.2.2.2.1 s.2.2.2.2.1 s.2.2.2.2.2.1 s.2.2.2.2.2.2))
def F_119_28 (y2 : Int32) (y3 : Int32) (y4 : Int32) (y5 : Int32) (y6 : Int32) (y7 : Int32) (h : sm_H) : Option ((Int32 × Int32 × Int32 × Int32 × Int32 × sm_H) ⊕ (Int32 × sm_H)) := lp F_119_28B 1000000 (y2, y3, y4, y5, y6, y7, h)
def F_119_6B (s : (Int32 × Int32 × Int32 × Int32 × Int32 × sm_H)) : Option ((Int32 × Int32 × Int32 × Int32 × Int32 × sm_H) ⊕ (Int32 × sm_H)) :=
  if 32 ≤ s.2.2.2.2.1 then ((F_119_108 s.2.2.2.2.2).map fun r => (.inr r))
  else ((F_55 s.2.2.2.1 s.2.2.2.2.2).bind fun q7 =>
  if q7.1 = 0 then ((F_119_108 q7.2).map fun r => (.inr r))
  else (F_119_28 s.1 s.2.1 s.2.2.1 s.2.2.2.1 s.2.2.2.2.1 0 q7.2))
def F_119_6 (y2 : Int32) (y3 : Int32) (y4 : Int32) (y5 : Int32) (y6 : Int32) (h : sm_H) : Option (Int32 × sm_H) := lp F_119_6B 1000000 (y2, y3, y4, y5, y6, h)
def F_119_0 (x1 : Int32) (x2 : Int32) (x3 : Int32) (x4 : Int32) (h : sm_H) : Option (Int32 × sm_H) :=
  F_119_6 x2 x3 x4 x1 0 h
abbrev F_119 (x1 : Int32) (x2 : Int32) (x3 : Int32) (x4 : Int32) (h : sm_H) : Option (Int32 × sm_H) := F_119_0 x1 x2 x3 x4 h
def F_126_0 (x1 : Int32) (x2 : Int32) (x3 : Int32) (x4 : Int32) (h : sm_H) : Option (Int32 × sm_H) :=
  (F_6 x1 x2 x3 0 47 x4 h).bind fun q1 =>
  some (q1.1, q1.2)
abbrev F_126 (x1 : Int32) (x2 : Int32) (x3 : Int32) (x4 : Int32) (h : sm_H) : Option (Int32 × sm_H) := F_126_0 x1 x2 x3 x4 h
def F_127_30 (y2 : Int32) (y3 : Int32) (y4 : Int32) (h : sm_H) : Option (Int32 × sm_H) :=
  (F_128 y2 h).bind fun q1 =>
  (F_33 q1.1 y3 q1.2).bind fun q2 =>
  (F_6 35 y2 y3 (Int32.toInt64 y4) 47 q2.1 q2.2).bind fun q3 =>
  some (q3.1, q3.2)
def F_127_14 (y2 : Int32) (y3 : Int32) (z0 : Int32) (h : sm_H) : Option (Int32 × sm_H) :=
  if z0 = 0 then (F_127_30 y2 y3 z0 h)
  else ((F_229 z0 h).bind fun q4 =>
  F_127_30 y2 y3 z0 q4)
def F_127_0 (x1 : Int32) (x2 : Int32) (x3 : Int32) (h : sm_H) : Option (Int32 × sm_H) :=
  (ldZ h 42 100 x2).bind fun v5 =>
  if v5 = 0 then (F_127_14 x2 x3 x1 h)
  else (F_127_14 x2 x3 0 h)
abbrev F_127 (x1 : Int32) (x2 : Int32) (x3 : Int32) (h : sm_H) : Option (Int32 × sm_H) := F_127_0 x1 x2 x3 h
def F_178_76  (h : sm_H) : Option (Int32 × sm_H) :=
  some (0, h)
def F_178_55 (y1 : Int32) (h : sm_H) : Option ((Int32 × sm_H) ⊕ (Int32 × sm_H)) :=
  if (h.1 55 17) = 0 then ((F_173 h).bind fun q1 =>
  if q1.1 = 0 then ((F_178_76 q1.2).map fun r => (.inr r))
  else ((F_179 q1.2).bind fun q2 =>
  if q2.1 = 0 then ((F_178_76 q2.2).map fun r => (.inr r))
  else ((some (y1 + 1 : Int32)).bind fun v3 =>
  some (.inl (v3, q2.2)))))
  else ((F_178_76 h).map fun r => (.inr r))
def F_178_16B (s : (Int32 × sm_H)) : Option ((Int32 × sm_H) ⊕ (Int32 × sm_H)) :=
  if 6 < s.1 then (some (.inr (0, s.2)))
  else ((F_171 s.2).bind fun q4 =>
  if q4.1 = 2 then ((some (sm_wI q4.2 55 16 ((q4.2.1 55 16) - 1))).bind fun h6 =>
  some (.inr (1, h6)))
  else (if q4.1 = 1 then (F_178_55 s.1 q4.2)
  else ((F_170 4 q4.2).bind fun q5 =>
  F_178_55 s.1 q5.2)))
def F_178_16 (y1 : Int32) (h : sm_H) : Option (Int32 × sm_H) := lp F_178_16B 1000000 (y1, h)
def F_178_0  (h : sm_H) : Option (Int32 × sm_H) :=
  (some (sm_wI h 55 9 0)).bind fun h7 =>
  (F_174 h7).bind fun q8 =>
  if q8.1 = 0 then (some (0, q8.2))
  else (F_178_16 0 q8.2)
abbrev F_178  (h : sm_H) : Option (Int32 × sm_H) := F_178_0  h
def F_5_135  (h : sm_H) : Option (Int32 × sm_H) :=
  some ((-1), h)
def F_5_82 (y6 : Nat) (z1 : Int64) (h : sm_H) : Option (Int32 × sm_H) :=
  (some (sm_wJ h 34 10 z1)).bind fun h1 =>
  (some (sm_wR h1 34 11 (some y6))).bind fun h2 =>
  if ¬ (sm_is G0 h2 y6 5 = true) then none else (F_137 y6 0 h2).bind fun q3 =>
  (some (sm_wI q3.2 34 12 q3.1)).bind fun h5 =>
  if ¬ (sm_is G0 h5 y6 5 = true) then none else (F_137 y6 1 h5).bind fun q6 =>
  (some (sm_wI q6.2 34 13 q6.1)).bind fun h8 =>
  if ¬ (sm_is G0 h8 y6 5 = true) then none else (F_137 y6 2 h8).bind fun q9 =>
  (some (sm_wI q9.2 34 14 q9.1)).bind fun h11 =>
  (F_7 h11).bind fun q12 =>
  if q12.1 = 0 then ((F_9 q12.2).bind fun q13 =>
  if q13.1 = 0 then ((F_11 q13.2).bind fun q14 =>
  if q14.1 = 0 then ((F_14 q14.2).bind fun q15 =>
  if q15.1 = 0 then ((F_26 q15.2).bind fun q16 =>
  if q16.1 = (-1) then ((sm_rr G0 q16.2 34 11).bind fun b17 =>
  (F_29 q16.2).bind fun q18 =>
  (F_6 (q16.2.1 34 7) (q16.2.1 34 8) (q16.2.1 34 9) (q16.2.2.1 34 10) b17 q18.1 q18.2).bind fun q19 =>
  some (q19.1, q19.2))
  else (some (q16.1, q16.2)))
  else (some ((-3), q15.2)))
  else (some ((-2), q14.2)))
  else (F_5_135 q13.2))
  else (F_5_135 q12.2)
def F_5_62 (y1 : Int32) (y4 : Int64) (y6 : Nat) (z1 : Int32) (h : sm_H) : Option (Int32 × sm_H) :=
  (some (sm_wI h 34 9 z1)).bind fun h20 =>
  (sm_ldI G0 h20 1000000 y1).bind fun v21 =>
  if (v21 &&& 4) = 0 then (F_5_82 y6 0 h20)
  else (F_5_82 y6 y4 h20)
def F_5_43 (y1 : Int32) (y3 : Int32) (y4 : Int64) (y6 : Nat) (z1 : Int32) (h : sm_H) : Option (Int32 × sm_H) :=
  (some (sm_wI h 34 8 z1)).bind fun h22 =>
  (sm_ldI G0 h22 1000000 y1).bind fun v23 =>
  if (v23 &&& 2) = 0 then (F_5_62 y1 y4 y6 0 h22)
  else (F_5_62 y1 y4 y6 y3 h22)
def F_5_20  (h : sm_H) : Option (Int32 × sm_H) :=
  some ((-1), h)
def F_5_0 (x1 : Int32) (x2 : Int32) (x3 : Int32) (x4 : Int64) (x6 : Nat) (h : sm_H) : Option (Int32 × sm_H) :=
  if x1 < 0 then (F_5_20 h)
  else ((sm_al G0 h 1000000).bind fun v24 =>
  if v24 ≤ x1 then (F_5_20 h)
  else ((sm_al G0 h 1000001).bind fun v25 =>
  if x1 < v25 then ((some (sm_wI h 34 7 x1)).bind fun h26 =>
  (sm_ldI G0 h26 1000000 x1).bind fun v27 =>
  if (v27 &&& 1) = 0 then (F_5_43 x1 x3 x4 x6 0 h26)
  else (F_5_43 x1 x3 x4 x6 x2 h26))
  else (F_5_20 h)))
abbrev F_5 (x1 : Int32) (x2 : Int32) (x3 : Int32) (x4 : Int64) (x6 : Nat) (h : sm_H) : Option (Int32 × sm_H) := F_5_0 x1 x2 x3 x4 x6 h
def F_124_0 (x1 : Int32) (x2 : Int32) (x3 : Int32) (x4 : Int32) (h : sm_H) : Option (Int32 × sm_H) :=
  (F_228 h).bind fun q1 =>
  if x4 = 0 then ((ldI q1 44 100 x3).bind fun v2 =>
  some (v2, q1))
  else (if x4 = 1 then ((F_229 x2 q1).bind fun q3 =>
  (F_125 x3 q3).bind fun q4 =>
  (F_126 36 x3 x2 q4.1 q4.2).bind fun q5 =>
  some (q5.1, q5.2))
  else (if x4 = 2 then ((F_229 x1 q1).bind fun q6 =>
  (F_125 x3 q6).bind fun q7 =>
  (F_126 37 x3 x1 q7.1 q7.2).bind fun q8 =>
  some (q8.1, q8.2))
  else (if x4 = 3 then ((F_125 x3 q1).bind fun q9 =>
  (F_126 38 x3 0 x2 q9.2).bind fun q10 =>
  some (q10.1, q10.2))
  else ((F_127 x2 x3 x4 q1).bind fun q11 =>
  some (q11.1, q11.2)))))
abbrev F_124 (x1 : Int32) (x2 : Int32) (x3 : Int32) (x4 : Int32) (h : sm_H) : Option (Int32 × sm_H) := F_124_0 x1 x2 x3 x4 h
def F_180_102 (y2 : Int32) (h : sm_H) : Option (Int32 × sm_H) :=
  (F_169 8 y2 h).bind fun q1 =>
  some (q1.1, q1.2)
def F_180_86 (y2 : Int32) (y5 : Int32) (z0 : Int32) (h : sm_H) : Option (Int32 × sm_H) :=
  if z0 < 0 then (F_180_102 y2 h)
  else (if (h.1 55 15) < 60 then ((stI h 63 60 (h.1 55 15) z0).bind fun h2 =>
  (some (sm_wI h2 55 15 ((h2.1 55 15) + 1))).bind fun h3 =>
  some (y5, h3))
  else (F_180_102 y2 h))
def F_180_57 (y2 : Int32) (z0 : Int32) (h : sm_H) : Option (Int32 × sm_H) :=
  if z0 = (-1) then (F_180_86 y2 z0 (-1) h)
  else ((F_5 29 z0 0 0 56 h).bind fun q4 =>
  F_180_86 y2 z0 q4.1 q4.2)
def F_180_0 (x1 : Int32) (x2 : Int32) (h : sm_H) : Option (Int32 × sm_H) :=
  (F_185 x1 x2 h).bind fun q5 =>
  if q5.1 = (-1) then (some ((-1), q5.2))
  else ((F_138 56 q5.2).bind fun q6 =>
  (F_5 34 0 q5.1 0 56 q6).bind fun q7 =>
  if 0 ≤ q7.1 then ((F_155 q7.1 q7.2).bind fun q8 =>
  F_180_57 x2 q8.1 q8.2)
  else (F_180_57 x2 (-1) q7.2))
abbrev F_180 (x1 : Int32) (x2 : Int32) (h : sm_H) : Option (Int32 × sm_H) := F_180_0 x1 x2 h
def F_186_108 (z0 : Int32) (h : sm_H) : Option (Int32 × sm_H) :=
  some (z0, h)
def F_186_36 (y1 : Int32) (y2 : Int32) (y3 : Int32) (y4 : Int32) (z1 : Int32) (z2 : Int32) (z3 : Int32) (h : sm_H) : Option (Int32 × sm_H) :=
  (F_65 z1 z2 z3 h).bind fun q1 =>
  if q1.1 = 0 then ((F_169 7 y4 q1.2).bind fun q6 =>
  some (q6.1, q6.2))
  else ((F_185 y3 y4 q1.2).bind fun q2 =>
  if q2.1 = (-1) then (some ((-1), q2.2))
  else ((F_140 56 y2 q2.2).bind fun q3 =>
  (F_5 y1 0 q2.1 0 q3.1 q3.2).bind fun q4 =>
  if 0 ≤ q4.1 then (F_186_108 q4.1 q4.2)
  else ((F_169 8 y4 q4.2).bind fun q5 =>
  F_186_108 q5.1 q5.2)))
def F_186_0 (x1 : Int32) (x2 : Int32) (x3 : Int32) (x4 : Int32) (h : sm_H) : Option (Int32 × sm_H) :=
  (F_44 x2 h).bind fun q7 =>
  if q7.1 = x3 then (some (x2, q7.2))
  else (if x1 = 13 then (F_186_36 x1 x2 x3 x4 q7.1 x3 1 q7.2)
  else (F_186_36 x1 x2 x3 x4 q7.1 x3 0 q7.2))
abbrev F_186 (x1 : Int32) (x2 : Int32) (x3 : Int32) (x4 : Int32) (h : sm_H) : Option (Int32 × sm_H) := F_186_0 x1 x2 x3 x4 h
def F_190_40  (h : sm_H) : Option (Int32 × sm_H) :=
  some (0, h)
def F_190_0 (x1 : Int32) (x2 : Int32) (x3 : Int32) (h : sm_H) : Option (Int32 × sm_H) :=
  (F_187 x1 h).bind fun q1 =>
  (F_186 12 q1.1 x2 x3 q1.2).bind fun q2 =>
  if q2.1 = (-1) then (F_190_40 q2.2)
  else (if x1 < 0 then (F_190_40 q2.2)
  else (if (q2.2.1 55 12) ≤ x1 then (F_190_40 q2.2)
  else (if x1 < 200 then ((stI q2.2 60 200 x1 q2.1).bind fun h3 =>
  some (1, h3))
  else (F_190_40 q2.2))))
abbrev F_190 (x1 : Int32) (x2 : Int32) (x3 : Int32) (h : sm_H) : Option (Int32 × sm_H) := F_190_0 x1 x2 x3 h
def F_192_130 (z0 : Int32) (h : sm_H) : Option (Int32 × sm_H) :=
  some (z0, h)
def F_192_112 (y4 : Int32) (y6 : Int32) (h : sm_H) : Option (Int32 × sm_H) :=
  if 0 ≤ y6 then (F_192_130 y6 h)
  else ((F_169 8 y4 h).bind fun q1 =>
  F_192_130 q1.1 q1.2)
def F_192_64B (s : (Int32 × Int32 × Int32 × Int32 × sm_H)) : Option ((Int32 × Int32 × Int32 × Int32 × sm_H) ⊕ (Int32 × sm_H)) :=
  if s.2.2.2.1 < 0 then ((F_192_112 s.2.1 s.2.2.1 s.2.2.2.2).map fun r => (.inr r))
  else (if s.2.2.1 < 0 then ((F_192_112 s.2.1 s.2.2.1 s.2.2.2.2).map fun r => (.inr r))
  else ((F_187 (s.1 + s.2.2.2.1) s.2.2.2.2).bind fun q2 =>
  (F_141 56 s.2.2.1 q2.1 q2.2).bind fun q3 =>
  (F_5 8 s.2.2.2.1 0 0 q3.1 q3.2).bind fun q4 =>
  (some (s.2.2.2.1 + (-1) : Int32)).bind fun v5 =>
  some (.inl (s.1, s.2.1, q4.1, v5, q4.2))))
def F_192_64 (y2 : Int32) (y4 : Int32) (y6 : Int32) (y7 : Int32) (h : sm_H) : Option (Int32 × sm_H) := lp F_192_64B 1000000 (y2, y4, y6, y7, h)
def F_192_0 (x1 : Int32) (x2 : Int32) (x3 : Int32) (x4 : Int32) (h : sm_H) : Option (Int32 × sm_H) :=
  if 0 ≤ x1 then ((F_44 x1 h).bind fun q6 =>
  (F_185 q6.1 x4 q6.2).bind fun q7 =>
  if q7.1 = (-1) then (some ((-1), q7.2))
  else ((F_140 56 x1 q7.2).bind fun q8 =>
  (F_5 4 x3 q7.1 0 q8.1 q8.2).bind fun q9 =>
  (some ((x3 - 1) : Int32)).bind fun v10 =>
  F_192_64 x2 x4 q9.1 v10 q9.2))
  else ((F_169 8 x4 h).bind fun q11 =>
  some (q11.1, q11.2))
abbrev F_192 (x1 : Int32) (x2 : Int32) (x3 : Int32) (x4 : Int32) (h : sm_H) : Option (Int32 × sm_H) := F_192_0 x1 x2 x3 x4 h
def F_195_131 (z0 : Int32) (h : sm_H) : Option (Int32 × sm_H) :=
  some (z0, h)
def F_195_23  (h : sm_H) : Option (Int32 × sm_H) :=
  (F_170 6 h).bind fun q1 =>
  some (q1.1, q1.2)
def F_195_0 (x1 : Int32) (h : sm_H) : Option (Int32 × sm_H) :=
  (F_248 h).bind fun q2 =>
  (F_181 q2.1 q2.2).bind fun q3 =>
  if q3.1 = (-1) then (F_195_23 q3.2)
  else (if q3.1 < 16 then ((ldI q3.2 59 16 q3.1).bind fun v4 =>
  (F_138 56 q3.2).bind fun q5 =>
  (F_5 2 v4 0 0 56 q5).bind fun q6 =>
  if 0 ≤ q6.1 then ((F_185 v4 x1 q6.2).bind fun q7 =>
  if q7.1 = (-1) then (some ((-1), q7.2))
  else ((F_141 56 q6.1 q3.1 q7.2).bind fun q8 =>
  (F_5 5 0 q7.1 0 q8.1 q8.2).bind fun q9 =>
  if 0 ≤ q9.1 then (F_195_131 q9.1 q9.2)
  else ((F_169 8 x1 q9.2).bind fun q10 =>
  F_195_131 q10.1 q10.2)))
  else ((F_169 8 x1 q6.2).bind fun q11 =>
  some (q11.1, q11.2)))
  else (F_195_23 q3.2))
abbrev F_195 (x1 : Int32) (h : sm_H) : Option (Int32 × sm_H) := F_195_0 x1 h
def F_205_188 (z0 : Int32) (h : sm_H) : Option (Int32 × sm_H) :=
  some (z0, h)
def F_205_109 (y1 : Int32) (y2 : Int32) (z1 : Int32) (z2 : Int32) (h : sm_H) : Option (Int32 × sm_H) :=
  (F_190 z1 z2 y2 h).bind fun q1 =>
  if q1.1 = 0 then (some ((-1), q1.2))
  else ((F_187 y1 q1.2).bind fun q2 =>
  (F_187 (y1 + 1) q2.2).bind fun q3 =>
  (F_141 56 q2.1 q3.1 q3.2).bind fun q4 =>
  (F_187 (y1 + 2) q4.2).bind fun q5 =>
  (F_139 56 q5.1 q5.2).bind fun q6 =>
  (F_5 14 0 0 0 56 q6.2).bind fun q7 =>
  if 0 ≤ q7.1 then (F_205_188 q7.1 q7.2)
  else ((F_169 8 y2 q7.2).bind fun q8 =>
  F_205_188 q8.1 q8.2))
def F_205_98 (y1 : Int32) (y2 : Int32) (y3 : Int32) (y4 : Int32) (y5 : Int32) (z1 : Int32) (h : sm_H) : Option (Int32 × sm_H) :=
  if y5 = 0 then (F_205_109 y1 y2 z1 y4 h)
  else (F_205_109 y1 y2 z1 y3 h)
def F_205_83 (y1 : Int32) (y2 : Int32) (y3 : Int32) (y4 : Int32) (y5 : Int32) (h : sm_H) : Option (Int32 × sm_H) :=
  if y5 = 0 then (F_205_98 y1 y2 y3 y4 y5 (y1 + 1) h)
  else (F_205_98 y1 y2 y3 y4 y5 (y1 + 2) h)
def F_205_54 (y1 : Int32) (y2 : Int32) (y3 : Int32) (y4 : Int32) (z0 : Int32) (h : sm_H) : Option (Int32 × sm_H) :=
  if z0 = 0 then ((F_64 y3 y4 0 h).bind fun q9 =>
  if q9.1 = 0 then ((F_169 7 y2 q9.2).bind fun q10 =>
  some (q10.1, q10.2))
  else (F_205_83 y1 y2 y3 y4 z0 q9.2))
  else (F_205_83 y1 y2 y3 y4 z0 h)
def F_205_49 (y1 : Int32) (y2 : Int32) (y3 : Int32) (y4 : Int32) (h : sm_H) : Option (Int32 × sm_H) :=
  F_205_54 y1 y2 y3 y4 1 h
def F_205_0 (x1 : Int32) (x2 : Int32) (h : sm_H) : Option (Int32 × sm_H) :=
  (F_190 x1 1 x2 h).bind fun q11 =>
  if q11.1 = 0 then (some ((-1), q11.2))
  else ((F_189 (x1 + 1) q11.2).bind fun q12 =>
  (F_189 (x1 + 2) q12.2).bind fun q13 =>
  if q12.1 = q13.1 then (F_205_49 x1 x2 q12.1 q13.1 q13.2)
  else ((F_64 q13.1 q12.1 0 q13.2).bind fun q14 =>
  if q14.1 = 0 then (F_205_54 x1 x2 q12.1 q13.1 0 q14.2)
  else (F_205_49 x1 x2 q12.1 q13.1 q14.2)))
abbrev F_205 (x1 : Int32) (x2 : Int32) (h : sm_H) : Option (Int32 × sm_H) := F_205_0 x1 x2 h
def F_206_40 (z0 : Int32) (h : sm_H) : Option (Int32 × sm_H) :=
  some (z0, h)
def F_206_0 (x1 : Int32) (x2 : Int32) (x3 : Int32) (h : sm_H) : Option (Int32 × sm_H) :=
  (F_141 56 x1 x2 h).bind fun q1 =>
  (F_5 8 0 0 0 q1.1 q1.2).bind fun q2 =>
  if 0 ≤ q2.1 then (F_206_40 q2.1 q2.2)
  else ((F_169 8 x3 q2.2).bind fun q3 =>
  F_206_40 q3.1 q3.2)
abbrev F_206 (x1 : Int32) (x2 : Int32) (x3 : Int32) (h : sm_H) : Option (Int32 × sm_H) := F_206_0 x1 x2 x3 h
def F_263_0 (x1 : Int32) (x2 : Int32) (x3 : Int32) (x4 : Int64) (h : sm_H) : Option (Int32 × sm_H) :=
  (F_5 x1 x2 x3 x4 64 h).bind fun q1 =>
  (F_264 q1.1 q1.2).bind fun q2 =>
  (F_138 64 q2.2).bind fun q3 =>
  some (q2.1, q3)
abbrev F_263 (x1 : Int32) (x2 : Int32) (x3 : Int32) (x4 : Int64) (h : sm_H) : Option (Int32 × sm_H) := F_263_0 x1 x2 x3 x4 h
def F_118_144 (y1 : Int32) (y2 : Int32) (y5 : Int32) (y6 : Int32) (h : sm_H) : Option (Int32 × sm_H) :=
  (F_124 y1 y2 y6 y5 h).bind fun q1 =>
  some (q1.1, q1.2)
def F_118_141  (h : sm_H) : Option (Int32 × sm_H) :=
  some ((-7), h)
def F_118_113 (y1 : Int32) (y2 : Int32) (y5 : Int32) (y6 : Int32) (h : sm_H) : Option (Int32 × sm_H) :=
  (F_123 y1 y6 h).bind fun q2 =>
  if q2.1 = 0 then (F_118_141 q2.2)
  else (if y5 = 2 then ((F_60 y1 y2 q2.2).bind fun q3 =>
  if q3.1 = 0 then (F_118_141 q3.2)
  else (F_118_144 y1 y2 y5 y6 q3.2))
  else (F_118_144 y1 y2 y5 y6 q2.2))
def F_118_66  (h : sm_H) : Option (Int32 × sm_H) :=
  some ((-2), h)
def F_118_56 (y1 : Int32) (y2 : Int32) (y3 : Int32) (y4 : Int32) (y5 : Int32) (h : sm_H) : Option (Int32 × sm_H) :=
  if y3 < 0 then (F_118_66 h)
  else (if y3 ≤ 99 then ((F_119 y2 y3 y4 y5 h).bind fun q4 =>
  if q4.1 = (-1) then (some ((-6), q4.2))
  else (if y5 = 8 then ((F_128 q4.1 q4.2).bind fun q5 =>
  (F_122 q5.1 q5.2).bind fun q6 =>
  if q6.1 = 0 then (some ((-3), q6.2))
  else (F_118_113 y1 y2 y5 q4.1 q6.2))
  else (F_118_113 y1 y2 y5 q4.1 q4.2)))
  else (F_118_66 h))
def F_118_34  (h : sm_H) : Option (Int32 × sm_H) :=
  some ((-1), h)
def F_118_0 (x1 : Int32) (x2 : Int32) (x3 : Int32) (x4 : Int32) (x5 : Int32) (h : sm_H) : Option (Int32 × sm_H) :=
  (F_55 x1 h).bind fun q7 =>
  if q7.1 = 0 then (F_118_34 q7.2)
  else ((F_55 x2 q7.2).bind fun q8 =>
  if q8.1 = 0 then (F_118_34 q8.2)
  else (if x5 < 0 then (F_118_34 q8.2)
  else (if x5 ≤ 8 then (if 4 ≤ x5 then (F_118_56 x1 x2 x3 x4 x5 q8.2)
  else ((F_224 x4 q8.2).bind fun q9 =>
  if q9.1 = 0 then (some ((-1), q9.2))
  else (F_118_56 x1 x2 x3 x4 x5 q9.2)))
  else (F_118_34 q8.2))))
abbrev F_118 (x1 : Int32) (x2 : Int32) (x3 : Int32) (x4 : Int32) (x5 : Int32) (h : sm_H) : Option (Int32 × sm_H) := F_118_0 x1 x2 x3 x4 x5 h
def F_191_0 (x1 : Int32) (x2 : Int32) (x3 : Int32) (x4 : Int32) (x5 : Int32) (x6 : Int32) (h : sm_H) : Option (Int32 × sm_H) :=
  (F_138 56 h).bind fun q1 =>
  (F_5 x1 x2 x3 (-1) 56 q1).bind fun q2 =>
  (F_192 q2.1 x4 x5 x6 q2.2).bind fun q3 =>
  some (q3.1, q3.2)
abbrev F_191 (x1 : Int32) (x2 : Int32) (x3 : Int32) (x4 : Int32) (x5 : Int32) (x6 : Int32) (h : sm_H) : Option (Int32 × sm_H) := F_191_0 x1 x2 x3 x4 x5 x6 h
def F_202_505 (z0 : Int32) (h : sm_H) : Option (Int32 × sm_H) :=
  some (z0, h)
def F_202_482 (y2 : Int32) (y3 : Int32) (y4 : Int32) (y8 : Int32) (z0 : Int32) (h : sm_H) : Option (Int32 × sm_H) :=
  if z0 = 0 then (F_202_505 (-1) h)
  else ((F_191 3 y2 y8 y3 2 y4 h).bind fun q1 =>
  F_202_505 q1.1 q1.2)
def F_202_481 (y2 : Int32) (y3 : Int32) (y4 : Int32) (y8 : Int32) (h : sm_H) : Option (Int32 × sm_H) :=
  F_202_482 y2 y3 y4 y8 0 h
def F_202_449 (y2 : Int32) (y3 : Int32) (y4 : Int32) (z0 : Int32) (h : sm_H) : Option (Int32 × sm_H) :=
  (F_190 y3 z0 y4 h).bind fun q2 =>
  if q2.1 = 0 then (F_202_481 y2 y3 y4 z0 q2.2)
  else ((F_190 (y3 + 1) z0 y4 q2.2).bind fun q3 =>
  if q3.1 = 0 then (F_202_481 y2 y3 y4 z0 q3.2)
  else (F_202_482 y2 y3 y4 z0 1 q3.2))
def F_202_443 (y2 : Int32) (y3 : Int32) (y4 : Int32) (h : sm_H) : Option (Int32 × sm_H) :=
  F_202_449 y2 y3 y4 6 h
def F_202_420 (y2 : Int32) (y3 : Int32) (y4 : Int32) (y5 : Int32) (h : sm_H) : Option (Int32 × sm_H) :=
  (F_204 y5 h).bind fun q4 =>
  if q4.1 = 0 then ((F_189 (y3 + 1) q4.2).bind fun q5 =>
  (F_204 q5.1 q5.2).bind fun q6 =>
  if q6.1 = 0 then (F_202_449 y2 y3 y4 5 q6.2)
  else (F_202_443 y2 y3 y4 q6.2))
  else (F_202_443 y2 y3 y4 q4.2)
def F_202_419 (z0 : Int32) (h : sm_H) : Option (Int32 × sm_H) :=
  some (z0, h)
def F_202_376 (z0 : Int32) (h : sm_H) : Option (Int32 × sm_H) :=
  some (z0, h)
def F_202_353 (y3 : Int32) (y4 : Int32) (z0 : Int32) (h : sm_H) : Option (Int32 × sm_H) :=
  if z0 = 0 then (F_202_376 (-1) h)
  else ((F_191 32 0 0 y3 2 y4 h).bind fun q7 =>
  F_202_376 q7.1 q7.2)
def F_202_352 (y3 : Int32) (y4 : Int32) (h : sm_H) : Option (Int32 × sm_H) :=
  F_202_353 y3 y4 0 h
def F_202_321 (z0 : Int32) (h : sm_H) : Option (Int32 × sm_H) :=
  some (z0, h)
def F_202_292 (z0 : Int32) (h : sm_H) : Option (Int32 × sm_H) :=
  some (z0, h)
def F_202_268 (y3 : Int32) (y4 : Int32) (y5 : Int32) (z0 : Int32) (h : sm_H) : Option (Int32 × sm_H) :=
  if z0 = 0 then (F_202_292 (-1) h)
  else ((F_191 23 y5 0 y3 3 y4 h).bind fun q8 =>
  F_202_292 q8.1 q8.2)
def F_202_267 (y3 : Int32) (y4 : Int32) (y5 : Int32) (h : sm_H) : Option (Int32 × sm_H) :=
  F_202_268 y3 y4 y5 0 h
def F_202_228 (z0 : Int32) (h : sm_H) : Option (Int32 × sm_H) :=
  some (z0, h)
def F_202_183 (z0 : Int32) (h : sm_H) : Option (Int32 × sm_H) :=
  some (z0, h)
def F_202_113 (z0 : Int32) (h : sm_H) : Option (Int32 × sm_H) :=
  some (z0, h)
def F_202_0 (x1 : Int32) (x2 : Int32) (x3 : Int32) (x4 : Int32) (h : sm_H) : Option (Int32 × sm_H) :=
  (F_189 x3 h).bind fun q9 =>
  if x1 = 2 then ((F_190 x3 0 x4 q9.2).bind fun q10 =>
  if q10.1 = 0 then (F_202_113 (-1) q10.2)
  else ((F_187 (x3 + 1) q10.2).bind fun q11 =>
  (F_187 x3 q11.2).bind fun q12 =>
  (F_206 q11.1 q12.1 x4 q12.2).bind fun q13 =>
  F_202_113 q13.1 q13.2))
  else (if x1 = 5 then ((F_187 x3 q9.2).bind fun q14 =>
  (F_186 12 q14.1 x2 x4 q14.2).bind fun q15 =>
  some (q15.1, q15.2))
  else (if x1 = 6 then ((F_187 x3 q9.2).bind fun q16 =>
  (F_186 13 q16.1 x2 x4 q16.2).bind fun q17 =>
  some (q17.1, q17.2))
  else (if x1 = 7 then ((F_191 0 x2 0 x3 0 x4 q9.2).bind fun q18 =>
  some (q18.1, q18.2))
  else (if x1 = 8 then ((F_190 x3 5 x4 q9.2).bind fun q19 =>
  if q19.1 = 0 then (F_202_183 (-1) q19.2)
  else ((F_191 20 x2 0 x3 1 x4 q19.2).bind fun q20 =>
  F_202_183 q20.1 q20.2))
  else (if x1 = 9 then ((F_191 21 q9.1 0 x3 1 x4 q9.2).bind fun q21 =>
  some (q21.1, q21.2))
  else (if x1 = 10 then ((F_190 (x3 + 1) 5 x4 q9.2).bind fun q22 =>
  if q22.1 = 0 then (F_202_228 (-1) q22.2)
  else ((F_191 22 q9.1 0 x3 2 x4 q22.2).bind fun q23 =>
  F_202_228 q23.1 q23.2))
  else (if x1 = 11 then ((F_190 (x3 + 1) 5 x4 q9.2).bind fun q24 =>
  if q24.1 = 0 then (F_202_267 x3 x4 q9.1 q24.2)
  else ((F_63 q9.1 q24.2).bind fun q25 =>
  (F_190 (x3 + 2) q25.1 x4 q25.2).bind fun q26 =>
  if q26.1 = 0 then (F_202_267 x3 x4 q9.1 q26.2)
  else (F_202_268 x3 x4 q9.1 1 q26.2)))
  else (if x1 = 12 then ((F_190 x3 7 x4 q9.2).bind fun q27 =>
  if q27.1 = 0 then (F_202_321 (-1) q27.2)
  else ((F_191 31 x2 0 x3 1 x4 q27.2).bind fun q28 =>
  F_202_321 q28.1 q28.2))
  else (if x1 = 13 then ((F_190 x3 7 x4 q9.2).bind fun q29 =>
  if q29.1 = 0 then (F_202_352 x3 x4 q29.2)
  else ((F_190 (x3 + 1) 7 x4 q29.2).bind fun q30 =>
  if q30.1 = 0 then (F_202_352 x3 x4 q30.2)
  else (F_202_353 x3 x4 1 q30.2)))
  else (if x1 = 14 then ((F_191 19 x2 q9.1 x3 1 x4 q9.2).bind fun q31 =>
  some (q31.1, q31.2))
  else (if x1 = 15 then ((F_190 x3 19 x4 q9.2).bind fun q32 =>
  if q32.1 = 0 then (F_202_419 (-1) q32.2)
  else ((F_191 33 0 0 x3 1 x4 q32.2).bind fun q33 =>
  F_202_419 q33.1 q33.2))
  else (F_202_420 x2 x3 x4 q9.1 q9.2))))))))))))
abbrev F_202 (x1 : Int32) (x2 : Int32) (x3 : Int32) (x4 : Int32) (h : sm_H) : Option (Int32 × sm_H) := F_202_0 x1 x2 x3 x4 h
def F_269_0 (x1 : Int32) (x2 : Int32) (x3 : Int32) (x4 : Int32) (x5 : Int32) (h : sm_H) : Option (Int32 × sm_H) :=
  (F_118 x1 x2 x3 x4 x5 h).bind fun q1 =>
  (F_264 q1.1 q1.2).bind fun q2 =>
  some (q2.1, q2.2)
abbrev F_269 (x1 : Int32) (x2 : Int32) (x3 : Int32) (x4 : Int32) (x5 : Int32) (h : sm_H) : Option (Int32 × sm_H) := F_269_0 x1 x2 x3 x4 x5 h
def F_85_145 (rec : Int32 → Int32 → sm_H → Option (Int32 × sm_H)) (y2 : Int32) (y3 : Int32) (y5 : Int32) (y8 : Int32) (z0 : Int32) (h : sm_H) : Option (Int32 × sm_H) :=
  (F_45 y3 h).bind fun q1 =>
  (F_80 y2 z0 (y5 + y8) ((q1.1 - y5) - y8) q1.2).bind fun q2 =>
  (rec y3 (y2 + 1) q2).bind fun q3 =>
  some (q3.1, q3.2)
def F_85_122 (rec : Int32 → Int32 → sm_H → Option (Int32 × sm_H)) (y1 : Int32) (y2 : Int32) (y3 : Int32) (y5 : Int32) (y6 : Int32) (y8 : Int32) (h : sm_H) : Option (Int32 × sm_H) :=
  (F_37 y1 h).bind fun q4 =>
  if q4.1 = 8 then (F_85_145 rec  y2 y3 y5 y8 y5 q4.2)
  else (F_85_145 rec  y2 y3 y5 y8 (y5 + y6) q4.2)
def F_85_88 (rec : Int32 → Int32 → sm_H → Option (Int32 × sm_H)) (y1 : Int32) (y2 : Int32) (y3 : Int32) (y5 : Int32) (y6 : Int32) (z0 : Int32) (h : sm_H) : Option (Int32 × sm_H) :=
  (F_80 y2 0 0 y5 h).bind fun q5 =>
  if z0 = 1 then ((F_79 (y2 + 1) y5 (q5.2.1 49 9) (q5.1 49 10) q5).bind fun q6 =>
  F_85_122 rec  y1 y2 y3 y5 y6 z0 q6)
  else (F_85_122 rec  y1 y2 y3 y5 y6 z0 q5)
def F_85_0 (rec : Int32 → Int32 → sm_H → Option (Int32 × sm_H)) (x1 : Int32) (x2 : Int32) (h : sm_H) : Option (Int32 × sm_H) :=
  (F_43 x1 0 h).bind fun q7 =>
  (F_43 x1 1 q7.2).bind fun q8 =>
  (F_38 x1 q8.2).bind fun q9 =>
  (F_45 q8.1 q9.2).bind fun q10 =>
  (F_80 x2 q9.1 0 q10.1 q10.2).bind fun q11 =>
  (rec q8.1 (x2 + 1) q11).bind fun q12 =>
  if q12.1 = 0 then ((F_44 q8.1 q12.2).bind fun q13 =>
  if q13.1 = 0 then (F_85_88 rec  x1 x2 q7.1 q9.1 q10.1 0 q13.2)
  else (F_85_88 rec  x1 x2 q7.1 q9.1 q10.1 1 q13.2))
  else (some (q12.1, q12.2))
abbrev F_85 (rec : Int32 → Int32 → sm_H → Option (Int32 × sm_H)) (x1 : Int32) (x2 : Int32) (h : sm_H) : Option (Int32 × sm_H) := F_85_0 rec x1 x2 h
def F_86_0 (rec : Int32 → Int32 → sm_H → Option (Int32 × sm_H)) (x1 : Int32) (x2 : Int32) (h : sm_H) : Option (Int32 × sm_H) :=
  (F_43 x1 0 h).bind fun q1 =>
  (F_81 x2 q1.1 q1.2).bind fun q2 =>
  (rec q1.1 (x2 + 1) q2).bind fun q3 =>
  if q3.1 = 0 then ((F_79 (x2 + 1) 0 (q3.2.2.1 49 9) (q3.2.1 49 10) q3.2).bind fun q4 =>
  (F_43 x1 1 q4).bind fun q5 =>
  (rec q5.1 (x2 + 1) q5.2).bind fun q6 =>
  some (q6.1, q6.2))
  else (some (q3.1, q3.2))
abbrev F_86 (rec : Int32 → Int32 → sm_H → Option (Int32 × sm_H)) (x1 : Int32) (x2 : Int32) (h : sm_H) : Option (Int32 × sm_H) := F_86_0 rec x1 x2 h
def F_92_53 (rec : Int32 → Int32 → sm_H → Option (Int32 × sm_H)) (y2 : Int32) (z1 : Int32) (z2 : Int32) (h : sm_H) : Option (Int32 × sm_H) :=
  (F_43 z1 z2 h).bind fun q1 =>
  (F_81 y2 q1.1 q1.2).bind fun q2 =>
  (rec q1.1 (y2 + 1) q2).bind fun q3 =>
  some (q3.1, q3.2)
def F_92_0 (rec : Int32 → Int32 → sm_H → Option (Int32 × sm_H)) (x1 : Int32) (x2 : Int32) (h : sm_H) : Option (Int32 × sm_H) :=
  (F_43 x1 0 h).bind fun q4 =>
  (F_81 x2 q4.1 q4.2).bind fun q5 =>
  (rec q4.1 (x2 + 1) q5).bind fun q6 =>
  if q6.1 = 0 then (if (lg_cmp (q6.2.2.1 49 9) 1) = 0 then (F_92_53 rec  x2 x1 1 q6.2)
  else (F_92_53 rec  x2 x1 2 q6.2))
  else (some (q6.1, q6.2))
abbrev F_92 (rec : Int32 → Int32 → sm_H → Option (Int32 × sm_H)) (x1 : Int32) (x2 : Int32) (h : sm_H) : Option (Int32 × sm_H) := F_92_0 rec x1 x2 h
def F_93_65 (rec : Int32 → Int32 → sm_H → Option (Int32 × sm_H)) (y5 : Int32) (h : sm_H) : Option (Int32 × sm_H) :=
  some (y5, h)
def F_93_0 (rec : Int32 → Int32 → sm_H → Option (Int32 × sm_H)) (x1 : Int32) (x2 : Int32) (h : sm_H) : Option (Int32 × sm_H) :=
  (F_43 x1 0 h).bind fun q1 =>
  (F_43 x1 1 q1.2).bind fun q2 =>
  (F_81 x2 q1.1 q2.2).bind fun q3 =>
  (rec q1.1 (x2 + 1) q3).bind fun q4 =>
  if q4.1 = 1 then ((F_38 x1 q4.2).bind fun q5 =>
  (F_60 (q4.2.1 49 10) q5.1 q5.2).bind fun q6 =>
  if q6.1 = 0 then (F_93_65 rec  q4.1 q6.2)
  else ((F_79 (x2 + 1) 0 (q6.2.2.1 49 9) (q6.2.1 49 10) q6.2).bind fun q7 =>
  (F_45 q2.1 q7).bind fun q8 =>
  (F_80 x2 0 1 (q8.1 - 1) q8.2).bind fun q9 =>
  (rec q2.1 (x2 + 1) q9).bind fun q10 =>
  some (q10.1, q10.2)))
  else (F_93_65 rec  q4.1 q4.2)
abbrev F_93 (rec : Int32 → Int32 → sm_H → Option (Int32 × sm_H)) (x1 : Int32) (x2 : Int32) (h : sm_H) : Option (Int32 × sm_H) := F_93_0 rec x1 x2 h
def F_94_209 (rec : Int32 → Int32 → sm_H → Option (Int32 × sm_H)) (y11 : Int32) (h : sm_H) : Option (Int32 × sm_H) :=
  some (y11, h)
def F_94_157 (rec : Int32 → Int32 → sm_H → Option (Int32 × sm_H)) (y2 : Int32) (y4 : Int32) (y6 : Int32) (y7 : Int64) (y9 : Int32) (y10 : Int32) (h : sm_H) : Option (Int32 × sm_H) :=
  (F_45 y4 h).bind fun q1 =>
  (F_80 y2 0 y10 (q1.1 - y10) q1.2).bind fun q2 =>
  (rec y4 (y2 + 1) q2).bind fun q3 =>
  if y6 = 0 then (F_94_209 rec  q3.1 q3.2)
  else (if q3.1 = 0 then ((F_75 y7 y9 q3.2).bind fun q4 =>
  some (1, q4.2))
  else (F_94_209 rec  q3.1 q3.2))
def F_94_151 (rec : Int32 → Int32 → sm_H → Option (Int32 × sm_H)) (y2 : Int32) (y4 : Int32) (y6 : Int32) (y7 : Int64) (y9 : Int32) (z1 : Int32) (z2 : Int32) (z3 : Int64) (z4 : Int32) (h : sm_H) : Option (Int32 × sm_H) :=
  (F_79 z1 z2 z3 z4 h).bind fun q5 =>
  F_94_157 rec  y2 y4 y6 y7 y9 2 q5
def F_94_138 (rec : Int32 → Int32 → sm_H → Option (Int32 × sm_H)) (y2 : Int32) (y4 : Int32) (y6 : Int32) (y7 : Int64) (y9 : Int32) (z1 : Int32) (z2 : Int32) (z3 : Int64) (h : sm_H) : Option (Int32 × sm_H) :=
  if y6 = 0 then (F_94_151 rec  y2 y4 y6 y7 y9 z1 z2 z3 (h.1 49 10) h)
  else (F_94_151 rec  y2 y4 y6 y7 y9 z1 z2 z3 0 h)
def F_94_92 (rec : Int32 → Int32 → sm_H → Option (Int32 × sm_H)) (y2 : Int32) (y3 : Int32) (y4 : Int32) (y6 : Int32) (y7 : Int64) (z0 : Int32) (h : sm_H) : Option (Int32 × sm_H) :=
  (F_79 (y2 + 1) 0 y7 z0 h).bind fun q6 =>
  (F_44 y3 q6).bind fun q7 =>
  if q7.1 = 0 then (F_94_157 rec  y2 y4 y6 y7 z0 1 q7.2)
  else (if y6 = 0 then (F_94_138 rec  y2 y4 y6 y7 z0 (y2 + 1) 1 (q7.2.2.1 49 9) q7.2)
  else (F_94_138 rec  y2 y4 y6 y7 z0 (y2 + 1) 1 0 q7.2))
def F_94_77 (rec : Int32 → Int32 → sm_H → Option (Int32 × sm_H)) (y2 : Int32) (y3 : Int32) (y4 : Int32) (y6 : Int32) (z0 : Int64) (h : sm_H) : Option (Int32 × sm_H) :=
  if y6 = 0 then (F_94_92 rec  y2 y3 y4 y6 z0 0 h)
  else (F_94_92 rec  y2 y3 y4 y6 z0 (h.1 49 10) h)
def F_94_62 (rec : Int32 → Int32 → sm_H → Option (Int32 × sm_H)) (y2 : Int32) (y3 : Int32) (y4 : Int32) (z0 : Int32) (h : sm_H) : Option (Int32 × sm_H) :=
  if z0 = 0 then (F_94_77 rec  y2 y3 y4 z0 0 h)
  else (F_94_77 rec  y2 y3 y4 z0 (h.2.1 49 9) h)
def F_94_51 (rec : Int32 → Int32 → sm_H → Option (Int32 × sm_H)) (y2 : Int32) (y3 : Int32) (y4 : Int32) (y5 : Int32) (h : sm_H) : Option (Int32 × sm_H) :=
  if y5 = 1 then (F_94_62 rec  y2 y3 y4 1 h)
  else (F_94_62 rec  y2 y3 y4 0 h)
def F_94_0 (rec : Int32 → Int32 → sm_H → Option (Int32 × sm_H)) (x1 : Int32) (x2 : Int32) (h : sm_H) : Option (Int32 × sm_H) :=
  (F_43 x1 0 h).bind fun q8 =>
  (F_43 x1 1 q8.2).bind fun q9 =>
  (F_81 x2 q8.1 q9.2).bind fun q10 =>
  (rec q8.1 (x2 + 1) q10).bind fun q11 =>
  if q11.1 = 0 then (F_94_51 rec  x2 q8.1 q9.1 q11.1 q11.2)
  else (if q11.1 = 1 then (F_94_51 rec  x2 q8.1 q9.1 q11.1 q11.2)
  else (some (q11.1, q11.2)))
abbrev F_94 (rec : Int32 → Int32 → sm_H → Option (Int32 × sm_H)) (x1 : Int32) (x2 : Int32) (h : sm_H) : Option (Int32 × sm_H) := F_94_0 rec x1 x2 h
def F_95_113 (rec : Int32 → Int32 → sm_H → Option (Int32 × sm_H)) (y1 : Int32) (y2 : Int32) (y3 : Int32) (y4 : Int32) (h : sm_H) : Option ((Int32 × Int32 × Int32 × Int32 × sm_H) ⊕ (Int32 × sm_H)) :=
  (some (y4 + 4 : Int32)).bind fun v1 =>
  some (.inl (y1, y2, y3, v1, h))
def F_95_69 (rec : Int32 → Int32 → sm_H → Option (Int32 × sm_H)) (y1 : Int32) (y2 : Int32) (y3 : Int32) (y4 : Int32) (y5 : Int32) (h : sm_H) : Option ((Int32 × Int32 × Int32 × Int32 × sm_H) ⊕ (Int32 × sm_H)) :=
  (F_43 y1 (y4 + 1) h).bind fun q2 =>
  (F_47 y5 q2.1 q2.2).bind fun q3 =>
  if q3.1 = 0 then (F_95_113 rec  y1 y2 y3 y4 q3.2)
  else ((F_79 y2 (10 + y3) (q3.2.2.1 49 9) (q3.2.1 49 10) q3.2).bind fun q4 =>
  (some (y3 + 1 : Int32)).bind fun v5 =>
  F_95_113 rec  y1 y2 v5 y4 q4)
def F_95_5B (rec : Int32 → Int32 → sm_H → Option (Int32 × sm_H)) (s : (Int32 × Int32 × Int32 × Int32 × sm_H)) : Option ((Int32 × Int32 × Int32 × Int32 × sm_H) ⊕ (Int32 × sm_H)) :=
  (F_42 s.1 s.2.2.2.2).bind fun q6 =>
  if q6.1 ≤ s.2.2.2.1 then (some (.inr (0, q6.2)))
  else ((F_43 s.1 s.2.2.2.1 q6.2).bind fun q7 =>
  (F_75 0 0 q7.2).bind fun q8 =>
  if q7.1 = (-1) then (F_95_69 rec  s.1 s.2.1 s.2.2.1 s.2.2.2.1 q7.1 q8.2)
  else ((F_81 s.2.1 q7.1 q8.2).bind fun q9 =>
  (rec q7.1 (s.2.1 + 1) q9).bind fun q10 =>
  if q10.1 = 0 then (F_95_69 rec  s.1 s.2.1 s.2.2.1 s.2.2.2.1 q7.1 q10.2)
  else (some (.inr (q10.1, q10.2)))))
def F_95_5 (rec : Int32 → Int32 → sm_H → Option (Int32 × sm_H)) (y1 : Int32) (y2 : Int32) (y3 : Int32) (y4 : Int32) (h : sm_H) : Option (Int32 × sm_H) := lp (F_95_5B rec ) 1000000 (y1, y2, y3, y4, h)
def F_95_0 (rec : Int32 → Int32 → sm_H → Option (Int32 × sm_H)) (x1 : Int32) (x2 : Int32) (h : sm_H) : Option (Int32 × sm_H) :=
  F_95_5 rec  x1 x2 0 0 h
abbrev F_95 (rec : Int32 → Int32 → sm_H → Option (Int32 × sm_H)) (x1 : Int32) (x2 : Int32) (h : sm_H) : Option (Int32 × sm_H) := F_95_0 rec x1 x2 h
def F_215_0 (o : Nat) (x1 : Int32) (h : sm_H) : Option (sm_H) :=
  (some ((if x1 < 0 then 0 else x1) : Int32)).bind fun v1 =>
  if v1 < 0 then none else (
  (some (131 + h.2.2.2.2.2.1)).bind fun b2 =>
  (some (sm_mk G0 h 101 (Int32.toNatClampNeg v1))).bind fun h3 =>
  if sm_is G0 h3 o 8 = true ∧ G0.2.2.2.1 o 0 = none then ((some (sm_wR h3 o 0 (some b2))).bind fun h5 =>
  if v1 < 0 then none else (
  (some (131 + h5.2.2.2.2.2.1)).bind fun b6 =>
  (some (sm_mk G0 h5 100 (Int32.toNatClampNeg v1))).bind fun h7 =>
  if sm_is G0 h7 o 8 = true ∧ G0.2.2.2.1 o 1 = none then ((some (sm_wR h7 o 1 (some b6))).bind fun h9 =>
  some h9) else none)) else none)
abbrev F_215 (o : Nat) (x1 : Int32) (h : sm_H) : Option (sm_H) := F_215_0 o x1 h
def F_87_161 (rec : Int32 → Int32 → sm_H → Option (Int32 × sm_H)) (y2 : Int32) (y3 : Int32) (h : sm_H) : Option (Int32 × sm_H) :=
  (rec y3 (y2 + 1) h).bind fun q1 =>
  some (q1.1, q1.2)
def F_87_115B (rec : Int32 → Int32 → sm_H → Option (Int32 × sm_H)) (s : (Int32 × Int32 × Int32 × Int32 × Nat × Int32 × sm_H)) : Option ((Int32 × Int32 × Int32 × Int32 × Nat × Int32 × sm_H) ⊕ (Int32 × sm_H)) :=
  if s.2.2.1 ≤ s.2.2.2.2.2.1 then ((F_87_161 rec  s.1 s.2.1 s.2.2.2.2.2.2).map fun r => (.inr r))
  else (if 10 ≤ s.2.2.2.2.2.1 then ((F_87_161 rec  s.1 s.2.1 s.2.2.2.2.2.2).map fun r => (.inr r))
  else (if ¬ (sm_is G0 s.2.2.2.2.2.2 s.2.2.2.2.1 8 = true) then none else (F_218 s.2.2.2.2.1 s.2.2.2.2.2.1 s.2.2.2.2.2.2).bind fun q2 =>
  if ¬ (sm_is G0 q2.2 s.2.2.2.2.1 8 = true) then none else (F_219 s.2.2.2.2.1 s.2.2.2.2.2.1 q2.2).bind fun q4 =>
  (F_79 (s.1 + 1) (s.2.2.2.1 + s.2.2.2.2.2.1) q2.1 q4.1 q4.2).bind fun q6 =>
  (some (s.2.2.2.2.2.1 + 1 : Int32)).bind fun v7 =>
  some (.inl (s.1, s.2.1, s.2.2.1, s.2.2.2.1, s.2.2.2.2.1, v7, q6))))
def F_87_115 (rec : Int32 → Int32 → sm_H → Option (Int32 × sm_H)) (y2 : Int32) (y3 : Int32) (y4 : Int32) (y5 : Int32) (y6 : Nat) (y7 : Int32) (h : sm_H) : Option (Int32 × sm_H) := lp (F_87_115B rec ) 1000000 (y2, y3, y4, y5, y6, y7, h)
def F_87_81 (rec : Int32 → Int32 → sm_H → Option (Int32 × sm_H)) (y2 : Int32) (y3 : Int32) (y4 : Int32) (y5 : Int32) (z1 : Int64) (h : sm_H) : Option (Int32 × sm_H) :=
  (F_147 z1 h).bind fun q8 =>
  if ¬ (sm_is G0 q8.2 q8.1 8 = true) then none else (F_216 q8.1 q8.2).bind fun q9 =>
  if q9.1 = y4 then ((F_80 y2 0 0 y5 q9.2).bind fun q11 =>
  F_87_115 rec  y2 y3 y4 y5 q8.1 0 q11)
  else ((F_76 7 q9.2).bind fun q12 =>
  some (q12.1, q12.2))
def F_87_54 (rec : Int32 → Int32 → sm_H → Option (Int32 × sm_H)) (y2 : Int32) (y3 : Int32) (y4 : Int32) (y5 : Int32) (h : sm_H) : Option (Int32 × sm_H) :=
  (F_78 y2 y5 h).bind fun q13 =>
  if q13.1 = 0 then (F_87_81 rec  y2 y3 y4 y5 (-1) q13.2)
  else ((F_77 y2 y5 q13.2).bind fun q14 =>
  F_87_81 rec  y2 y3 y4 y5 q14.1 q14.2)
def F_87_0 (rec : Int32 → Int32 → sm_H → Option (Int32 × sm_H)) (x1 : Int32) (x2 : Int32) (h : sm_H) : Option (Int32 × sm_H) :=
  (F_43 x1 0 h).bind fun q15 =>
  (F_39 x1 q15.2).bind fun q16 =>
  (F_45 q15.1 q16.2).bind fun q17 =>
  (some ((q17.1 - q16.1) : Int32)).bind fun v18 =>
  (F_78 x2 v18 q17.2).bind fun q19 =>
  if q19.1 = 0 then (if q16.1 = 0 then (F_87_54 rec  x2 q15.1 q16.1 v18 q19.2)
  else ((F_76 1 q19.2).bind fun q20 =>
  some (q20.1, q20.2)))
  else (F_87_54 rec  x2 q15.1 q16.1 v18 q19.2)
abbrev F_87 (rec : Int32 → Int32 → sm_H → Option (Int32 × sm_H)) (x1 : Int32) (x2 : Int32) (h : sm_H) : Option (Int32 × sm_H) := F_87_0 rec x1 x2 h
def F_96_255 (rec : Int32 → Int32 → sm_H → Option (Int32 × sm_H)) (y1 : Int32) (y2 : Int32) (y3 : Int32) (y4 : Int32) (y5 : Int32) (y6 : Int32) (h : sm_H) : Option ((Int32 × Int32 × Int32 × Int32 × Int32 × Int32 × sm_H) ⊕ ((Int32 × Int32 × Int32 × Int32 × sm_H) ⊕ (Int32 × sm_H))) :=
  (some (y6 + 4 : Int32)).bind fun v1 =>
  some (.inl (y1, y2, y3, y4, y5, v1, h))
def F_96_254 (rec : Int32 → Int32 → sm_H → Option (Int32 × sm_H)) (z0 : Int32) (h : sm_H) : Option (Int32 × sm_H) :=
  some (z0, h)
def F_96_161 (rec : Int32 → Int32 → sm_H → Option (Int32 × sm_H)) (y1 : Int32) (y2 : Int32) (y3 : Int32) (y4 : Int32) (y6 : Int32) (y8 : Int32) (z0 : Int32) (z1 : Int32) (h : sm_H) : Option ((Int32 × Int32 × Int32 × Int32 × Int32 × Int32 × sm_H) ⊕ ((Int32 × Int32 × Int32 × Int32 × sm_H) ⊕ (Int32 × sm_H))) :=
  (some ((z0 + z1) : Int32)).bind fun v2 =>
  if y8 = (-1) then (F_96_255 rec  y1 y2 y3 y4 v2 y6 h)
  else ((F_98 y8 y3 y2 h).bind fun q3 =>
  (rec y8 (y2 + 1) q3).bind fun q4 =>
  if q4.1 = 0 then (if (lg_cmp (q4.2.2.1 49 9) 0) = 0 then ((F_43 y1 (y6 + 3) q4.2).bind fun q5 =>
  (F_75 0 0 q5.2).bind fun q6 =>
  (F_98 q5.1 y3 y2 q6.2).bind fun q7 =>
  if q5.1 = (-1) then ((F_96_254 rec  0 q7).map fun r => (.inr (.inr r)))
  else ((rec q5.1 (y2 + 1) q7).bind fun q8 =>
  (F_96_254 rec  q8.1 q8.2).map fun r => (.inr (.inr r))))
  else (F_96_255 rec  y1 y2 y3 y4 v2 y6 q4.2))
  else (some (.inr (.inr (q4.1, q4.2)))))
def F_96_149 (rec : Int32 → Int32 → sm_H → Option (Int32 × sm_H)) (y1 : Int32) (y2 : Int32) (y3 : Int32) (y4 : Int32) (y5 : Int32) (y6 : Int32) (y8 : Int32) (y9 : Int32) (h : sm_H) : Option ((Int32 × Int32 × Int32 × Int32 × Int32 × Int32 × sm_H) ⊕ ((Int32 × Int32 × Int32 × Int32 × sm_H) ⊕ (Int32 × sm_H))) :=
  if y9 = 0 then (F_96_161 rec  y1 y2 y3 y4 y6 y8 y5 0 h)
  else (F_96_161 rec  y1 y2 y3 y4 y6 y8 y5 1 h)
def F_96_91 (rec : Int32 → Int32 → sm_H → Option (Int32 × sm_H)) (y1 : Int32) (y2 : Int32) (y3 : Int32) (y4 : Int32) (y5 : Int32) (y6 : Int32) (y7 : Int32) (y8 : Int32) (z0 : Int32) (h : sm_H) : Option ((Int32 × Int32 × Int32 × Int32 × Int32 × Int32 × sm_H) ⊕ ((Int32 × Int32 × Int32 × Int32 × sm_H) ⊕ (Int32 × sm_H))) :=
  if y7 = (-1) then (F_96_149 rec  y1 y2 y3 y4 y5 y6 y8 z0 h)
  else ((F_98 y7 y3 y2 h).bind fun q9 =>
  (rec y7 (y2 + 1) q9).bind fun q10 =>
  if q10.1 = 0 then (if z0 = 0 then (F_96_149 rec  y1 y2 y3 y4 y5 y6 y8 z0 q10.2)
  else ((F_79 y2 (10 + y5) (q10.2.2.1 49 9) (q10.2.1 49 10) q10.2).bind fun q11 =>
  F_96_149 rec  y1 y2 y3 y4 y5 y6 y8 z0 q11))
  else (some (.inr (.inr (q10.1, q10.2)))))
def F_96_23B (rec : Int32 → Int32 → sm_H → Option (Int32 × sm_H)) (s : (Int32 × Int32 × Int32 × Int32 × Int32 × Int32 × sm_H)) : Option ((Int32 × Int32 × Int32 × Int32 × Int32 × Int32 × sm_H) ⊕ ((Int32 × Int32 × Int32 × Int32 × sm_H) ⊕ (Int32 × sm_H))) :=
  (F_42 s.1 s.2.2.2.2.2.2).bind fun q12 =>
  if q12.1 ≤ s.2.2.2.2.2.1 then ((some (s.2.2.2.1 + 1 : Int32)).bind fun v13 =>
  some (.inr (.inl (s.1, s.2.1, s.2.2.1, v13, q12.2))))
  else ((F_43 s.1 (s.2.2.2.2.2.1 + 1) q12.2).bind fun q14 =>
  (F_43 s.1 (s.2.2.2.2.2.1 + 2) q14.2).bind fun q15 =>
  (F_43 s.1 s.2.2.2.2.2.1 q15.2).bind fun q16 =>
  (F_47 q16.1 q14.1 q16.2).bind fun q17 =>
  if q17.1 = 0 then (F_96_91 rec  s.1 s.2.1 s.2.2.1 s.2.2.2.1 s.2.2.2.2.1 s.2.2.2.2.2.1 q14.1 q15.1 0 q17.2)
  else (F_96_91 rec  s.1 s.2.1 s.2.2.1 s.2.2.2.1 s.2.2.2.2.1 s.2.2.2.2.2.1 q14.1 q15.1 1 q17.2))
def F_96_23 (rec : Int32 → Int32 → sm_H → Option (Int32 × sm_H)) (y1 : Int32) (y2 : Int32) (y3 : Int32) (y4 : Int32) (y5 : Int32) (y6 : Int32) (h : sm_H) : Option ((Int32 × Int32 × Int32 × Int32 × sm_H) ⊕ (Int32 × sm_H)) := lp (F_96_23B rec ) 1000000 (y1, y2, y3, y4, y5, y6, h)
def F_96_9B (rec : Int32 → Int32 → sm_H → Option (Int32 × sm_H)) (s : (Int32 × Int32 × Int32 × Int32 × sm_H)) : Option ((Int32 × Int32 × Int32 × Int32 × sm_H) ⊕ (Int32 × sm_H)) :=
  if 10000 < s.2.2.2.1 then (some (.inr (2, s.2.2.2.2)))
  else (F_96_23 rec  s.1 s.2.1 s.2.2.1 s.2.2.2.1 0 0 s.2.2.2.2)
def F_96_9 (rec : Int32 → Int32 → sm_H → Option (Int32 × sm_H)) (y1 : Int32) (y2 : Int32) (y3 : Int32) (y4 : Int32) (h : sm_H) : Option (Int32 × sm_H) := lp (F_96_9B rec ) 1000000 (y1, y2, y3, y4, h)
def F_96_0 (rec : Int32 → Int32 → sm_H → Option (Int32 × sm_H)) (x1 : Int32) (x2 : Int32) (h : sm_H) : Option (Int32 × sm_H) :=
  (F_97 x1 h).bind fun q18 =>
  F_96_9 rec  x1 x2 q18.1 0 q18.2
abbrev F_96 (rec : Int32 → Int32 → sm_H → Option (Int32 × sm_H)) (x1 : Int32) (x2 : Int32) (h : sm_H) : Option (Int32 × sm_H) := F_96_0 rec x1 x2 h
def F_146_20  (h : sm_H) : Option (Int32 × sm_H) :=
  some ((-1), h)
def F_146_0 (x1 : Int32) (h : sm_H) : Option (Int32 × sm_H) :=
  if x1 < 0 then (F_146_20  h)
  else (if 100 < x1 then (F_146_20  h)
  else (if (h.1 21 2) < 1000 then ((some (131 + h.2.2.2.2.2.1)).bind fun b1 =>
  (some (sm_mk G0 h 8 2)).bind fun h2 =>
  (F_215 b1 x1 h2).bind fun q3 =>
  (sm_stR G0 q3 8 22 (h.1 21 2) b1).bind fun h4 =>
  (some (sm_wI h4 21 2 ((h4.1 21 2) + 1))).bind fun h5 =>
  some (((h5.1 21 2) - 1), h5))
  else (F_146_20  h)))
abbrev F_146 (x1 : Int32) (h : sm_H) : Option (Int32 × sm_H) := F_146_0 x1 h
def F_83_334 (rec : Int32 → Int32 → sm_H → Option (Int32 × sm_H)) (y2 : Int32) (y3 : Int32) (h : sm_H) : Option (Int32 × sm_H) :=
  (rec y3 (y2 + 1) h).bind fun q1 =>
  some (q1.1, q1.2)
def F_83_324 (rec : Int32 → Int32 → sm_H → Option (Int32 × sm_H)) (y2 : Int32) (z1 : Int32) (z2 : Int32) (h : sm_H) : Option (Int32 × sm_H) :=
  (F_43 z1 z2 h).bind fun q2 =>
  (F_81 y2 q2.1 q2.2).bind fun q3 =>
  F_83_334 rec  y2 q2.1 q3
def F_83_131B (rec : Int32 → Int32 → sm_H → Option (Int32 × sm_H)) (s : (Int32 × Int32 × Int32 × Int32 × sm_H)) : Option ((Int32 × Int32 × Int32 × Int32 × sm_H) ⊕ (Int32 × sm_H)) :=
  (F_45 s.2.2.1 s.2.2.2.2).bind fun q4 =>
  if q4.1 ≤ s.2.2.2.1 then ((F_83_334 rec  s.2.1 s.2.2.1 q4.2).map fun r => (.inr r))
  else ((F_43 s.1 (s.2.2.2.1 + 1) q4.2).bind fun q5 =>
  (F_80 s.2.1 q5.1 s.2.2.2.1 1 q5.2).bind fun q6 =>
  (some (s.2.2.2.1 + 1 : Int32)).bind fun v7 =>
  some (.inl (s.1, s.2.1, s.2.2.1, v7, q6)))
def F_83_131 (rec : Int32 → Int32 → sm_H → Option (Int32 × sm_H)) (y1 : Int32) (y2 : Int32) (y3 : Int32) (y5 : Int32) (h : sm_H) : Option (Int32 × sm_H) := lp (F_83_131B rec ) 1000000 (y1, y2, y3, y5, h)
def F_83_0 (rec : Int32 → Int32 → sm_H → Option (Int32 × sm_H)) (x1 : Int32) (x2 : Int32) (h : sm_H) : Option (Int32 × sm_H) :=
  (F_43 x1 0 h).bind fun q8 =>
  (F_38 x1 q8.2).bind fun q9 =>
  (F_37 x1 q9.2).bind fun q10 =>
  if q10.1 = 4 then ((F_80 x2 0 0 q9.1 q10.2).bind fun q11 =>
  (F_39 x1 q11).bind fun q12 =>
  (F_226 q12.1 q12.2).bind fun q13 =>
  (F_45 q8.1 q13.2).bind fun q14 =>
  (F_80 x2 (q9.1 + q13.1) q9.1 (q14.1 - q9.1) q14.2).bind fun q15 =>
  F_83_334 rec  x2 q8.1 q15)
  else (if q10.1 = 5 then (F_83_131 rec  x1 x2 q8.1 0 q10.2)
  else (if q10.1 = 6 then ((F_46 q8.1 q9.1 q10.2).bind fun q16 =>
  (F_40 x1 q16.2).bind fun q17 =>
  (F_80 x2 0 0 q9.1 q17.2).bind fun q18 =>
  (F_153 q16.1 q17.1 q18).bind fun q19 =>
  (F_154 q16.1 q17.1 q19.2).bind fun q20 =>
  (F_79 (x2 + 1) q9.1 q19.1 q20.1 q20.2).bind fun q21 =>
  (F_45 q8.1 q21).bind fun q22 =>
  (F_80 x2 q9.1 (q9.1 + 1) ((q22.1 - q9.1) - 1) q22.2).bind fun q23 =>
  F_83_334 rec  x2 q8.1 q23)
  else (if q10.1 = 17 then ((F_77 x2 0 q10.2).bind fun q24 =>
  (F_84 x1 q24.1 q24.2).bind fun q25 =>
  (F_81 x2 q25.1 q25.2).bind fun q26 =>
  F_83_334 rec  x2 q25.1 q26)
  else (if q10.1 = 29 then ((F_157 q9.1 q10.2).bind fun q27 =>
  (F_81 x2 q27.1 q27.2).bind fun q28 =>
  F_83_334 rec  x2 q27.1 q28)
  else ((F_161 q9.1 q10.2).bind fun q29 =>
  if q29.1 = 0 then (F_83_324 rec  x2 x1 0 q29.2)
  else (F_83_324 rec  x2 x1 1 q29.2))))))
abbrev F_83 (rec : Int32 → Int32 → sm_H → Option (Int32 × sm_H)) (x1 : Int32) (x2 : Int32) (h : sm_H) : Option (Int32 × sm_H) := F_83_0 rec x1 x2 h
def F_88_113 (rec : Int32 → Int32 → sm_H → Option (Int32 × sm_H)) (y2 : Int32) (y3 : Int32) (y4 : Int32) (y6 : Int32) (h : sm_H) : Option (Int32 × sm_H) :=
  (F_80 y2 0 0 y4 h).bind fun q1 =>
  (F_46 y3 y4 q1).bind fun q2 =>
  (F_79 (y2 + 1) y4 (Int32.toInt64 y6) q2.1 q2.2).bind fun q3 =>
  (rec y3 (y2 + 1) q3).bind fun q4 =>
  some (q4.1, q4.2)
def F_88_66B (rec : Int32 → Int32 → sm_H → Option (Int32 × sm_H)) (s : (Int32 × Int32 × Int32 × Int32 × Int32 × Nat × Int32 × sm_H)) : Option ((Int32 × Int32 × Int32 × Int32 × Int32 × Nat × Int32 × sm_H) ⊕ (Int32 × sm_H)) :=
  if s.2.2.2.1 ≤ s.2.2.2.2.2.2.1 then ((F_88_113 rec  s.1 s.2.1 s.2.2.1 s.2.2.2.2.1 s.2.2.2.2.2.2.2).map fun r => (.inr r))
  else (if 10 ≤ s.2.2.2.2.2.2.1 then ((F_88_113 rec  s.1 s.2.1 s.2.2.1 s.2.2.2.2.1 s.2.2.2.2.2.2.2).map fun r => (.inr r))
  else ((F_77 s.1 (s.2.2.1 + s.2.2.2.2.2.2.1) s.2.2.2.2.2.2.2).bind fun q5 =>
  (F_78 s.1 (s.2.2.1 + s.2.2.2.2.2.2.1) q5.2).bind fun q6 =>
  if ¬ (sm_is G0 q6.2 s.2.2.2.2.2.1 8 = true) then none else (F_221 s.2.2.2.2.2.1 s.2.2.2.2.2.2.1 q5.1 q6.1 q6.2).bind fun q7 =>
  (some (s.2.2.2.2.2.2.1 + 1 : Int32)).bind fun v9 =>
  some (.inl (s.1, s.2.1, s.2.2.1, s.2.2.2.1, s.2.2.2.2.1, s.2.2.2.2.2.1, v9, q7))))
def F_88_66 (rec : Int32 → Int32 → sm_H → Option (Int32 × sm_H)) (y2 : Int32) (y3 : Int32) (y4 : Int32) (y5 : Int32) (y6 : Int32) (y7 : Nat) (y8 : Int32) (h : sm_H) : Option (Int32 × sm_H) := lp (F_88_66B rec ) 1000000 (y2, y3, y4, y5, y6, y7, y8, h)
def F_88_0 (rec : Int32 → Int32 → sm_H → Option (Int32 × sm_H)) (x1 : Int32) (x2 : Int32) (h : sm_H) : Option (Int32 × sm_H) :=
  (F_43 x1 0 h).bind fun q10 =>
  (F_45 q10.1 q10.2).bind fun q11 =>
  (some ((q11.1 - 1) : Int32)).bind fun v12 =>
  (F_39 x1 q11.2).bind fun q13 =>
  (F_146 q13.1 q13.2).bind fun q14 =>
  if q14.1 = (-1) then (some (4, q14.2))
  else ((F_147 (Int32.toInt64 q14.1) q14.2).bind fun q15 =>
  F_88_66 rec  x2 q10.1 v12 q13.1 q14.1 q15.1 0 q15.2)
abbrev F_88 (rec : Int32 → Int32 → sm_H → Option (Int32 × sm_H)) (x1 : Int32) (x2 : Int32) (h : sm_H) : Option (Int32 × sm_H) := F_88_0 rec x1 x2 h
def F_101_111 (rec : Int32 → Int32 → sm_H → Option (Int32 × sm_H)) (z0 : Int32) (h : sm_H) : Option (Int32 × sm_H) :=
  some (z0, h)
def F_101_0 (rec : Int32 → Int32 → sm_H → Option (Int32 × sm_H)) (x1 : Int32) (x2 : Int32) (h : sm_H) : Option (Int32 × sm_H) :=
  (F_38 x1 h).bind fun q1 =>
  (F_131 q1.1 q1.2).bind fun q2 =>
  (F_146 24 q2.2).bind fun q3 =>
  if q3.1 = (-1) then (some (4, q3.2))
  else ((F_132 q1.1 q3.2).bind fun q4 =>
  (F_79 (x2 + 1) 0 (Int32.toInt64 q3.1) q4.1 q4.2).bind fun q5 =>
  (F_45 q2.1 q5).bind fun q6 =>
  (F_80 x2 0 1 (q6.1 - 1) q6.2).bind fun q7 =>
  (rec q2.1 (x2 + 1) q7).bind fun q8 =>
  if q8.1 = 0 then ((F_132 q1.1 q8.2).bind fun q9 =>
  (F_75 (Int32.toInt64 q3.1) q9.1 q9.2).bind fun q10 =>
  F_101_111 rec  q10.1 q10.2)
  else (F_101_111 rec  q8.1 q8.2))
abbrev F_101 (rec : Int32 → Int32 → sm_H → Option (Int32 × sm_H)) (x1 : Int32) (x2 : Int32) (h : sm_H) : Option (Int32 × sm_H) := F_101_0 rec x1 x2 h
def F_107_35 (z0 : Int32) (h : sm_H) : Option (Int32 × sm_H) :=
  some (z0, h)
def F_107_0 (x1 : Int32) (x2 : Int32) (h : sm_H) : Option (Int32 × sm_H) :=
  if 0 ≤ x2 then ((F_146 x2 h).bind fun q1 =>
  if q1.1 = (-1) then (F_107_35  4 q1.2)
  else ((F_75 (Int32.toInt64 q1.1) x1 q1.2).bind fun q2 =>
  F_107_35  q2.1 q2.2))
  else ((F_76 4 h).bind fun q3 =>
  some (q3.1, q3.2))
abbrev F_107 (x1 : Int32) (x2 : Int32) (h : sm_H) : Option (Int32 × sm_H) := F_107_0 x1 x2 h
def F_193_0 (rec : sm_H → Option (Int32 × sm_H))  (h : sm_H) : Option (Int32 × sm_H) :=
  (F_171 h).bind fun q1 =>
  (rec q1.2).bind fun q2 =>
  some (q2.1, q2.2)
abbrev F_193 (rec : sm_H → Option (Int32 × sm_H))  (h : sm_H) : Option (Int32 × sm_H) := F_193_0 rec  h
def F_199_2B (rec : sm_H → Option (Int32 × sm_H)) (s : (Int32 × Int32 × sm_H)) : Option ((Int32 × Int32 × sm_H) ⊕ (Int32 × sm_H)) :=
  if s.1 ≤ s.2.1 then (some (.inr (1, s.2.2)))
  else ((F_193 rec s.2.2).bind fun q1 =>
  (F_188 q1.1 0 q1.2).bind fun q2 =>
  if q2.1 = 0 then (some (.inr (0, q2.2)))
  else ((some (s.2.1 + 1 : Int32)).bind fun v3 =>
  some (.inl (s.1, v3, q2.2))))
def F_199_2 (rec : sm_H → Option (Int32 × sm_H)) (y1 : Int32) (y2 : Int32) (h : sm_H) : Option (Int32 × sm_H) := lp (F_199_2B rec ) 1000000 (y1, y2, h)
def F_199_0 (rec : sm_H → Option (Int32 × sm_H)) (x1 : Int32) (h : sm_H) : Option (Int32 × sm_H) :=
  F_199_2 rec  x1 0 h
abbrev F_199 (rec : sm_H → Option (Int32 × sm_H)) (x1 : Int32) (h : sm_H) : Option (Int32 × sm_H) := F_199_0 rec x1 h
def F_207_76 (rec : sm_H → Option (Int32 × sm_H)) (z0 : Int32) (h : sm_H) : Option (Int32 × sm_H) :=
  if z0 = 0 ∨ z0 = 1 then some (z0, h) else none
def F_207_75 (rec : sm_H → Option (Int32 × sm_H))  (h : sm_H) : Option (Int32 × sm_H) :=
  F_207_76 rec  0 h
def F_207_0 (rec : sm_H → Option (Int32 × sm_H)) (x1 : Int32) (h : sm_H) : Option (Int32 × sm_H) :=
  (F_172 4 h).bind fun q1 =>
  if q1.1 = 0 then (some (0, q1.2))
  else ((F_248 q1.2).bind fun q2 =>
  (F_193 rec q2.2).bind fun q3 =>
  if q3.1 = (-1) then (some (0, q3.2))
  else ((F_44 q3.1 q3.2).bind fun q4 =>
  if q4.1 = 0 then ((F_169 7 x1 q4.2).bind fun q7 =>
  some (0, q7.2))
  else ((F_188 q3.1 q2.1 q4.2).bind fun q5 =>
  if q5.1 = 0 then (F_207_75 rec  q5.2)
  else ((F_175 q5.2).bind fun q6 =>
  if q6.1 = 0 then (F_207_75 rec  q6.2)
  else (F_207_76 rec  1 q6.2)))))
abbrev F_207 (rec : sm_H → Option (Int32 × sm_H)) (x1 : Int32) (h : sm_H) : Option (Int32 × sm_H) := F_207_0 rec x1 h
def F_212_80 (rec : sm_H → Option (Int32 × sm_H))  (h : sm_H) : Option (Int32 × sm_H) :=
  some (0, h)
def F_212_58 (rec : sm_H → Option (Int32 × sm_H)) (y1 : Int32) (y2 : Int32) (h : sm_H) : Option ((Int32 × Int32 × sm_H) ⊕ (Int32 × sm_H)) :=
  if (h.1 55 17) = 0 then ((F_173 h).bind fun q1 =>
  if q1.1 = 0 then ((F_212_80 rec  q1.2).map fun r => (.inr r))
  else ((F_207 rec y1 q1.2).bind fun q2 =>
  if q2.1 = 0 then ((F_212_80 rec  q2.2).map fun r => (.inr r))
  else ((some (y2 + 1 : Int32)).bind fun v3 =>
  some (.inl (y1, v3, q2.2)))))
  else ((F_212_80 rec  h).map fun r => (.inr r))
def F_212_52 (rec : sm_H → Option (Int32 × sm_H)) (y1 : Int32) (y2 : Int32) (h : sm_H) : Option ((Int32 × Int32 × sm_H) ⊕ (Int32 × sm_H)) :=
  (F_170 4 h).bind fun q4 =>
  F_212_58 rec  y1 y2 q4.2
def F_212_42 (rec : sm_H → Option (Int32 × sm_H)) (y1 : Int32) (y2 : Int32) (y3 : Int32) (h : sm_H) : Option ((Int32 × Int32 × sm_H) ⊕ (Int32 × sm_H)) :=
  if y3 = 1 then (if y2 = 3 then (F_212_52 rec  y1 y2 h)
  else (F_212_58 rec  y1 y2 h))
  else (F_212_52 rec  y1 y2 h)
def F_212_11B (rec : sm_H → Option (Int32 × sm_H)) (s : (Int32 × Int32 × sm_H)) : Option ((Int32 × Int32 × sm_H) ⊕ (Int32 × sm_H)) :=
  if 3 < s.2.1 then (some (.inr (0, s.2.2)))
  else ((F_171 s.2.2).bind fun q5 =>
  if q5.1 = 2 then (if s.2.1 ≤ 0 then (F_212_42 rec  s.1 s.2.1 q5.1 q5.2)
  else ((some (sm_wI q5.2 55 16 ((q5.2.1 55 16) - 1))).bind fun h6 =>
  some (.inr (s.2.1, h6))))
  else (F_212_42 rec  s.1 s.2.1 q5.1 q5.2))
def F_212_11 (rec : sm_H → Option (Int32 × sm_H)) (y1 : Int32) (y2 : Int32) (h : sm_H) : Option (Int32 × sm_H) := lp (F_212_11B rec ) 1000000 (y1, y2, h)
def F_212_0 (rec : sm_H → Option (Int32 × sm_H)) (x1 : Int32) (h : sm_H) : Option (Int32 × sm_H) :=
  (F_174 h).bind fun q7 =>
  if q7.1 = 0 then (some (0, q7.2))
  else (F_212_11 rec  x1 0 q7.2)
abbrev F_212 (rec : sm_H → Option (Int32 × sm_H)) (x1 : Int32) (h : sm_H) : Option (Int32 × sm_H) := F_212_0 rec x1 h
def F_89_163 (rec : Int32 → Int32 → sm_H → Option (Int32 × sm_H)) (z0 : Int32) (h : sm_H) : Option (Int32 × sm_H) :=
  some (z0, h)
def F_89_3B (rec : Int32 → Int32 → sm_H → Option (Int32 × sm_H)) (s : (Int32 × Int32 × Int32 × Int32 × Int32 × Int32 × sm_H)) : Option ((Int32 × Int32 × Int32 × Int32 × Int32 × Int32 × sm_H) ⊕ (Int32 × sm_H)) :=
  (F_45 s.1 s.2.2.2.2.2.2).bind fun q1 =>
  if q1.1 ≤ s.2.2.2.2.2.1 then ((rec s.1 (s.2.2.2.1 + 1) q1.2).bind fun q2 =>
  if q2.1 = 0 then ((F_44 s.1 q2.2).bind fun q3 =>
  (F_225 s.2.1 q3.2).bind fun q4 =>
  (F_90 q3.1 q4.1 s.2.2.2.2.1 q4.2).bind fun q5 =>
  if q5.1 = 0 then ((F_89_163 rec  0 q5.2).map fun r => (.inr r))
  else ((F_76 q5.1 q5.2).bind fun q6 =>
  (F_89_163 rec  q6.1 q6.2).map fun r => (.inr r)))
  else (some (.inr (q2.1, q2.2))))
  else ((F_77 s.2.2.2.1 (s.2.2.1 + s.2.2.2.2.2.1) q1.2).bind fun q7 =>
  (F_78 s.2.2.2.1 (s.2.2.1 + s.2.2.2.2.2.1) q7.2).bind fun q8 =>
  (F_75 q7.1 q8.1 q8.2).bind fun q9 =>
  (F_227 s.2.1 s.2.2.2.2.2.1 q9.2).bind fun q10 =>
  (F_46 s.1 s.2.2.2.2.2.1 q10.2).bind fun q11 =>
  (F_90 q10.1 q11.1 s.2.2.2.2.1 q11.2).bind fun q12 =>
  if q12.1 = 0 then ((F_79 (s.2.2.2.1 + 1) s.2.2.2.2.2.1 (q12.2.2.1 49 9) (q12.2.1 49 10) q12.2).bind fun q13 =>
  (some (s.2.2.2.2.2.1 + 1 : Int32)).bind fun v14 =>
  some (.inl (s.1, s.2.1, s.2.2.1, s.2.2.2.1, s.2.2.2.2.1, v14, q13)))
  else ((F_76 q12.1 q12.2).bind fun q15 =>
  some (.inr (q15.1, q15.2))))
def F_89_3 (rec : Int32 → Int32 → sm_H → Option (Int32 × sm_H)) (y1 : Int32) (y2 : Int32) (y3 : Int32) (y4 : Int32) (y5 : Int32) (y6 : Int32) (h : sm_H) : Option (Int32 × sm_H) := lp (F_89_3B rec ) 1000000 (y1, y2, y3, y4, y5, y6, h)
def F_89_0 (rec : Int32 → Int32 → sm_H → Option (Int32 × sm_H)) (x1 : Int32) (x2 : Int32) (x3 : Int32) (x4 : Int32) (x5 : Int32) (h : sm_H) : Option (Int32 × sm_H) :=
  F_89_3 rec  x1 x2 x3 x4 x5 0 h
abbrev F_89 (rec : Int32 → Int32 → sm_H → Option (Int32 × sm_H)) (x1 : Int32) (x2 : Int32) (x3 : Int32) (x4 : Int32) (x5 : Int32) (h : sm_H) : Option (Int32 × sm_H) := F_89_0 rec x1 x2 x3 x4 x5 h
def F_100_74 (rec : Int32 → Int32 → sm_H → Option (Int32 × sm_H)) (y2 : Int32) (z0 : Int32) (h : sm_H) : Option (Int32 × sm_H) :=
  (F_81 y2 z0 h).bind fun q1 =>
  (rec z0 (y2 + 1) q1).bind fun q2 =>
  some (q2.1, q2.2)
def F_100_42 (rec : Int32 → Int32 → sm_H → Option (Int32 × sm_H)) (y2 : Int32) (y3 : Int32) (z0 : Int32) (h : sm_H) : Option (Int32 × sm_H) :=
  if z0 = 0 then ((F_131 y3 h).bind fun q3 =>
  F_100_74 rec  y2 q3.1 q3.2)
  else ((F_78 y2 0 h).bind fun q4 =>
  (F_133 y3 q4.1 q4.2).bind fun q5 =>
  F_100_74 rec  y2 q5.1 q5.2)
def F_100_0 (rec : Int32 → Int32 → sm_H → Option (Int32 × sm_H)) (x1 : Int32) (x2 : Int32) (h : sm_H) : Option (Int32 × sm_H) :=
  (F_38 x1 h).bind fun q6 =>
  (F_78 x2 0 q6.2).bind fun q7 =>
  if q7.1 = 0 then ((F_76 1 q7.2).bind fun q9 =>
  some (q9.1, q9.2))
  else ((F_37 x1 q7.2).bind fun q8 =>
  if q8.1 = 36 then (F_100_42 rec  x2 q6.1 1 q8.2)
  else (F_100_42 rec  x2 q6.1 0 q8.2))
abbrev F_100 (rec : Int32 → Int32 → sm_H → Option (Int32 × sm_H)) (x1 : Int32) (x2 : Int32) (h : sm_H) : Option (Int32 × sm_H) := F_100_0 rec x1 x2 h
def F_102_480  (h : sm_H) : Option (Int32 × sm_H) :=
  (F_75 0 0 h).bind fun q1 =>
  some (q1.1, q1.2)
def F_102_468 (z1 : Int64) (h : sm_H) : Option (Int32 × sm_H) :=
  (F_75 z1 0 h).bind fun q2 =>
  some (q2.1, q2.2)
def F_102_426 (z1 : Int64) (h : sm_H) : Option (Int32 × sm_H) :=
  (F_75 z1 0 h).bind fun q3 =>
  some (q3.1, q3.2)
def F_102_407 (z1 : Int64) (h : sm_H) : Option (Int32 × sm_H) :=
  (F_75 z1 0 h).bind fun q4 =>
  some (q4.1, q4.2)
def F_102_406  (h : sm_H) : Option (Int32 × sm_H) :=
  F_102_407  0 h
def F_102_368 (y1 : Int32) (y2 : Int32) (h : sm_H) : Option (Int32 × sm_H) :=
  (F_108 y1 y2 h).bind fun q5 =>
  some (q5.1, q5.2)
def F_102_316 (z0 : Int32) (h : sm_H) : Option (Int32 × sm_H) :=
  some (z0, h)
def F_102_267 (y2 : Int32) (z1 : Int32) (z2 : Int32) (h : sm_H) : Option (Int32 × sm_H) :=
  (F_77 y2 0 h).bind fun q6 =>
  (F_77 y2 1 q6.2).bind fun q7 =>
  (F_104 z1 z2 q6.1 q7.1 q7.2).bind fun q8 =>
  some (q8.1, q8.2)
def F_102_0 (x1 : Int32) (x2 : Int32) (h : sm_H) : Option (Int32 × sm_H) :=
  (F_38 x1 h).bind fun q9 =>
  (F_37 x1 q9.2).bind fun q10 =>
  if q10.1 = 0 then ((F_40 x1 q10.2).bind fun q11 =>
  (F_153 q9.1 q11.1 q11.2).bind fun q12 =>
  (F_40 x1 q12.2).bind fun q13 =>
  (F_154 q9.1 q13.1 q13.2).bind fun q14 =>
  (F_75 q12.1 q14.1 q14.2).bind fun q15 =>
  some (q15.1, q15.2))
  else (if q10.1 = 1 then ((F_43 x1 0 q10.2).bind fun q16 =>
  (F_75 (Int32.toInt64 q16.1) 18 q16.2).bind fun q17 =>
  some (q17.1, q17.2))
  else (if q10.1 = 2 then ((F_77 x2 0 q10.2).bind fun q18 =>
  (F_78 x2 0 q18.2).bind fun q19 =>
  (F_75 q18.1 q19.1 q19.2).bind fun q20 =>
  some (q20.1, q20.2))
  else (if q10.1 = 3 then ((F_39 x1 q10.2).bind fun q21 =>
  if q21.1 = 6 then (F_102_267  x2 q9.1 1 q21.2)
  else (F_102_267  x2 q9.1 0 q21.2))
  else (if q10.1 = 19 then ((F_77 x2 0 q10.2).bind fun q22 =>
  (F_78 x2 0 q22.2).bind fun q23 =>
  (F_75 q22.1 q23.1 q23.2).bind fun q24 =>
  if (q24.2.1 49 10) = 0 then ((F_76 1 q24.2).bind fun q25 =>
  F_102_316  q25.1 q25.2)
  else (F_102_316  1 q24.2))
  else (if q10.1 = 20 then ((F_77 x2 0 q10.2).bind fun q26 =>
  (F_107 q9.1 (Int64.toInt32 q26.1) q26.2).bind fun q27 =>
  some (q27.1, q27.2))
  else (if q10.1 = 21 then ((F_78 x2 0 q10.2).bind fun q28 =>
  if q28.1 = 0 then ((F_76 1 q28.2).bind fun q34 =>
  some (q34.1, q34.2))
  else ((F_77 x2 0 q28.2).bind fun q29 =>
  (F_147 q29.1 q29.2).bind fun q30 =>
  if ¬ (sm_is G0 q30.2 q30.1 8 = true) then none else (F_216 q30.1 q30.2).bind fun q31 =>
  (F_75 (Int32.toInt64 q31.1) 0 q31.2).bind fun q33 =>
  some (q33.1, q33.2)))
  else (if q10.1 = 22 then (F_102_368  x1 x2 q10.2)
  else (if q10.1 = 23 then (F_102_368  x1 x2 q10.2)
  else (if q10.1 = 24 then (F_102_368  x1 x2 q10.2)
  else (if q10.1 = 25 then (F_102_368  x1 x2 q10.2)
  else (if q10.1 = 26 then (F_102_368  x1 x2 q10.2)
  else (if q10.1 = 31 then ((F_78 x2 0 q10.2).bind fun q35 =>
  if q35.1 = 0 then (F_102_406  q35.2)
  else ((F_78 x2 0 q35.2).bind fun q36 =>
  (F_60 q36.1 q9.1 q36.2).bind fun q37 =>
  if q37.1 = 0 then (F_102_406  q37.2)
  else (F_102_407  1 q37.2)))
  else (if q10.1 = 32 then ((F_103 x2 q10.2).bind fun q38 =>
  if q38.1 = 0 then (F_102_426  0 q38.2)
  else (F_102_426  1 q38.2))
  else (if q10.1 = 33 then ((F_78 x2 0 q10.2).bind fun q39 =>
  if q39.1 = 0 then ((F_76 1 q39.2).bind fun q42 =>
  some (q42.1, q42.2))
  else ((F_78 x2 0 q39.2).bind fun q40 =>
  if q40.1 = 19 then ((F_77 x2 0 q40.2).bind fun q41 =>
  F_102_468  q41.1 q41.2)
  else (F_102_468  0 q40.2)))
  else (if q10.1 = 35 then ((F_109 x1 x2 q10.2).bind fun q43 =>
  some (q43.1, q43.2))
  else (F_102_480  q10.2))))))))))))))))
abbrev F_102 (x1 : Int32) (x2 : Int32) (h : sm_H) : Option (Int32 × sm_H) := F_102_0 x1 x2 h
def F_82_367 (rec : Int32 → Int32 → sm_H → Option (Int32 × sm_H)) (y1 : Int32) (y2 : Int32) (h : sm_H) : Option (Int32 × sm_H) :=
  (F_102 y1 y2 h).bind fun q1 =>
  some (q1.1, q1.2)
def F_82_353 (rec : Int32 → Int32 → sm_H → Option (Int32 × sm_H)) (y1 : Int32) (y2 : Int32) (h : sm_H) : Option (Int32 × sm_H) :=
  (F_100 rec y1 y2 h).bind fun q2 =>
  some (q2.1, q2.2)
def F_82_352 (rec : Int32 → Int32 → sm_H → Option (Int32 × sm_H)) (z0 : Int32) (h : sm_H) : Option (Int32 × sm_H) :=
  some (z0, h)
def F_82_312 (rec : Int32 → Int32 → sm_H → Option (Int32 × sm_H)) (y1 : Int32) (y2 : Int32) (h : sm_H) : Option (Int32 × sm_H) :=
  (F_99 y1 y2 h).bind fun q3 =>
  if 0 ≤ q3.1 then ((F_39 y1 q3.2).bind fun q4 =>
  (F_89 rec q3.1 q4.1 1 y2 0 q4.2).bind fun q5 =>
  F_82_352 rec  q5.1 q5.2)
  else ((F_76 (-q3.1) q3.2).bind fun q6 =>
  F_82_352 rec  q6.1 q6.2)
def F_82_311 (rec : Int32 → Int32 → sm_H → Option (Int32 × sm_H)) (z0 : Int32) (h : sm_H) : Option (Int32 × sm_H) :=
  some (z0, h)
def F_82_265 (rec : Int32 → Int32 → sm_H → Option (Int32 × sm_H)) (z1 : Int32) (z2 : Int32) (z3 : Int32) (z4 : Int32) (z5 : Int32) (h : sm_H) : Option (Int32 × sm_H) :=
  (F_89 rec z1 z2 z3 z4 z5 h).bind fun q7 =>
  some (q7.1, q7.2)
def F_82_227 (rec : Int32 → Int32 → sm_H → Option (Int32 × sm_H)) (y1 : Int32) (y2 : Int32) (h : sm_H) : Option (Int32 × sm_H) :=
  (F_43 y1 0 h).bind fun q8 =>
  (F_39 y1 q8.2).bind fun q9 =>
  (F_37 y1 q9.2).bind fun q10 =>
  if q10.1 = 13 then (F_82_265 rec  q8.1 q9.1 0 y2 1 q10.2)
  else (F_82_265 rec  q8.1 q9.1 0 y2 0 q10.2)
def F_82_199 (rec : Int32 → Int32 → sm_H → Option (Int32 × sm_H)) (y1 : Int32) (y2 : Int32) (h : sm_H) : Option (Int32 × sm_H) :=
  (F_85 rec y1 y2 h).bind fun q11 =>
  some (q11.1, q11.2)
def F_82_192 (rec : Int32 → Int32 → sm_H → Option (Int32 × sm_H)) (y1 : Int32) (y2 : Int32) (h : sm_H) : Option (Int32 × sm_H) :=
  (F_83 rec y1 y2 h).bind fun q12 =>
  some (q12.1, q12.2)
def F_82_0 (rec : Int32 → Int32 → sm_H → Option (Int32 × sm_H)) (x1 : Int32) (x2 : Int32) (h : sm_H) : Option (Int32 × sm_H) :=
  if x2 < 100 then (if (h.1 49 8) < (h.1 49 7) then ((some (sm_wI h 49 8 ((h.1 49 8) + 1))).bind fun h13 =>
  (F_37 x1 h13).bind fun q14 =>
  if q14.1 = 4 then (F_82_192 rec  x1 x2 q14.2)
  else (if q14.1 = 5 then (F_82_192 rec  x1 x2 q14.2)
  else (if q14.1 = 6 then (F_82_192 rec  x1 x2 q14.2)
  else (if q14.1 = 7 then (F_82_199 rec  x1 x2 q14.2)
  else (if q14.1 = 8 then (F_82_199 rec  x1 x2 q14.2)
  else (if q14.1 = 9 then ((F_86 rec x1 x2 q14.2).bind fun q15 =>
  some (q15.1, q15.2))
  else (if q14.1 = 10 then ((F_87 rec x1 x2 q14.2).bind fun q16 =>
  some (q16.1, q16.2))
  else (if q14.1 = 11 then ((F_88 rec x1 x2 q14.2).bind fun q17 =>
  some (q17.1, q17.2))
  else (if q14.1 = 12 then (F_82_227 rec  x1 x2 q14.2)
  else (if q14.1 = 13 then (F_82_227 rec  x1 x2 q14.2)
  else (if q14.1 = 14 then ((F_92 rec x1 x2 q14.2).bind fun q18 =>
  some (q18.1, q18.2))
  else (if q14.1 = 15 then ((F_93 rec x1 x2 q14.2).bind fun q19 =>
  some (q19.1, q19.2))
  else (if q14.1 = 16 then ((F_94 rec x1 x2 q14.2).bind fun q20 =>
  some (q20.1, q20.2))
  else (if q14.1 = 17 then (F_82_192 rec  x1 x2 q14.2)
  else (if q14.1 = 18 then ((F_95 rec x1 x2 q14.2).bind fun q21 =>
  if q21.1 = 0 then ((F_96 rec x1 x2 q21.2).bind fun q22 =>
  F_82_311 rec  q22.1 q22.2)
  else (F_82_311 rec  q21.1 q21.2))
  else (if q14.1 = 27 then (F_82_312 rec  x1 x2 q14.2)
  else (if q14.1 = 28 then (F_82_312 rec  x1 x2 q14.2)
  else (if q14.1 = 29 then (F_82_192 rec  x1 x2 q14.2)
  else (if q14.1 = 30 then (F_82_192 rec  x1 x2 q14.2)
  else (if q14.1 = 36 then (F_82_353 rec  x1 x2 q14.2)
  else (if q14.1 = 37 then (F_82_353 rec  x1 x2 q14.2)
  else (if q14.1 = 38 then ((F_101 rec x1 x2 q14.2).bind fun q23 =>
  some (q23.1, q23.2))
  else (F_82_367 rec  x1 x2 q14.2)))))))))))))))))))))))
  else (some (2, h)))
  else (some (3, h))
abbrev F_82R (rec : Int32 → Int32 → sm_H → Option (Int32 × sm_H)) (x1 : Int32) (x2 : Int32) (h : sm_H) : Option (Int32 × sm_H) := F_82_0 rec x1 x2 h
def K_82 : Nat → Int32 → Int32 → sm_H → Option (Int32 × sm_H)
  | 0, _, _, _ => none
  | n + 1, x1, x2, h => F_82R (K_82 n) x1 x2 h
def F_209_54 (rec : sm_H → Option (Int32 × sm_H))  (h : sm_H) : Option (Int32 × sm_H) :=
  some ((-1), h)
def F_209_30 (rec : sm_H → Option (Int32 × sm_H))  (h : sm_H) : Option (Int32 × sm_H) :=
  some ((-1), h)
def F_209_0 (rec : sm_H → Option (Int32 × sm_H)) (x1 : Int32) (h : sm_H) : Option (Int32 × sm_H) :=
  (some ((h.1 55 12) : Int32)).bind fun v1 =>
  (F_174 h).bind fun q2 =>
  if q2.1 = 0 then (F_209_30 rec  q2.2)
  else ((F_207 rec x1 q2.2).bind fun q3 =>
  if q3.1 = 0 then (F_209_30 rec  q3.2)
  else ((F_208 v1 1 x1 q3.2).bind fun q4 =>
  if q4.1 = 0 then (F_209_30 rec  q4.2)
  else ((F_193 rec q4.2).bind fun q5 =>
  (F_184 1 q5.2).bind fun q6 =>
  if q5.1 = (-1) then (F_209_54 rec  q6)
  else ((F_175 q6).bind fun q7 =>
  if q7.1 = 0 then (F_209_54 rec  q7.2)
  else ((F_187 v1 q7.2).bind fun q8 =>
  (F_206 q5.1 q8.1 x1 q8.2).bind fun q9 =>
  some (q9.1, q9.2))))))
abbrev F_209 (rec : sm_H → Option (Int32 × sm_H)) (x1 : Int32) (h : sm_H) : Option (Int32 × sm_H) := F_209_0 rec x1 h
def F_210_153 (rec : sm_H → Option (Int32 × sm_H)) (z0 : Int32) (h : sm_H) : Option (Int32 × sm_H) :=
  some (z0, h)
def F_210_95 (rec : sm_H → Option (Int32 × sm_H))  (h : sm_H) : Option (Int32 × sm_H) :=
  some ((-1), h)
def F_210_54 (rec : sm_H → Option (Int32 × sm_H))  (h : sm_H) : Option (Int32 × sm_H) :=
  some ((-1), h)
def F_210_28 (rec : sm_H → Option (Int32 × sm_H))  (h : sm_H) : Option (Int32 × sm_H) :=
  some ((-1), h)
def F_210_0 (rec : sm_H → Option (Int32 × sm_H)) (x1 : Int32) (h : sm_H) : Option (Int32 × sm_H) :=
  (some ((h.1 55 12) : Int32)).bind fun v1 =>
  (F_199 rec 1 h).bind fun q2 =>
  if q2.1 = 0 then (F_210_28 rec  q2.2)
  else ((F_174 q2.2).bind fun q3 =>
  if q3.1 = 0 then (F_210_28 rec  q3.2)
  else ((F_172 4 q3.2).bind fun q4 =>
  if q4.1 = 0 then (F_210_28 rec  q4.2)
  else ((F_248 q4.2).bind fun q5 =>
  (F_175 q5.2).bind fun q6 =>
  if q6.1 = 0 then (F_210_54 rec  q6.2)
  else ((F_182 1 x1 q6.2).bind fun q7 =>
  if q7.1 = 0 then (F_210_54 rec  q7.2)
  else ((F_183 0 q5.1 19 q7.2).bind fun q8 =>
  (F_199 rec 1 q8).bind fun q9 =>
  if q9.1 = 0 then (F_210_95 rec  q9.2)
  else ((F_175 q9.2).bind fun q10 =>
  if q10.1 = 0 then (F_210_95 rec  q10.2)
  else ((F_189 v1 q10.2).bind fun q11 =>
  (F_190 (v1 + 1) q11.1 x1 q11.2).bind fun q12 =>
  if q12.1 = 0 then (F_210_95 rec  q12.2)
  else ((F_184 1 q12.2).bind fun q13 =>
  (F_187 v1 q13).bind fun q14 =>
  (F_187 (v1 + 1) q14.2).bind fun q15 =>
  (F_141 56 q14.1 q15.1 q15.2).bind fun q16 =>
  (F_5 15 19 0 0 q16.1 q16.2).bind fun q17 =>
  if 0 ≤ q17.1 then (F_210_153 rec  q17.1 q17.2)
  else ((F_169 8 x1 q17.2).bind fun q18 =>
  F_210_153 rec  q18.1 q18.2)))))))))
abbrev F_210 (rec : sm_H → Option (Int32 × sm_H)) (x1 : Int32) (h : sm_H) : Option (Int32 × sm_H) := F_210_0 rec x1 h
def F_211_194 (rec : sm_H → Option (Int32 × sm_H)) (z0 : Int32) (h : sm_H) : Option (Int32 × sm_H) :=
  some (z0, h)
def F_211_69B (rec : sm_H → Option (Int32 × sm_H)) (s : (Int32 × Int32 × Int32 × Int32 × sm_H)) : Option ((Int32 × Int32 × Int32 × Int32 × sm_H) ⊕ (Int32 × sm_H)) :=
  if s.2.2.1 ≤ s.2.2.2.1 then ((F_190 (s.2.1 + (2 * s.2.2.1)) 1 s.1 s.2.2.2.2).bind fun q1 =>
  if q1.1 = 0 then (some (.inr ((-1), q1.2)))
  else ((F_184 s.2.2.1 q1.2).bind fun q2 =>
  (F_189 ((s.2.1 + (2 * s.2.2.1)) + 1) q2).bind fun q3 =>
  (F_185 q3.1 s.1 q3.2).bind fun q4 =>
  if q4.1 = (-1) then (some (.inr ((-1), q4.2)))
  else ((F_213 s.2.1 s.2.2.1 q4.2).bind fun q5 =>
  (F_5 18 0 q4.1 0 56 q5).bind fun q6 =>
  if 0 ≤ q6.1 then ((F_211_194 rec  q6.1 q6.2).map fun r => (.inr r))
  else ((F_169 8 s.1 q6.2).bind fun q7 =>
  (F_211_194 rec  q7.1 q7.2).map fun r => (.inr r)))))
  else ((F_189 (s.2.1 + s.2.2.2.1) s.2.2.2.2).bind fun q8 =>
  (F_190 ((s.2.1 + s.2.2.1) + s.2.2.2.1) q8.1 s.1 q8.2).bind fun q9 =>
  if q9.1 = 0 then (some (.inr ((-1), q9.2)))
  else ((some (s.2.2.2.1 + 1 : Int32)).bind fun v10 =>
  some (.inl (s.1, s.2.1, s.2.2.1, v10, q9.2))))
def F_211_69 (rec : sm_H → Option (Int32 × sm_H)) (y1 : Int32) (y2 : Int32) (y3 : Int32) (y4 : Int32) (h : sm_H) : Option (Int32 × sm_H) := lp (F_211_69B rec ) 1000000 (y1, y2, y3, y4, h)
def F_211_64 (rec : sm_H → Option (Int32 × sm_H))  (h : sm_H) : Option (Int32 × sm_H) :=
  some ((-1), h)
def F_211_25 (rec : sm_H → Option (Int32 × sm_H))  (h : sm_H) : Option (Int32 × sm_H) :=
  some ((-1), h)
def F_211_0 (rec : sm_H → Option (Int32 × sm_H)) (x1 : Int32) (h : sm_H) : Option (Int32 × sm_H) :=
  (some ((h.1 55 12) : Int32)).bind fun v11 =>
  (F_212 rec x1 h).bind fun q12 =>
  if q12.1 = 0 then (F_211_25 rec  q12.2)
  else ((F_208 v11 q12.1 x1 q12.2).bind fun q13 =>
  if q13.1 = 0 then (F_211_25 rec  q13.2)
  else ((F_174 q13.2).bind fun q14 =>
  if q14.1 = 0 then (F_211_64 rec  q14.2)
  else ((F_199 rec q12.1 q14.2).bind fun q15 =>
  if q15.1 = 0 then (F_211_64 rec  q15.2)
  else ((F_175 q15.2).bind fun q16 =>
  if q16.1 = 0 then (F_211_64 rec  q16.2)
  else ((F_199 rec 2 q16.2).bind fun q17 =>
  if q17.1 = 0 then (F_211_64 rec  q17.2)
  else ((F_175 q17.2).bind fun q18 =>
  if q18.1 = 0 then (F_211_64 rec  q18.2)
  else (F_211_69 rec  x1 v11 q12.1 0 q18.2)))))))
abbrev F_211 (rec : sm_H → Option (Int32 × sm_H)) (x1 : Int32) (h : sm_H) : Option (Int32 × sm_H) := F_211_0 rec x1 h
def F_214_133B (rec : sm_H → Option (Int32 × sm_H)) (s : (Int32 × Int32 × Int32 × Int32 × Int32 × sm_H)) : Option ((Int32 × Int32 × Int32 × Int32 × Int32 × sm_H) ⊕ (Int32 × sm_H)) :=
  if s.2.2.2.1 ≤ s.2.2.2.2.1 then ((F_192 s.2.2.1 s.2.1 s.2.2.2.1 s.1 s.2.2.2.2.2).bind fun q1 =>
  some (.inr (q1.1, q1.2)))
  else ((F_46 s.2.2.1 s.2.2.2.2.1 s.2.2.2.2.2).bind fun q2 =>
  (F_190 (s.2.1 + s.2.2.2.2.1) q2.1 s.1 q2.2).bind fun q3 =>
  if q3.1 = 0 then (some (.inr ((-1), q3.2)))
  else ((some (s.2.2.2.2.1 + 1 : Int32)).bind fun v4 =>
  some (.inl (s.1, s.2.1, s.2.2.1, s.2.2.2.1, v4, q3.2))))
def F_214_133 (rec : sm_H → Option (Int32 × sm_H)) (y2 : Int32) (y3 : Int32) (y4 : Int32) (y5 : Int32) (y7 : Int32) (h : sm_H) : Option (Int32 × sm_H) := lp (F_214_133B rec ) 1000000 (y2, y3, y4, y5, y7, h)
def F_214_105 (rec : sm_H → Option (Int32 × sm_H)) (y2 : Int32) (y3 : Int32) (y4 : Int32) (y5 : Int32) (y6 : Int32) (h : sm_H) : Option (Int32 × sm_H) :=
  (some (sm_wI h 55 16 ((h.1 55 16) - 1))).bind fun h5 =>
  if y6 = y5 then (F_214_133 rec  y2 y3 y4 y5 0 h5)
  else ((F_169 9 y2 h5).bind fun q6 =>
  some (q6.1, q6.2))
def F_214_96 (rec : sm_H → Option (Int32 × sm_H)) (y2 : Int32) (y3 : Int32) (y4 : Int32) (y5 : Int32) (y6 : Int32) (y7 : Int32) (h : sm_H) : Option ((Int32 × Int32 × Int32 × Int32 × Int32 × Int32 × sm_H) ⊕ (Int32 × sm_H)) :=
  (some (y6 + 1 : Int32)).bind fun v7 =>
  (some (y7 + 1 : Int32)).bind fun v8 =>
  some (.inl (y2, y3, y4, y5, v7, v8, h))
def F_214_94 (rec : sm_H → Option (Int32 × sm_H))  (h : sm_H) : Option (Int32 × sm_H) :=
  some ((-1), h)
def F_214_49B (rec : sm_H → Option (Int32 × sm_H)) (s : (Int32 × Int32 × Int32 × Int32 × Int32 × Int32 × sm_H)) : Option ((Int32 × Int32 × Int32 × Int32 × Int32 × Int32 × sm_H) ⊕ (Int32 × sm_H)) :=
  if 3000 ≤ s.2.2.2.2.2.1 then ((F_214_105 rec  s.1 s.2.1 s.2.2.1 s.2.2.2.1 s.2.2.2.2.1 s.2.2.2.2.2.2).map fun r => (.inr r))
  else ((F_171 s.2.2.2.2.2.2).bind fun q9 =>
  if q9.1 = 2 then ((F_214_105 rec  s.1 s.2.1 s.2.2.1 s.2.2.2.1 s.2.2.2.2.1 q9.2).map fun r => (.inr r))
  else ((rec q9.2).bind fun q10 =>
  if q10.1 = (-1) then ((F_214_94 rec  q10.2).map fun r => (.inr r))
  else (if 6 ≤ s.2.2.2.2.1 then (F_214_96 rec  s.1 s.2.1 s.2.2.1 s.2.2.2.1 s.2.2.2.2.1 s.2.2.2.2.2.1 q10.2)
  else ((F_188 q10.1 0 q10.2).bind fun q11 =>
  if q11.1 = 0 then ((F_214_94 rec  q11.2).map fun r => (.inr r))
  else (F_214_96 rec  s.1 s.2.1 s.2.2.1 s.2.2.2.1 s.2.2.2.2.1 s.2.2.2.2.2.1 q11.2)))))
def F_214_49 (rec : sm_H → Option (Int32 × sm_H)) (y2 : Int32) (y3 : Int32) (y4 : Int32) (y5 : Int32) (y6 : Int32) (y7 : Int32) (h : sm_H) : Option (Int32 × sm_H) := lp (F_214_49B rec ) 1000000 (y2, y3, y4, y5, y6, y7, h)
def F_214_12 (rec : sm_H → Option (Int32 × sm_H))  (h : sm_H) : Option (Int32 × sm_H) :=
  (F_170 6 h).bind fun q12 =>
  some (q12.1, q12.2)
def F_214_0 (rec : sm_H → Option (Int32 × sm_H)) (x1 : Int32) (x2 : Int32) (h : sm_H) : Option (Int32 × sm_H) :=
  if x1 < 0 then (F_214_12 rec  h)
  else (if x1 < (h.1 55 15) then ((some ((h.1 55 12) : Int32)).bind fun v13 =>
  (ldI h 63 60 x1).bind fun v14 =>
  (F_45 v14 h).bind fun q15 =>
  F_214_49 rec  x2 v13 v14 q15.1 0 0 q15.2)
  else (F_214_12 rec  h))
abbrev F_214 (rec : sm_H → Option (Int32 × sm_H)) (x1 : Int32) (x2 : Int32) (h : sm_H) : Option (Int32 × sm_H) := F_214_0 rec x1 x2 h
def F_74_78  (h : sm_H) : Option (Int32 × sm_H) :=
  some ((h.1 49 11), h)
def F_74_53 (z1 : Int32) (h : sm_H) : Option (Int32 × sm_H) :=
  (some (sm_wI h 49 12 z1)).bind fun h1 =>
  if (h1.1 49 11) = 0 then (F_74_78  h1)
  else (if (h1.1 49 11) = 1 then (F_74_78  h1)
  else ((F_75 0 0 h1).bind fun q2 =>
  F_74_78  q2.2))
def F_74_0 (x1 : Int32) (x2 : Int32) (h : sm_H) : Option (Int32 × sm_H) :=
  (some (sm_wI h 49 7 x2)).bind fun h3 =>
  (some (sm_wI h3 49 8 0)).bind fun h4 =>
  (K_82 102 x1 0 h4).bind fun q5 =>
  (some (sm_wI q5.2 49 11 q5.1)).bind fun h6 =>
  if (h6.1 49 11) = 0 then ((F_44 x1 h6).bind fun q7 =>
  F_74_53  q7.1 q7.2)
  else (if (h6.1 49 11) = 1 then (F_74_53  19 h6)
  else (F_74_53  0 h6))
abbrev F_74 (x1 : Int32) (x2 : Int32) (h : sm_H) : Option (Int32 × sm_H) := F_74_0 x1 x2 h
def F_276_146 (y1 : Int32) (y2 : Int32) (h : sm_H) : Option (Int32 × sm_H) :=
  (F_74 y1 y2 h).bind fun q1 =>
  some (q1.1, q1.2)
def F_276_101B (s : (Int32 × Int32 × Int32 × Int32 × sm_H)) : Option ((Int32 × Int32 × Int32 × Int32 × sm_H) ⊕ (Int32 × sm_H)) :=
  if s.2.2.1 ≤ s.2.2.2.1 then ((F_276_146  s.1 s.2.1 s.2.2.2.2).map fun r => (.inr r))
  else (if 10 ≤ s.2.2.2.1 then ((F_276_146  s.1 s.2.1 s.2.2.2.2).map fun r => (.inr r))
  else ((F_46 s.1 s.2.2.2.1 s.2.2.2.2).bind fun q2 =>
  (ldJ q2.2 66 10 s.2.2.2.1).bind fun v3 =>
  (F_73 s.2.2.2.1 q2.1 v3 q2.2).bind fun q4 =>
  (some (s.2.2.2.1 + 1 : Int32)).bind fun v5 =>
  some (.inl (s.1, s.2.1, s.2.2.1, v5, q4))))
def F_276_101 (y1 : Int32) (y2 : Int32) (y3 : Int32) (y4 : Int32) (h : sm_H) : Option (Int32 × sm_H) := lp (F_276_101B ) 1000000 (y1, y2, y3, y4, h)
def F_276_98 (y1 : Int32) (y2 : Int32) (y3 : Int32) (h : sm_H) : Option (Int32 × sm_H) :=
  F_276_101  y1 y2 y3 0 h
def F_276_50B (s : (Int32 × Int32 × Int32 × Int32 × sm_H)) : Option ((Int32 × Int32 × Int32 × Int32 × sm_H) ⊕ (Int32 × sm_H)) :=
  if s.2.2.1 ≤ s.2.2.2.1 then ((F_276_98  s.1 s.2.1 s.2.2.1 s.2.2.2.2).map fun r => (.inr r))
  else (if 10 ≤ s.2.2.2.1 then ((F_276_98  s.1 s.2.1 s.2.2.1 s.2.2.2.2).map fun r => (.inr r))
  else ((F_46 s.1 s.2.2.2.1 s.2.2.2.2).bind fun q6 =>
  (ldJ q6.2 66 10 s.2.2.2.1).bind fun v7 =>
  (F_152 q6.1 v7 q6.2).bind fun q8 =>
  if q8.1 = 0 then ((some (s.2.2.2.1 + 1 : Int32)).bind fun v9 =>
  some (.inl (s.1, s.2.1, s.2.2.1, v9, q8.2)))
  else (some (.inr ((-1), q8.2)))))
def F_276_50 (y1 : Int32) (y2 : Int32) (y3 : Int32) (y4 : Int32) (h : sm_H) : Option (Int32 × sm_H) := lp (F_276_50B ) 1000000 (y1, y2, y3, y4, h)
def F_276_45  (h : sm_H) : Option (Int32 × sm_H) :=
  some ((-1), h)
def F_276_0 (x1 : Int32) (x2 : Int32) (h : sm_H) : Option (Int32 × sm_H) :=
  (some ((h.1 0 11) : Int32)).bind fun v10 =>
  (some (sm_wI h 0 11 0)).bind fun h11 =>
  (F_36 x1 h11).bind fun q12 =>
  if q12.1 = 0 then (F_276_45  q12.2)
  else (if x2 < 1 then (F_276_45  q12.2)
  else (if 10000 < x2 then (F_276_45  q12.2)
  else ((F_45 x1 q12.2).bind fun q13 =>
  if q13.1 = v10 then (F_276_50  x1 x2 v10 0 q13.2)
  else (F_276_45  q13.2))))
abbrev F_276 (x1 : Int32) (x2 : Int32) (h : sm_H) : Option (Int32 × sm_H) := F_276_0 x1 x2 h
def F_200_119 (rec : sm_H → Option (Int32 × sm_H)) (z0 : Int32) (h : sm_H) : Option (Int32 × sm_H) :=
  some (z0, h)
def F_200_73 (rec : sm_H → Option (Int32 × sm_H))  (h : sm_H) : Option (Int32 × sm_H) :=
  some ((-1), h)
def F_200_52 (rec : sm_H → Option (Int32 × sm_H))  (h : sm_H) : Option (Int32 × sm_H) :=
  some ((-1), h)
def F_200_34 (rec : sm_H → Option (Int32 × sm_H)) (y1 : Int32) (y3 : Int32) (y4 : Int32) (y5 : Int32) (h : sm_H) : Option (Int32 × sm_H) :=
  if y5 = (-1) then (F_200_52 rec  h)
  else (if y1 < 0 then (F_200_52 rec  h)
  else ((sm_al G0 h 1000003).bind fun v1 =>
  if y1 < v1 then ((sm_ldI G0 h 1000003 y1).bind fun v2 =>
  (F_199 rec v2 h).bind fun q3 =>
  if q3.1 = 0 then (F_200_73 rec  q3.2)
  else ((F_175 q3.2).bind fun q4 =>
  if q4.1 = 0 then (F_200_73 rec  q4.2)
  else ((F_203 y1 y5 y4 q4.2).bind fun q5 =>
  if q5.1 = 0 then ((F_169 7 y3 q5.2).bind fun q8 =>
  some (q8.1, q8.2))
  else (if y1 = 0 then ((F_205 y4 y3 q5.2).bind fun q7 =>
  F_200_119 rec  q7.1 q7.2)
  else ((F_202 y1 y5 y4 y3 q5.2).bind fun q6 =>
  F_200_119 rec  q6.1 q6.2)))))
  else (F_200_52 rec  h)))
def F_200_29 (rec : sm_H → Option (Int32 × sm_H)) (y1 : Int32) (y3 : Int32) (y4 : Int32) (z1 : Int32) (h : sm_H) : Option (Int32 × sm_H) :=
  (F_176 z1 h).bind fun q9 =>
  F_200_34 rec  y1 y3 y4 q9.1 q9.2
def F_200_0 (rec : sm_H → Option (Int32 × sm_H)) (x1 : Int32) (x2 : Int32) (x3 : Int32) (h : sm_H) : Option (Int32 × sm_H) :=
  (some ((h.1 55 12) : Int32)).bind fun v10 =>
  (F_201 x1 h).bind fun q11 =>
  if q11.1 = 0 then (F_200_34 rec  x1 x3 v10 x2 q11.2)
  else (if x1 = 14 then (F_200_29 rec  x1 x3 v10 1 q11.2)
  else (F_200_29 rec  x1 x3 v10 0 q11.2))
abbrev F_200 (rec : sm_H → Option (Int32 × sm_H)) (x1 : Int32) (x2 : Int32) (x3 : Int32) (h : sm_H) : Option (Int32 × sm_H) := F_200_0 rec x1 x2 x3 h
def F_198_75 (rec : sm_H → Option (Int32 × sm_H)) (y1 : Int32) (y2 : Int32) (h : sm_H) : Option (Int32 × sm_H) :=
  (F_200 rec y2 0 y1 h).bind fun q1 =>
  some (q1.1, q1.2)
def F_198_0 (rec : sm_H → Option (Int32 × sm_H)) (x1 : Int32) (x2 : Int32) (h : sm_H) : Option (Int32 × sm_H) :=
  if x2 = (-1) then ((F_248 h).bind fun q2 =>
  (F_166 q2.1 q2.2).bind fun q3 =>
  (F_214 rec q3.1 x1 q3.2).bind fun q4 =>
  some (q4.1, q4.2))
  else (if x2 = 1 then ((F_209 rec x1 h).bind fun q5 =>
  some (q5.1, q5.2))
  else (if x2 = 3 then ((F_211 rec x1 h).bind fun q6 =>
  some (q6.1, q6.2))
  else (if x2 = 4 then ((F_210 rec x1 h).bind fun q7 =>
  some (q7.1, q7.2))
  else (F_198_75 rec  x1 x2 h))))
abbrev F_198 (rec : sm_H → Option (Int32 × sm_H)) (x1 : Int32) (x2 : Int32) (h : sm_H) : Option (Int32 × sm_H) := F_198_0 rec x1 x2 h
def F_196_69 (rec : sm_H → Option (Int32 × sm_H)) (y2 : Int32) (y3 : Int32) (h : sm_H) : Option (Int32 × sm_H) :=
  (some (sm_wI h 55 12 y2)).bind fun h1 =>
  some (y3, h1)
def F_196_0 (rec : sm_H → Option (Int32 × sm_H)) (x1 : Int32) (h : sm_H) : Option (Int32 × sm_H) :=
  (some ((h.1 55 12) : Int32)).bind fun v2 =>
  (F_171 h).bind fun q3 =>
  if q3.1 = 5 then ((F_245 q3.2).bind fun q8 =>
  (F_200 rec 16 q8.1 x1 q8.2).bind fun q9 =>
  F_196_69 rec  v2 q9.1 q9.2)
  else (if q3.1 = 4 then ((F_248 q3.2).bind fun q5 =>
  (F_197 q5.1 q5.2).bind fun q6 =>
  (F_198 rec x1 q6.1 q6.2).bind fun q7 =>
  F_196_69 rec  v2 q7.1 q7.2)
  else ((F_170 4 q3.2).bind fun q4 =>
  F_196_69 rec  v2 (-1) q4.2))
abbrev F_196 (rec : sm_H → Option (Int32 × sm_H)) (x1 : Int32) (h : sm_H) : Option (Int32 × sm_H) := F_196_0 rec x1 h
def F_194_109 (rec : sm_H → Option (Int32 × sm_H))  (h : sm_H) : Option (Int32 × sm_H) :=
  (F_170 4 h).bind fun q1 =>
  some (q1.1, q1.2)
def F_194_108 (rec : sm_H → Option (Int32 × sm_H)) (z0 : Int32) (h : sm_H) : Option (Int32 × sm_H) :=
  some (z0, h)
def F_194_0 (rec : sm_H → Option (Int32 × sm_H))  (h : sm_H) : Option (Int32 × sm_H) :=
  (F_243 h).bind fun q2 =>
  (F_242 q2.2).bind fun q3 =>
  if q3.1 = 1 then ((F_173 q3.2).bind fun q4 =>
  if q4.1 = 0 then (F_194_108 rec  (-1) q4.2)
  else ((F_196 rec q2.1 q4.2).bind fun q5 =>
  F_194_108 rec  q5.1 q5.2))
  else (if q3.1 = 3 then ((F_138 56 q3.2).bind fun q6 =>
  (F_247 q6).bind fun q7 =>
  (F_246 q7.2).bind fun q8 =>
  (F_5 0 q7.1 0 q8.1 56 q8.2).bind fun q9 =>
  (F_192 q9.1 0 0 q2.1 q9.2).bind fun q10 =>
  some (q10.1, q10.2))
  else (if q3.1 = 4 then ((F_195 q2.1 q3.2).bind fun q11 =>
  some (q11.1, q11.2))
  else (F_194_109 rec  q3.2)))
abbrev F_194R (rec : sm_H → Option (Int32 × sm_H))  (h : sm_H) : Option (Int32 × sm_H) := F_194_0 rec  h
def K_194 : Nat → sm_H → Option (Int32 × sm_H)
  | 0, _ => none
  | n + 1, h => F_194R (K_194 n)  h
def F_167_150  (h : sm_H) : Option (Int32 × sm_H) :=
  (F_241 h).bind fun q1 =>
  some ((q1.1 55 17), q1)
def F_167_144 (y1 : Int32) (h : sm_H) : Option ((Int32 × sm_H) ⊕ (Int32 × sm_H)) :=
  (some (y1 + 1 : Int32)).bind fun v2 =>
  some (.inl (v2, h))
def F_167_113 (y1 : Int32) (y2 : Int32) (y3 : Int32) (y4 : Int32) (z0 : Int32) (h : sm_H) : Option ((Int32 × sm_H) ⊕ (Int32 × sm_H)) :=
  if z0 = (-1) then (F_167_144  y1 h)
  else ((F_175 h).bind fun q3 =>
  if q3.1 = 0 then (F_167_144  y1 q3.2)
  else ((F_186 12 z0 y3 y2 q3.2).bind fun q4 =>
  (F_168 y4 q4.1 q4.2).bind fun q5 =>
  F_167_144  y1 q5))
def F_167_97 (y1 : Int32) (y2 : Int32) (y3 : Int32) (z0 : Int32) (h : sm_H) : Option ((Int32 × sm_H) ⊕ (Int32 × sm_H)) :=
  if z0 = (-1) then (F_167_113  y1 y2 y3 z0 (-1) h)
  else ((F_193 (K_194 25) h).bind fun q6 =>
  F_167_113  y1 y2 y3 z0 q6.1 q6.2)
def F_167_96 (y1 : Int32) (y2 : Int32) (y3 : Int32) (h : sm_H) : Option ((Int32 × sm_H) ⊕ (Int32 × sm_H)) :=
  F_167_97  y1 y2 y3 (-1) h
def F_167_74 (y1 : Int32) (y2 : Int32) (z0 : Int32) (h : sm_H) : Option ((Int32 × sm_H) ⊕ (Int32 × sm_H)) :=
  if z0 = (-1) then (F_167_96  y1 y2 z0 h)
  else ((F_178 h).bind fun q7 =>
  if q7.1 = 0 then (F_167_96  y1 y2 z0 q7.2)
  else ((F_180 z0 y2 q7.2).bind fun q8 =>
  F_167_97  y1 y2 z0 q8.1 q8.2))
def F_167_29B (s : (Int32 × sm_H)) : Option ((Int32 × sm_H) ⊕ (Int32 × sm_H)) :=
  if 3000 ≤ s.1 then ((F_167_150  s.2).map fun r => (.inr r))
  else (if (s.2.1 55 17) = 0 then ((F_171 s.2).bind fun q9 =>
  if q9.1 = 0 then ((F_167_150  q9.2).map fun r => (.inr r))
  else ((F_243 q9.2).bind fun q10 =>
  (F_177 q10.2).bind fun q11 =>
  if q11.1 = 0 then (F_167_74  s.1 q10.1 (-1) q11.2)
  else ((F_176 1 q11.2).bind fun q12 =>
  F_167_74  s.1 q10.1 q12.1 q12.2)))
  else ((F_167_150  s.2).map fun r => (.inr r)))
def F_167_29 (y1 : Int32) (h : sm_H) : Option (Int32 × sm_H) := lp (F_167_29B ) 1000000 (y1, h)
def F_167_0  (h : sm_H) : Option (Int32 × sm_H) :=
  (some (sm_wI h 55 17 0)).bind fun h13 =>
  (some (sm_wI h13 55 18 (-1))).bind fun h14 =>
  (some (sm_wI h14 55 16 0)).bind fun h15 =>
  (some (sm_wI h15 55 12 0)).bind fun h16 =>
  (F_240 h16).bind fun q17 =>
  F_167_29  0 q17
abbrev F_167  (h : sm_H) : Option (Int32 × sm_H) := F_167_0  h
def F_284_0  (h : sm_H) : Option (Int32 × sm_H) :=
  (F_167 h).bind fun q1 =>
  some (q1.1, q1.2)
abbrev F_284  (h : sm_H) : Option (Int32 × sm_H) := F_284_0  h
def F_470_1184 (L : Nat) (xs : Nat → Int32) (y3 : Int32) (h : sm_H) : Option ((Int32 × sm_H) ⊕ (Int32 × sm_H)) :=
  (some (y3 + 6 : Int32)).bind fun v1 =>
  some (.inl (v1, h))
def F_470_1176 (L : Nat) (xs : Nat → Int32) (y3 : Int32) (z0 : Int32) (z2 : Int32) (z3 : Int32) (z4 : Int32) (h : sm_H) : Option ((Int32 × sm_H) ⊕ (Int32 × sm_H)) :=
  (F_469 z2 z3 z4 h).bind fun q2 =>
  if z0 = q2.1 then (F_470_1184 L xs  y3 q2.2)
  else (some (.inr (0, q2.2)))
def F_470_1149 (L : Nat) (xs : Nat → Int32) (y3 : Int32) (z1 : Int32) (z2 : Int32) (z3 : Int32) (h : sm_H) : Option ((Int32 × sm_H) ⊕ (Int32 × sm_H)) :=
  (F_287 z1 z2 z3 h).bind fun q3 =>
  (sm_ldI (P_G L xs) q3.2 1000004 (y3 + 1)).bind fun v4 =>
  (sm_ldI (P_G L xs) q3.2 1000004 (y3 + 2)).bind fun v5 =>
  (sm_ldI (P_G L xs) q3.2 1000004 (y3 + 3)).bind fun v6 =>
  if v6 = 0 then (F_470_1176 L xs  y3 q3.1 v4 v5 0 q3.2)
  else (F_470_1176 L xs  y3 q3.1 v4 v5 1 q3.2)
def F_470_557 (L : Nat) (xs : Nat → Int32) (y3 : Int32) (z0 : Int32) (z2 : Int32) (z3 : Int32) (z4 : Int32) (z5 : Int32) (h : sm_H) : Option ((Int32 × sm_H) ⊕ (Int32 × sm_H)) :=
  (sm_ldI (P_G L xs) h 1000004 (y3 + 5)).bind fun v7 =>
  (F_391 z2 z3 z4 z5 v7 h).bind fun q8 =>
  if z0 = q8.1 then (F_470_1184 L xs  y3 q8.2)
  else (some (.inr (0, q8.2)))
def F_470_520 (L : Nat) (xs : Nat → Int32) (y3 : Int32) (z1 : Int32) (z2 : Int32) (z3 : Int32) (z4 : Int32) (h : sm_H) : Option ((Int32 × sm_H) ⊕ (Int32 × sm_H)) :=
  (sm_ldI (P_G L xs) h 1000004 (y3 + 5)).bind fun v9 =>
  (F_268 z1 z2 z3 z4 v9 h).bind fun q10 =>
  (sm_ldI (P_G L xs) q10.2 1000004 (y3 + 1)).bind fun v11 =>
  (sm_ldI (P_G L xs) q10.2 1000004 (y3 + 2)).bind fun v12 =>
  (sm_ldI (P_G L xs) q10.2 1000004 (y3 + 3)).bind fun v13 =>
  (sm_ldI (P_G L xs) q10.2 1000004 (y3 + 4)).bind fun v14 =>
  if v14 = 0 then (F_470_557 L xs  y3 q10.1 v11 v12 v13 0 q10.2)
  else (F_470_557 L xs  y3 q10.1 v11 v12 v13 1 q10.2)
def F_470_478 (L : Nat) (xs : Nat → Int32) (y3 : Int32) (z0 : Int32) (z2 : Int32) (z3 : Int32) (z4 : Int32) (z5 : Int32) (h : sm_H) : Option ((Int32 × sm_H) ⊕ (Int32 × sm_H)) :=
  (sm_ldI (P_G L xs) h 1000004 (y3 + 5)).bind fun v15 =>
  (F_390 z2 z3 z4 z5 v15 h).bind fun q16 =>
  if z0 = q16.1 then (F_470_1184 L xs  y3 q16.2)
  else (some (.inr (0, q16.2)))
def F_470_441 (L : Nat) (xs : Nat → Int32) (y3 : Int32) (z1 : Int32) (z2 : Int32) (z3 : Int32) (z4 : Int32) (h : sm_H) : Option ((Int32 × sm_H) ⊕ (Int32 × sm_H)) :=
  (sm_ldI (P_G L xs) h 1000004 (y3 + 5)).bind fun v17 =>
  (F_267 z1 z2 z3 z4 v17 h).bind fun q18 =>
  (sm_ldI (P_G L xs) q18.2 1000004 (y3 + 1)).bind fun v19 =>
  (sm_ldI (P_G L xs) q18.2 1000004 (y3 + 2)).bind fun v20 =>
  (sm_ldI (P_G L xs) q18.2 1000004 (y3 + 3)).bind fun v21 =>
  (sm_ldI (P_G L xs) q18.2 1000004 (y3 + 4)).bind fun v22 =>
  if v22 = 0 then (F_470_478 L xs  y3 q18.1 v19 v20 v21 0 q18.2)
  else (F_470_478 L xs  y3 q18.1 v19 v20 v21 1 q18.2)
def F_470_18B (L : Nat) (xs : Nat → Int32) (s : (Int32 × sm_H)) : Option ((Int32 × sm_H) ⊕ (Int32 × sm_H)) :=
  (sm_al (P_G L xs) s.2 1000004).bind fun v23 =>
  if (v23 - 6) < s.1 then (some (.inr (1, s.2)))
  else ((sm_ldI (P_G L xs) s.2 1000004 s.1).bind fun v24 =>
  if (v24 &&& 31) = 0 then ((sm_ldI (P_G L xs) s.2 1000004 (s.1 + 1)).bind fun v25 =>
  (F_258 v25 s.2).bind fun q26 =>
  (sm_ldI (P_G L xs) q26.2 1000004 (s.1 + 1)).bind fun v27 =>
  (F_380 v27 q26.2).bind fun q28 =>
  if q26.1 = q28.1 then (F_470_1184 L xs  s.1 q28.2)
  else (some (.inr (0, q28.2))))
  else (if (v24 &&& 31) = 1 then ((sm_ldI (P_G L xs) s.2 1000004 (s.1 + 1)).bind fun v29 =>
  (sm_ldI (P_G L xs) s.2 1000004 (s.1 + 2)).bind fun v30 =>
  (F_259 v29 v30 s.2).bind fun q31 =>
  (sm_ldI (P_G L xs) q31.2 1000004 (s.1 + 1)).bind fun v32 =>
  (sm_ldI (P_G L xs) q31.2 1000004 (s.1 + 2)).bind fun v33 =>
  (F_381 v32 v33 q31.2).bind fun q34 =>
  if q31.1 = q34.1 then (F_470_1184 L xs  s.1 q34.2)
  else (some (.inr (0, q34.2))))
  else (if (v24 &&& 31) = 2 then ((sm_ldI (P_G L xs) s.2 1000004 (s.1 + 1)).bind fun v35 =>
  (F_260 v35 s.2).bind fun q36 =>
  (sm_ldI (P_G L xs) q36.2 1000004 (s.1 + 1)).bind fun v37 =>
  (F_382 v37 q36.2).bind fun q38 =>
  if q36.1 = q38.1 then (F_470_1184 L xs  s.1 q38.2)
  else (some (.inr (0, q38.2))))
  else (if (v24 &&& 31) = 3 then ((sm_ldI (P_G L xs) s.2 1000004 (s.1 + 1)).bind fun v39 =>
  (sm_ldI (P_G L xs) s.2 1000004 (s.1 + 2)).bind fun v40 =>
  (F_262 v39 v40 s.2).bind fun q41 =>
  (sm_ldI (P_G L xs) q41.2 1000004 (s.1 + 1)).bind fun v42 =>
  (sm_ldI (P_G L xs) q41.2 1000004 (s.1 + 2)).bind fun v43 =>
  (F_383 v42 v43 q41.2).bind fun q44 =>
  if q41.1 = q44.1 then (F_470_1184 L xs  s.1 q44.2)
  else (some (.inr (0, q44.2))))
  else (if (v24 &&& 31) = 4 then ((sm_ldI (P_G L xs) s.2 1000004 (s.1 + 1)).bind fun v45 =>
  (sm_ldI (P_G L xs) s.2 1000004 (s.1 + 2)).bind fun v46 =>
  (sm_ldI (P_G L xs) s.2 1000004 (s.1 + 3)).bind fun v47 =>
  (sm_ldI (P_G L xs) s.2 1000004 (s.1 + 4)).bind fun v48 =>
  (sm_ldI (P_G L xs) s.2 1000004 (s.1 + 5)).bind fun v49 =>
  (F_263 v45 v46 v47 (((Int32.toInt64 v48) <<< (Int32.toInt64 32 &&& 63)) ||| ((Int32.toInt64 v49) &&& 4294967295)) s.2).bind fun q50 =>
  (sm_ldI (P_G L xs) q50.2 1000004 (s.1 + 1)).bind fun v51 =>
  (sm_ldI (P_G L xs) q50.2 1000004 (s.1 + 2)).bind fun v52 =>
  (sm_ldI (P_G L xs) q50.2 1000004 (s.1 + 3)).bind fun v53 =>
  (sm_ldI (P_G L xs) q50.2 1000004 (s.1 + 4)).bind fun v54 =>
  (sm_ldI (P_G L xs) q50.2 1000004 (s.1 + 5)).bind fun v55 =>
  (F_384 v51 v52 v53 (((Int32.toInt64 v54) <<< (Int32.toInt64 32 &&& 63)) ||| ((Int32.toInt64 v55) &&& 4294967295)) q50.2).bind fun q56 =>
  if q50.1 = q56.1 then (F_470_1184 L xs  s.1 q56.2)
  else (some (.inr (0, q56.2))))
  else (if (v24 &&& 31) = 5 then ((sm_ldI (P_G L xs) s.2 1000004 (s.1 + 1)).bind fun v57 =>
  (sm_ldI (P_G L xs) s.2 1000004 (s.1 + 2)).bind fun v58 =>
  (F_265 v57 v58 s.2).bind fun q59 =>
  (sm_ldI (P_G L xs) q59.2 1000004 (s.1 + 1)).bind fun v60 =>
  (sm_ldI (P_G L xs) q59.2 1000004 (s.1 + 2)).bind fun v61 =>
  (F_385 v60 v61 q59.2).bind fun q62 =>
  if q59.1 = q62.1 then (F_470_1184 L xs  s.1 q62.2)
  else (some (.inr (0, q62.2))))
  else (if (v24 &&& 31) = 6 then ((sm_ldI (P_G L xs) s.2 1000004 (s.1 + 1)).bind fun v63 =>
  (F_266 v63 s.2).bind fun q64 =>
  (sm_ldI (P_G L xs) q64.2 1000004 (s.1 + 1)).bind fun v65 =>
  (F_386 v65 q64.2).bind fun q66 =>
  if (lg_cmp q64.1 q66.1) = 0 then (F_470_1184 L xs  s.1 q66.2)
  else (some (.inr (0, q66.2))))
  else (if (v24 &&& 31) = 7 then ((sm_ldI (P_G L xs) s.2 1000004 (s.1 + 1)).bind fun v67 =>
  (sm_ldI (P_G L xs) s.2 1000004 (s.1 + 2)).bind fun v68 =>
  (sm_ldI (P_G L xs) s.2 1000004 (s.1 + 3)).bind fun v69 =>
  (sm_ldI (P_G L xs) s.2 1000004 (s.1 + 4)).bind fun v70 =>
  if v70 = 0 then (F_470_441 L xs  s.1 v67 v68 v69 0 s.2)
  else (F_470_441 L xs  s.1 v67 v68 v69 1 s.2))
  else (if (v24 &&& 31) = 8 then ((sm_ldI (P_G L xs) s.2 1000004 (s.1 + 1)).bind fun v71 =>
  (sm_ldI (P_G L xs) s.2 1000004 (s.1 + 2)).bind fun v72 =>
  (sm_ldI (P_G L xs) s.2 1000004 (s.1 + 3)).bind fun v73 =>
  (sm_ldI (P_G L xs) s.2 1000004 (s.1 + 4)).bind fun v74 =>
  if v74 = 0 then (F_470_520 L xs  s.1 v71 v72 v73 0 s.2)
  else (F_470_520 L xs  s.1 v71 v72 v73 1 s.2))
  else (if (v24 &&& 31) = 9 then ((sm_ldI (P_G L xs) s.2 1000004 (s.1 + 1)).bind fun v75 =>
  (sm_ldI (P_G L xs) s.2 1000004 (s.1 + 2)).bind fun v76 =>
  (sm_ldI (P_G L xs) s.2 1000004 (s.1 + 3)).bind fun v77 =>
  (sm_ldI (P_G L xs) s.2 1000004 (s.1 + 4)).bind fun v78 =>
  (sm_ldI (P_G L xs) s.2 1000004 (s.1 + 5)).bind fun v79 =>
  (F_269 v75 v76 v77 v78 v79 s.2).bind fun q80 =>
  (sm_ldI (P_G L xs) q80.2 1000004 (s.1 + 1)).bind fun v81 =>
  (sm_ldI (P_G L xs) q80.2 1000004 (s.1 + 2)).bind fun v82 =>
  (sm_ldI (P_G L xs) q80.2 1000004 (s.1 + 3)).bind fun v83 =>
  (sm_ldI (P_G L xs) q80.2 1000004 (s.1 + 4)).bind fun v84 =>
  (sm_ldI (P_G L xs) q80.2 1000004 (s.1 + 5)).bind fun v85 =>
  (F_395 v81 v82 v83 v84 v85 q80.2).bind fun q86 =>
  if q80.1 = q86.1 then (F_470_1184 L xs  s.1 q86.2)
  else (some (.inr (0, q86.2))))
  else (if (v24 &&& 31) = 10 then ((F_270 s.2).bind fun q87 =>
  (F_397 q87.2).bind fun q88 =>
  if q87.1 = q88.1 then (F_470_1184 L xs  s.1 q88.2)
  else (some (.inr (0, q88.2))))
  else (if (v24 &&& 31) = 11 then ((sm_ldI (P_G L xs) s.2 1000004 (s.1 + 1)).bind fun v89 =>
  (F_271 v89 s.2).bind fun q90 =>
  (sm_ldI (P_G L xs) q90.2 1000004 (s.1 + 1)).bind fun v91 =>
  (F_398 v91 q90.2).bind fun q92 =>
  if q90.1 = q92.1 then (F_470_1184 L xs  s.1 q92.2)
  else (some (.inr (0, q92.2))))
  else (if (v24 &&& 31) = 12 then ((sm_ldI (P_G L xs) s.2 1000004 (s.1 + 1)).bind fun v93 =>
  (sm_ldI (P_G L xs) s.2 1000004 (s.1 + 2)).bind fun v94 =>
  (F_272 v93 v94 s.2).bind fun q95 =>
  (sm_ldI (P_G L xs) q95.2 1000004 (s.1 + 1)).bind fun v96 =>
  (sm_ldI (P_G L xs) q95.2 1000004 (s.1 + 2)).bind fun v97 =>
  (F_399 v96 v97 q95.2).bind fun q98 =>
  if q95.1 = q98.1 then (F_470_1184 L xs  s.1 q98.2)
  else (some (.inr (0, q98.2))))
  else (if (v24 &&& 31) = 13 then ((F_273 s.2).bind fun q99 =>
  (F_400 q99.2).bind fun q100 =>
  if q99.1 = q100.1 then (F_470_1184 L xs  s.1 q100.2)
  else (some (.inr (0, q100.2))))
  else (if (v24 &&& 31) = 14 then ((sm_ldI (P_G L xs) s.2 1000004 (s.1 + 1)).bind fun v101 =>
  (F_274 v101 s.2).bind fun q102 =>
  (sm_ldI (P_G L xs) q102.2 1000004 (s.1 + 1)).bind fun v103 =>
  (F_401 v103 q102.2).bind fun q104 =>
  if q102.1 = q104.1 then (F_470_1184 L xs  s.1 q104.2)
  else (some (.inr (0, q104.2))))
  else (if (v24 &&& 31) = 15 then ((sm_ldI (P_G L xs) s.2 1000004 (s.1 + 1)).bind fun v105 =>
  (sm_ldI (P_G L xs) s.2 1000004 (s.1 + 2)).bind fun v106 =>
  (F_275 (((Int32.toInt64 v105) <<< (Int32.toInt64 32 &&& 63)) ||| ((Int32.toInt64 v106) &&& 4294967295)) s.2).bind fun q107 =>
  (sm_ldI (P_G L xs) q107.2 1000004 (s.1 + 1)).bind fun v108 =>
  (sm_ldI (P_G L xs) q107.2 1000004 (s.1 + 2)).bind fun v109 =>
  (F_402 (((Int32.toInt64 v108) <<< (Int32.toInt64 32 &&& 63)) ||| ((Int32.toInt64 v109) &&& 4294967295)) q107.2).bind fun q110 =>
  if q107.1 = q110.1 then (F_470_1184 L xs  s.1 q110.2)
  else (some (.inr (0, q110.2))))
  else (if (v24 &&& 31) = 16 then ((sm_ldI (P_G L xs) s.2 1000004 (s.1 + 1)).bind fun v111 =>
  (sm_ldI (P_G L xs) s.2 1000004 (s.1 + 2)).bind fun v112 =>
  (F_276 v111 v112 s.2).bind fun q113 =>
  (sm_ldI (P_G L xs) q113.2 1000004 (s.1 + 1)).bind fun v114 =>
  (sm_ldI (P_G L xs) q113.2 1000004 (s.1 + 2)).bind fun v115 =>
  (F_404 v114 v115 q113.2).bind fun q116 =>
  if q113.1 = q116.1 then (F_470_1184 L xs  s.1 q116.2)
  else (some (.inr (0, q116.2))))
  else (if (v24 &&& 31) = 17 then ((sm_ldI (P_G L xs) s.2 1000004 (s.1 + 1)).bind fun v117 =>
  (F_277 v117 s.2).bind fun q118 =>
  (sm_ldI (P_G L xs) q118.2 1000004 (s.1 + 1)).bind fun v119 =>
  (F_405 v119 q118.2).bind fun q120 =>
  if q118.1 = q120.1 then (F_470_1184 L xs  s.1 q120.2)
  else (some (.inr (0, q120.2))))
  else (if (v24 &&& 31) = 18 then ((F_278 s.2).bind fun q121 =>
  (F_407 q121.2).bind fun q122 =>
  if (lg_cmp q121.1 q122.1) = 0 then (F_470_1184 L xs  s.1 q122.2)
  else (some (.inr (0, q122.2))))
  else (if (v24 &&& 31) = 19 then ((F_279 s.2).bind fun q123 =>
  (F_408 q123.2).bind fun q124 =>
  if q123.1 = q124.1 then (F_470_1184 L xs  s.1 q124.2)
  else (some (.inr (0, q124.2))))
  else (if (v24 &&& 31) = 20 then ((sm_ldI (P_G L xs) s.2 1000004 (s.1 + 1)).bind fun v125 =>
  (sm_ldI (P_G L xs) s.2 1000004 (s.1 + 2)).bind fun v126 =>
  (F_280 v125 v126 s.2).bind fun q127 =>
  (sm_ldI (P_G L xs) q127.2 1000004 (s.1 + 1)).bind fun v128 =>
  (sm_ldI (P_G L xs) q127.2 1000004 (s.1 + 2)).bind fun v129 =>
  (F_409 v128 v129 q127.2).bind fun q130 =>
  if (lg_cmp q127.1 q130.1) = 0 then (F_470_1184 L xs  s.1 q130.2)
  else (some (.inr (0, q130.2))))
  else (if (v24 &&& 31) = 21 then ((sm_ldI (P_G L xs) s.2 1000004 (s.1 + 1)).bind fun v131 =>
  (sm_ldI (P_G L xs) s.2 1000004 (s.1 + 2)).bind fun v132 =>
  (sm_ldI (P_G L xs) s.2 1000004 (s.1 + 3)).bind fun v133 =>
  (F_281 v131 v132 v133 s.2).bind fun q134 =>
  (sm_ldI (P_G L xs) q134.2 1000004 (s.1 + 1)).bind fun v135 =>
  (sm_ldI (P_G L xs) q134.2 1000004 (s.1 + 2)).bind fun v136 =>
  (sm_ldI (P_G L xs) q134.2 1000004 (s.1 + 3)).bind fun v137 =>
  (F_410 v135 v136 v137 q134.2).bind fun q138 =>
  if (lg_cmp q134.1 q138.1) = 0 then (F_470_1184 L xs  s.1 q138.2)
  else (some (.inr (0, q138.2))))
  else (if (v24 &&& 31) = 22 then ((sm_ldI (P_G L xs) s.2 1000004 (s.1 + 1)).bind fun v139 =>
  (sm_ldI (P_G L xs) s.2 1000004 (s.1 + 2)).bind fun v140 =>
  (sm_ldI (P_G L xs) s.2 1000004 (s.1 + 3)).bind fun v141 =>
  (sm_ldI (P_G L xs) s.2 1000004 (s.1 + 4)).bind fun v142 =>
  (sm_ldI (P_G L xs) s.2 1000004 (s.1 + 5)).bind fun v143 =>
  (F_282 v139 v140 v141 v142 v143 s.2).bind fun q144 =>
  (sm_ldI (P_G L xs) q144 1000004 (s.1 + 1)).bind fun v145 =>
  (sm_ldI (P_G L xs) q144 1000004 (s.1 + 2)).bind fun v146 =>
  (sm_ldI (P_G L xs) q144 1000004 (s.1 + 3)).bind fun v147 =>
  (sm_ldI (P_G L xs) q144 1000004 (s.1 + 4)).bind fun v148 =>
  (sm_ldI (P_G L xs) q144 1000004 (s.1 + 5)).bind fun v149 =>
  (F_411 v145 v146 v147 v148 v149 q144).bind fun q150 =>
  F_470_1184 L xs  s.1 q150)
  else (if (v24 &&& 31) = 23 then ((sm_ldI (P_G L xs) s.2 1000004 (s.1 + 1)).bind fun v151 =>
  (F_283 v151 s.2).bind fun q152 =>
  (sm_ldI (P_G L xs) q152.2 1000004 (s.1 + 1)).bind fun v153 =>
  (F_412 v153 q152.2).bind fun q154 =>
  if q152.1 = q154.1 then (F_470_1184 L xs  s.1 q154.2)
  else (some (.inr (0, q154.2))))
  else (if (v24 &&& 31) = 24 then ((F_284 s.2).bind fun q155 =>
  (F_466 q155.2).bind fun q156 =>
  if q155.1 = q156.1 then (F_470_1184 L xs  s.1 q156.2)
  else (some (.inr (0, q156.2))))
  else (if (v24 &&& 31) = 25 then ((sm_ldI (P_G L xs) s.2 1000004 (s.1 + 1)).bind fun v157 =>
  (F_285 v157 s.2).bind fun q158 =>
  (sm_ldI (P_G L xs) q158.2 1000004 (s.1 + 1)).bind fun v159 =>
  (F_467 v159 q158.2).bind fun q160 =>
  if q158.1 = q160.1 then (F_470_1184 L xs  s.1 q160.2)
  else (some (.inr (0, q160.2))))
  else (if (v24 &&& 31) = 26 then ((sm_ldI (P_G L xs) s.2 1000004 (s.1 + 1)).bind fun v161 =>
  (sm_ldI (P_G L xs) s.2 1000004 (s.1 + 2)).bind fun v162 =>
  (F_286 (((Int32.toInt64 v161) <<< (Int32.toInt64 32 &&& 63)) ||| ((Int32.toInt64 v162) &&& 4294967295)) s.2).bind fun q163 =>
  (sm_ldI (P_G L xs) q163.2 1000004 (s.1 + 1)).bind fun v164 =>
  (sm_ldI (P_G L xs) q163.2 1000004 (s.1 + 2)).bind fun v165 =>
  (F_468 (((Int32.toInt64 v164) <<< (Int32.toInt64 32 &&& 63)) ||| ((Int32.toInt64 v165) &&& 4294967295)) q163.2).bind fun q166 =>
  if q163.1 = q166.1 then (F_470_1184 L xs  s.1 q166.2)
  else (some (.inr (0, q166.2))))
  else (if (v24 &&& 31) = 27 then ((sm_ldI (P_G L xs) s.2 1000004 (s.1 + 1)).bind fun v167 =>
  (sm_ldI (P_G L xs) s.2 1000004 (s.1 + 2)).bind fun v168 =>
  (sm_ldI (P_G L xs) s.2 1000004 (s.1 + 3)).bind fun v169 =>
  if v169 = 0 then (F_470_1149 L xs  s.1 v167 v168 0 s.2)
  else (F_470_1149 L xs  s.1 v167 v168 1 s.2))
  else (F_470_1184 L xs  s.1 s.2)))))))))))))))))))))))))))))
def F_470_18 (L : Nat) (xs : Nat → Int32) (y3 : Int32) (h : sm_H) : Option (Int32 × sm_H) := lp (F_470_18B L xs ) 1000000 (y3, h)
