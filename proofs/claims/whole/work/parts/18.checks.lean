/-! THE PROGRAM: every instruction checked -/
def P_ok (j : Nat) : Bool := sm_mok P_K P_CL P_F 8 P_Y P_TT j
theorem P_ck0 : ((List.range' 0 10).all fun j => P_ok j) = true := by decide +kernel
theorem P_ck1 : ((List.range' 10 10).all fun j => P_ok j) = true := by decide +kernel
theorem P_ck2 : ((List.range' 20 10).all fun j => P_ok j) = true := by decide +kernel
theorem P_ck3 : ((List.range' 30 10).all fun j => P_ok j) = true := by decide +kernel
theorem P_ck4 : ((List.range' 40 10).all fun j => P_ok j) = true := by decide +kernel
theorem P_ck5 : ((List.range' 50 10).all fun j => P_ok j) = true := by decide +kernel
theorem P_ck6 : ((List.range' 60 10).all fun j => P_ok j) = true := by decide +kernel
theorem P_ck7 : ((List.range' 70 10).all fun j => P_ok j) = true := by decide +kernel
theorem P_ck8 : ((List.range' 80 10).all fun j => P_ok j) = true := by decide +kernel
theorem P_ck9 : ((List.range' 90 10).all fun j => P_ok j) = true := by decide +kernel
theorem P_ck10 : ((List.range' 100 10).all fun j => P_ok j) = true := by decide +kernel
theorem P_ck11 : ((List.range' 110 10).all fun j => P_ok j) = true := by decide +kernel
theorem P_ck12 : ((List.range' 120 10).all fun j => P_ok j) = true := by decide +kernel
theorem P_ck13 : ((List.range' 130 10).all fun j => P_ok j) = true := by decide +kernel
theorem P_ck14 : ((List.range' 140 10).all fun j => P_ok j) = true := by decide +kernel
theorem P_ck15 : ((List.range' 150 10).all fun j => P_ok j) = true := by decide +kernel
theorem P_ck16 : ((List.range' 160 10).all fun j => P_ok j) = true := by decide +kernel
theorem P_ck17 : ((List.range' 170 10).all fun j => P_ok j) = true := by decide +kernel
theorem P_ck18 : ((List.range' 180 10).all fun j => P_ok j) = true := by decide +kernel
theorem P_ck19 : ((List.range' 190 10).all fun j => P_ok j) = true := by decide +kernel
theorem P_ck20 : ((List.range' 200 10).all fun j => P_ok j) = true := by decide +kernel
theorem P_ck21 : ((List.range' 210 10).all fun j => P_ok j) = true := by decide +kernel
theorem P_ck22 : ((List.range' 220 10).all fun j => P_ok j) = true := by decide +kernel
theorem P_ck23 : ((List.range' 230 10).all fun j => P_ok j) = true := by decide +kernel
theorem P_ck24 : ((List.range' 240 10).all fun j => P_ok j) = true := by decide +kernel
theorem P_ck25 : ((List.range' 250 10).all fun j => P_ok j) = true := by decide +kernel
theorem P_ck26 : ((List.range' 260 10).all fun j => P_ok j) = true := by decide +kernel
theorem P_ck27 : ((List.range' 270 10).all fun j => P_ok j) = true := by decide +kernel
theorem P_ck28 : ((List.range' 280 10).all fun j => P_ok j) = true := by decide +kernel
theorem P_ck29 : ((List.range' 290 10).all fun j => P_ok j) = true := by decide +kernel
theorem P_ck30 : ((List.range' 300 10).all fun j => P_ok j) = true := by decide +kernel
theorem P_ck31 : ((List.range' 310 10).all fun j => P_ok j) = true := by decide +kernel
theorem P_ck32 : ((List.range' 320 10).all fun j => P_ok j) = true := by decide +kernel
theorem P_ck33 : ((List.range' 330 10).all fun j => P_ok j) = true := by decide +kernel
theorem P_ck34 : ((List.range' 340 10).all fun j => P_ok j) = true := by decide +kernel
theorem P_ck35 : ((List.range' 350 10).all fun j => P_ok j) = true := by decide +kernel
theorem P_ck36 : ((List.range' 360 10).all fun j => P_ok j) = true := by decide +kernel
theorem P_ck37 : ((List.range' 370 10).all fun j => P_ok j) = true := by decide +kernel
theorem P_ck38 : ((List.range' 380 10).all fun j => P_ok j) = true := by decide +kernel
theorem P_ck39 : ((List.range' 390 10).all fun j => P_ok j) = true := by decide +kernel
theorem P_ck40 : ((List.range' 400 10).all fun j => P_ok j) = true := by decide +kernel
theorem P_ck41 : ((List.range' 410 10).all fun j => P_ok j) = true := by decide +kernel
theorem P_ck42 : ((List.range' 420 10).all fun j => P_ok j) = true := by decide +kernel
theorem P_ck43 : ((List.range' 430 10).all fun j => P_ok j) = true := by decide +kernel
theorem P_ck44 : ((List.range' 440 10).all fun j => P_ok j) = true := by decide +kernel
theorem P_ck45 : ((List.range' 450 10).all fun j => P_ok j) = true := by decide +kernel
theorem P_ck46 : ((List.range' 460 10).all fun j => P_ok j) = true := by decide +kernel
theorem P_ck47 : ((List.range' 470 1).all fun j => P_ok j) = true := by decide +kernel
theorem P_pick {a m : Nat} (h : ((List.range' a m).all fun j => P_ok j) = true) {j : Nat} (h1 : a ≤ j) (h2 : j < a + m) : P_ok j = true := List.all_eq_true.mp h j (List.mem_range'_1.mpr ⟨h1, h2⟩)
theorem P_all (j : Nat) (hj : j < 471) : P_ok j = true := by
  rcases Nat.lt_or_ge j 10 with h10 | h10
  · exact P_pick P_ck0 (by omega) (by omega)
  rcases Nat.lt_or_ge j 20 with h20 | h20
  · exact P_pick P_ck1 (by omega) (by omega)
  rcases Nat.lt_or_ge j 30 with h30 | h30
  · exact P_pick P_ck2 (by omega) (by omega)
  rcases Nat.lt_or_ge j 40 with h40 | h40
  · exact P_pick P_ck3 (by omega) (by omega)
  rcases Nat.lt_or_ge j 50 with h50 | h50
  · exact P_pick P_ck4 (by omega) (by omega)
  rcases Nat.lt_or_ge j 60 with h60 | h60
  · exact P_pick P_ck5 (by omega) (by omega)
  rcases Nat.lt_or_ge j 70 with h70 | h70
  · exact P_pick P_ck6 (by omega) (by omega)
  rcases Nat.lt_or_ge j 80 with h80 | h80
  · exact P_pick P_ck7 (by omega) (by omega)
  rcases Nat.lt_or_ge j 90 with h90 | h90
  · exact P_pick P_ck8 (by omega) (by omega)
  rcases Nat.lt_or_ge j 100 with h100 | h100
  · exact P_pick P_ck9 (by omega) (by omega)
  rcases Nat.lt_or_ge j 110 with h110 | h110
  · exact P_pick P_ck10 (by omega) (by omega)
  rcases Nat.lt_or_ge j 120 with h120 | h120
  · exact P_pick P_ck11 (by omega) (by omega)
  rcases Nat.lt_or_ge j 130 with h130 | h130
  · exact P_pick P_ck12 (by omega) (by omega)
  rcases Nat.lt_or_ge j 140 with h140 | h140
  · exact P_pick P_ck13 (by omega) (by omega)
  rcases Nat.lt_or_ge j 150 with h150 | h150
  · exact P_pick P_ck14 (by omega) (by omega)
  rcases Nat.lt_or_ge j 160 with h160 | h160
  · exact P_pick P_ck15 (by omega) (by omega)
  rcases Nat.lt_or_ge j 170 with h170 | h170
  · exact P_pick P_ck16 (by omega) (by omega)
  rcases Nat.lt_or_ge j 180 with h180 | h180
  · exact P_pick P_ck17 (by omega) (by omega)
  rcases Nat.lt_or_ge j 190 with h190 | h190
  · exact P_pick P_ck18 (by omega) (by omega)
  rcases Nat.lt_or_ge j 200 with h200 | h200
  · exact P_pick P_ck19 (by omega) (by omega)
  rcases Nat.lt_or_ge j 210 with h210 | h210
  · exact P_pick P_ck20 (by omega) (by omega)
  rcases Nat.lt_or_ge j 220 with h220 | h220
  · exact P_pick P_ck21 (by omega) (by omega)
  rcases Nat.lt_or_ge j 230 with h230 | h230
  · exact P_pick P_ck22 (by omega) (by omega)
  rcases Nat.lt_or_ge j 240 with h240 | h240
  · exact P_pick P_ck23 (by omega) (by omega)
  rcases Nat.lt_or_ge j 250 with h250 | h250
  · exact P_pick P_ck24 (by omega) (by omega)
  rcases Nat.lt_or_ge j 260 with h260 | h260
  · exact P_pick P_ck25 (by omega) (by omega)
  rcases Nat.lt_or_ge j 270 with h270 | h270
  · exact P_pick P_ck26 (by omega) (by omega)
  rcases Nat.lt_or_ge j 280 with h280 | h280
  · exact P_pick P_ck27 (by omega) (by omega)
  rcases Nat.lt_or_ge j 290 with h290 | h290
  · exact P_pick P_ck28 (by omega) (by omega)
  rcases Nat.lt_or_ge j 300 with h300 | h300
  · exact P_pick P_ck29 (by omega) (by omega)
  rcases Nat.lt_or_ge j 310 with h310 | h310
  · exact P_pick P_ck30 (by omega) (by omega)
  rcases Nat.lt_or_ge j 320 with h320 | h320
  · exact P_pick P_ck31 (by omega) (by omega)
  rcases Nat.lt_or_ge j 330 with h330 | h330
  · exact P_pick P_ck32 (by omega) (by omega)
  rcases Nat.lt_or_ge j 340 with h340 | h340
  · exact P_pick P_ck33 (by omega) (by omega)
  rcases Nat.lt_or_ge j 350 with h350 | h350
  · exact P_pick P_ck34 (by omega) (by omega)
  rcases Nat.lt_or_ge j 360 with h360 | h360
  · exact P_pick P_ck35 (by omega) (by omega)
  rcases Nat.lt_or_ge j 370 with h370 | h370
  · exact P_pick P_ck36 (by omega) (by omega)
  rcases Nat.lt_or_ge j 380 with h380 | h380
  · exact P_pick P_ck37 (by omega) (by omega)
  rcases Nat.lt_or_ge j 390 with h390 | h390
  · exact P_pick P_ck38 (by omega) (by omega)
  rcases Nat.lt_or_ge j 400 with h400 | h400
  · exact P_pick P_ck39 (by omega) (by omega)
  rcases Nat.lt_or_ge j 410 with h410 | h410
  · exact P_pick P_ck40 (by omega) (by omega)
  rcases Nat.lt_or_ge j 420 with h420 | h420
  · exact P_pick P_ck41 (by omega) (by omega)
  rcases Nat.lt_or_ge j 430 with h430 | h430
  · exact P_pick P_ck42 (by omega) (by omega)
  rcases Nat.lt_or_ge j 440 with h440 | h440
  · exact P_pick P_ck43 (by omega) (by omega)
  rcases Nat.lt_or_ge j 450 with h450 | h450
  · exact P_pick P_ck44 (by omega) (by omega)
  rcases Nat.lt_or_ge j 460 with h460 | h460
  · exact P_pick P_ck45 (by omega) (by omega)
  rcases Nat.lt_or_ge j 470 with h470 | h470
  · exact P_pick P_ck46 (by omega) (by omega)
  rcases Nat.lt_or_ge j 471 with h471 | h471
  · exact P_pick P_ck47 (by omega) (by omega)
  omega
