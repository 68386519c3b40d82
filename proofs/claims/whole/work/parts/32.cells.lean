theorem P_k16a : P_zr 16 13 0 = true := by decide +kernel
theorem P_k16b : P_zr 16 12 8192 = true := by decide +kernel
theorem P_k81a : P_zr 81 13 0 = true := by decide +kernel
theorem P_k81b : P_zr 81 12 8192 = true := by decide +kernel
