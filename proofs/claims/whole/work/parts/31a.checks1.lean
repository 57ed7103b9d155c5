/-! More methods. -/
set_option maxRecDepth 100000 in
theorem am_k41 : am_c41.all (am_chk 41) = true := by decide +kernel
set_option maxRecDepth 100000 in
theorem am_k42 : am_c42.all (am_chk 42) = true := by decide +kernel
set_option maxRecDepth 100000 in
theorem am_k43 : am_c43.all (am_chk 43) = true := by decide +kernel
set_option maxRecDepth 100000 in
theorem am_k44 : am_c44.all (am_chk 44) = true := by decide +kernel
set_option maxRecDepth 100000 in
theorem am_k45 : am_c45.all (am_chk 45) = true := by decide +kernel
set_option maxRecDepth 100000 in
theorem am_k46 : am_c46.all (am_chk 46) = true := by decide +kernel
set_option maxRecDepth 100000 in
theorem am_k47 : am_c47.all (am_chk 47) = true := by decide +kernel
set_option maxRecDepth 100000 in
theorem am_k48 : am_c48.all (am_chk 48) = true := by decide +kernel
set_option maxRecDepth 100000 in
theorem am_k49 : am_c49.all (am_chk 49) = true := by decide +kernel
set_option maxRecDepth 100000 in
theorem am_k50 : am_c50.all (am_chk 50) = true := by decide +kernel
set_option maxRecDepth 100000 in
theorem am_k51 : am_c51.all (am_chk 51) = true := by decide +kernel
set_option maxRecDepth 100000 in
theorem am_k52 : am_c52.all (am_chk 52) = true := by decide +kernel
set_option maxRecDepth 100000 in
theorem am_k53 : am_c53.all (am_chk 53) = true := by decide +kernel
set_option maxRecDepth 100000 in
theorem am_k54 : am_c54.all (am_chk 54) = true := by decide +kernel
set_option maxRecDepth 100000 in
theorem am_k55 : am_c55.all (am_chk 55) = true := by decide +kernel
set_option maxRecDepth 100000 in
theorem am_k56 : am_c56.all (am_chk 56) = true := by decide +kernel
set_option maxRecDepth 100000 in
theorem am_k57 : am_c57.all (am_chk 57) = true := by decide +kernel
set_option maxRecDepth 100000 in
theorem am_k58 : am_c58.all (am_chk 58) = true := by decide +kernel
set_option maxRecDepth 100000 in
theorem am_k59 : am_c59.all (am_chk 59) = true := by decide +kernel
set_option maxRecDepth 100000 in
theorem am_k60 : am_c60.all (am_chk 60) = true := by decide +kernel
set_option maxRecDepth 100000 in
theorem am_k61 : am_c61.all (am_chk 61) = true := by decide +kernel
set_option maxRecDepth 100000 in
theorem am_k62 : am_c62.all (am_chk 62) = true := by decide +kernel
set_option maxRecDepth 100000 in
theorem am_k63 : am_c63.all (am_chk 63) = true := by decide +kernel
set_option maxRecDepth 100000 in
theorem am_k64 : am_c64.all (am_chk 64) = true := by decide +kernel
set_option maxRecDepth 100000 in
theorem am_k65 : am_c65.all (am_chk 65) = true := by decide +kernel
set_option maxRecDepth 100000 in
theorem am_k66 : am_c66.all (am_chk 66) = true := by decide +kernel
set_option maxRecDepth 100000 in
theorem am_k67 : am_c67.all (am_chk 67) = true := by decide +kernel
set_option maxRecDepth 100000 in
theorem am_k68 : am_c68.all (am_chk 68) = true := by decide +kernel
set_option maxRecDepth 100000 in
theorem am_k69 : am_c69.all (am_chk 69) = true := by decide +kernel
set_option maxRecDepth 100000 in
theorem am_k70 : am_c70.all (am_chk 70) = true := by decide +kernel
set_option maxRecDepth 100000 in
theorem am_k71 : am_c71.all (am_chk 71) = true := by decide +kernel
set_option maxRecDepth 100000 in
theorem am_k72 : am_c72.all (am_chk 72) = true := by decide +kernel
