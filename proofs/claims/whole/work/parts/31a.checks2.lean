/-! More methods. -/
set_option maxRecDepth 100000 in
theorem am_k73 : am_c73.all (am_chk 73) = true := by decide +kernel
set_option maxRecDepth 100000 in
theorem am_k74 : am_c74.all (am_chk 74) = true := by decide +kernel
set_option maxRecDepth 100000 in
theorem am_k75 : am_c75.all (am_chk 75) = true := by decide +kernel
set_option maxRecDepth 100000 in
theorem am_k76 : am_c76.all (am_chk 76) = true := by decide +kernel
set_option maxRecDepth 100000 in
theorem am_k77 : am_c77.all (am_chk 77) = true := by decide +kernel
set_option maxRecDepth 100000 in
theorem am_k78 : am_c78.all (am_chk 78) = true := by decide +kernel
set_option maxRecDepth 100000 in
theorem am_k79 : am_c79.all (am_chk 79) = true := by decide +kernel
set_option maxRecDepth 100000 in
theorem am_k80 : am_c80.all (am_chk 80) = true := by decide +kernel
set_option maxRecDepth 100000 in
theorem am_k81 : am_c81.all (am_chk 81) = true := by decide +kernel
set_option maxRecDepth 100000 in
theorem am_k82 : am_c82.all (am_chk 82) = true := by decide +kernel
set_option maxRecDepth 100000 in
theorem am_k83 : am_c83.all (am_chk 83) = true := by decide +kernel
set_option maxRecDepth 100000 in
theorem am_k84 : am_c84.all (am_chk 84) = true := by decide +kernel
set_option maxRecDepth 100000 in
theorem am_k85 : am_c85.all (am_chk 85) = true := by decide +kernel
set_option maxRecDepth 100000 in
theorem am_k86 : am_c86.all (am_chk 86) = true := by decide +kernel
set_option maxRecDepth 100000 in
theorem am_k87 : am_c87.all (am_chk 87) = true := by decide +kernel
set_option maxRecDepth 100000 in
theorem am_k88 : am_c88.all (am_chk 88) = true := by decide +kernel
set_option maxRecDepth 100000 in
theorem am_k89 : am_c89.all (am_chk 89) = true := by decide +kernel
set_option maxRecDepth 100000 in
theorem am_k90 : am_c90.all (am_chk 90) = true := by decide +kernel
set_option maxRecDepth 100000 in
theorem am_k91 : am_c91.all (am_chk 91) = true := by decide +kernel
set_option maxRecDepth 100000 in
theorem am_k92 : am_c92.all (am_chk 92) = true := by decide +kernel
set_option maxRecDepth 100000 in
theorem am_k93 : am_c93.all (am_chk 93) = true := by decide +kernel
set_option maxRecDepth 100000 in
theorem am_k94 : am_c94.all (am_chk 94) = true := by decide +kernel
set_option maxRecDepth 100000 in
theorem am_k95 : am_c95.all (am_chk 95) = true := by decide +kernel
set_option maxRecDepth 100000 in
theorem am_k96 : am_c96.all (am_chk 96) = true := by decide +kernel
set_option maxRecDepth 100000 in
theorem am_k97 : am_c97.all (am_chk 97) = true := by decide +kernel
set_option maxRecDepth 100000 in
theorem am_k98 : am_c98.all (am_chk 98) = true := by decide +kernel
set_option maxRecDepth 100000 in
theorem am_k99 : am_c99.all (am_chk 99) = true := by decide +kernel
set_option maxRecDepth 100000 in
theorem am_k100 : am_c100.all (am_chk 100) = true := by decide +kernel
set_option maxRecDepth 100000 in
theorem am_k101 : am_c101.all (am_chk 101) = true := by decide +kernel
set_option maxRecDepth 100000 in
theorem am_k102 : am_c102.all (am_chk 102) = true := by decide +kernel
