/-! More methods. -/
set_option maxRecDepth 100000 in
theorem am_k117 : am_c117.all (am_chk 117) = true := by decide +kernel
set_option maxRecDepth 100000 in
theorem am_k118 : am_c118.all (am_chk 118) = true := by decide +kernel
set_option maxRecDepth 100000 in
theorem am_k119 : am_c119.all (am_chk 119) = true := by decide +kernel
set_option maxRecDepth 100000 in
theorem am_k120 : am_c120.all (am_chk 120) = true := by decide +kernel
set_option maxRecDepth 100000 in
theorem am_k121 : am_c121.all (am_chk 121) = true := by decide +kernel
set_option maxRecDepth 100000 in
theorem am_k122 : am_c122.all (am_chk 122) = true := by decide +kernel
set_option maxRecDepth 100000 in
theorem am_k123 : am_c123.all (am_chk 123) = true := by decide +kernel
set_option maxRecDepth 100000 in
theorem am_k124 : am_c124.all (am_chk 124) = true := by decide +kernel
set_option maxRecDepth 100000 in
theorem am_k125 : am_c125.all (am_chk 125) = true := by decide +kernel
set_option maxRecDepth 100000 in
theorem am_k126 : am_c126.all (am_chk 126) = true := by decide +kernel
set_option maxRecDepth 100000 in
theorem am_k127 : am_c127.all (am_chk 127) = true := by decide +kernel
set_option maxRecDepth 100000 in
theorem am_k128 : am_c128.all (am_chk 128) = true := by decide +kernel
set_option maxRecDepth 100000 in
theorem am_k129 : am_c129.all (am_chk 129) = true := by decide +kernel
set_option maxRecDepth 100000 in
theorem am_k130 : am_c130.all (am_chk 130) = true := by decide +kernel
set_option maxRecDepth 100000 in
theorem am_k131 : am_c131.all (am_chk 131) = true := by decide +kernel
set_option maxRecDepth 100000 in
theorem am_k132 : am_c132.all (am_chk 132) = true := by decide +kernel
set_option maxRecDepth 100000 in
theorem am_k133 : am_c133.all (am_chk 133) = true := by decide +kernel
set_option maxRecDepth 100000 in
theorem am_k134 : am_c134.all (am_chk 134) = true := by decide +kernel
set_option maxRecDepth 100000 in
theorem am_k135 : am_c135.all (am_chk 135) = true := by decide +kernel
