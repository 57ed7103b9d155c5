/-! More methods. -/
set_option maxRecDepth 100000 in
theorem am_k136 : am_c136.all (am_chk 136) = true := by decide +kernel
set_option maxRecDepth 100000 in
theorem am_k137 : am_c137.all (am_chk 137) = true := by decide +kernel
set_option maxRecDepth 100000 in
theorem am_k138 : am_c138.all (am_chk 138) = true := by decide +kernel
set_option maxRecDepth 100000 in
theorem am_k139 : am_c139.all (am_chk 139) = true := by decide +kernel
set_option maxRecDepth 100000 in
theorem am_k140 : am_c140.all (am_chk 140) = true := by decide +kernel
set_option maxRecDepth 100000 in
theorem am_k141 : am_c141.all (am_chk 141) = true := by decide +kernel
set_option maxRecDepth 100000 in
theorem am_k142 : am_c142.all (am_chk 142) = true := by decide +kernel
set_option maxRecDepth 100000 in
theorem am_k143 : am_c143.all (am_chk 143) = true := by decide +kernel
set_option maxRecDepth 100000 in
theorem am_k144 : am_c144.all (am_chk 144) = true := by decide +kernel
set_option maxRecDepth 100000 in
theorem am_k145 : am_c145.all (am_chk 145) = true := by decide +kernel
set_option maxRecDepth 100000 in
theorem am_k146 : am_c146.all (am_chk 146) = true := by decide +kernel
set_option maxRecDepth 100000 in
theorem am_k147 : am_c147.all (am_chk 147) = true := by decide +kernel
set_option maxRecDepth 100000 in
theorem am_k148 : am_c148.all (am_chk 148) = true := by decide +kernel
set_option maxRecDepth 100000 in
theorem am_k149 : am_c149.all (am_chk 149) = true := by decide +kernel
