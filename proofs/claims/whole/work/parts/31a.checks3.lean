/-! More methods. -/
set_option maxRecDepth 100000 in
theorem am_k103 : am_c103.all (am_chk 103) = true := by decide +kernel
set_option maxRecDepth 100000 in
theorem am_k104 : am_c104.all (am_chk 104) = true := by decide +kernel
set_option maxRecDepth 100000 in
theorem am_k105 : am_c105.all (am_chk 105) = true := by decide +kernel
set_option maxRecDepth 100000 in
theorem am_k106 : am_c106.all (am_chk 106) = true := by decide +kernel
set_option maxRecDepth 100000 in
theorem am_k107 : am_c107.all (am_chk 107) = true := by decide +kernel
set_option maxRecDepth 100000 in
theorem am_k108 : am_c108.all (am_chk 108) = true := by decide +kernel
set_option maxRecDepth 100000 in
theorem am_k109 : am_c109.all (am_chk 109) = true := by decide +kernel
set_option maxRecDepth 100000 in
theorem am_k110 : am_c110.all (am_chk 110) = true := by decide +kernel
set_option maxRecDepth 100000 in
theorem am_k111 : am_c111.all (am_chk 111) = true := by decide +kernel
set_option maxRecDepth 100000 in
theorem am_k112 : am_c112.all (am_chk 112) = true := by decide +kernel
set_option maxRecDepth 100000 in
theorem am_k113 : am_c113.all (am_chk 113) = true := by decide +kernel
set_option maxRecDepth 100000 in
theorem am_k114 : am_c114.all (am_chk 114) = true := by decide +kernel
set_option maxRecDepth 100000 in
theorem am_k115 : am_c115.all (am_chk 115) = true := by decide +kernel
set_option maxRecDepth 100000 in
theorem am_k116 : am_c116.all (am_chk 116) = true := by decide +kernel
