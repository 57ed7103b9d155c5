/-! The tables' instructions are the bytes': a row a method, by computation. -/
/-- one row of a method's table against its bytes -/
def am_chk (mi : Nat) (z : Nat × Instr × Nat) : Bool := match decode (am_mb mi) z.1 with
  | .ok (i0, l0) => decide (l0 = z.2.2) && am_ck (am_mo mi) z.1 z.2.1 z.2.2 i0 && (match i0 with
    | .putfield k => am_pl (am_mo mi) k
    | _ => true)
  | .error _ => false
set_option maxRecDepth 100000 in
theorem am_k1 : am_c1.all (am_chk 1) = true := by decide +kernel
set_option maxRecDepth 100000 in
theorem am_k2 : am_c2.all (am_chk 2) = true := by decide +kernel
set_option maxRecDepth 100000 in
theorem am_k3 : am_c3.all (am_chk 3) = true := by decide +kernel
set_option maxRecDepth 100000 in
theorem am_k4 : am_c4.all (am_chk 4) = true := by decide +kernel
set_option maxRecDepth 100000 in
theorem am_k5 : am_c5.all (am_chk 5) = true := by decide +kernel
set_option maxRecDepth 100000 in
theorem am_k6 : am_c6.all (am_chk 6) = true := by decide +kernel
set_option maxRecDepth 100000 in
theorem am_k7 : am_c7.all (am_chk 7) = true := by decide +kernel
set_option maxRecDepth 100000 in
theorem am_k8 : am_c8.all (am_chk 8) = true := by decide +kernel
set_option maxRecDepth 100000 in
theorem am_k9 : am_c9.all (am_chk 9) = true := by decide +kernel
set_option maxRecDepth 100000 in
theorem am_k10 : am_c10.all (am_chk 10) = true := by decide +kernel
set_option maxRecDepth 100000 in
theorem am_k11 : am_c11.all (am_chk 11) = true := by decide +kernel
set_option maxRecDepth 100000 in
theorem am_k12 : am_c12.all (am_chk 12) = true := by decide +kernel
set_option maxRecDepth 100000 in
theorem am_k13 : am_c13.all (am_chk 13) = true := by decide +kernel
set_option maxRecDepth 100000 in
theorem am_k14 : am_c14.all (am_chk 14) = true := by decide +kernel
set_option maxRecDepth 100000 in
theorem am_k15 : am_c15.all (am_chk 15) = true := by decide +kernel
set_option maxRecDepth 100000 in
theorem am_k16 : am_c16.all (am_chk 16) = true := by decide +kernel
set_option maxRecDepth 100000 in
theorem am_k17 : am_c17.all (am_chk 17) = true := by decide +kernel
set_option maxRecDepth 100000 in
theorem am_k18 : am_c18.all (am_chk 18) = true := by decide +kernel
set_option maxRecDepth 100000 in
theorem am_k19 : am_c19.all (am_chk 19) = true := by decide +kernel
set_option maxRecDepth 100000 in
theorem am_k20 : am_c20.all (am_chk 20) = true := by decide +kernel
set_option maxRecDepth 100000 in
theorem am_k21 : am_c21.all (am_chk 21) = true := by decide +kernel
set_option maxRecDepth 100000 in
theorem am_k22 : am_c22.all (am_chk 22) = true := by decide +kernel
set_option maxRecDepth 100000 in
theorem am_k23 : am_c23.all (am_chk 23) = true := by decide +kernel
set_option maxRecDepth 100000 in
theorem am_k24 : am_c24.all (am_chk 24) = true := by decide +kernel
set_option maxRecDepth 100000 in
theorem am_k25 : am_c25.all (am_chk 25) = true := by decide +kernel
set_option maxRecDepth 100000 in
theorem am_k26 : am_c26.all (am_chk 26) = true := by decide +kernel
set_option maxRecDepth 100000 in
theorem am_k27 : am_c27.all (am_chk 27) = true := by decide +kernel
set_option maxRecDepth 100000 in
theorem am_k28 : am_c28.all (am_chk 28) = true := by decide +kernel
set_option maxRecDepth 100000 in
theorem am_k29 : am_c29.all (am_chk 29) = true := by decide +kernel
set_option maxRecDepth 100000 in
theorem am_k30 : am_c30.all (am_chk 30) = true := by decide +kernel
set_option maxRecDepth 100000 in
theorem am_k31 : am_c31.all (am_chk 31) = true := by decide +kernel
set_option maxRecDepth 100000 in
theorem am_k32 : am_c32.all (am_chk 32) = true := by decide +kernel
set_option maxRecDepth 100000 in
theorem am_k33 : am_c33.all (am_chk 33) = true := by decide +kernel
set_option maxRecDepth 100000 in
theorem am_k34 : am_c34.all (am_chk 34) = true := by decide +kernel
set_option maxRecDepth 100000 in
theorem am_k35 : am_c35.all (am_chk 35) = true := by decide +kernel
set_option maxRecDepth 100000 in
theorem am_k36 : am_c36.all (am_chk 36) = true := by decide +kernel
set_option maxRecDepth 100000 in
theorem am_k37 : am_c37.all (am_chk 37) = true := by decide +kernel
set_option maxRecDepth 100000 in
theorem am_k38 : am_c38.all (am_chk 38) = true := by decide +kernel
set_option maxRecDepth 100000 in
theorem am_k39 : am_c39.all (am_chk 39) = true := by decide +kernel
set_option maxRecDepth 100000 in
theorem am_k40 : am_c40.all (am_chk 40) = true := by decide +kernel
