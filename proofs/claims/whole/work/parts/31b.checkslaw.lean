/-! The law itself, in pieces. -/
set_option maxRecDepth 100000 in
theorem am_k0_0 : ((am_c0.drop 0).take 60).all (am_chk 0) = true := by decide +kernel
set_option maxRecDepth 100000 in
theorem am_k0_1 : ((am_c0.drop 60).take 60).all (am_chk 0) = true := by decide +kernel
set_option maxRecDepth 100000 in
theorem am_k0_2 : ((am_c0.drop 120).take 60).all (am_chk 0) = true := by decide +kernel
set_option maxRecDepth 100000 in
theorem am_k0_3 : ((am_c0.drop 180).take 60).all (am_chk 0) = true := by decide +kernel
set_option maxRecDepth 100000 in
theorem am_k0_4 : ((am_c0.drop 240).take 60).all (am_chk 0) = true := by decide +kernel
set_option maxRecDepth 100000 in
theorem am_k0_5 : ((am_c0.drop 300).take 60).all (am_chk 0) = true := by decide +kernel
set_option maxRecDepth 100000 in
theorem am_k0_6 : ((am_c0.drop 360).take 60).all (am_chk 0) = true := by decide +kernel
set_option maxRecDepth 100000 in
theorem am_k0_7 : ((am_c0.drop 420).take 60).all (am_chk 0) = true := by decide +kernel
set_option maxRecDepth 100000 in
theorem am_k0_8 : ((am_c0.drop 480).take 60).all (am_chk 0) = true := by decide +kernel
set_option maxRecDepth 100000 in
theorem am_k0_9 : ((am_c0.drop 540).take 60).all (am_chk 0) = true := by decide +kernel
theorem am_all_cut {α : Type} (f : α → Bool) (l : List α) (n : Nat) (h1 : (l.take n).all f = true) (h2 : (l.drop n).all f = true) : l.all f = true := by
  rw [← List.take_append_drop n l, List.all_append, h1, h2]
  rfl
theorem am_k0_r10 : (am_c0.drop 600).all (am_chk 0) = true := by decide +kernel
theorem am_k0_r9 : (am_c0.drop 540).all (am_chk 0) = true := am_all_cut _ _ 60 am_k0_9 (by rw [List.drop_drop]; exact am_k0_r10)
theorem am_k0_r8 : (am_c0.drop 480).all (am_chk 0) = true := am_all_cut _ _ 60 am_k0_8 (by rw [List.drop_drop]; exact am_k0_r9)
theorem am_k0_r7 : (am_c0.drop 420).all (am_chk 0) = true := am_all_cut _ _ 60 am_k0_7 (by rw [List.drop_drop]; exact am_k0_r8)
theorem am_k0_r6 : (am_c0.drop 360).all (am_chk 0) = true := am_all_cut _ _ 60 am_k0_6 (by rw [List.drop_drop]; exact am_k0_r7)
theorem am_k0_r5 : (am_c0.drop 300).all (am_chk 0) = true := am_all_cut _ _ 60 am_k0_5 (by rw [List.drop_drop]; exact am_k0_r6)
theorem am_k0_r4 : (am_c0.drop 240).all (am_chk 0) = true := am_all_cut _ _ 60 am_k0_4 (by rw [List.drop_drop]; exact am_k0_r5)
theorem am_k0_r3 : (am_c0.drop 180).all (am_chk 0) = true := am_all_cut _ _ 60 am_k0_3 (by rw [List.drop_drop]; exact am_k0_r4)
theorem am_k0_r2 : (am_c0.drop 120).all (am_chk 0) = true := am_all_cut _ _ 60 am_k0_2 (by rw [List.drop_drop]; exact am_k0_r3)
theorem am_k0_r1 : (am_c0.drop 60).all (am_chk 0) = true := am_all_cut _ _ 60 am_k0_1 (by rw [List.drop_drop]; exact am_k0_r2)
theorem am_k0_r0 : (am_c0.drop 0).all (am_chk 0) = true := am_all_cut _ _ 60 am_k0_0 (by rw [List.drop_drop]; exact am_k0_r1)
theorem am_k0 : am_c0.all (am_chk 0) = true := am_k0_r0
