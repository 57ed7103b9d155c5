/-! The claim. -/
theorem i_vc : Claimed_1_1 ∧ Claimed_1_2 := am_vc (aw_law aw_o2 aw_o11 aw_o12)
