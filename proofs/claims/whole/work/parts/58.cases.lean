/-! The wrappers of the law, out of what the class answers; the cases of the law, out of what both answer. -/
theorem aw_W7a {w : Nat → am_C} {g : am_H} (d : Nat) {tl pl sp : Nat} (h1 : w 1 = aw_c1 tl pl sp) (a0 : Int32) {w1 : Nat → am_C} {g1 : am_H} {v : Int32} {u : Int64} (c : am_R d 8 0 [some (.ref 1001), some (.int a0), none, none, none] [] (am_h w g) (.inl (some (.int v))) (am_h w1 g1)) (e44 : w1 44 = .inr (3, [.long u])) : am_R (d + 1) 7 0 [some (.ref 1001), some (.int a0), some (.ref 1044), none] [] (am_h w g) (.inl (some (.int 0))) (am_h (am_pu w1 44 (.inr (3, [.long (v).toInt64]))) g1) := by
  refine am_R.nxs 4 (pc' := 4) (lv' := [some (.ref 1001), some (.int a0), some (.ref 1044), none]) (st' := [.int a0, .ref 1001, .int 0, .ref 1044]) (h1 := am_h w g) rfl ?_
  refine am_R.cv (a := 1001) (as' := [.int a0]) (r := [.int 0, .ref 1044]) (v := some (.int v)) (h1 := am_h w1 g1) (pc' := 7) rfl rfl rfl rfl (am_wf 1 (by decide) h1) rfl rfl (c) rfl ?_
  refine am_R.nxs 1 (pc' := 8) (lv' := [some (.ref 1001), some (.int a0), some (.ref 1044), none]) (st' := [.long ((v).toInt64), .int 0, .ref 1044]) (h1 := am_h w1 g1) rfl ?_
  refine am_R.stl (v := (v).toInt64) (pc' := 9) rfl (am_wf 44 (by decide) e44) (am_ws (k := 44) (by decide) (by decide)) rfl ?_
  refine am_R.nxs 2 (pc' := 16) (lv' := [some (.ref 1001), some (.int a0), some (.ref 1044), none]) (st' := [.int 0]) (h1 := am_h (am_pu w1 44 (.inr (3, [.long ((v).toInt64)]))) g1) rfl ?_
  exact am_R.reti rfl rfl rfl
theorem aw_W7t8 {w : Nat → am_C} {g : am_H} (d : Nat) {tl pl sp : Nat} (h1 : w 1 = aw_c1 tl pl sp) (a0 : Int32) (c : am_R d 8 0 [some (.ref 1001), some (.int a0), none, none, none] [] (am_h w g) (.inr (1000 + (am_h w g).length)) (am_h w (g ++ [.inl (8, [])]))) : am_R (d + 1) 7 0 [some (.ref 1001), some (.int a0), some (.ref 1044), none] [] (am_h w g) (.inl (some (.int 1))) (am_h w (g ++ [.inl (8, [])])) := by
  refine am_R.nxs 4 (pc' := 4) (lv' := [some (.ref 1001), some (.int a0), some (.ref 1044), none]) (st' := [.int a0, .ref 1001, .int 0, .ref 1044]) (h1 := am_h w g) rfl ?_
  refine am_R.cvc (y := 8) (a := 1001) (as' := [.int a0]) (r := [.int 0, .ref 1044]) (pc' := 12) rfl rfl rfl rfl (am_wf 1 (by decide) h1) rfl rfl (c) (aw_thrown) rfl ?_
  refine am_R.nxs 2 (pc' := 14) (lv' := [some (.ref 1001), some (.int a0), some (.ref 1044), some (.ref (1000 + (am_h w g).length))]) (st' := [.int 1]) (h1 := am_h w (g ++ [.inl (8, [])])) rfl ?_
  exact am_R.reti rfl rfl rfl
theorem aw_W66a {w : Nat → am_C} {g : am_H} (d : Nat) {tl pl sp : Nat} (h1 : w 1 = aw_c1 tl pl sp) (a0 a1 a2 : Int32) {w1 : Nat → am_C} {g1 : am_H} {v : Int32} {u : Int64} (c : am_R d 67 0 [some (.ref 1001), some (.int a0), some (.int a1), some (.int a2)] [] (am_h w g) (.inl (some (.int v))) (am_h w1 g1)) (e44 : w1 44 = .inr (3, [.long u])) : am_R (d + 1) 66 0 [some (.ref 1001), some (.int a0), some (.int a1), some (.int a2), some (.ref 1044), none] [] (am_h w g) (.inl (some (.int 0))) (am_h (am_pu w1 44 (.inr (3, [.long (v).toInt64]))) g1) := by
  refine am_R.nxs 6 (pc' := 7) (lv' := [some (.ref 1001), some (.int a0), some (.int a1), some (.int a2), some (.ref 1044), none]) (st' := [.int a2, .int a1, .int a0, .ref 1001, .int 0, .ref 1044]) (h1 := am_h w g) rfl ?_
  refine am_R.cv (a := 1001) (as' := [.int a0, .int a1, .int a2]) (r := [.int 0, .ref 1044]) (v := some (.int v)) (h1 := am_h w1 g1) (pc' := 10) rfl rfl rfl rfl (am_wf 1 (by decide) h1) rfl rfl (c) rfl ?_
  refine am_R.nxs 1 (pc' := 11) (lv' := [some (.ref 1001), some (.int a0), some (.int a1), some (.int a2), some (.ref 1044), none]) (st' := [.long ((v).toInt64), .int 0, .ref 1044]) (h1 := am_h w1 g1) rfl ?_
  refine am_R.stl (v := (v).toInt64) (pc' := 12) rfl (am_wf 44 (by decide) e44) (am_ws (k := 44) (by decide) (by decide)) rfl ?_
  refine am_R.nxs 2 (pc' := 24) (lv' := [some (.ref 1001), some (.int a0), some (.int a1), some (.int a2), some (.ref 1044), none]) (st' := [.int 0]) (h1 := am_h (am_pu w1 44 (.inr (3, [.long ((v).toInt64)]))) g1) rfl ?_
  exact am_R.reti rfl rfl rfl
theorem aw_W66t8 {w : Nat → am_C} {g : am_H} (d : Nat) {tl pl sp : Nat} (h1 : w 1 = aw_c1 tl pl sp) (a0 a1 a2 : Int32) (c : am_R d 67 0 [some (.ref 1001), some (.int a0), some (.int a1), some (.int a2)] [] (am_h w g) (.inr (1000 + (am_h w g).length)) (am_h w (g ++ [.inl (8, [])]))) : am_R (d + 1) 66 0 [some (.ref 1001), some (.int a0), some (.int a1), some (.int a2), some (.ref 1044), none] [] (am_h w g) (.inl (some (.int 1))) (am_h w (g ++ [.inl (8, [])])) := by
  refine am_R.nxs 6 (pc' := 7) (lv' := [some (.ref 1001), some (.int a0), some (.int a1), some (.int a2), some (.ref 1044), none]) (st' := [.int a2, .int a1, .int a0, .ref 1001, .int 0, .ref 1044]) (h1 := am_h w g) rfl ?_
  refine am_R.cvc (y := 8) (a := 1001) (as' := [.int a0, .int a1, .int a2]) (r := [.int 0, .ref 1044]) (pc' := 15) rfl rfl rfl rfl (am_wf 1 (by decide) h1) rfl rfl (c) (aw_thrown) rfl ?_
  refine am_R.nxs 2 (pc' := 18) (lv' := [some (.ref 1001), some (.int a0), some (.int a1), some (.int a2), some (.ref 1044), some (.ref (1000 + (am_h w g).length))]) (st' := [.int 1]) (h1 := am_h w (g ++ [.inl (8, [])])) rfl ?_
  exact am_R.reti rfl rfl rfl
theorem aw_W66t9 {w : Nat → am_C} {g : am_H} (d : Nat) {tl pl sp : Nat} (h1 : w 1 = aw_c1 tl pl sp) (a0 a1 a2 : Int32) (c : am_R d 67 0 [some (.ref 1001), some (.int a0), some (.int a1), some (.int a2)] [] (am_h w g) (.inr (1000 + (am_h w g).length)) (am_h w (g ++ [.inl (9, [])]))) : am_R (d + 1) 66 0 [some (.ref 1001), some (.int a0), some (.int a1), some (.int a2), some (.ref 1044), none] [] (am_h w g) (.inl (some (.int 2))) (am_h w (g ++ [.inl (9, [])])) := by
  refine am_R.nxs 6 (pc' := 7) (lv' := [some (.ref 1001), some (.int a0), some (.int a1), some (.int a2), some (.ref 1044), none]) (st' := [.int a2, .int a1, .int a0, .ref 1001, .int 0, .ref 1044]) (h1 := am_h w g) rfl ?_
  refine am_R.cvc (y := 9) (a := 1001) (as' := [.int a0, .int a1, .int a2]) (r := [.int 0, .ref 1044]) (pc' := 19) rfl rfl rfl rfl (am_wf 1 (by decide) h1) rfl rfl (c) (aw_thrown) rfl ?_
  refine am_R.nxs 2 (pc' := 22) (lv' := [some (.ref 1001), some (.int a0), some (.int a1), some (.int a2), some (.ref 1044), some (.ref (1000 + (am_h w g).length))]) (st' := [.int 2]) (h1 := am_h w (g ++ [.inl (9, [])])) rfl ?_
  exact am_R.reti rfl rfl rfl
theorem aw_W70a {w : Nat → am_C} {g : am_H} (d : Nat) {tl pl sp : Nat} (h1 : w 1 = aw_c1 tl pl sp) (a0 a1 a2 : Int32) {w1 : Nat → am_C} {g1 : am_H} {v : Int32} {u : Int64} (c : am_R d 71 0 [some (.ref 1001), some (.int a0), some (.int a1), some (.int a2), none, none, none] [] (am_h w g) (.inl (some (.int v))) (am_h w1 g1)) (e44 : w1 44 = .inr (3, [.long u])) : am_R (d + 1) 70 0 [some (.ref 1001), some (.int a0), some (.int a1), some (.int a2), some (.ref 1044), none] [] (am_h w g) (.inl (some (.int 0))) (am_h (am_pu w1 44 (.inr (3, [.long (v).toInt64]))) g1) := by
  refine am_R.nxs 6 (pc' := 7) (lv' := [some (.ref 1001), some (.int a0), some (.int a1), some (.int a2), some (.ref 1044), none]) (st' := [.int a2, .int a1, .int a0, .ref 1001, .int 0, .ref 1044]) (h1 := am_h w g) rfl ?_
  refine am_R.cv (a := 1001) (as' := [.int a0, .int a1, .int a2]) (r := [.int 0, .ref 1044]) (v := some (.int v)) (h1 := am_h w1 g1) (pc' := 10) rfl rfl rfl rfl (am_wf 1 (by decide) h1) rfl rfl (c) rfl ?_
  refine am_R.nxs 1 (pc' := 11) (lv' := [some (.ref 1001), some (.int a0), some (.int a1), some (.int a2), some (.ref 1044), none]) (st' := [.long ((v).toInt64), .int 0, .ref 1044]) (h1 := am_h w1 g1) rfl ?_
  refine am_R.stl (v := (v).toInt64) (pc' := 12) rfl (am_wf 44 (by decide) e44) (am_ws (k := 44) (by decide) (by decide)) rfl ?_
  refine am_R.nxs 2 (pc' := 24) (lv' := [some (.ref 1001), some (.int a0), some (.int a1), some (.int a2), some (.ref 1044), none]) (st' := [.int 0]) (h1 := am_h (am_pu w1 44 (.inr (3, [.long ((v).toInt64)]))) g1) rfl ?_
  exact am_R.reti rfl rfl rfl
theorem aw_W70t8 {w : Nat → am_C} {g : am_H} (d : Nat) {tl pl sp : Nat} (h1 : w 1 = aw_c1 tl pl sp) (a0 a1 a2 : Int32) (c : am_R d 71 0 [some (.ref 1001), some (.int a0), some (.int a1), some (.int a2), none, none, none] [] (am_h w g) (.inr (1000 + (am_h w g).length)) (am_h w (g ++ [.inl (8, [])]))) : am_R (d + 1) 70 0 [some (.ref 1001), some (.int a0), some (.int a1), some (.int a2), some (.ref 1044), none] [] (am_h w g) (.inl (some (.int 1))) (am_h w (g ++ [.inl (8, [])])) := by
  refine am_R.nxs 6 (pc' := 7) (lv' := [some (.ref 1001), some (.int a0), some (.int a1), some (.int a2), some (.ref 1044), none]) (st' := [.int a2, .int a1, .int a0, .ref 1001, .int 0, .ref 1044]) (h1 := am_h w g) rfl ?_
  refine am_R.cvc (y := 8) (a := 1001) (as' := [.int a0, .int a1, .int a2]) (r := [.int 0, .ref 1044]) (pc' := 15) rfl rfl rfl rfl (am_wf 1 (by decide) h1) rfl rfl (c) (aw_thrown) rfl ?_
  refine am_R.nxs 2 (pc' := 18) (lv' := [some (.ref 1001), some (.int a0), some (.int a1), some (.int a2), some (.ref 1044), some (.ref (1000 + (am_h w g).length))]) (st' := [.int 1]) (h1 := am_h w (g ++ [.inl (8, [])])) rfl ?_
  exact am_R.reti rfl rfl rfl
theorem aw_W70t9 {w : Nat → am_C} {g : am_H} (d : Nat) {tl pl sp : Nat} (h1 : w 1 = aw_c1 tl pl sp) (a0 a1 a2 : Int32) (c : am_R d 71 0 [some (.ref 1001), some (.int a0), some (.int a1), some (.int a2), none, none, none] [] (am_h w g) (.inr (1000 + (am_h w g).length)) (am_h w (g ++ [.inl (9, [])]))) : am_R (d + 1) 70 0 [some (.ref 1001), some (.int a0), some (.int a1), some (.int a2), some (.ref 1044), none] [] (am_h w g) (.inl (some (.int 2))) (am_h w (g ++ [.inl (9, [])])) := by
  refine am_R.nxs 6 (pc' := 7) (lv' := [some (.ref 1001), some (.int a0), some (.int a1), some (.int a2), some (.ref 1044), none]) (st' := [.int a2, .int a1, .int a0, .ref 1001, .int 0, .ref 1044]) (h1 := am_h w g) rfl ?_
  refine am_R.cvc (y := 9) (a := 1001) (as' := [.int a0, .int a1, .int a2]) (r := [.int 0, .ref 1044]) (pc' := 19) rfl rfl rfl rfl (am_wf 1 (by decide) h1) rfl rfl (c) (aw_thrown) rfl ?_
  refine am_R.nxs 2 (pc' := 22) (lv' := [some (.ref 1001), some (.int a0), some (.int a1), some (.int a2), some (.ref 1044), some (.ref (1000 + (am_h w g).length))]) (st' := [.int 2]) (h1 := am_h w (g ++ [.inl (9, [])])) rfl ?_
  exact am_R.reti rfl rfl rfl
theorem aw_W72a {w : Nat → am_C} {g : am_H} (d : Nat) {tl pl sp : Nat} (h1 : w 1 = aw_c1 tl pl sp) (a0 a1 : Int32) {w1 : Nat → am_C} {g1 : am_H} {v : Int32} {u : Int64} (c : am_R d 73 0 [some (.ref 1001), some (.int a0), some (.int a1), none, none, none] [] (am_h w g) (.inl (some (.int v))) (am_h w1 g1)) (e44 : w1 44 = .inr (3, [.long u])) : am_R (d + 1) 72 0 [some (.ref 1001), some (.int a0), some (.int a1), some (.ref 1044), none] [] (am_h w g) (.inl (some (.int 0))) (am_h (am_pu w1 44 (.inr (3, [.long (v).toInt64]))) g1) := by
  refine am_R.nxs 5 (pc' := 5) (lv' := [some (.ref 1001), some (.int a0), some (.int a1), some (.ref 1044), none]) (st' := [.int a1, .int a0, .ref 1001, .int 0, .ref 1044]) (h1 := am_h w g) rfl ?_
  refine am_R.cv (a := 1001) (as' := [.int a0, .int a1]) (r := [.int 0, .ref 1044]) (v := some (.int v)) (h1 := am_h w1 g1) (pc' := 8) rfl rfl rfl rfl (am_wf 1 (by decide) h1) rfl rfl (c) rfl ?_
  refine am_R.nxs 1 (pc' := 9) (lv' := [some (.ref 1001), some (.int a0), some (.int a1), some (.ref 1044), none]) (st' := [.long ((v).toInt64), .int 0, .ref 1044]) (h1 := am_h w1 g1) rfl ?_
  refine am_R.stl (v := (v).toInt64) (pc' := 10) rfl (am_wf 44 (by decide) e44) (am_ws (k := 44) (by decide) (by decide)) rfl ?_
  refine am_R.nxs 2 (pc' := 22) (lv' := [some (.ref 1001), some (.int a0), some (.int a1), some (.ref 1044), none]) (st' := [.int 0]) (h1 := am_h (am_pu w1 44 (.inr (3, [.long ((v).toInt64)]))) g1) rfl ?_
  exact am_R.reti rfl rfl rfl
theorem aw_W72t8 {w : Nat → am_C} {g : am_H} (d : Nat) {tl pl sp : Nat} (h1 : w 1 = aw_c1 tl pl sp) (a0 a1 : Int32) (c : am_R d 73 0 [some (.ref 1001), some (.int a0), some (.int a1), none, none, none] [] (am_h w g) (.inr (1000 + (am_h w g).length)) (am_h w (g ++ [.inl (8, [])]))) : am_R (d + 1) 72 0 [some (.ref 1001), some (.int a0), some (.int a1), some (.ref 1044), none] [] (am_h w g) (.inl (some (.int 1))) (am_h w (g ++ [.inl (8, [])])) := by
  refine am_R.nxs 5 (pc' := 5) (lv' := [some (.ref 1001), some (.int a0), some (.int a1), some (.ref 1044), none]) (st' := [.int a1, .int a0, .ref 1001, .int 0, .ref 1044]) (h1 := am_h w g) rfl ?_
  refine am_R.cvc (y := 8) (a := 1001) (as' := [.int a0, .int a1]) (r := [.int 0, .ref 1044]) (pc' := 13) rfl rfl rfl rfl (am_wf 1 (by decide) h1) rfl rfl (c) (aw_thrown) rfl ?_
  refine am_R.nxs 2 (pc' := 16) (lv' := [some (.ref 1001), some (.int a0), some (.int a1), some (.ref 1044), some (.ref (1000 + (am_h w g).length))]) (st' := [.int 1]) (h1 := am_h w (g ++ [.inl (8, [])])) rfl ?_
  exact am_R.reti rfl rfl rfl
theorem aw_W72t9 {w : Nat → am_C} {g : am_H} (d : Nat) {tl pl sp : Nat} (h1 : w 1 = aw_c1 tl pl sp) (a0 a1 : Int32) (c : am_R d 73 0 [some (.ref 1001), some (.int a0), some (.int a1), none, none, none] [] (am_h w g) (.inr (1000 + (am_h w g).length)) (am_h w (g ++ [.inl (9, [])]))) : am_R (d + 1) 72 0 [some (.ref 1001), some (.int a0), some (.int a1), some (.ref 1044), none] [] (am_h w g) (.inl (some (.int 2))) (am_h w (g ++ [.inl (9, [])])) := by
  refine am_R.nxs 5 (pc' := 5) (lv' := [some (.ref 1001), some (.int a0), some (.int a1), some (.ref 1044), none]) (st' := [.int a1, .int a0, .ref 1001, .int 0, .ref 1044]) (h1 := am_h w g) rfl ?_
  refine am_R.cvc (y := 9) (a := 1001) (as' := [.int a0, .int a1]) (r := [.int 0, .ref 1044]) (pc' := 17) rfl rfl rfl rfl (am_wf 1 (by decide) h1) rfl rfl (c) (aw_thrown) rfl ?_
  refine am_R.nxs 2 (pc' := 20) (lv' := [some (.ref 1001), some (.int a0), some (.int a1), some (.ref 1044), some (.ref (1000 + (am_h w g).length))]) (st' := [.int 2]) (h1 := am_h w (g ++ [.inl (9, [])])) rfl ?_
  exact am_R.reti rfl rfl rfl
theorem aw_W74a {w : Nat → am_C} {g : am_H} (d : Nat) {tl pl sp : Nat} (h1 : w 1 = aw_c1 tl pl sp) (a0 a1 : Int32) {w1 : Nat → am_C} {g1 : am_H} {v : Int32} {u : Int64} (c : am_R d 75 0 [some (.ref 1001), some (.int a0), some (.int a1), none, none, none, none] [] (am_h w g) (.inl (some (.int v))) (am_h w1 g1)) (e44 : w1 44 = .inr (3, [.long u])) : am_R (d + 1) 74 0 [some (.ref 1001), some (.int a0), some (.int a1), some (.ref 1044), none] [] (am_h w g) (.inl (some (.int 0))) (am_h (am_pu w1 44 (.inr (3, [.long (v).toInt64]))) g1) := by
  refine am_R.nxs 5 (pc' := 5) (lv' := [some (.ref 1001), some (.int a0), some (.int a1), some (.ref 1044), none]) (st' := [.int a1, .int a0, .ref 1001, .int 0, .ref 1044]) (h1 := am_h w g) rfl ?_
  refine am_R.cv (a := 1001) (as' := [.int a0, .int a1]) (r := [.int 0, .ref 1044]) (v := some (.int v)) (h1 := am_h w1 g1) (pc' := 8) rfl rfl rfl rfl (am_wf 1 (by decide) h1) rfl rfl (c) rfl ?_
  refine am_R.nxs 1 (pc' := 9) (lv' := [some (.ref 1001), some (.int a0), some (.int a1), some (.ref 1044), none]) (st' := [.long ((v).toInt64), .int 0, .ref 1044]) (h1 := am_h w1 g1) rfl ?_
  refine am_R.stl (v := (v).toInt64) (pc' := 10) rfl (am_wf 44 (by decide) e44) (am_ws (k := 44) (by decide) (by decide)) rfl ?_
  refine am_R.nxs 2 (pc' := 22) (lv' := [some (.ref 1001), some (.int a0), some (.int a1), some (.ref 1044), none]) (st' := [.int 0]) (h1 := am_h (am_pu w1 44 (.inr (3, [.long ((v).toInt64)]))) g1) rfl ?_
  exact am_R.reti rfl rfl rfl
theorem aw_W74t8 {w : Nat → am_C} {g : am_H} (d : Nat) {tl pl sp : Nat} (h1 : w 1 = aw_c1 tl pl sp) (a0 a1 : Int32) (c : am_R d 75 0 [some (.ref 1001), some (.int a0), some (.int a1), none, none, none, none] [] (am_h w g) (.inr (1000 + (am_h w g).length)) (am_h w (g ++ [.inl (8, [])]))) : am_R (d + 1) 74 0 [some (.ref 1001), some (.int a0), some (.int a1), some (.ref 1044), none] [] (am_h w g) (.inl (some (.int 1))) (am_h w (g ++ [.inl (8, [])])) := by
  refine am_R.nxs 5 (pc' := 5) (lv' := [some (.ref 1001), some (.int a0), some (.int a1), some (.ref 1044), none]) (st' := [.int a1, .int a0, .ref 1001, .int 0, .ref 1044]) (h1 := am_h w g) rfl ?_
  refine am_R.cvc (y := 8) (a := 1001) (as' := [.int a0, .int a1]) (r := [.int 0, .ref 1044]) (pc' := 13) rfl rfl rfl rfl (am_wf 1 (by decide) h1) rfl rfl (c) (aw_thrown) rfl ?_
  refine am_R.nxs 2 (pc' := 16) (lv' := [some (.ref 1001), some (.int a0), some (.int a1), some (.ref 1044), some (.ref (1000 + (am_h w g).length))]) (st' := [.int 1]) (h1 := am_h w (g ++ [.inl (8, [])])) rfl ?_
  exact am_R.reti rfl rfl rfl
theorem aw_W74t9 {w : Nat → am_C} {g : am_H} (d : Nat) {tl pl sp : Nat} (h1 : w 1 = aw_c1 tl pl sp) (a0 a1 : Int32) (c : am_R d 75 0 [some (.ref 1001), some (.int a0), some (.int a1), none, none, none, none] [] (am_h w g) (.inr (1000 + (am_h w g).length)) (am_h w (g ++ [.inl (9, [])]))) : am_R (d + 1) 74 0 [some (.ref 1001), some (.int a0), some (.int a1), some (.ref 1044), none] [] (am_h w g) (.inl (some (.int 2))) (am_h w (g ++ [.inl (9, [])])) := by
  refine am_R.nxs 5 (pc' := 5) (lv' := [some (.ref 1001), some (.int a0), some (.int a1), some (.ref 1044), none]) (st' := [.int a1, .int a0, .ref 1001, .int 0, .ref 1044]) (h1 := am_h w g) rfl ?_
  refine am_R.cvc (y := 9) (a := 1001) (as' := [.int a0, .int a1]) (r := [.int 0, .ref 1044]) (pc' := 17) rfl rfl rfl rfl (am_wf 1 (by decide) h1) rfl rfl (c) (aw_thrown) rfl ?_
  refine am_R.nxs 2 (pc' := 20) (lv' := [some (.ref 1001), some (.int a0), some (.int a1), some (.ref 1044), some (.ref (1000 + (am_h w g).length))]) (st' := [.int 2]) (h1 := am_h w (g ++ [.inl (9, [])])) rfl ?_
  exact am_R.reti rfl rfl rfl
theorem aw_W76a {w : Nat → am_C} {g : am_H} (d : Nat) {tl pl sp : Nat} (h1 : w 1 = aw_c1 tl pl sp) (a0 : Int32) {w1 : Nat → am_C} {g1 : am_H} {v : Int32} {u : Int64} (c : am_R d 77 0 [some (.ref 1001), some (.int a0)] [] (am_h w g) (.inl (some (.int v))) (am_h w1 g1)) (e44 : w1 44 = .inr (3, [.long u])) : am_R (d + 1) 76 0 [some (.ref 1001), some (.int a0), some (.ref 1044), none] [] (am_h w g) (.inl (some (.int 0))) (am_h (am_pu w1 44 (.inr (3, [.long (v).toInt64]))) g1) := by
  refine am_R.nxs 4 (pc' := 4) (lv' := [some (.ref 1001), some (.int a0), some (.ref 1044), none]) (st' := [.int a0, .ref 1001, .int 0, .ref 1044]) (h1 := am_h w g) rfl ?_
  refine am_R.cv (a := 1001) (as' := [.int a0]) (r := [.int 0, .ref 1044]) (v := some (.int v)) (h1 := am_h w1 g1) (pc' := 7) rfl rfl rfl rfl (am_wf 1 (by decide) h1) rfl rfl (c) rfl ?_
  refine am_R.nxs 1 (pc' := 8) (lv' := [some (.ref 1001), some (.int a0), some (.ref 1044), none]) (st' := [.long ((v).toInt64), .int 0, .ref 1044]) (h1 := am_h w1 g1) rfl ?_
  refine am_R.stl (v := (v).toInt64) (pc' := 9) rfl (am_wf 44 (by decide) e44) (am_ws (k := 44) (by decide) (by decide)) rfl ?_
  refine am_R.nxs 2 (pc' := 19) (lv' := [some (.ref 1001), some (.int a0), some (.ref 1044), none]) (st' := [.int 0]) (h1 := am_h (am_pu w1 44 (.inr (3, [.long ((v).toInt64)]))) g1) rfl ?_
  exact am_R.reti rfl rfl rfl
theorem aw_W76t8 {w : Nat → am_C} {g : am_H} (d : Nat) {tl pl sp : Nat} (h1 : w 1 = aw_c1 tl pl sp) (a0 : Int32) (c : am_R d 77 0 [some (.ref 1001), some (.int a0)] [] (am_h w g) (.inr (1000 + (am_h w g).length)) (am_h w (g ++ [.inl (8, [])]))) : am_R (d + 1) 76 0 [some (.ref 1001), some (.int a0), some (.ref 1044), none] [] (am_h w g) (.inl (some (.int 1))) (am_h w (g ++ [.inl (8, [])])) := by
  refine am_R.nxs 4 (pc' := 4) (lv' := [some (.ref 1001), some (.int a0), some (.ref 1044), none]) (st' := [.int a0, .ref 1001, .int 0, .ref 1044]) (h1 := am_h w g) rfl ?_
  refine am_R.cvc (y := 8) (a := 1001) (as' := [.int a0]) (r := [.int 0, .ref 1044]) (pc' := 12) rfl rfl rfl rfl (am_wf 1 (by decide) h1) rfl rfl (c) (aw_thrown) rfl ?_
  refine am_R.nxs 2 (pc' := 14) (lv' := [some (.ref 1001), some (.int a0), some (.ref 1044), some (.ref (1000 + (am_h w g).length))]) (st' := [.int 1]) (h1 := am_h w (g ++ [.inl (8, [])])) rfl ?_
  exact am_R.reti rfl rfl rfl
theorem aw_W76t9 {w : Nat → am_C} {g : am_H} (d : Nat) {tl pl sp : Nat} (h1 : w 1 = aw_c1 tl pl sp) (a0 : Int32) (c : am_R d 77 0 [some (.ref 1001), some (.int a0)] [] (am_h w g) (.inr (1000 + (am_h w g).length)) (am_h w (g ++ [.inl (9, [])]))) : am_R (d + 1) 76 0 [some (.ref 1001), some (.int a0), some (.ref 1044), none] [] (am_h w g) (.inl (some (.int 2))) (am_h w (g ++ [.inl (9, [])])) := by
  refine am_R.nxs 4 (pc' := 4) (lv' := [some (.ref 1001), some (.int a0), some (.ref 1044), none]) (st' := [.int a0, .ref 1001, .int 0, .ref 1044]) (h1 := am_h w g) rfl ?_
  refine am_R.cvc (y := 9) (a := 1001) (as' := [.int a0]) (r := [.int 0, .ref 1044]) (pc' := 15) rfl rfl rfl rfl (am_wf 1 (by decide) h1) rfl rfl (c) (aw_thrown) rfl ?_
  refine am_R.nxs 2 (pc' := 17) (lv' := [some (.ref 1001), some (.int a0), some (.ref 1044), some (.ref (1000 + (am_h w g).length))]) (st' := [.int 2]) (h1 := am_h w (g ++ [.inl (9, [])])) rfl ?_
  exact am_R.reti rfl rfl rfl
theorem aw_W78a {w : Nat → am_C} {g : am_H} (d : Nat) {tl pl sp : Nat} (h1 : w 1 = aw_c1 tl pl sp) (a0 a1 : Int32) {w1 : Nat → am_C} {g1 : am_H} {v : Int32} {u : Int64} (c : am_R d 79 0 [some (.ref 1001), some (.int a0), some (.int a1), none] [] (am_h w g) (.inl (some (.int v))) (am_h w1 g1)) (e44 : w1 44 = .inr (3, [.long u])) : am_R (d + 1) 78 0 [some (.ref 1001), some (.int a0), some (.int a1), some (.ref 1044), none] [] (am_h w g) (.inl (some (.int 0))) (am_h (am_pu w1 44 (.inr (3, [.long (v).toInt64]))) g1) := by
  refine am_R.nxs 5 (pc' := 5) (lv' := [some (.ref 1001), some (.int a0), some (.int a1), some (.ref 1044), none]) (st' := [.int a1, .int a0, .ref 1001, .int 0, .ref 1044]) (h1 := am_h w g) rfl ?_
  refine am_R.cv (a := 1001) (as' := [.int a0, .int a1]) (r := [.int 0, .ref 1044]) (v := some (.int v)) (h1 := am_h w1 g1) (pc' := 8) rfl rfl rfl rfl (am_wf 1 (by decide) h1) rfl rfl (c) rfl ?_
  refine am_R.nxs 1 (pc' := 9) (lv' := [some (.ref 1001), some (.int a0), some (.int a1), some (.ref 1044), none]) (st' := [.long ((v).toInt64), .int 0, .ref 1044]) (h1 := am_h w1 g1) rfl ?_
  refine am_R.stl (v := (v).toInt64) (pc' := 10) rfl (am_wf 44 (by decide) e44) (am_ws (k := 44) (by decide) (by decide)) rfl ?_
  refine am_R.nxs 2 (pc' := 22) (lv' := [some (.ref 1001), some (.int a0), some (.int a1), some (.ref 1044), none]) (st' := [.int 0]) (h1 := am_h (am_pu w1 44 (.inr (3, [.long ((v).toInt64)]))) g1) rfl ?_
  exact am_R.reti rfl rfl rfl
theorem aw_W78t8 {w : Nat → am_C} {g : am_H} (d : Nat) {tl pl sp : Nat} (h1 : w 1 = aw_c1 tl pl sp) (a0 a1 : Int32) (c : am_R d 79 0 [some (.ref 1001), some (.int a0), some (.int a1), none] [] (am_h w g) (.inr (1000 + (am_h w g).length)) (am_h w (g ++ [.inl (8, [])]))) : am_R (d + 1) 78 0 [some (.ref 1001), some (.int a0), some (.int a1), some (.ref 1044), none] [] (am_h w g) (.inl (some (.int 1))) (am_h w (g ++ [.inl (8, [])])) := by
  refine am_R.nxs 5 (pc' := 5) (lv' := [some (.ref 1001), some (.int a0), some (.int a1), some (.ref 1044), none]) (st' := [.int a1, .int a0, .ref 1001, .int 0, .ref 1044]) (h1 := am_h w g) rfl ?_
  refine am_R.cvc (y := 8) (a := 1001) (as' := [.int a0, .int a1]) (r := [.int 0, .ref 1044]) (pc' := 13) rfl rfl rfl rfl (am_wf 1 (by decide) h1) rfl rfl (c) (aw_thrown) rfl ?_
  refine am_R.nxs 2 (pc' := 16) (lv' := [some (.ref 1001), some (.int a0), some (.int a1), some (.ref 1044), some (.ref (1000 + (am_h w g).length))]) (st' := [.int 1]) (h1 := am_h w (g ++ [.inl (8, [])])) rfl ?_
  exact am_R.reti rfl rfl rfl
theorem aw_W78t9 {w : Nat → am_C} {g : am_H} (d : Nat) {tl pl sp : Nat} (h1 : w 1 = aw_c1 tl pl sp) (a0 a1 : Int32) (c : am_R d 79 0 [some (.ref 1001), some (.int a0), some (.int a1), none] [] (am_h w g) (.inr (1000 + (am_h w g).length)) (am_h w (g ++ [.inl (9, [])]))) : am_R (d + 1) 78 0 [some (.ref 1001), some (.int a0), some (.int a1), some (.ref 1044), none] [] (am_h w g) (.inl (some (.int 2))) (am_h w (g ++ [.inl (9, [])])) := by
  refine am_R.nxs 5 (pc' := 5) (lv' := [some (.ref 1001), some (.int a0), some (.int a1), some (.ref 1044), none]) (st' := [.int a1, .int a0, .ref 1001, .int 0, .ref 1044]) (h1 := am_h w g) rfl ?_
  refine am_R.cvc (y := 9) (a := 1001) (as' := [.int a0, .int a1]) (r := [.int 0, .ref 1044]) (pc' := 17) rfl rfl rfl rfl (am_wf 1 (by decide) h1) rfl rfl (c) (aw_thrown) rfl ?_
  refine am_R.nxs 2 (pc' := 20) (lv' := [some (.ref 1001), some (.int a0), some (.int a1), some (.ref 1044), some (.ref (1000 + (am_h w g).length))]) (st' := [.int 2]) (h1 := am_h w (g ++ [.inl (9, [])])) rfl ?_
  exact am_R.reti rfl rfl rfl
theorem aw_W80a {w : Nat → am_C} {g : am_H} (d : Nat) {tl pl sp : Nat} (h1 : w 1 = aw_c1 tl pl sp) (a0 a1 : Int32) {w1 : Nat → am_C} {g1 : am_H} {v : Int32} {u : Int64} (c : am_R d 81 0 [some (.ref 1001), some (.int a0), some (.int a1), none] [] (am_h w g) (.inl (some (.int v))) (am_h w1 g1)) (e44 : w1 44 = .inr (3, [.long u])) : am_R (d + 1) 80 0 [some (.ref 1001), some (.int a0), some (.int a1), some (.ref 1044), none] [] (am_h w g) (.inl (some (.int 0))) (am_h (am_pu w1 44 (.inr (3, [.long (v).toInt64]))) g1) := by
  refine am_R.nxs 5 (pc' := 5) (lv' := [some (.ref 1001), some (.int a0), some (.int a1), some (.ref 1044), none]) (st' := [.int a1, .int a0, .ref 1001, .int 0, .ref 1044]) (h1 := am_h w g) rfl ?_
  refine am_R.cv (a := 1001) (as' := [.int a0, .int a1]) (r := [.int 0, .ref 1044]) (v := some (.int v)) (h1 := am_h w1 g1) (pc' := 8) rfl rfl rfl rfl (am_wf 1 (by decide) h1) rfl rfl (c) rfl ?_
  refine am_R.nxs 1 (pc' := 9) (lv' := [some (.ref 1001), some (.int a0), some (.int a1), some (.ref 1044), none]) (st' := [.long ((v).toInt64), .int 0, .ref 1044]) (h1 := am_h w1 g1) rfl ?_
  refine am_R.stl (v := (v).toInt64) (pc' := 10) rfl (am_wf 44 (by decide) e44) (am_ws (k := 44) (by decide) (by decide)) rfl ?_
  refine am_R.nxs 2 (pc' := 26) (lv' := [some (.ref 1001), some (.int a0), some (.int a1), some (.ref 1044), none]) (st' := [.int 0]) (h1 := am_h (am_pu w1 44 (.inr (3, [.long ((v).toInt64)]))) g1) rfl ?_
  exact am_R.reti rfl rfl rfl
theorem aw_W80t8 {w : Nat → am_C} {g : am_H} (d : Nat) {tl pl sp : Nat} (h1 : w 1 = aw_c1 tl pl sp) (a0 a1 : Int32) (c : am_R d 81 0 [some (.ref 1001), some (.int a0), some (.int a1), none] [] (am_h w g) (.inr (1000 + (am_h w g).length)) (am_h w (g ++ [.inl (8, [])]))) : am_R (d + 1) 80 0 [some (.ref 1001), some (.int a0), some (.int a1), some (.ref 1044), none] [] (am_h w g) (.inl (some (.int 1))) (am_h w (g ++ [.inl (8, [])])) := by
  refine am_R.nxs 5 (pc' := 5) (lv' := [some (.ref 1001), some (.int a0), some (.int a1), some (.ref 1044), none]) (st' := [.int a1, .int a0, .ref 1001, .int 0, .ref 1044]) (h1 := am_h w g) rfl ?_
  refine am_R.cvc (y := 8) (a := 1001) (as' := [.int a0, .int a1]) (r := [.int 0, .ref 1044]) (pc' := 13) rfl rfl rfl rfl (am_wf 1 (by decide) h1) rfl rfl (c) (aw_thrown) rfl ?_
  refine am_R.nxs 2 (pc' := 16) (lv' := [some (.ref 1001), some (.int a0), some (.int a1), some (.ref 1044), some (.ref (1000 + (am_h w g).length))]) (st' := [.int 1]) (h1 := am_h w (g ++ [.inl (8, [])])) rfl ?_
  exact am_R.reti rfl rfl rfl
theorem aw_W80t10 {w : Nat → am_C} {g : am_H} (d : Nat) {tl pl sp : Nat} (h1 : w 1 = aw_c1 tl pl sp) (a0 a1 : Int32) (c : am_R d 81 0 [some (.ref 1001), some (.int a0), some (.int a1), none] [] (am_h w g) (.inr (1000 + (am_h w g).length)) (am_h w (g ++ [.inl (10, [])]))) : am_R (d + 1) 80 0 [some (.ref 1001), some (.int a0), some (.int a1), some (.ref 1044), none] [] (am_h w g) (.inl (some (.int 2))) (am_h w (g ++ [.inl (10, [])])) := by
  refine am_R.nxs 5 (pc' := 5) (lv' := [some (.ref 1001), some (.int a0), some (.int a1), some (.ref 1044), none]) (st' := [.int a1, .int a0, .ref 1001, .int 0, .ref 1044]) (h1 := am_h w g) rfl ?_
  refine am_R.cvc (y := 10) (a := 1001) (as' := [.int a0, .int a1]) (r := [.int 0, .ref 1044]) (pc' := 17) rfl rfl rfl rfl (am_wf 1 (by decide) h1) rfl rfl (c) (aw_thrown) rfl ?_
  refine am_R.nxs 2 (pc' := 20) (lv' := [some (.ref 1001), some (.int a0), some (.int a1), some (.ref 1044), some (.ref (1000 + (am_h w g).length))]) (st' := [.int 2]) (h1 := am_h w (g ++ [.inl (10, [])])) rfl ?_
  exact am_R.reti rfl rfl rfl
theorem aw_W80t9 {w : Nat → am_C} {g : am_H} (d : Nat) {tl pl sp : Nat} (h1 : w 1 = aw_c1 tl pl sp) (a0 a1 : Int32) (c : am_R d 81 0 [some (.ref 1001), some (.int a0), some (.int a1), none] [] (am_h w g) (.inr (1000 + (am_h w g).length)) (am_h w (g ++ [.inl (9, [])]))) : am_R (d + 1) 80 0 [some (.ref 1001), some (.int a0), some (.int a1), some (.ref 1044), none] [] (am_h w g) (.inl (some (.int 3))) (am_h w (g ++ [.inl (9, [])])) := by
  refine am_R.nxs 5 (pc' := 5) (lv' := [some (.ref 1001), some (.int a0), some (.int a1), some (.ref 1044), none]) (st' := [.int a1, .int a0, .ref 1001, .int 0, .ref 1044]) (h1 := am_h w g) rfl ?_
  refine am_R.cvc (y := 9) (a := 1001) (as' := [.int a0, .int a1]) (r := [.int 0, .ref 1044]) (pc' := 21) rfl rfl rfl rfl (am_wf 1 (by decide) h1) rfl rfl (c) (aw_thrown) rfl ?_
  refine am_R.nxs 2 (pc' := 24) (lv' := [some (.ref 1001), some (.int a0), some (.int a1), some (.ref 1044), some (.ref (1000 + (am_h w g).length))]) (st' := [.int 3]) (h1 := am_h w (g ++ [.inl (9, [])])) rfl ?_
  exact am_R.reti rfl rfl rfl
theorem aw_W85a {w : Nat → am_C} {g : am_H} (d : Nat) {tl pl sp : Nat} (h1 : w 1 = aw_c1 tl pl sp) (a0 : Int32) {w1 : Nat → am_C} {g1 : am_H} {v : Int32} {u : Int64} (c : am_R d 86 0 [some (.ref 1001), some (.int a0)] [] (am_h w g) (.inl (some (.int v))) (am_h w1 g1)) (e44 : w1 44 = .inr (3, [.long u])) : am_R (d + 1) 85 0 [some (.ref 1001), some (.int a0), some (.ref 1044), none] [] (am_h w g) (.inl (some (.int 0))) (am_h (am_pu w1 44 (.inr (3, [.long (v).toInt64]))) g1) := by
  refine am_R.nxs 4 (pc' := 4) (lv' := [some (.ref 1001), some (.int a0), some (.ref 1044), none]) (st' := [.int a0, .ref 1001, .int 0, .ref 1044]) (h1 := am_h w g) rfl ?_
  refine am_R.cv (a := 1001) (as' := [.int a0]) (r := [.int 0, .ref 1044]) (v := some (.int v)) (h1 := am_h w1 g1) (pc' := 7) rfl rfl rfl rfl (am_wf 1 (by decide) h1) rfl rfl (c) rfl ?_
  refine am_R.nxs 1 (pc' := 8) (lv' := [some (.ref 1001), some (.int a0), some (.ref 1044), none]) (st' := [.long ((v).toInt64), .int 0, .ref 1044]) (h1 := am_h w1 g1) rfl ?_
  refine am_R.stl (v := (v).toInt64) (pc' := 9) rfl (am_wf 44 (by decide) e44) (am_ws (k := 44) (by decide) (by decide)) rfl ?_
  refine am_R.nxs 2 (pc' := 19) (lv' := [some (.ref 1001), some (.int a0), some (.ref 1044), none]) (st' := [.int 0]) (h1 := am_h (am_pu w1 44 (.inr (3, [.long ((v).toInt64)]))) g1) rfl ?_
  exact am_R.reti rfl rfl rfl
theorem aw_W85t8 {w : Nat → am_C} {g : am_H} (d : Nat) {tl pl sp : Nat} (h1 : w 1 = aw_c1 tl pl sp) (a0 : Int32) (c : am_R d 86 0 [some (.ref 1001), some (.int a0)] [] (am_h w g) (.inr (1000 + (am_h w g).length)) (am_h w (g ++ [.inl (8, [])]))) : am_R (d + 1) 85 0 [some (.ref 1001), some (.int a0), some (.ref 1044), none] [] (am_h w g) (.inl (some (.int 1))) (am_h w (g ++ [.inl (8, [])])) := by
  refine am_R.nxs 4 (pc' := 4) (lv' := [some (.ref 1001), some (.int a0), some (.ref 1044), none]) (st' := [.int a0, .ref 1001, .int 0, .ref 1044]) (h1 := am_h w g) rfl ?_
  refine am_R.cvc (y := 8) (a := 1001) (as' := [.int a0]) (r := [.int 0, .ref 1044]) (pc' := 12) rfl rfl rfl rfl (am_wf 1 (by decide) h1) rfl rfl (c) (aw_thrown) rfl ?_
  refine am_R.nxs 2 (pc' := 14) (lv' := [some (.ref 1001), some (.int a0), some (.ref 1044), some (.ref (1000 + (am_h w g).length))]) (st' := [.int 1]) (h1 := am_h w (g ++ [.inl (8, [])])) rfl ?_
  exact am_R.reti rfl rfl rfl
theorem aw_W85t9 {w : Nat → am_C} {g : am_H} (d : Nat) {tl pl sp : Nat} (h1 : w 1 = aw_c1 tl pl sp) (a0 : Int32) (c : am_R d 86 0 [some (.ref 1001), some (.int a0)] [] (am_h w g) (.inr (1000 + (am_h w g).length)) (am_h w (g ++ [.inl (9, [])]))) : am_R (d + 1) 85 0 [some (.ref 1001), some (.int a0), some (.ref 1044), none] [] (am_h w g) (.inl (some (.int 2))) (am_h w (g ++ [.inl (9, [])])) := by
  refine am_R.nxs 4 (pc' := 4) (lv' := [some (.ref 1001), some (.int a0), some (.ref 1044), none]) (st' := [.int a0, .ref 1001, .int 0, .ref 1044]) (h1 := am_h w g) rfl ?_
  refine am_R.cvc (y := 9) (a := 1001) (as' := [.int a0]) (r := [.int 0, .ref 1044]) (pc' := 15) rfl rfl rfl rfl (am_wf 1 (by decide) h1) rfl rfl (c) (aw_thrown) rfl ?_
  refine am_R.nxs 2 (pc' := 17) (lv' := [some (.ref 1001), some (.int a0), some (.ref 1044), some (.ref (1000 + (am_h w g).length))]) (st' := [.int 2]) (h1 := am_h w (g ++ [.inl (9, [])])) rfl ?_
  exact am_R.reti rfl rfl rfl
theorem aw_W91a {w : Nat → am_C} {g : am_H} (d : Nat) {tl pl sp : Nat} (h1 : w 1 = aw_c1 tl pl sp) (a0 : Int32) {w1 : Nat → am_C} {g1 : am_H} {v : Int32} {u : Int64} (c : am_R d 92 0 [some (.ref 1001), some (.int a0)] [] (am_h w g) (.inl (some (.int v))) (am_h w1 g1)) (e44 : w1 44 = .inr (3, [.long u])) : am_R (d + 1) 91 0 [some (.ref 1001), some (.int a0), some (.ref 1044), none] [] (am_h w g) (.inl (some (.int 0))) (am_h (am_pu w1 44 (.inr (3, [.long (v).toInt64]))) g1) := by
  refine am_R.nxs 4 (pc' := 4) (lv' := [some (.ref 1001), some (.int a0), some (.ref 1044), none]) (st' := [.int a0, .ref 1001, .int 0, .ref 1044]) (h1 := am_h w g) rfl ?_
  refine am_R.cv (a := 1001) (as' := [.int a0]) (r := [.int 0, .ref 1044]) (v := some (.int v)) (h1 := am_h w1 g1) (pc' := 7) rfl rfl rfl rfl (am_wf 1 (by decide) h1) rfl rfl (c) rfl ?_
  refine am_R.nxs 1 (pc' := 8) (lv' := [some (.ref 1001), some (.int a0), some (.ref 1044), none]) (st' := [.long ((v).toInt64), .int 0, .ref 1044]) (h1 := am_h w1 g1) rfl ?_
  refine am_R.stl (v := (v).toInt64) (pc' := 9) rfl (am_wf 44 (by decide) e44) (am_ws (k := 44) (by decide) (by decide)) rfl ?_
  refine am_R.nxs 2 (pc' := 19) (lv' := [some (.ref 1001), some (.int a0), some (.ref 1044), none]) (st' := [.int 0]) (h1 := am_h (am_pu w1 44 (.inr (3, [.long ((v).toInt64)]))) g1) rfl ?_
  exact am_R.reti rfl rfl rfl
theorem aw_W91t8 {w : Nat → am_C} {g : am_H} (d : Nat) {tl pl sp : Nat} (h1 : w 1 = aw_c1 tl pl sp) (a0 : Int32) (c : am_R d 92 0 [some (.ref 1001), some (.int a0)] [] (am_h w g) (.inr (1000 + (am_h w g).length)) (am_h w (g ++ [.inl (8, [])]))) : am_R (d + 1) 91 0 [some (.ref 1001), some (.int a0), some (.ref 1044), none] [] (am_h w g) (.inl (some (.int 1))) (am_h w (g ++ [.inl (8, [])])) := by
  refine am_R.nxs 4 (pc' := 4) (lv' := [some (.ref 1001), some (.int a0), some (.ref 1044), none]) (st' := [.int a0, .ref 1001, .int 0, .ref 1044]) (h1 := am_h w g) rfl ?_
  refine am_R.cvc (y := 8) (a := 1001) (as' := [.int a0]) (r := [.int 0, .ref 1044]) (pc' := 12) rfl rfl rfl rfl (am_wf 1 (by decide) h1) rfl rfl (c) (aw_thrown) rfl ?_
  refine am_R.nxs 2 (pc' := 14) (lv' := [some (.ref 1001), some (.int a0), some (.ref 1044), some (.ref (1000 + (am_h w g).length))]) (st' := [.int 1]) (h1 := am_h w (g ++ [.inl (8, [])])) rfl ?_
  exact am_R.reti rfl rfl rfl
theorem aw_W91t9 {w : Nat → am_C} {g : am_H} (d : Nat) {tl pl sp : Nat} (h1 : w 1 = aw_c1 tl pl sp) (a0 : Int32) (c : am_R d 92 0 [some (.ref 1001), some (.int a0)] [] (am_h w g) (.inr (1000 + (am_h w g).length)) (am_h w (g ++ [.inl (9, [])]))) : am_R (d + 1) 91 0 [some (.ref 1001), some (.int a0), some (.ref 1044), none] [] (am_h w g) (.inl (some (.int 2))) (am_h w (g ++ [.inl (9, [])])) := by
  refine am_R.nxs 4 (pc' := 4) (lv' := [some (.ref 1001), some (.int a0), some (.ref 1044), none]) (st' := [.int a0, .ref 1001, .int 0, .ref 1044]) (h1 := am_h w g) rfl ?_
  refine am_R.cvc (y := 9) (a := 1001) (as' := [.int a0]) (r := [.int 0, .ref 1044]) (pc' := 15) rfl rfl rfl rfl (am_wf 1 (by decide) h1) rfl rfl (c) (aw_thrown) rfl ?_
  refine am_R.nxs 2 (pc' := 17) (lv' := [some (.ref 1001), some (.int a0), some (.ref 1044), some (.ref (1000 + (am_h w g).length))]) (st' := [.int 2]) (h1 := am_h w (g ++ [.inl (9, [])])) rfl ?_
  exact am_R.reti rfl rfl rfl
set_option maxRecDepth 100000 in
theorem aw_L2 {w w1 w2 : Nat → am_C} {g g1 g2 : am_H} (d i : Nat) (x5 x6 : Option Value) {xs : List Int32} (h0 : w 0 = am_I 0 xs) (hi : i + 4 ≤ xs.length) (hx : xs.length ≤ 2048) {c b : Int32} (hw : am_R (d + 39) 7 0 [some (.ref 1001), some (.int (xs.getD (i + 1) 0)), some (.ref 1044), none] [] (am_h w g) (.inl (some (.int c))) (am_h w1 g1)) (e0 : w1 0 = am_I 0 xs) {f1 f2 f3 f4 f5 f6 : Int32} (e21 : w1 21 = aw_c21 f1 f2 f3 f4 f5 f6) (hm : am_R (d + 39) 98 0 [some (.ref 1021), some (.int (xs.getD (i + 1) 0)), none, none] [] (am_h w1 g1) (.inl (some (.int b))) (am_h w2 g2)) {ty wr wd wt sn : Int32} (h21 : w2 21 = aw_c21 c ty wr wd wt sn) (ho : c = 0 → w2 44 = .inr (3, [.long (b).toInt64])) {o : am_O} {h' : am_H} (K : am_R (d + 40) 0 921 (aw_lv i (some (.int c)) (some (.int b))) [] (am_h w2 g2) o h') : am_R (d + 40) 0 152 (aw_lv i x5 x6) [] (am_h w g) o h' := by
  refine am_R.nxs 5 (pc' := 158) (lv' := [some (.ref 1000), some (.ref 1001), some (.ref 1021), some (.ref 1044), some (.int (Int32.ofNat i)), x5, x6]) (st' := [.int (Int32.ofNat i + 1), .ref 1000, .ref 1001]) (h1 := am_h w g) rfl ?_
  rw [show (Int32.ofNat i + 1 : Int32) = Int32.ofNat (i + 1) from am_add i 1]
  refine am_R.ldi (i := (i + 1)) (xs := xs) (pc' := 159) rfl (am_wf 0 (by decide) h0) (by omega) (by omega) rfl ?_
  refine am_R.nxs 1 (pc' := 160) (lv' := [some (.ref 1000), some (.ref 1001), some (.ref 1021), some (.ref 1044), some (.int (Int32.ofNat i)), x5, x6]) (st' := [.ref 1044, .int (xs.getD (i + 1) 0), .ref 1001]) (h1 := am_h w g) rfl ?_
  refine am_R.cs (mj := 7) (as := [.ref 1001, .int (xs.getD (i + 1) 0), .ref 1044]) (r := []) (v := some (.int c)) (h1 := am_h w1 g1) (pc' := 163) rfl (hw) rfl ?_
  refine am_R.nxs 6 (pc' := 171) (lv' := [some (.ref 1000), some (.ref 1001), some (.ref 1021), some (.ref 1044), some (.int (Int32.ofNat i)), some (.int c), x6]) (st' := [.int (Int32.ofNat i + 1), .ref 1000, .ref 1021]) (h1 := am_h w1 g1) rfl ?_
  rw [show (Int32.ofNat i + 1 : Int32) = Int32.ofNat (i + 1) from am_add i 1]
  refine am_R.ldi (i := (i + 1)) (xs := xs) (pc' := 172) rfl (am_wf 0 (by decide) e0) (by omega) (by omega) rfl ?_
  refine am_R.cv (a := 1021) (as' := [.int (xs.getD (i + 1) 0)]) (r := []) (v := some (.int b)) (h1 := am_h w2 g2) (pc' := 175) rfl rfl rfl rfl (am_wf 21 (by decide) e21) rfl rfl (hm) rfl ?_
  refine am_R.nxs 2 (pc' := 178) (lv' := [some (.ref 1000), some (.ref 1001), some (.ref 1021), some (.ref 1044), some (.int (Int32.ofNat i)), some (.int c), some (.int b)]) (st' := [.ref 1021]) (h1 := am_h w2 g2) rfl ?_
  refine am_R.cv (a := 1021) (as' := []) (r := []) (v := some (.int c)) (h1 := am_h w2 g2) (pc' := 181) rfl rfl rfl rfl (am_wf 21 (by decide) h21) rfl rfl (aw_k95 (w := w2) (d + 39) h21) rfl ?_
  refine am_R.ites 2 (P := c = c) (T := 188) (F := 186) (lv' := [some (.ref 1000), some (.ref 1001), some (.ref 1021), some (.ref 1044), some (.int (Int32.ofNat i)), some (.int c), some (.int b)]) (st' := []) (h1 := am_h w2 g2) rfl (fun c1 => ?_) (fun c1 => ?_)
  · refine am_R.ites 2 (P := ¬ c = 0) (T := 205) (F := 193) (lv' := [some (.ref 1000), some (.ref 1001), some (.ref 1021), some (.ref 1044), some (.int (Int32.ofNat i)), some (.int c), some (.int b)]) (st' := []) (h1 := am_h w2 g2) rfl (fun c2 => ?_) (fun c2 => ?_)
    · refine am_R.nxs 1 (pc' := 921) (lv' := [some (.ref 1000), some (.ref 1001), some (.ref 1021), some (.ref 1044), some (.int (Int32.ofNat i)), some (.int c), some (.int b)]) (st' := []) (h1 := am_h w2 g2) rfl ?_
      exact K
    · refine am_R.nxs 2 (pc' := 195) (lv' := [some (.ref 1000), some (.ref 1001), some (.ref 1021), some (.ref 1044), some (.int (Int32.ofNat i)), some (.int c), some (.int b)]) (st' := [.int 0, .ref 1044]) (h1 := am_h w2 g2) rfl ?_
      refine am_R.ldl (x := (b).toInt64) (pc' := 196) rfl (am_wf 44 (by decide) (ho (Decidable.not_not.mp c2))) rfl ?_
      refine am_R.ites 4 (P := (lg_cmp ((b).toInt64) ((b).toInt64)) = 0) (T := 205) (F := 203) (lv' := [some (.ref 1000), some (.ref 1001), some (.ref 1021), some (.ref 1044), some (.int (Int32.ofNat i)), some (.int c), some (.int b)]) (st' := []) (h1 := am_h w2 g2) rfl (fun c3 => ?_) (fun c3 => ?_)
      · refine am_R.nxs 1 (pc' := 921) (lv' := [some (.ref 1000), some (.ref 1001), some (.ref 1021), some (.ref 1044), some (.int (Int32.ofNat i)), some (.int c), some (.int b)]) (st' := []) (h1 := am_h w2 g2) rfl ?_
        exact K
      · exact absurd (aw_cmp _) c3
  · exact absurd rfl c1
set_option maxRecDepth 100000 in
theorem aw_L3 {w w1 w2 : Nat → am_C} {g g1 g2 : am_H} (d i : Nat) (x5 x6 : Option Value) {xs : List Int32} (h0 : w 0 = am_I 0 xs) (hi : i + 4 ≤ xs.length) (hx : xs.length ≤ 2048) {c b : Int32} (hw : am_R (d + 39) 66 0 [some (.ref 1001), some (.int (xs.getD (i + 1) 0)), some (.int (xs.getD (i + 2) 0)), some (.int (xs.getD (i + 3) 0)), some (.ref 1044), none] [] (am_h w g) (.inl (some (.int c))) (am_h w1 g1)) (e0 : w1 0 = am_I 0 xs) {f1 f2 f3 f4 f5 f6 : Int32} (e21 : w1 21 = aw_c21 f1 f2 f3 f4 f5 f6) (hm : am_R (d + 39) 132 0 [some (.ref 1021), some (.int (xs.getD (i + 1) 0)), some (.int (xs.getD (i + 2) 0)), some (.int (xs.getD (i + 3) 0))] [] (am_h w1 g1) (.inl (some (.int b))) (am_h w2 g2)) {ty wr wd wt sn : Int32} (h21 : w2 21 = aw_c21 c ty wr wd wt sn) (ho : c = 0 → w2 44 = .inr (3, [.long (b).toInt64])) {o : am_O} {h' : am_H} (K : am_R (d + 40) 0 921 (aw_lv i (some (.int c)) (some (.int b))) [] (am_h w2 g2) o h') : am_R (d + 40) 0 208 (aw_lv i x5 x6) [] (am_h w g) o h' := by
  refine am_R.nxs 5 (pc' := 214) (lv' := [some (.ref 1000), some (.ref 1001), some (.ref 1021), some (.ref 1044), some (.int (Int32.ofNat i)), x5, x6]) (st' := [.int (Int32.ofNat i + 1), .ref 1000, .ref 1001]) (h1 := am_h w g) rfl ?_
  rw [show (Int32.ofNat i + 1 : Int32) = Int32.ofNat (i + 1) from am_add i 1]
  refine am_R.ldi (i := (i + 1)) (xs := xs) (pc' := 215) rfl (am_wf 0 (by decide) h0) (by omega) (by omega) rfl ?_
  refine am_R.nxs 4 (pc' := 220) (lv' := [some (.ref 1000), some (.ref 1001), some (.ref 1021), some (.ref 1044), some (.int (Int32.ofNat i)), x5, x6]) (st' := [.int (Int32.ofNat i + 2), .ref 1000, .int (xs.getD (i + 1) 0), .ref 1001]) (h1 := am_h w g) rfl ?_
  rw [show (Int32.ofNat i + 2 : Int32) = Int32.ofNat (i + 2) from am_add i 2]
  refine am_R.ldi (i := (i + 2)) (xs := xs) (pc' := 221) rfl (am_wf 0 (by decide) h0) (by omega) (by omega) rfl ?_
  refine am_R.nxs 4 (pc' := 226) (lv' := [some (.ref 1000), some (.ref 1001), some (.ref 1021), some (.ref 1044), some (.int (Int32.ofNat i)), x5, x6]) (st' := [.int (Int32.ofNat i + 3), .ref 1000, .int (xs.getD (i + 2) 0), .int (xs.getD (i + 1) 0), .ref 1001]) (h1 := am_h w g) rfl ?_
  rw [show (Int32.ofNat i + 3 : Int32) = Int32.ofNat (i + 3) from am_add i 3]
  refine am_R.ldi (i := (i + 3)) (xs := xs) (pc' := 227) rfl (am_wf 0 (by decide) h0) (by omega) (by omega) rfl ?_
  refine am_R.nxs 1 (pc' := 228) (lv' := [some (.ref 1000), some (.ref 1001), some (.ref 1021), some (.ref 1044), some (.int (Int32.ofNat i)), x5, x6]) (st' := [.ref 1044, .int (xs.getD (i + 3) 0), .int (xs.getD (i + 2) 0), .int (xs.getD (i + 1) 0), .ref 1001]) (h1 := am_h w g) rfl ?_
  refine am_R.cs (mj := 66) (as := [.ref 1001, .int (xs.getD (i + 1) 0), .int (xs.getD (i + 2) 0), .int (xs.getD (i + 3) 0), .ref 1044]) (r := []) (v := some (.int c)) (h1 := am_h w1 g1) (pc' := 231) rfl (hw) rfl ?_
  refine am_R.nxs 6 (pc' := 239) (lv' := [some (.ref 1000), some (.ref 1001), some (.ref 1021), some (.ref 1044), some (.int (Int32.ofNat i)), some (.int c), x6]) (st' := [.int (Int32.ofNat i + 1), .ref 1000, .ref 1021]) (h1 := am_h w1 g1) rfl ?_
  rw [show (Int32.ofNat i + 1 : Int32) = Int32.ofNat (i + 1) from am_add i 1]
  refine am_R.ldi (i := (i + 1)) (xs := xs) (pc' := 240) rfl (am_wf 0 (by decide) e0) (by omega) (by omega) rfl ?_
  refine am_R.nxs 4 (pc' := 245) (lv' := [some (.ref 1000), some (.ref 1001), some (.ref 1021), some (.ref 1044), some (.int (Int32.ofNat i)), some (.int c), x6]) (st' := [.int (Int32.ofNat i + 2), .ref 1000, .int (xs.getD (i + 1) 0), .ref 1021]) (h1 := am_h w1 g1) rfl ?_
  rw [show (Int32.ofNat i + 2 : Int32) = Int32.ofNat (i + 2) from am_add i 2]
  refine am_R.ldi (i := (i + 2)) (xs := xs) (pc' := 246) rfl (am_wf 0 (by decide) e0) (by omega) (by omega) rfl ?_
  refine am_R.nxs 4 (pc' := 251) (lv' := [some (.ref 1000), some (.ref 1001), some (.ref 1021), some (.ref 1044), some (.int (Int32.ofNat i)), some (.int c), x6]) (st' := [.int (Int32.ofNat i + 3), .ref 1000, .int (xs.getD (i + 2) 0), .int (xs.getD (i + 1) 0), .ref 1021]) (h1 := am_h w1 g1) rfl ?_
  rw [show (Int32.ofNat i + 3 : Int32) = Int32.ofNat (i + 3) from am_add i 3]
  refine am_R.ldi (i := (i + 3)) (xs := xs) (pc' := 252) rfl (am_wf 0 (by decide) e0) (by omega) (by omega) rfl ?_
  refine am_R.cv (a := 1021) (as' := [.int (xs.getD (i + 1) 0), .int (xs.getD (i + 2) 0), .int (xs.getD (i + 3) 0)]) (r := []) (v := some (.int b)) (h1 := am_h w2 g2) (pc' := 255) rfl rfl rfl rfl (am_wf 21 (by decide) e21) rfl rfl (hm) rfl ?_
  refine am_R.nxs 2 (pc' := 258) (lv' := [some (.ref 1000), some (.ref 1001), some (.ref 1021), some (.ref 1044), some (.int (Int32.ofNat i)), some (.int c), some (.int b)]) (st' := [.ref 1021]) (h1 := am_h w2 g2) rfl ?_
  refine am_R.cv (a := 1021) (as' := []) (r := []) (v := some (.int c)) (h1 := am_h w2 g2) (pc' := 261) rfl rfl rfl rfl (am_wf 21 (by decide) h21) rfl rfl (aw_k95 (w := w2) (d + 39) h21) rfl ?_
  refine am_R.ites 2 (P := c = c) (T := 268) (F := 266) (lv' := [some (.ref 1000), some (.ref 1001), some (.ref 1021), some (.ref 1044), some (.int (Int32.ofNat i)), some (.int c), some (.int b)]) (st' := []) (h1 := am_h w2 g2) rfl (fun c1 => ?_) (fun c1 => ?_)
  · refine am_R.ites 2 (P := ¬ c = 0) (T := 285) (F := 273) (lv' := [some (.ref 1000), some (.ref 1001), some (.ref 1021), some (.ref 1044), some (.int (Int32.ofNat i)), some (.int c), some (.int b)]) (st' := []) (h1 := am_h w2 g2) rfl (fun c2 => ?_) (fun c2 => ?_)
    · refine am_R.nxs 1 (pc' := 921) (lv' := [some (.ref 1000), some (.ref 1001), some (.ref 1021), some (.ref 1044), some (.int (Int32.ofNat i)), some (.int c), some (.int b)]) (st' := []) (h1 := am_h w2 g2) rfl ?_
      exact K
    · refine am_R.nxs 2 (pc' := 275) (lv' := [some (.ref 1000), some (.ref 1001), some (.ref 1021), some (.ref 1044), some (.int (Int32.ofNat i)), some (.int c), some (.int b)]) (st' := [.int 0, .ref 1044]) (h1 := am_h w2 g2) rfl ?_
      refine am_R.ldl (x := (b).toInt64) (pc' := 276) rfl (am_wf 44 (by decide) (ho (Decidable.not_not.mp c2))) rfl ?_
      refine am_R.ites 4 (P := (lg_cmp ((b).toInt64) ((b).toInt64)) = 0) (T := 285) (F := 283) (lv' := [some (.ref 1000), some (.ref 1001), some (.ref 1021), some (.ref 1044), some (.int (Int32.ofNat i)), some (.int c), some (.int b)]) (st' := []) (h1 := am_h w2 g2) rfl (fun c3 => ?_) (fun c3 => ?_)
      · refine am_R.nxs 1 (pc' := 921) (lv' := [some (.ref 1000), some (.ref 1001), some (.ref 1021), some (.ref 1044), some (.int (Int32.ofNat i)), some (.int c), some (.int b)]) (st' := []) (h1 := am_h w2 g2) rfl ?_
        exact K
      · exact absurd (aw_cmp _) c3
  · exact absurd rfl c1
set_option maxRecDepth 100000 in
theorem aw_L4 {w w1 w2 : Nat → am_C} {g g1 g2 : am_H} (d i : Nat) (x5 x6 : Option Value) {xs : List Int32} (h0 : w 0 = am_I 0 xs) (hi : i + 4 ≤ xs.length) (hx : xs.length ≤ 2048) {c b : Int32} (hw : am_R (d + 39) 70 0 [some (.ref 1001), some (.int (xs.getD (i + 1) 0)), some (.int (xs.getD (i + 2) 0)), some (.int (xs.getD (i + 3) 0)), some (.ref 1044), none] [] (am_h w g) (.inl (some (.int c))) (am_h w1 g1)) (e0 : w1 0 = am_I 0 xs) {f1 f2 f3 f4 f5 f6 : Int32} (e21 : w1 21 = aw_c21 f1 f2 f3 f4 f5 f6) (hm : am_R (d + 39) 134 0 [some (.ref 1021), some (.int (xs.getD (i + 1) 0)), some (.int (xs.getD (i + 2) 0)), some (.int (xs.getD (i + 3) 0)), none, none] [] (am_h w1 g1) (.inl (some (.int b))) (am_h w2 g2)) {ty wr wd wt sn : Int32} (h21 : w2 21 = aw_c21 c ty wr wd wt sn) (ho : c = 0 → w2 44 = .inr (3, [.long (b).toInt64])) {o : am_O} {h' : am_H} (K : am_R (d + 40) 0 921 (aw_lv i (some (.int c)) (some (.int b))) [] (am_h w2 g2) o h') : am_R (d + 40) 0 288 (aw_lv i x5 x6) [] (am_h w g) o h' := by
  refine am_R.nxs 5 (pc' := 294) (lv' := [some (.ref 1000), some (.ref 1001), some (.ref 1021), some (.ref 1044), some (.int (Int32.ofNat i)), x5, x6]) (st' := [.int (Int32.ofNat i + 1), .ref 1000, .ref 1001]) (h1 := am_h w g) rfl ?_
  rw [show (Int32.ofNat i + 1 : Int32) = Int32.ofNat (i + 1) from am_add i 1]
  refine am_R.ldi (i := (i + 1)) (xs := xs) (pc' := 295) rfl (am_wf 0 (by decide) h0) (by omega) (by omega) rfl ?_
  refine am_R.nxs 4 (pc' := 300) (lv' := [some (.ref 1000), some (.ref 1001), some (.ref 1021), some (.ref 1044), some (.int (Int32.ofNat i)), x5, x6]) (st' := [.int (Int32.ofNat i + 2), .ref 1000, .int (xs.getD (i + 1) 0), .ref 1001]) (h1 := am_h w g) rfl ?_
  rw [show (Int32.ofNat i + 2 : Int32) = Int32.ofNat (i + 2) from am_add i 2]
  refine am_R.ldi (i := (i + 2)) (xs := xs) (pc' := 301) rfl (am_wf 0 (by decide) h0) (by omega) (by omega) rfl ?_
  refine am_R.nxs 4 (pc' := 306) (lv' := [some (.ref 1000), some (.ref 1001), some (.ref 1021), some (.ref 1044), some (.int (Int32.ofNat i)), x5, x6]) (st' := [.int (Int32.ofNat i + 3), .ref 1000, .int (xs.getD (i + 2) 0), .int (xs.getD (i + 1) 0), .ref 1001]) (h1 := am_h w g) rfl ?_
  rw [show (Int32.ofNat i + 3 : Int32) = Int32.ofNat (i + 3) from am_add i 3]
  refine am_R.ldi (i := (i + 3)) (xs := xs) (pc' := 307) rfl (am_wf 0 (by decide) h0) (by omega) (by omega) rfl ?_
  refine am_R.nxs 1 (pc' := 308) (lv' := [some (.ref 1000), some (.ref 1001), some (.ref 1021), some (.ref 1044), some (.int (Int32.ofNat i)), x5, x6]) (st' := [.ref 1044, .int (xs.getD (i + 3) 0), .int (xs.getD (i + 2) 0), .int (xs.getD (i + 1) 0), .ref 1001]) (h1 := am_h w g) rfl ?_
  refine am_R.cs (mj := 70) (as := [.ref 1001, .int (xs.getD (i + 1) 0), .int (xs.getD (i + 2) 0), .int (xs.getD (i + 3) 0), .ref 1044]) (r := []) (v := some (.int c)) (h1 := am_h w1 g1) (pc' := 311) rfl (hw) rfl ?_
  refine am_R.nxs 6 (pc' := 319) (lv' := [some (.ref 1000), some (.ref 1001), some (.ref 1021), some (.ref 1044), some (.int (Int32.ofNat i)), some (.int c), x6]) (st' := [.int (Int32.ofNat i + 1), .ref 1000, .ref 1021]) (h1 := am_h w1 g1) rfl ?_
  rw [show (Int32.ofNat i + 1 : Int32) = Int32.ofNat (i + 1) from am_add i 1]
  refine am_R.ldi (i := (i + 1)) (xs := xs) (pc' := 320) rfl (am_wf 0 (by decide) e0) (by omega) (by omega) rfl ?_
  refine am_R.nxs 4 (pc' := 325) (lv' := [some (.ref 1000), some (.ref 1001), some (.ref 1021), some (.ref 1044), some (.int (Int32.ofNat i)), some (.int c), x6]) (st' := [.int (Int32.ofNat i + 2), .ref 1000, .int (xs.getD (i + 1) 0), .ref 1021]) (h1 := am_h w1 g1) rfl ?_
  rw [show (Int32.ofNat i + 2 : Int32) = Int32.ofNat (i + 2) from am_add i 2]
  refine am_R.ldi (i := (i + 2)) (xs := xs) (pc' := 326) rfl (am_wf 0 (by decide) e0) (by omega) (by omega) rfl ?_
  refine am_R.nxs 4 (pc' := 331) (lv' := [some (.ref 1000), some (.ref 1001), some (.ref 1021), some (.ref 1044), some (.int (Int32.ofNat i)), some (.int c), x6]) (st' := [.int (Int32.ofNat i + 3), .ref 1000, .int (xs.getD (i + 2) 0), .int (xs.getD (i + 1) 0), .ref 1021]) (h1 := am_h w1 g1) rfl ?_
  rw [show (Int32.ofNat i + 3 : Int32) = Int32.ofNat (i + 3) from am_add i 3]
  refine am_R.ldi (i := (i + 3)) (xs := xs) (pc' := 332) rfl (am_wf 0 (by decide) e0) (by omega) (by omega) rfl ?_
  refine am_R.cv (a := 1021) (as' := [.int (xs.getD (i + 1) 0), .int (xs.getD (i + 2) 0), .int (xs.getD (i + 3) 0)]) (r := []) (v := some (.int b)) (h1 := am_h w2 g2) (pc' := 335) rfl rfl rfl rfl (am_wf 21 (by decide) e21) rfl rfl (hm) rfl ?_
  refine am_R.nxs 2 (pc' := 338) (lv' := [some (.ref 1000), some (.ref 1001), some (.ref 1021), some (.ref 1044), some (.int (Int32.ofNat i)), some (.int c), some (.int b)]) (st' := [.ref 1021]) (h1 := am_h w2 g2) rfl ?_
  refine am_R.cv (a := 1021) (as' := []) (r := []) (v := some (.int c)) (h1 := am_h w2 g2) (pc' := 341) rfl rfl rfl rfl (am_wf 21 (by decide) h21) rfl rfl (aw_k95 (w := w2) (d + 39) h21) rfl ?_
  refine am_R.ites 2 (P := c = c) (T := 348) (F := 346) (lv' := [some (.ref 1000), some (.ref 1001), some (.ref 1021), some (.ref 1044), some (.int (Int32.ofNat i)), some (.int c), some (.int b)]) (st' := []) (h1 := am_h w2 g2) rfl (fun c1 => ?_) (fun c1 => ?_)
  · refine am_R.ites 2 (P := ¬ c = 0) (T := 365) (F := 353) (lv' := [some (.ref 1000), some (.ref 1001), some (.ref 1021), some (.ref 1044), some (.int (Int32.ofNat i)), some (.int c), some (.int b)]) (st' := []) (h1 := am_h w2 g2) rfl (fun c2 => ?_) (fun c2 => ?_)
    · refine am_R.nxs 1 (pc' := 921) (lv' := [some (.ref 1000), some (.ref 1001), some (.ref 1021), some (.ref 1044), some (.int (Int32.ofNat i)), some (.int c), some (.int b)]) (st' := []) (h1 := am_h w2 g2) rfl ?_
      exact K
    · refine am_R.nxs 2 (pc' := 355) (lv' := [some (.ref 1000), some (.ref 1001), some (.ref 1021), some (.ref 1044), some (.int (Int32.ofNat i)), some (.int c), some (.int b)]) (st' := [.int 0, .ref 1044]) (h1 := am_h w2 g2) rfl ?_
      refine am_R.ldl (x := (b).toInt64) (pc' := 356) rfl (am_wf 44 (by decide) (ho (Decidable.not_not.mp c2))) rfl ?_
      refine am_R.ites 4 (P := (lg_cmp ((b).toInt64) ((b).toInt64)) = 0) (T := 365) (F := 363) (lv' := [some (.ref 1000), some (.ref 1001), some (.ref 1021), some (.ref 1044), some (.int (Int32.ofNat i)), some (.int c), some (.int b)]) (st' := []) (h1 := am_h w2 g2) rfl (fun c3 => ?_) (fun c3 => ?_)
      · refine am_R.nxs 1 (pc' := 921) (lv' := [some (.ref 1000), some (.ref 1001), some (.ref 1021), some (.ref 1044), some (.int (Int32.ofNat i)), some (.int c), some (.int b)]) (st' := []) (h1 := am_h w2 g2) rfl ?_
        exact K
      · exact absurd (aw_cmp _) c3
  · exact absurd rfl c1
set_option maxRecDepth 100000 in
theorem aw_L5 {w w1 w2 : Nat → am_C} {g g1 g2 : am_H} (d i : Nat) (x5 x6 : Option Value) {xs : List Int32} (h0 : w 0 = am_I 0 xs) (hi : i + 4 ≤ xs.length) (hx : xs.length ≤ 2048) {c b : Int32} (hw : am_R (d + 39) 72 0 [some (.ref 1001), some (.int (xs.getD (i + 1) 0)), some (.int (xs.getD (i + 2) 0)), some (.ref 1044), none] [] (am_h w g) (.inl (some (.int c))) (am_h w1 g1)) (e0 : w1 0 = am_I 0 xs) {f1 f2 f3 f4 f5 f6 : Int32} (e21 : w1 21 = aw_c21 f1 f2 f3 f4 f5 f6) (hm : am_R (d + 39) 135 0 [some (.ref 1021), some (.int (xs.getD (i + 1) 0)), some (.int (xs.getD (i + 2) 0)), none, none] [] (am_h w1 g1) (.inl (some (.int b))) (am_h w2 g2)) {ty wr wd wt sn : Int32} (h21 : w2 21 = aw_c21 c ty wr wd wt sn) (ho : c = 0 → w2 44 = .inr (3, [.long (b).toInt64])) {o : am_O} {h' : am_H} (K : am_R (d + 40) 0 921 (aw_lv i (some (.int c)) (some (.int b))) [] (am_h w2 g2) o h') : am_R (d + 40) 0 368 (aw_lv i x5 x6) [] (am_h w g) o h' := by
  refine am_R.nxs 5 (pc' := 374) (lv' := [some (.ref 1000), some (.ref 1001), some (.ref 1021), some (.ref 1044), some (.int (Int32.ofNat i)), x5, x6]) (st' := [.int (Int32.ofNat i + 1), .ref 1000, .ref 1001]) (h1 := am_h w g) rfl ?_
  rw [show (Int32.ofNat i + 1 : Int32) = Int32.ofNat (i + 1) from am_add i 1]
  refine am_R.ldi (i := (i + 1)) (xs := xs) (pc' := 375) rfl (am_wf 0 (by decide) h0) (by omega) (by omega) rfl ?_
  refine am_R.nxs 4 (pc' := 380) (lv' := [some (.ref 1000), some (.ref 1001), some (.ref 1021), some (.ref 1044), some (.int (Int32.ofNat i)), x5, x6]) (st' := [.int (Int32.ofNat i + 2), .ref 1000, .int (xs.getD (i + 1) 0), .ref 1001]) (h1 := am_h w g) rfl ?_
  rw [show (Int32.ofNat i + 2 : Int32) = Int32.ofNat (i + 2) from am_add i 2]
  refine am_R.ldi (i := (i + 2)) (xs := xs) (pc' := 381) rfl (am_wf 0 (by decide) h0) (by omega) (by omega) rfl ?_
  refine am_R.nxs 1 (pc' := 382) (lv' := [some (.ref 1000), some (.ref 1001), some (.ref 1021), some (.ref 1044), some (.int (Int32.ofNat i)), x5, x6]) (st' := [.ref 1044, .int (xs.getD (i + 2) 0), .int (xs.getD (i + 1) 0), .ref 1001]) (h1 := am_h w g) rfl ?_
  refine am_R.cs (mj := 72) (as := [.ref 1001, .int (xs.getD (i + 1) 0), .int (xs.getD (i + 2) 0), .ref 1044]) (r := []) (v := some (.int c)) (h1 := am_h w1 g1) (pc' := 385) rfl (hw) rfl ?_
  refine am_R.nxs 6 (pc' := 393) (lv' := [some (.ref 1000), some (.ref 1001), some (.ref 1021), some (.ref 1044), some (.int (Int32.ofNat i)), some (.int c), x6]) (st' := [.int (Int32.ofNat i + 1), .ref 1000, .ref 1021]) (h1 := am_h w1 g1) rfl ?_
  rw [show (Int32.ofNat i + 1 : Int32) = Int32.ofNat (i + 1) from am_add i 1]
  refine am_R.ldi (i := (i + 1)) (xs := xs) (pc' := 394) rfl (am_wf 0 (by decide) e0) (by omega) (by omega) rfl ?_
  refine am_R.nxs 4 (pc' := 399) (lv' := [some (.ref 1000), some (.ref 1001), some (.ref 1021), some (.ref 1044), some (.int (Int32.ofNat i)), some (.int c), x6]) (st' := [.int (Int32.ofNat i + 2), .ref 1000, .int (xs.getD (i + 1) 0), .ref 1021]) (h1 := am_h w1 g1) rfl ?_
  rw [show (Int32.ofNat i + 2 : Int32) = Int32.ofNat (i + 2) from am_add i 2]
  refine am_R.ldi (i := (i + 2)) (xs := xs) (pc' := 400) rfl (am_wf 0 (by decide) e0) (by omega) (by omega) rfl ?_
  refine am_R.cv (a := 1021) (as' := [.int (xs.getD (i + 1) 0), .int (xs.getD (i + 2) 0)]) (r := []) (v := some (.int b)) (h1 := am_h w2 g2) (pc' := 403) rfl rfl rfl rfl (am_wf 21 (by decide) e21) rfl rfl (hm) rfl ?_
  refine am_R.nxs 2 (pc' := 406) (lv' := [some (.ref 1000), some (.ref 1001), some (.ref 1021), some (.ref 1044), some (.int (Int32.ofNat i)), some (.int c), some (.int b)]) (st' := [.ref 1021]) (h1 := am_h w2 g2) rfl ?_
  refine am_R.cv (a := 1021) (as' := []) (r := []) (v := some (.int c)) (h1 := am_h w2 g2) (pc' := 409) rfl rfl rfl rfl (am_wf 21 (by decide) h21) rfl rfl (aw_k95 (w := w2) (d + 39) h21) rfl ?_
  refine am_R.ites 2 (P := c = c) (T := 416) (F := 414) (lv' := [some (.ref 1000), some (.ref 1001), some (.ref 1021), some (.ref 1044), some (.int (Int32.ofNat i)), some (.int c), some (.int b)]) (st' := []) (h1 := am_h w2 g2) rfl (fun c1 => ?_) (fun c1 => ?_)
  · refine am_R.ites 2 (P := ¬ c = 0) (T := 433) (F := 421) (lv' := [some (.ref 1000), some (.ref 1001), some (.ref 1021), some (.ref 1044), some (.int (Int32.ofNat i)), some (.int c), some (.int b)]) (st' := []) (h1 := am_h w2 g2) rfl (fun c2 => ?_) (fun c2 => ?_)
    · refine am_R.nxs 1 (pc' := 921) (lv' := [some (.ref 1000), some (.ref 1001), some (.ref 1021), some (.ref 1044), some (.int (Int32.ofNat i)), some (.int c), some (.int b)]) (st' := []) (h1 := am_h w2 g2) rfl ?_
      exact K
    · refine am_R.nxs 2 (pc' := 423) (lv' := [some (.ref 1000), some (.ref 1001), some (.ref 1021), some (.ref 1044), some (.int (Int32.ofNat i)), some (.int c), some (.int b)]) (st' := [.int 0, .ref 1044]) (h1 := am_h w2 g2) rfl ?_
      refine am_R.ldl (x := (b).toInt64) (pc' := 424) rfl (am_wf 44 (by decide) (ho (Decidable.not_not.mp c2))) rfl ?_
      refine am_R.ites 4 (P := (lg_cmp ((b).toInt64) ((b).toInt64)) = 0) (T := 433) (F := 431) (lv' := [some (.ref 1000), some (.ref 1001), some (.ref 1021), some (.ref 1044), some (.int (Int32.ofNat i)), some (.int c), some (.int b)]) (st' := []) (h1 := am_h w2 g2) rfl (fun c3 => ?_) (fun c3 => ?_)
      · refine am_R.nxs 1 (pc' := 921) (lv' := [some (.ref 1000), some (.ref 1001), some (.ref 1021), some (.ref 1044), some (.int (Int32.ofNat i)), some (.int c), some (.int b)]) (st' := []) (h1 := am_h w2 g2) rfl ?_
        exact K
      · exact absurd (aw_cmp _) c3
  · exact absurd rfl c1
set_option maxRecDepth 100000 in
theorem aw_L6 {w w1 w2 : Nat → am_C} {g g1 g2 : am_H} (d i : Nat) (x5 x6 : Option Value) {xs : List Int32} (h0 : w 0 = am_I 0 xs) (hi : i + 4 ≤ xs.length) (hx : xs.length ≤ 2048) {c b : Int32} (hw : am_R (d + 39) 74 0 [some (.ref 1001), some (.int (xs.getD (i + 1) 0)), some (.int (xs.getD (i + 2) 0)), some (.ref 1044), none] [] (am_h w g) (.inl (some (.int c))) (am_h w1 g1)) (e0 : w1 0 = am_I 0 xs) {f1 f2 f3 f4 f5 f6 : Int32} (e21 : w1 21 = aw_c21 f1 f2 f3 f4 f5 f6) (hm : am_R (d + 39) 136 0 [some (.ref 1021), some (.int (xs.getD (i + 1) 0)), some (.int (xs.getD (i + 2) 0)), none, none] [] (am_h w1 g1) (.inl (some (.int b))) (am_h w2 g2)) {ty wr wd wt sn : Int32} (h21 : w2 21 = aw_c21 c ty wr wd wt sn) (ho : c = 0 → w2 44 = .inr (3, [.long (b).toInt64])) {o : am_O} {h' : am_H} (K : am_R (d + 40) 0 921 (aw_lv i (some (.int c)) (some (.int b))) [] (am_h w2 g2) o h') : am_R (d + 40) 0 436 (aw_lv i x5 x6) [] (am_h w g) o h' := by
  refine am_R.nxs 5 (pc' := 442) (lv' := [some (.ref 1000), some (.ref 1001), some (.ref 1021), some (.ref 1044), some (.int (Int32.ofNat i)), x5, x6]) (st' := [.int (Int32.ofNat i + 1), .ref 1000, .ref 1001]) (h1 := am_h w g) rfl ?_
  rw [show (Int32.ofNat i + 1 : Int32) = Int32.ofNat (i + 1) from am_add i 1]
  refine am_R.ldi (i := (i + 1)) (xs := xs) (pc' := 443) rfl (am_wf 0 (by decide) h0) (by omega) (by omega) rfl ?_
  refine am_R.nxs 4 (pc' := 448) (lv' := [some (.ref 1000), some (.ref 1001), some (.ref 1021), some (.ref 1044), some (.int (Int32.ofNat i)), x5, x6]) (st' := [.int (Int32.ofNat i + 2), .ref 1000, .int (xs.getD (i + 1) 0), .ref 1001]) (h1 := am_h w g) rfl ?_
  rw [show (Int32.ofNat i + 2 : Int32) = Int32.ofNat (i + 2) from am_add i 2]
  refine am_R.ldi (i := (i + 2)) (xs := xs) (pc' := 449) rfl (am_wf 0 (by decide) h0) (by omega) (by omega) rfl ?_
  refine am_R.nxs 1 (pc' := 450) (lv' := [some (.ref 1000), some (.ref 1001), some (.ref 1021), some (.ref 1044), some (.int (Int32.ofNat i)), x5, x6]) (st' := [.ref 1044, .int (xs.getD (i + 2) 0), .int (xs.getD (i + 1) 0), .ref 1001]) (h1 := am_h w g) rfl ?_
  refine am_R.cs (mj := 74) (as := [.ref 1001, .int (xs.getD (i + 1) 0), .int (xs.getD (i + 2) 0), .ref 1044]) (r := []) (v := some (.int c)) (h1 := am_h w1 g1) (pc' := 453) rfl (hw) rfl ?_
  refine am_R.nxs 6 (pc' := 461) (lv' := [some (.ref 1000), some (.ref 1001), some (.ref 1021), some (.ref 1044), some (.int (Int32.ofNat i)), some (.int c), x6]) (st' := [.int (Int32.ofNat i + 1), .ref 1000, .ref 1021]) (h1 := am_h w1 g1) rfl ?_
  rw [show (Int32.ofNat i + 1 : Int32) = Int32.ofNat (i + 1) from am_add i 1]
  refine am_R.ldi (i := (i + 1)) (xs := xs) (pc' := 462) rfl (am_wf 0 (by decide) e0) (by omega) (by omega) rfl ?_
  refine am_R.nxs 4 (pc' := 467) (lv' := [some (.ref 1000), some (.ref 1001), some (.ref 1021), some (.ref 1044), some (.int (Int32.ofNat i)), some (.int c), x6]) (st' := [.int (Int32.ofNat i + 2), .ref 1000, .int (xs.getD (i + 1) 0), .ref 1021]) (h1 := am_h w1 g1) rfl ?_
  rw [show (Int32.ofNat i + 2 : Int32) = Int32.ofNat (i + 2) from am_add i 2]
  refine am_R.ldi (i := (i + 2)) (xs := xs) (pc' := 468) rfl (am_wf 0 (by decide) e0) (by omega) (by omega) rfl ?_
  refine am_R.cv (a := 1021) (as' := [.int (xs.getD (i + 1) 0), .int (xs.getD (i + 2) 0)]) (r := []) (v := some (.int b)) (h1 := am_h w2 g2) (pc' := 471) rfl rfl rfl rfl (am_wf 21 (by decide) e21) rfl rfl (hm) rfl ?_
  refine am_R.nxs 2 (pc' := 474) (lv' := [some (.ref 1000), some (.ref 1001), some (.ref 1021), some (.ref 1044), some (.int (Int32.ofNat i)), some (.int c), some (.int b)]) (st' := [.ref 1021]) (h1 := am_h w2 g2) rfl ?_
  refine am_R.cv (a := 1021) (as' := []) (r := []) (v := some (.int c)) (h1 := am_h w2 g2) (pc' := 477) rfl rfl rfl rfl (am_wf 21 (by decide) h21) rfl rfl (aw_k95 (w := w2) (d + 39) h21) rfl ?_
  refine am_R.ites 2 (P := c = c) (T := 484) (F := 482) (lv' := [some (.ref 1000), some (.ref 1001), some (.ref 1021), some (.ref 1044), some (.int (Int32.ofNat i)), some (.int c), some (.int b)]) (st' := []) (h1 := am_h w2 g2) rfl (fun c1 => ?_) (fun c1 => ?_)
  · refine am_R.ites 2 (P := ¬ c = 0) (T := 501) (F := 489) (lv' := [some (.ref 1000), some (.ref 1001), some (.ref 1021), some (.ref 1044), some (.int (Int32.ofNat i)), some (.int c), some (.int b)]) (st' := []) (h1 := am_h w2 g2) rfl (fun c2 => ?_) (fun c2 => ?_)
    · refine am_R.nxs 1 (pc' := 921) (lv' := [some (.ref 1000), some (.ref 1001), some (.ref 1021), some (.ref 1044), some (.int (Int32.ofNat i)), some (.int c), some (.int b)]) (st' := []) (h1 := am_h w2 g2) rfl ?_
      exact K
    · refine am_R.nxs 2 (pc' := 491) (lv' := [some (.ref 1000), some (.ref 1001), some (.ref 1021), some (.ref 1044), some (.int (Int32.ofNat i)), some (.int c), some (.int b)]) (st' := [.int 0, .ref 1044]) (h1 := am_h w2 g2) rfl ?_
      refine am_R.ldl (x := (b).toInt64) (pc' := 492) rfl (am_wf 44 (by decide) (ho (Decidable.not_not.mp c2))) rfl ?_
      refine am_R.ites 4 (P := (lg_cmp ((b).toInt64) ((b).toInt64)) = 0) (T := 501) (F := 499) (lv' := [some (.ref 1000), some (.ref 1001), some (.ref 1021), some (.ref 1044), some (.int (Int32.ofNat i)), some (.int c), some (.int b)]) (st' := []) (h1 := am_h w2 g2) rfl (fun c3 => ?_) (fun c3 => ?_)
      · refine am_R.nxs 1 (pc' := 921) (lv' := [some (.ref 1000), some (.ref 1001), some (.ref 1021), some (.ref 1044), some (.int (Int32.ofNat i)), some (.int c), some (.int b)]) (st' := []) (h1 := am_h w2 g2) rfl ?_
        exact K
      · exact absurd (aw_cmp _) c3
  · exact absurd rfl c1
set_option maxRecDepth 100000 in
theorem aw_L7 {w w1 w2 : Nat → am_C} {g g1 g2 : am_H} (d i : Nat) (x5 x6 : Option Value) {xs : List Int32} (h0 : w 0 = am_I 0 xs) (hi : i + 4 ≤ xs.length) (hx : xs.length ≤ 2048) {c b : Int32} (hw : am_R (d + 39) 76 0 [some (.ref 1001), some (.int (xs.getD (i + 1) 0)), some (.ref 1044), none] [] (am_h w g) (.inl (some (.int c))) (am_h w1 g1)) (e0 : w1 0 = am_I 0 xs) {f1 f2 f3 f4 f5 f6 : Int32} (e21 : w1 21 = aw_c21 f1 f2 f3 f4 f5 f6) (hm : am_R (d + 39) 138 0 [some (.ref 1021), some (.int (xs.getD (i + 1) 0))] [] (am_h w1 g1) (.inl (some (.int b))) (am_h w2 g2)) {ty wr wd wt sn : Int32} (h21 : w2 21 = aw_c21 c ty wr wd wt sn) (ho : c = 0 → w2 44 = .inr (3, [.long (b).toInt64])) {o : am_O} {h' : am_H} (K : am_R (d + 40) 0 921 (aw_lv i (some (.int c)) (some (.int b))) [] (am_h w2 g2) o h') : am_R (d + 40) 0 504 (aw_lv i x5 x6) [] (am_h w g) o h' := by
  refine am_R.nxs 5 (pc' := 510) (lv' := [some (.ref 1000), some (.ref 1001), some (.ref 1021), some (.ref 1044), some (.int (Int32.ofNat i)), x5, x6]) (st' := [.int (Int32.ofNat i + 1), .ref 1000, .ref 1001]) (h1 := am_h w g) rfl ?_
  rw [show (Int32.ofNat i + 1 : Int32) = Int32.ofNat (i + 1) from am_add i 1]
  refine am_R.ldi (i := (i + 1)) (xs := xs) (pc' := 511) rfl (am_wf 0 (by decide) h0) (by omega) (by omega) rfl ?_
  refine am_R.nxs 1 (pc' := 512) (lv' := [some (.ref 1000), some (.ref 1001), some (.ref 1021), some (.ref 1044), some (.int (Int32.ofNat i)), x5, x6]) (st' := [.ref 1044, .int (xs.getD (i + 1) 0), .ref 1001]) (h1 := am_h w g) rfl ?_
  refine am_R.cs (mj := 76) (as := [.ref 1001, .int (xs.getD (i + 1) 0), .ref 1044]) (r := []) (v := some (.int c)) (h1 := am_h w1 g1) (pc' := 515) rfl (hw) rfl ?_
  refine am_R.nxs 6 (pc' := 523) (lv' := [some (.ref 1000), some (.ref 1001), some (.ref 1021), some (.ref 1044), some (.int (Int32.ofNat i)), some (.int c), x6]) (st' := [.int (Int32.ofNat i + 1), .ref 1000, .ref 1021]) (h1 := am_h w1 g1) rfl ?_
  rw [show (Int32.ofNat i + 1 : Int32) = Int32.ofNat (i + 1) from am_add i 1]
  refine am_R.ldi (i := (i + 1)) (xs := xs) (pc' := 524) rfl (am_wf 0 (by decide) e0) (by omega) (by omega) rfl ?_
  refine am_R.cv (a := 1021) (as' := [.int (xs.getD (i + 1) 0)]) (r := []) (v := some (.int b)) (h1 := am_h w2 g2) (pc' := 527) rfl rfl rfl rfl (am_wf 21 (by decide) e21) rfl rfl (hm) rfl ?_
  refine am_R.nxs 2 (pc' := 530) (lv' := [some (.ref 1000), some (.ref 1001), some (.ref 1021), some (.ref 1044), some (.int (Int32.ofNat i)), some (.int c), some (.int b)]) (st' := [.ref 1021]) (h1 := am_h w2 g2) rfl ?_
  refine am_R.cv (a := 1021) (as' := []) (r := []) (v := some (.int c)) (h1 := am_h w2 g2) (pc' := 533) rfl rfl rfl rfl (am_wf 21 (by decide) h21) rfl rfl (aw_k95 (w := w2) (d + 39) h21) rfl ?_
  refine am_R.ites 2 (P := c = c) (T := 540) (F := 538) (lv' := [some (.ref 1000), some (.ref 1001), some (.ref 1021), some (.ref 1044), some (.int (Int32.ofNat i)), some (.int c), some (.int b)]) (st' := []) (h1 := am_h w2 g2) rfl (fun c1 => ?_) (fun c1 => ?_)
  · refine am_R.ites 2 (P := ¬ c = 0) (T := 557) (F := 545) (lv' := [some (.ref 1000), some (.ref 1001), some (.ref 1021), some (.ref 1044), some (.int (Int32.ofNat i)), some (.int c), some (.int b)]) (st' := []) (h1 := am_h w2 g2) rfl (fun c2 => ?_) (fun c2 => ?_)
    · refine am_R.nxs 1 (pc' := 921) (lv' := [some (.ref 1000), some (.ref 1001), some (.ref 1021), some (.ref 1044), some (.int (Int32.ofNat i)), some (.int c), some (.int b)]) (st' := []) (h1 := am_h w2 g2) rfl ?_
      exact K
    · refine am_R.nxs 2 (pc' := 547) (lv' := [some (.ref 1000), some (.ref 1001), some (.ref 1021), some (.ref 1044), some (.int (Int32.ofNat i)), some (.int c), some (.int b)]) (st' := [.int 0, .ref 1044]) (h1 := am_h w2 g2) rfl ?_
      refine am_R.ldl (x := (b).toInt64) (pc' := 548) rfl (am_wf 44 (by decide) (ho (Decidable.not_not.mp c2))) rfl ?_
      refine am_R.ites 4 (P := (lg_cmp ((b).toInt64) ((b).toInt64)) = 0) (T := 557) (F := 555) (lv' := [some (.ref 1000), some (.ref 1001), some (.ref 1021), some (.ref 1044), some (.int (Int32.ofNat i)), some (.int c), some (.int b)]) (st' := []) (h1 := am_h w2 g2) rfl (fun c3 => ?_) (fun c3 => ?_)
      · refine am_R.nxs 1 (pc' := 921) (lv' := [some (.ref 1000), some (.ref 1001), some (.ref 1021), some (.ref 1044), some (.int (Int32.ofNat i)), some (.int c), some (.int b)]) (st' := []) (h1 := am_h w2 g2) rfl ?_
        exact K
      · exact absurd (aw_cmp _) c3
  · exact absurd rfl c1
set_option maxRecDepth 100000 in
theorem aw_L8 {w w1 w2 : Nat → am_C} {g g1 g2 : am_H} (d i : Nat) (x5 x6 : Option Value) {xs : List Int32} (h0 : w 0 = am_I 0 xs) (hi : i + 4 ≤ xs.length) (hx : xs.length ≤ 2048) {c b : Int32} (hw : am_R (d + 39) 78 0 [some (.ref 1001), some (.int (xs.getD (i + 1) 0)), some (.int (xs.getD (i + 2) 0)), some (.ref 1044), none] [] (am_h w g) (.inl (some (.int c))) (am_h w1 g1)) (e0 : w1 0 = am_I 0 xs) {f1 f2 f3 f4 f5 f6 : Int32} (e21 : w1 21 = aw_c21 f1 f2 f3 f4 f5 f6) (hm : am_R (d + 39) 139 0 [some (.ref 1021), some (.int (xs.getD (i + 1) 0)), some (.int (xs.getD (i + 2) 0))] [] (am_h w1 g1) (.inl (some (.int b))) (am_h w2 g2)) {ty wr wd wt sn : Int32} (h21 : w2 21 = aw_c21 c ty wr wd wt sn) (ho : c = 0 → w2 44 = .inr (3, [.long (b).toInt64])) {o : am_O} {h' : am_H} (K : am_R (d + 40) 0 921 (aw_lv i (some (.int c)) (some (.int b))) [] (am_h w2 g2) o h') : am_R (d + 40) 0 560 (aw_lv i x5 x6) [] (am_h w g) o h' := by
  refine am_R.nxs 5 (pc' := 566) (lv' := [some (.ref 1000), some (.ref 1001), some (.ref 1021), some (.ref 1044), some (.int (Int32.ofNat i)), x5, x6]) (st' := [.int (Int32.ofNat i + 1), .ref 1000, .ref 1001]) (h1 := am_h w g) rfl ?_
  rw [show (Int32.ofNat i + 1 : Int32) = Int32.ofNat (i + 1) from am_add i 1]
  refine am_R.ldi (i := (i + 1)) (xs := xs) (pc' := 567) rfl (am_wf 0 (by decide) h0) (by omega) (by omega) rfl ?_
  refine am_R.nxs 4 (pc' := 572) (lv' := [some (.ref 1000), some (.ref 1001), some (.ref 1021), some (.ref 1044), some (.int (Int32.ofNat i)), x5, x6]) (st' := [.int (Int32.ofNat i + 2), .ref 1000, .int (xs.getD (i + 1) 0), .ref 1001]) (h1 := am_h w g) rfl ?_
  rw [show (Int32.ofNat i + 2 : Int32) = Int32.ofNat (i + 2) from am_add i 2]
  refine am_R.ldi (i := (i + 2)) (xs := xs) (pc' := 573) rfl (am_wf 0 (by decide) h0) (by omega) (by omega) rfl ?_
  refine am_R.nxs 1 (pc' := 574) (lv' := [some (.ref 1000), some (.ref 1001), some (.ref 1021), some (.ref 1044), some (.int (Int32.ofNat i)), x5, x6]) (st' := [.ref 1044, .int (xs.getD (i + 2) 0), .int (xs.getD (i + 1) 0), .ref 1001]) (h1 := am_h w g) rfl ?_
  refine am_R.cs (mj := 78) (as := [.ref 1001, .int (xs.getD (i + 1) 0), .int (xs.getD (i + 2) 0), .ref 1044]) (r := []) (v := some (.int c)) (h1 := am_h w1 g1) (pc' := 577) rfl (hw) rfl ?_
  refine am_R.nxs 6 (pc' := 585) (lv' := [some (.ref 1000), some (.ref 1001), some (.ref 1021), some (.ref 1044), some (.int (Int32.ofNat i)), some (.int c), x6]) (st' := [.int (Int32.ofNat i + 1), .ref 1000, .ref 1021]) (h1 := am_h w1 g1) rfl ?_
  rw [show (Int32.ofNat i + 1 : Int32) = Int32.ofNat (i + 1) from am_add i 1]
  refine am_R.ldi (i := (i + 1)) (xs := xs) (pc' := 586) rfl (am_wf 0 (by decide) e0) (by omega) (by omega) rfl ?_
  refine am_R.nxs 4 (pc' := 591) (lv' := [some (.ref 1000), some (.ref 1001), some (.ref 1021), some (.ref 1044), some (.int (Int32.ofNat i)), some (.int c), x6]) (st' := [.int (Int32.ofNat i + 2), .ref 1000, .int (xs.getD (i + 1) 0), .ref 1021]) (h1 := am_h w1 g1) rfl ?_
  rw [show (Int32.ofNat i + 2 : Int32) = Int32.ofNat (i + 2) from am_add i 2]
  refine am_R.ldi (i := (i + 2)) (xs := xs) (pc' := 592) rfl (am_wf 0 (by decide) e0) (by omega) (by omega) rfl ?_
  refine am_R.cv (a := 1021) (as' := [.int (xs.getD (i + 1) 0), .int (xs.getD (i + 2) 0)]) (r := []) (v := some (.int b)) (h1 := am_h w2 g2) (pc' := 595) rfl rfl rfl rfl (am_wf 21 (by decide) e21) rfl rfl (hm) rfl ?_
  refine am_R.nxs 2 (pc' := 598) (lv' := [some (.ref 1000), some (.ref 1001), some (.ref 1021), some (.ref 1044), some (.int (Int32.ofNat i)), some (.int c), some (.int b)]) (st' := [.ref 1021]) (h1 := am_h w2 g2) rfl ?_
  refine am_R.cv (a := 1021) (as' := []) (r := []) (v := some (.int c)) (h1 := am_h w2 g2) (pc' := 601) rfl rfl rfl rfl (am_wf 21 (by decide) h21) rfl rfl (aw_k95 (w := w2) (d + 39) h21) rfl ?_
  refine am_R.ites 2 (P := c = c) (T := 608) (F := 606) (lv' := [some (.ref 1000), some (.ref 1001), some (.ref 1021), some (.ref 1044), some (.int (Int32.ofNat i)), some (.int c), some (.int b)]) (st' := []) (h1 := am_h w2 g2) rfl (fun c1 => ?_) (fun c1 => ?_)
  · refine am_R.ites 2 (P := ¬ c = 0) (T := 625) (F := 613) (lv' := [some (.ref 1000), some (.ref 1001), some (.ref 1021), some (.ref 1044), some (.int (Int32.ofNat i)), some (.int c), some (.int b)]) (st' := []) (h1 := am_h w2 g2) rfl (fun c2 => ?_) (fun c2 => ?_)
    · refine am_R.nxs 1 (pc' := 921) (lv' := [some (.ref 1000), some (.ref 1001), some (.ref 1021), some (.ref 1044), some (.int (Int32.ofNat i)), some (.int c), some (.int b)]) (st' := []) (h1 := am_h w2 g2) rfl ?_
      exact K
    · refine am_R.nxs 2 (pc' := 615) (lv' := [some (.ref 1000), some (.ref 1001), some (.ref 1021), some (.ref 1044), some (.int (Int32.ofNat i)), some (.int c), some (.int b)]) (st' := [.int 0, .ref 1044]) (h1 := am_h w2 g2) rfl ?_
      refine am_R.ldl (x := (b).toInt64) (pc' := 616) rfl (am_wf 44 (by decide) (ho (Decidable.not_not.mp c2))) rfl ?_
      refine am_R.ites 4 (P := (lg_cmp ((b).toInt64) ((b).toInt64)) = 0) (T := 625) (F := 623) (lv' := [some (.ref 1000), some (.ref 1001), some (.ref 1021), some (.ref 1044), some (.int (Int32.ofNat i)), some (.int c), some (.int b)]) (st' := []) (h1 := am_h w2 g2) rfl (fun c3 => ?_) (fun c3 => ?_)
      · refine am_R.nxs 1 (pc' := 921) (lv' := [some (.ref 1000), some (.ref 1001), some (.ref 1021), some (.ref 1044), some (.int (Int32.ofNat i)), some (.int c), some (.int b)]) (st' := []) (h1 := am_h w2 g2) rfl ?_
        exact K
      · exact absurd (aw_cmp _) c3
  · exact absurd rfl c1
set_option maxRecDepth 100000 in
theorem aw_L9 {w w1 w2 : Nat → am_C} {g g1 g2 : am_H} (d i : Nat) (x5 x6 : Option Value) {xs : List Int32} (h0 : w 0 = am_I 0 xs) (hi : i + 4 ≤ xs.length) (hx : xs.length ≤ 2048) {c b : Int32} (hw : am_R (d + 39) 80 0 [some (.ref 1001), some (.int (xs.getD (i + 1) 0)), some (.int (xs.getD (i + 2) 0)), some (.ref 1044), none] [] (am_h w g) (.inl (some (.int c))) (am_h w1 g1)) (e0 : w1 0 = am_I 0 xs) {f1 f2 f3 f4 f5 f6 : Int32} (e21 : w1 21 = aw_c21 f1 f2 f3 f4 f5 f6) (hm : am_R (d + 39) 140 0 [some (.ref 1021), some (.int (xs.getD (i + 1) 0)), some (.int (xs.getD (i + 2) 0)), none] [] (am_h w1 g1) (.inl (some (.int b))) (am_h w2 g2)) {ty wr wd wt sn : Int32} (h21 : w2 21 = aw_c21 c ty wr wd wt sn) (ho : c = 0 → w2 44 = .inr (3, [.long (b).toInt64])) {o : am_O} {h' : am_H} (K : am_R (d + 40) 0 921 (aw_lv i (some (.int c)) (some (.int b))) [] (am_h w2 g2) o h') : am_R (d + 40) 0 628 (aw_lv i x5 x6) [] (am_h w g) o h' := by
  refine am_R.nxs 5 (pc' := 634) (lv' := [some (.ref 1000), some (.ref 1001), some (.ref 1021), some (.ref 1044), some (.int (Int32.ofNat i)), x5, x6]) (st' := [.int (Int32.ofNat i + 1), .ref 1000, .ref 1001]) (h1 := am_h w g) rfl ?_
  rw [show (Int32.ofNat i + 1 : Int32) = Int32.ofNat (i + 1) from am_add i 1]
  refine am_R.ldi (i := (i + 1)) (xs := xs) (pc' := 635) rfl (am_wf 0 (by decide) h0) (by omega) (by omega) rfl ?_
  refine am_R.nxs 4 (pc' := 640) (lv' := [some (.ref 1000), some (.ref 1001), some (.ref 1021), some (.ref 1044), some (.int (Int32.ofNat i)), x5, x6]) (st' := [.int (Int32.ofNat i + 2), .ref 1000, .int (xs.getD (i + 1) 0), .ref 1001]) (h1 := am_h w g) rfl ?_
  rw [show (Int32.ofNat i + 2 : Int32) = Int32.ofNat (i + 2) from am_add i 2]
  refine am_R.ldi (i := (i + 2)) (xs := xs) (pc' := 641) rfl (am_wf 0 (by decide) h0) (by omega) (by omega) rfl ?_
  refine am_R.nxs 1 (pc' := 642) (lv' := [some (.ref 1000), some (.ref 1001), some (.ref 1021), some (.ref 1044), some (.int (Int32.ofNat i)), x5, x6]) (st' := [.ref 1044, .int (xs.getD (i + 2) 0), .int (xs.getD (i + 1) 0), .ref 1001]) (h1 := am_h w g) rfl ?_
  refine am_R.cs (mj := 80) (as := [.ref 1001, .int (xs.getD (i + 1) 0), .int (xs.getD (i + 2) 0), .ref 1044]) (r := []) (v := some (.int c)) (h1 := am_h w1 g1) (pc' := 645) rfl (hw) rfl ?_
  refine am_R.nxs 6 (pc' := 653) (lv' := [some (.ref 1000), some (.ref 1001), some (.ref 1021), some (.ref 1044), some (.int (Int32.ofNat i)), some (.int c), x6]) (st' := [.int (Int32.ofNat i + 1), .ref 1000, .ref 1021]) (h1 := am_h w1 g1) rfl ?_
  rw [show (Int32.ofNat i + 1 : Int32) = Int32.ofNat (i + 1) from am_add i 1]
  refine am_R.ldi (i := (i + 1)) (xs := xs) (pc' := 654) rfl (am_wf 0 (by decide) e0) (by omega) (by omega) rfl ?_
  refine am_R.nxs 4 (pc' := 659) (lv' := [some (.ref 1000), some (.ref 1001), some (.ref 1021), some (.ref 1044), some (.int (Int32.ofNat i)), some (.int c), x6]) (st' := [.int (Int32.ofNat i + 2), .ref 1000, .int (xs.getD (i + 1) 0), .ref 1021]) (h1 := am_h w1 g1) rfl ?_
  rw [show (Int32.ofNat i + 2 : Int32) = Int32.ofNat (i + 2) from am_add i 2]
  refine am_R.ldi (i := (i + 2)) (xs := xs) (pc' := 660) rfl (am_wf 0 (by decide) e0) (by omega) (by omega) rfl ?_
  refine am_R.cv (a := 1021) (as' := [.int (xs.getD (i + 1) 0), .int (xs.getD (i + 2) 0)]) (r := []) (v := some (.int b)) (h1 := am_h w2 g2) (pc' := 663) rfl rfl rfl rfl (am_wf 21 (by decide) e21) rfl rfl (hm) rfl ?_
  refine am_R.nxs 2 (pc' := 666) (lv' := [some (.ref 1000), some (.ref 1001), some (.ref 1021), some (.ref 1044), some (.int (Int32.ofNat i)), some (.int c), some (.int b)]) (st' := [.ref 1021]) (h1 := am_h w2 g2) rfl ?_
  refine am_R.cv (a := 1021) (as' := []) (r := []) (v := some (.int c)) (h1 := am_h w2 g2) (pc' := 669) rfl rfl rfl rfl (am_wf 21 (by decide) h21) rfl rfl (aw_k95 (w := w2) (d + 39) h21) rfl ?_
  refine am_R.ites 2 (P := c = c) (T := 676) (F := 674) (lv' := [some (.ref 1000), some (.ref 1001), some (.ref 1021), some (.ref 1044), some (.int (Int32.ofNat i)), some (.int c), some (.int b)]) (st' := []) (h1 := am_h w2 g2) rfl (fun c1 => ?_) (fun c1 => ?_)
  · refine am_R.ites 2 (P := ¬ c = 0) (T := 693) (F := 681) (lv' := [some (.ref 1000), some (.ref 1001), some (.ref 1021), some (.ref 1044), some (.int (Int32.ofNat i)), some (.int c), some (.int b)]) (st' := []) (h1 := am_h w2 g2) rfl (fun c2 => ?_) (fun c2 => ?_)
    · refine am_R.nxs 1 (pc' := 921) (lv' := [some (.ref 1000), some (.ref 1001), some (.ref 1021), some (.ref 1044), some (.int (Int32.ofNat i)), some (.int c), some (.int b)]) (st' := []) (h1 := am_h w2 g2) rfl ?_
      exact K
    · refine am_R.nxs 2 (pc' := 683) (lv' := [some (.ref 1000), some (.ref 1001), some (.ref 1021), some (.ref 1044), some (.int (Int32.ofNat i)), some (.int c), some (.int b)]) (st' := [.int 0, .ref 1044]) (h1 := am_h w2 g2) rfl ?_
      refine am_R.ldl (x := (b).toInt64) (pc' := 684) rfl (am_wf 44 (by decide) (ho (Decidable.not_not.mp c2))) rfl ?_
      refine am_R.ites 4 (P := (lg_cmp ((b).toInt64) ((b).toInt64)) = 0) (T := 693) (F := 691) (lv' := [some (.ref 1000), some (.ref 1001), some (.ref 1021), some (.ref 1044), some (.int (Int32.ofNat i)), some (.int c), some (.int b)]) (st' := []) (h1 := am_h w2 g2) rfl (fun c3 => ?_) (fun c3 => ?_)
      · refine am_R.nxs 1 (pc' := 921) (lv' := [some (.ref 1000), some (.ref 1001), some (.ref 1021), some (.ref 1044), some (.int (Int32.ofNat i)), some (.int c), some (.int b)]) (st' := []) (h1 := am_h w2 g2) rfl ?_
        exact K
      · exact absurd (aw_cmp _) c3
  · exact absurd rfl c1
set_option maxRecDepth 100000 in
theorem aw_L11 {w w1 w2 : Nat → am_C} {g g1 g2 : am_H} (d i : Nat) (x5 x6 : Option Value) {xs : List Int32} (h0 : w 0 = am_I 0 xs) (hi : i + 4 ≤ xs.length) (hx : xs.length ≤ 2048) {c b : Int32} (hw : am_R (d + 39) 85 0 [some (.ref 1001), some (.int (xs.getD (i + 1) 0)), some (.ref 1044), none] [] (am_h w g) (.inl (some (.int c))) (am_h w1 g1)) (e0 : w1 0 = am_I 0 xs) {f1 f2 f3 f4 f5 f6 : Int32} (e21 : w1 21 = aw_c21 f1 f2 f3 f4 f5 f6) (hm : am_R (d + 39) 142 0 [some (.ref 1021), some (.int (xs.getD (i + 1) 0))] [] (am_h w1 g1) (.inl (some (.int b))) (am_h w2 g2)) {ty wr wd wt sn : Int32} (h21 : w2 21 = aw_c21 c ty wr wd wt sn) (ho : c = 0 → w2 44 = .inr (3, [.long (b).toInt64])) {o : am_O} {h' : am_H} (K : am_R (d + 40) 0 921 (aw_lv i (some (.int c)) (some (.int b))) [] (am_h w2 g2) o h') : am_R (d + 40) 0 771 (aw_lv i x5 x6) [] (am_h w g) o h' := by
  refine am_R.nxs 5 (pc' := 777) (lv' := [some (.ref 1000), some (.ref 1001), some (.ref 1021), some (.ref 1044), some (.int (Int32.ofNat i)), x5, x6]) (st' := [.int (Int32.ofNat i + 1), .ref 1000, .ref 1001]) (h1 := am_h w g) rfl ?_
  rw [show (Int32.ofNat i + 1 : Int32) = Int32.ofNat (i + 1) from am_add i 1]
  refine am_R.ldi (i := (i + 1)) (xs := xs) (pc' := 778) rfl (am_wf 0 (by decide) h0) (by omega) (by omega) rfl ?_
  refine am_R.nxs 1 (pc' := 779) (lv' := [some (.ref 1000), some (.ref 1001), some (.ref 1021), some (.ref 1044), some (.int (Int32.ofNat i)), x5, x6]) (st' := [.ref 1044, .int (xs.getD (i + 1) 0), .ref 1001]) (h1 := am_h w g) rfl ?_
  refine am_R.cs (mj := 85) (as := [.ref 1001, .int (xs.getD (i + 1) 0), .ref 1044]) (r := []) (v := some (.int c)) (h1 := am_h w1 g1) (pc' := 782) rfl (hw) rfl ?_
  refine am_R.nxs 6 (pc' := 790) (lv' := [some (.ref 1000), some (.ref 1001), some (.ref 1021), some (.ref 1044), some (.int (Int32.ofNat i)), some (.int c), x6]) (st' := [.int (Int32.ofNat i + 1), .ref 1000, .ref 1021]) (h1 := am_h w1 g1) rfl ?_
  rw [show (Int32.ofNat i + 1 : Int32) = Int32.ofNat (i + 1) from am_add i 1]
  refine am_R.ldi (i := (i + 1)) (xs := xs) (pc' := 791) rfl (am_wf 0 (by decide) e0) (by omega) (by omega) rfl ?_
  refine am_R.cv (a := 1021) (as' := [.int (xs.getD (i + 1) 0)]) (r := []) (v := some (.int b)) (h1 := am_h w2 g2) (pc' := 794) rfl rfl rfl rfl (am_wf 21 (by decide) e21) rfl rfl (hm) rfl ?_
  refine am_R.nxs 2 (pc' := 797) (lv' := [some (.ref 1000), some (.ref 1001), some (.ref 1021), some (.ref 1044), some (.int (Int32.ofNat i)), some (.int c), some (.int b)]) (st' := [.ref 1021]) (h1 := am_h w2 g2) rfl ?_
  refine am_R.cv (a := 1021) (as' := []) (r := []) (v := some (.int c)) (h1 := am_h w2 g2) (pc' := 800) rfl rfl rfl rfl (am_wf 21 (by decide) h21) rfl rfl (aw_k95 (w := w2) (d + 39) h21) rfl ?_
  refine am_R.ites 2 (P := c = c) (T := 807) (F := 805) (lv' := [some (.ref 1000), some (.ref 1001), some (.ref 1021), some (.ref 1044), some (.int (Int32.ofNat i)), some (.int c), some (.int b)]) (st' := []) (h1 := am_h w2 g2) rfl (fun c1 => ?_) (fun c1 => ?_)
  · refine am_R.ites 2 (P := ¬ c = 0) (T := 824) (F := 812) (lv' := [some (.ref 1000), some (.ref 1001), some (.ref 1021), some (.ref 1044), some (.int (Int32.ofNat i)), some (.int c), some (.int b)]) (st' := []) (h1 := am_h w2 g2) rfl (fun c2 => ?_) (fun c2 => ?_)
    · refine am_R.nxs 1 (pc' := 921) (lv' := [some (.ref 1000), some (.ref 1001), some (.ref 1021), some (.ref 1044), some (.int (Int32.ofNat i)), some (.int c), some (.int b)]) (st' := []) (h1 := am_h w2 g2) rfl ?_
      exact K
    · refine am_R.nxs 2 (pc' := 814) (lv' := [some (.ref 1000), some (.ref 1001), some (.ref 1021), some (.ref 1044), some (.int (Int32.ofNat i)), some (.int c), some (.int b)]) (st' := [.int 0, .ref 1044]) (h1 := am_h w2 g2) rfl ?_
      refine am_R.ldl (x := (b).toInt64) (pc' := 815) rfl (am_wf 44 (by decide) (ho (Decidable.not_not.mp c2))) rfl ?_
      refine am_R.ites 4 (P := (lg_cmp ((b).toInt64) ((b).toInt64)) = 0) (T := 824) (F := 822) (lv' := [some (.ref 1000), some (.ref 1001), some (.ref 1021), some (.ref 1044), some (.int (Int32.ofNat i)), some (.int c), some (.int b)]) (st' := []) (h1 := am_h w2 g2) rfl (fun c3 => ?_) (fun c3 => ?_)
      · refine am_R.nxs 1 (pc' := 921) (lv' := [some (.ref 1000), some (.ref 1001), some (.ref 1021), some (.ref 1044), some (.int (Int32.ofNat i)), some (.int c), some (.int b)]) (st' := []) (h1 := am_h w2 g2) rfl ?_
        exact K
      · exact absurd (aw_cmp _) c3
  · exact absurd rfl c1
set_option maxRecDepth 100000 in
theorem aw_L12 {w w1 w2 : Nat → am_C} {g g1 g2 : am_H} (d i : Nat) (x5 x6 : Option Value) {xs : List Int32} (h0 : w 0 = am_I 0 xs) (hi : i + 4 ≤ xs.length) (hx : xs.length ≤ 2048) {c b : Int32} (hw : am_R (d + 39) 91 0 [some (.ref 1001), some (.int (xs.getD (i + 1) 0)), some (.ref 1044), none] [] (am_h w g) (.inl (some (.int c))) (am_h w1 g1)) (e0 : w1 0 = am_I 0 xs) {f1 f2 f3 f4 f5 f6 : Int32} (e21 : w1 21 = aw_c21 f1 f2 f3 f4 f5 f6) (hm : am_R (d + 39) 147 0 [some (.ref 1021), some (.int (xs.getD (i + 1) 0))] [] (am_h w1 g1) (.inl (some (.int b))) (am_h w2 g2)) {ty wr wd wt sn : Int32} (h21 : w2 21 = aw_c21 c ty wr wd wt sn) (ho : c = 0 → w2 44 = .inr (3, [.long (b).toInt64])) {o : am_O} {h' : am_H} (K : am_R (d + 40) 0 921 (aw_lv i (some (.int c)) (some (.int b))) [] (am_h w2 g2) o h') : am_R (d + 40) 0 827 (aw_lv i x5 x6) [] (am_h w g) o h' := by
  refine am_R.nxs 5 (pc' := 833) (lv' := [some (.ref 1000), some (.ref 1001), some (.ref 1021), some (.ref 1044), some (.int (Int32.ofNat i)), x5, x6]) (st' := [.int (Int32.ofNat i + 1), .ref 1000, .ref 1001]) (h1 := am_h w g) rfl ?_
  rw [show (Int32.ofNat i + 1 : Int32) = Int32.ofNat (i + 1) from am_add i 1]
  refine am_R.ldi (i := (i + 1)) (xs := xs) (pc' := 834) rfl (am_wf 0 (by decide) h0) (by omega) (by omega) rfl ?_
  refine am_R.nxs 1 (pc' := 835) (lv' := [some (.ref 1000), some (.ref 1001), some (.ref 1021), some (.ref 1044), some (.int (Int32.ofNat i)), x5, x6]) (st' := [.ref 1044, .int (xs.getD (i + 1) 0), .ref 1001]) (h1 := am_h w g) rfl ?_
  refine am_R.cs (mj := 91) (as := [.ref 1001, .int (xs.getD (i + 1) 0), .ref 1044]) (r := []) (v := some (.int c)) (h1 := am_h w1 g1) (pc' := 838) rfl (hw) rfl ?_
  refine am_R.nxs 6 (pc' := 846) (lv' := [some (.ref 1000), some (.ref 1001), some (.ref 1021), some (.ref 1044), some (.int (Int32.ofNat i)), some (.int c), x6]) (st' := [.int (Int32.ofNat i + 1), .ref 1000, .ref 1021]) (h1 := am_h w1 g1) rfl ?_
  rw [show (Int32.ofNat i + 1 : Int32) = Int32.ofNat (i + 1) from am_add i 1]
  refine am_R.ldi (i := (i + 1)) (xs := xs) (pc' := 847) rfl (am_wf 0 (by decide) e0) (by omega) (by omega) rfl ?_
  refine am_R.cv (a := 1021) (as' := [.int (xs.getD (i + 1) 0)]) (r := []) (v := some (.int b)) (h1 := am_h w2 g2) (pc' := 850) rfl rfl rfl rfl (am_wf 21 (by decide) e21) rfl rfl (hm) rfl ?_
  refine am_R.nxs 2 (pc' := 853) (lv' := [some (.ref 1000), some (.ref 1001), some (.ref 1021), some (.ref 1044), some (.int (Int32.ofNat i)), some (.int c), some (.int b)]) (st' := [.ref 1021]) (h1 := am_h w2 g2) rfl ?_
  refine am_R.cv (a := 1021) (as' := []) (r := []) (v := some (.int c)) (h1 := am_h w2 g2) (pc' := 856) rfl rfl rfl rfl (am_wf 21 (by decide) h21) rfl rfl (aw_k95 (w := w2) (d + 39) h21) rfl ?_
  refine am_R.ites 2 (P := c = c) (T := 863) (F := 861) (lv' := [some (.ref 1000), some (.ref 1001), some (.ref 1021), some (.ref 1044), some (.int (Int32.ofNat i)), some (.int c), some (.int b)]) (st' := []) (h1 := am_h w2 g2) rfl (fun c1 => ?_) (fun c1 => ?_)
  · refine am_R.ites 2 (P := ¬ c = 0) (T := 880) (F := 868) (lv' := [some (.ref 1000), some (.ref 1001), some (.ref 1021), some (.ref 1044), some (.int (Int32.ofNat i)), some (.int c), some (.int b)]) (st' := []) (h1 := am_h w2 g2) rfl (fun c2 => ?_) (fun c2 => ?_)
    · refine am_R.nxs 1 (pc' := 921) (lv' := [some (.ref 1000), some (.ref 1001), some (.ref 1021), some (.ref 1044), some (.int (Int32.ofNat i)), some (.int c), some (.int b)]) (st' := []) (h1 := am_h w2 g2) rfl ?_
      exact K
    · refine am_R.nxs 2 (pc' := 870) (lv' := [some (.ref 1000), some (.ref 1001), some (.ref 1021), some (.ref 1044), some (.int (Int32.ofNat i)), some (.int c), some (.int b)]) (st' := [.int 0, .ref 1044]) (h1 := am_h w2 g2) rfl ?_
      refine am_R.ldl (x := (b).toInt64) (pc' := 871) rfl (am_wf 44 (by decide) (ho (Decidable.not_not.mp c2))) rfl ?_
      refine am_R.ites 4 (P := (lg_cmp ((b).toInt64) ((b).toInt64)) = 0) (T := 880) (F := 878) (lv' := [some (.ref 1000), some (.ref 1001), some (.ref 1021), some (.ref 1044), some (.int (Int32.ofNat i)), some (.int c), some (.int b)]) (st' := []) (h1 := am_h w2 g2) rfl (fun c3 => ?_) (fun c3 => ?_)
      · refine am_R.nxs 1 (pc' := 921) (lv' := [some (.ref 1000), some (.ref 1001), some (.ref 1021), some (.ref 1044), some (.int (Int32.ofNat i)), some (.int c), some (.int b)]) (st' := []) (h1 := am_h w2 g2) rfl ?_
        exact K
      · exact absurd (aw_cmp _) c3
  · exact absurd rfl c1
