/-! read of the class. -/
theorem aw_lt3 {k : Nat} (h : k < 3) : Int32.ofNat k < 3 := (am_ltN (n := 3) (by omega) (by decide)).mpr h
theorem aw_k8f {w : Nat → am_C} {g : am_H} (d : Nat) {tl pl sp sd : Nat} (hsd : sd < 3) (h1 : w 1 = aw_c1 tl pl sp) {tx : List Int32} (h2 : w 2 = am_I 1 tx) (hl : tx.length = 120) (htl : tl ≤ 120) (hsp : sp < 4) {wc bc sc ic cc dp rd : Int32} {ws : List Value} (t1 : w (5 + 4 * sp) = aw_cT sp wc bc sc ic cc dp rd) (t2 : w (6 + 4 * sp) = .inr (4, ws)) (t5 : ws.length = 120) {w3 : Nat → am_C} {g1 : am_H} {q : Nat} (hr1 : g1[g.length]? = some (aw_cR sp q)) (hrw : am_R (d + 17) 21 0 [some (.ref (1045 + g.length)), none] [] (am_h (am_pu (aw_sw w sp bc sc ic cc dp rd (aw_tok tx tl tl 0) (ws.drop (aw_tok tx tl tl 0).length)) 1 (aw_c1 0 pl sp)) (g ++ [aw_cR sp 0])) (.inl (some (.null))) (am_h w3 g1)) : am_R (d + 18) 8 0 [some (.ref 1001), some (.int (Int32.ofNat sd)), none, none, none] [] (am_h w g) (.inl (some (.int (-1 - Int32.ofNat q)))) (am_h w3 g1) := by
  refine am_R.nxs 2 (pc' := 2) (lv' := [some (.ref 1001), some (.int (Int32.ofNat sd)), none, none, none]) (st' := [.int (Int32.ofNat sd), .ref 1001]) (h1 := am_h w g) rfl ?_
  refine am_R.cv (a := 1001) (as' := [.int (Int32.ofNat sd)]) (r := []) (v := none) (h1 := am_h w g) (pc' := 5) rfl rfl rfl rfl (am_wf 1 (by decide) h1) rfl rfl (aw_k9a _ _ _ (aw_nn sd) (aw_lt3 hsd)) rfl ?_
  refine am_R.nxs 1 (pc' := 6) (lv' := [some (.ref 1001), some (.int (Int32.ofNat sd)), none, none, none]) (st' := [.ref 1001]) (h1 := am_h w g) rfl ?_
  refine am_R.gf (pc' := 9) (v := .ref (1005 + 4 * sp)) rfl (am_wf 1 (by decide) h1) rfl rfl rfl ?_
  refine am_R.nxs 1 (pc' := 10) (lv' := [some (.ref 1001), some (.int (Int32.ofNat sd)), none, none, none]) (st' := [.ref 1001, .ref (1005 + 4 * sp)]) (h1 := am_h w g) rfl ?_
  refine am_R.gf (pc' := 13) (v := .ref 1002) rfl (am_wf 1 (by decide) h1) rfl rfl rfl ?_
  refine am_R.nxs 1 (pc' := 14) (lv' := [some (.ref 1001), some (.int (Int32.ofNat sd)), none, none, none]) (st' := [.ref 1001, .ref 1002, .ref (1005 + 4 * sp)]) (h1 := am_h w g) rfl ?_
  refine am_R.gf (pc' := 17) (v := .int (Int32.ofNat tl)) rfl (am_wf 1 (by decide) h1) rfl rfl rfl ?_
  refine am_R.cv (a := (1005 + 4 * sp)) (as' := [.ref 1002, .int (Int32.ofNat tl)]) (r := []) (v := none) (h1 := am_h (aw_sw w sp bc sc ic cc dp rd (aw_tok tx tl tl 0) (ws.drop (aw_tok tx tl tl 0).length)) g) (pc' := 20) rfl rfl rfl rfl (aw_at5 hsp t1) rfl rfl (aw_k10 (d + 12) h2 hl htl hsp t1 t2 t5) rfl ?_
  refine am_R.nxs 2 (pc' := 22) (lv' := [some (.ref 1001), some (.int (Int32.ofNat sd)), none, none, none]) (st' := [.int 0, .ref 1001]) (h1 := am_h (aw_sw w sp bc sc ic cc dp rd (aw_tok tx tl tl 0) (ws.drop (aw_tok tx tl tl 0).length)) g) rfl ?_
  refine am_R.pf (k := 1) (pc' := 25) rfl (am_wf 1 (by decide) ((aw_sw_other (by omega) (by omega)).trans h1 : (aw_sw w sp bc sc ic cc dp rd (aw_tok tx tl tl 0) (ws.drop (aw_tok tx tl tl 0).length)) 1 = _)) rfl (Nat.le_of_ble_eq_true rfl) rfl (fun q => by cases q) (am_ws (k := 1) (by decide) (by decide)) rfl ?_
  refine am_R.nw (L := g.length) (pc' := 28) rfl rfl rfl rfl ?_
  refine am_R.nxs 2 (pc' := 30) (lv' := [some (.ref 1001), some (.int (Int32.ofNat sd)), none, none, none]) (st' := [.ref 1001, .ref (1045 + g.length), .ref (1045 + g.length)]) (h1 := am_h (am_pu (aw_sw w sp bc sc ic cc dp rd (aw_tok tx tl tl 0) (ws.drop (aw_tok tx tl tl 0).length)) 1 (aw_c1 0 pl sp)) (g ++ [(Sum.inl (3, [.null, .int 0]) : am_C)])) rfl ?_
  refine am_R.gf (pc' := 33) (v := .ref (1005 + 4 * sp)) rfl (am_wf 1 (by decide) (rfl : (am_pu (aw_sw w sp bc sc ic cc dp rd (aw_tok tx tl tl 0) (ws.drop (aw_tok tx tl tl 0).length)) 1 (aw_c1 0 pl sp)) 1 = _)) rfl rfl rfl ?_
  refine am_R.cv (a := (1045 + g.length)) (as' := [.ref (1005 + 4 * sp)]) (r := [.ref (1045 + g.length)]) (v := none) (h1 := am_h (am_pu (aw_sw w sp bc sc ic cc dp rd (aw_tok tx tl tl 0) (ws.drop (aw_tok tx tl tl 0).length)) 1 (aw_c1 0 pl sp)) (g ++ [aw_cR sp 0])) (pc' := 36) rfl rfl rfl rfl (am_gfn g.length (aw_ap_at rfl)) rfl rfl (aw_k20 _ rfl) rfl ?_
  refine am_R.nxs 2 (pc' := 38) (lv' := [some (.ref 1001), some (.int (Int32.ofNat sd)), some (.ref (1045 + g.length)), none, none]) (st' := [.ref (1045 + g.length)]) (h1 := am_h (am_pu (aw_sw w sp bc sc ic cc dp rd (aw_tok tx tl tl 0) (ws.drop (aw_tok tx tl tl 0).length)) 1 (aw_c1 0 pl sp)) (g ++ [aw_cR sp 0])) rfl ?_
  refine am_R.cv (a := (1045 + g.length)) (as' := []) (r := []) (v := some (.null)) (h1 := am_h w3 g1) (pc' := 41) rfl rfl rfl rfl (am_gfn g.length (aw_ap_at rfl)) rfl rfl (hrw) rfl ?_
  refine am_R.nxs 5 (pc' := 48) (lv' := [some (.ref 1001), some (.int (Int32.ofNat sd)), some (.ref (1045 + g.length)), some (.null), none]) (st' := [.ref (1045 + g.length), .int (-1)]) (h1 := am_h w3 g1) rfl ?_
  refine am_R.gf (pc' := 51) (v := .int (Int32.ofNat q)) rfl (am_gfn g.length hr1) rfl rfl rfl ?_
  refine am_R.nxs 1 (pc' := 52) (lv' := [some (.ref 1001), some (.int (Int32.ofNat sd)), some (.ref (1045 + g.length)), some (.null), none]) (st' := [.int ((-1) - Int32.ofNat q)]) (h1 := am_h w3 g1) rfl ?_
  exact am_R.reti rfl rfl rfl
theorem aw_k8s {w : Nat → am_C} {g : am_H} (d : Nat) {tl pl sp sd : Nat} (hsd : sd < 3) (h1 : w 1 = aw_c1 tl pl sp) {tx : List Int32} (h2 : w 2 = am_I 1 tx) (hl : tx.length = 120) (htl : tl ≤ 120) (hsp : sp < 4) {wc bc sc ic cc dp rd : Int32} {ws : List Value} (t1 : w (5 + 4 * sp) = aw_cT sp wc bc sc ic cc dp rd) (t2 : w (6 + 4 * sp) = .inr (4, ws)) (t5 : ws.length = 120) {w3 w4 : Nat → am_C} {g1 : am_H} {a r : Nat} {rs : List Value} {nn b4 s4 i4 c4 p4 d4 : Int32} (h1c : w3 1 = aw_c1 0 pl sp) (h5c : w3 (5 + 4 * sp) = aw_cT sp nn b4 s4 i4 c4 p4 d4) (h1d : w4 1 = aw_c1 0 pl sp) (h5d : w4 (5 + 4 * sp) = aw_cT sp nn b4 s4 i4 c4 p4 d4) (h4d : w4 4 = .inr (5, rs)) (hrs3 : rs.length = 3) (hrs : rs[sd]? = some (.ref (1005 + 4 * r))) (hrw : am_R (d + 17) 21 0 [some (.ref (1045 + g.length)), none] [] (am_h (am_pu (aw_sw w sp bc sc ic cc dp rd (aw_tok tx tl tl 0) (ws.drop (aw_tok tx tl tl 0).length)) 1 (aw_c1 0 pl sp)) (g ++ [aw_cR sp 0])) (.inl (some (.ref (1045 + a)))) (am_h w3 g1)) (hpt : am_R (d + 17) 48 0 [some (.ref (1005 + 4 * sp)), some (.ref (1045 + a)), none] [] (am_h w3 g1) (.inl none) (am_h w4 g1)) : am_R (d + 18) 8 0 [some (.ref 1001), some (.int (Int32.ofNat sd)), none, none, none] [] (am_h w g) (.inl (some (.int nn))) (am_h (am_pu (am_pu (am_pu w4 (5 + 4 * sp) (aw_cT sp nn b4 s4 i4 c4 p4 1)) 4 (.inr (5, rs.set sd (.ref (1005 + 4 * sp))))) 1 (aw_c1 0 pl r)) g1) := by
  have hrl : (rs.set sd (Value.ref (1005 + 4 * sp))).length = 3 := by rw [List.length_set]; exact hrs3
  refine am_R.nxs 2 (pc' := 2) (lv' := [some (.ref 1001), some (.int (Int32.ofNat sd)), none, none, none]) (st' := [.int (Int32.ofNat sd), .ref 1001]) (h1 := am_h w g) rfl ?_
  refine am_R.cv (a := 1001) (as' := [.int (Int32.ofNat sd)]) (r := []) (v := none) (h1 := am_h w g) (pc' := 5) rfl rfl rfl rfl (am_wf 1 (by decide) h1) rfl rfl (aw_k9a _ _ _ (aw_nn sd) (aw_lt3 hsd)) rfl ?_
  refine am_R.nxs 1 (pc' := 6) (lv' := [some (.ref 1001), some (.int (Int32.ofNat sd)), none, none, none]) (st' := [.ref 1001]) (h1 := am_h w g) rfl ?_
  refine am_R.gf (pc' := 9) (v := .ref (1005 + 4 * sp)) rfl (am_wf 1 (by decide) h1) rfl rfl rfl ?_
  refine am_R.nxs 1 (pc' := 10) (lv' := [some (.ref 1001), some (.int (Int32.ofNat sd)), none, none, none]) (st' := [.ref 1001, .ref (1005 + 4 * sp)]) (h1 := am_h w g) rfl ?_
  refine am_R.gf (pc' := 13) (v := .ref 1002) rfl (am_wf 1 (by decide) h1) rfl rfl rfl ?_
  refine am_R.nxs 1 (pc' := 14) (lv' := [some (.ref 1001), some (.int (Int32.ofNat sd)), none, none, none]) (st' := [.ref 1001, .ref 1002, .ref (1005 + 4 * sp)]) (h1 := am_h w g) rfl ?_
  refine am_R.gf (pc' := 17) (v := .int (Int32.ofNat tl)) rfl (am_wf 1 (by decide) h1) rfl rfl rfl ?_
  refine am_R.cv (a := (1005 + 4 * sp)) (as' := [.ref 1002, .int (Int32.ofNat tl)]) (r := []) (v := none) (h1 := am_h (aw_sw w sp bc sc ic cc dp rd (aw_tok tx tl tl 0) (ws.drop (aw_tok tx tl tl 0).length)) g) (pc' := 20) rfl rfl rfl rfl (aw_at5 hsp t1) rfl rfl (aw_k10 (d + 12) h2 hl htl hsp t1 t2 t5) rfl ?_
  refine am_R.nxs 2 (pc' := 22) (lv' := [some (.ref 1001), some (.int (Int32.ofNat sd)), none, none, none]) (st' := [.int 0, .ref 1001]) (h1 := am_h (aw_sw w sp bc sc ic cc dp rd (aw_tok tx tl tl 0) (ws.drop (aw_tok tx tl tl 0).length)) g) rfl ?_
  refine am_R.pf (k := 1) (pc' := 25) rfl (am_wf 1 (by decide) ((aw_sw_other (by omega) (by omega)).trans h1 : (aw_sw w sp bc sc ic cc dp rd (aw_tok tx tl tl 0) (ws.drop (aw_tok tx tl tl 0).length)) 1 = _)) rfl (Nat.le_of_ble_eq_true rfl) rfl (fun q => by cases q) (am_ws (k := 1) (by decide) (by decide)) rfl ?_
  refine am_R.nw (L := g.length) (pc' := 28) rfl rfl rfl rfl ?_
  refine am_R.nxs 2 (pc' := 30) (lv' := [some (.ref 1001), some (.int (Int32.ofNat sd)), none, none, none]) (st' := [.ref 1001, .ref (1045 + g.length), .ref (1045 + g.length)]) (h1 := am_h (am_pu (aw_sw w sp bc sc ic cc dp rd (aw_tok tx tl tl 0) (ws.drop (aw_tok tx tl tl 0).length)) 1 (aw_c1 0 pl sp)) (g ++ [(Sum.inl (3, [.null, .int 0]) : am_C)])) rfl ?_
  refine am_R.gf (pc' := 33) (v := .ref (1005 + 4 * sp)) rfl (am_wf 1 (by decide) (rfl : (am_pu (aw_sw w sp bc sc ic cc dp rd (aw_tok tx tl tl 0) (ws.drop (aw_tok tx tl tl 0).length)) 1 (aw_c1 0 pl sp)) 1 = _)) rfl rfl rfl ?_
  refine am_R.cv (a := (1045 + g.length)) (as' := [.ref (1005 + 4 * sp)]) (r := [.ref (1045 + g.length)]) (v := none) (h1 := am_h (am_pu (aw_sw w sp bc sc ic cc dp rd (aw_tok tx tl tl 0) (ws.drop (aw_tok tx tl tl 0).length)) 1 (aw_c1 0 pl sp)) (g ++ [aw_cR sp 0])) (pc' := 36) rfl rfl rfl rfl (am_gfn g.length (aw_ap_at rfl)) rfl rfl (aw_k20 _ rfl) rfl ?_
  refine am_R.nxs 2 (pc' := 38) (lv' := [some (.ref 1001), some (.int (Int32.ofNat sd)), some (.ref (1045 + g.length)), none, none]) (st' := [.ref (1045 + g.length)]) (h1 := am_h (am_pu (aw_sw w sp bc sc ic cc dp rd (aw_tok tx tl tl 0) (ws.drop (aw_tok tx tl tl 0).length)) 1 (aw_c1 0 pl sp)) (g ++ [aw_cR sp 0])) rfl ?_
  refine am_R.cv (a := (1045 + g.length)) (as' := []) (r := []) (v := some (.ref (1045 + a))) (h1 := am_h w3 g1) (pc' := 41) rfl rfl rfl rfl (am_gfn g.length (aw_ap_at rfl)) rfl rfl (hrw) rfl ?_
  refine am_R.nxs 4 (pc' := 54) (lv' := [some (.ref 1001), some (.int (Int32.ofNat sd)), some (.ref (1045 + g.length)), some (.ref (1045 + a)), none]) (st' := [.ref 1001]) (h1 := am_h w3 g1) rfl ?_
  refine am_R.gf (pc' := 57) (v := .ref (1005 + 4 * sp)) rfl (am_wf 1 (by decide) h1c) rfl rfl rfl ?_
  refine am_R.nxs 1 (pc' := 58) (lv' := [some (.ref 1001), some (.int (Int32.ofNat sd)), some (.ref (1045 + g.length)), some (.ref (1045 + a)), none]) (st' := [.ref (1045 + a), .ref (1005 + 4 * sp)]) (h1 := am_h w3 g1) rfl ?_
  refine am_R.cv (a := (1005 + 4 * sp)) (as' := [.ref (1045 + a)]) (r := []) (v := none) (h1 := am_h w4 g1) (pc' := 61) rfl rfl rfl rfl (aw_at5 hsp h5c) rfl rfl (hpt) rfl ?_
  refine am_R.nxs 1 (pc' := 62) (lv' := [some (.ref 1001), some (.int (Int32.ofNat sd)), some (.ref (1045 + g.length)), some (.ref (1045 + a)), none]) (st' := [.ref 1001]) (h1 := am_h w4 g1) rfl ?_
  refine am_R.gf (pc' := 65) (v := .ref (1005 + 4 * sp)) rfl (am_wf 1 (by decide) h1d) rfl rfl rfl ?_
  refine am_R.nxs 1 (pc' := 66) (lv' := [some (.ref 1001), some (.int (Int32.ofNat sd)), some (.ref (1045 + g.length)), some (.ref (1045 + a)), none]) (st' := [.int 1, .ref (1005 + 4 * sp)]) (h1 := am_h w4 g1) rfl ?_
  refine am_R.pf (k := 9) (pc' := 69) rfl (aw_at5 hsp h5d) rfl (Nat.le_of_ble_eq_true rfl) rfl (fun q => by cases q) (aw_ws5 hsp) rfl ?_
  refine am_R.nxs 1 (pc' := 70) (lv' := [some (.ref 1001), some (.int (Int32.ofNat sd)), some (.ref (1045 + g.length)), some (.ref (1045 + a)), none]) (st' := [.ref 1001]) (h1 := am_h (am_pu w4 (5 + 4 * sp) (aw_cT sp nn b4 s4 i4 c4 p4 1)) g1) rfl ?_
  refine am_R.gf (pc' := 73) (v := .ref 1004) rfl (am_wf 1 (by decide) ((am_pu_ne (by omega)).trans h1d : (am_pu w4 (5 + 4 * sp) (aw_cT sp nn b4 s4 i4 c4 p4 1)) 1 = _)) rfl rfl rfl ?_
  refine am_R.nxs 1 (pc' := 74) (lv' := [some (.ref 1001), some (.int (Int32.ofNat sd)), some (.ref (1045 + g.length)), some (.ref (1045 + a)), none]) (st' := [.int (Int32.ofNat sd), .ref 1004]) (h1 := am_h (am_pu w4 (5 + 4 * sp) (aw_cT sp nn b4 s4 i4 c4 p4 1)) g1) rfl ?_
  refine am_R.lda (i := sd) (xs := rs) (v := .ref (1005 + 4 * r)) (pc' := 75) rfl (am_wf 4 (by decide) ((am_pu_ne (by omega)).trans h4d : (am_pu w4 (5 + 4 * sp) (aw_cT sp nn b4 s4 i4 c4 p4 1)) 4 = _)) (by decide) (by omega) (by omega) (hrs) rfl ?_
  refine am_R.nxs 2 (pc' := 78) (lv' := [some (.ref 1001), some (.int (Int32.ofNat sd)), some (.ref (1045 + g.length)), some (.ref (1045 + a)), some (.ref (1005 + 4 * r))]) (st' := [.ref 1001]) (h1 := am_h (am_pu w4 (5 + 4 * sp) (aw_cT sp nn b4 s4 i4 c4 p4 1)) g1) rfl ?_
  refine am_R.gf (pc' := 81) (v := .ref 1004) rfl (am_wf 1 (by decide) ((am_pu_ne (by omega)).trans h1d : (am_pu w4 (5 + 4 * sp) (aw_cT sp nn b4 s4 i4 c4 p4 1)) 1 = _)) rfl rfl rfl ?_
  refine am_R.nxs 2 (pc' := 83) (lv' := [some (.ref 1001), some (.int (Int32.ofNat sd)), some (.ref (1045 + g.length)), some (.ref (1045 + a)), some (.ref (1005 + 4 * r))]) (st' := [.ref 1001, .int (Int32.ofNat sd), .ref 1004]) (h1 := am_h (am_pu w4 (5 + 4 * sp) (aw_cT sp nn b4 s4 i4 c4 p4 1)) g1) rfl ?_
  refine am_R.gf (pc' := 86) (v := .ref (1005 + 4 * sp)) rfl (am_wf 1 (by decide) ((am_pu_ne (by omega)).trans h1d : (am_pu w4 (5 + 4 * sp) (aw_cT sp nn b4 s4 i4 c4 p4 1)) 1 = _)) rfl rfl rfl ?_
  refine am_R.sta (i := sd) (xs := rs) (v := .ref (1005 + 4 * sp)) (t := 5) (pc' := 87) rfl (am_wf 4 (by decide) ((am_pu_ne (by omega)).trans h4d : (am_pu w4 (5 + 4 * sp) (aw_cT sp nn b4 s4 i4 c4 p4 1)) 4 = _)) (by decide) (by omega) (by omega) (by simp only [am_ok, aw_at5 hsp (am_pu_eq _ _ _)]; rfl) (am_ws (k := 4) (by decide) (by decide)) rfl ?_
  refine am_R.nxs 2 (pc' := 90) (lv' := [some (.ref 1001), some (.int (Int32.ofNat sd)), some (.ref (1045 + g.length)), some (.ref (1045 + a)), some (.ref (1005 + 4 * r))]) (st' := [.ref (1005 + 4 * r), .ref 1001]) (h1 := am_h (am_pu (am_pu w4 (5 + 4 * sp) (aw_cT sp nn b4 s4 i4 c4 p4 1)) 4 (.inr (5, rs.set sd (.ref (1005 + 4 * sp))))) g1) rfl ?_
  refine am_R.pf (k := 5) (pc' := 93) rfl (am_wf 1 (by decide) ((am_pu_ne (by decide)).trans ((am_pu_ne (by omega)).trans h1d) : (am_pu (am_pu w4 (5 + 4 * sp) (aw_cT sp nn b4 s4 i4 c4 p4 1)) 4 (.inr (5, rs.set sd (.ref (1005 + 4 * sp))))) 1 = _)) rfl (Nat.le_of_ble_eq_true rfl) rfl (fun q => by cases q) (am_ws (k := 1) (by decide) (by decide)) rfl ?_
  refine am_R.nxs 1 (pc' := 94) (lv' := [some (.ref 1001), some (.int (Int32.ofNat sd)), some (.ref (1045 + g.length)), some (.ref (1045 + a)), some (.ref (1005 + 4 * r))]) (st' := [.ref 1001]) (h1 := am_h (am_pu (am_pu (am_pu w4 (5 + 4 * sp) (aw_cT sp nn b4 s4 i4 c4 p4 1)) 4 (.inr (5, rs.set sd (.ref (1005 + 4 * sp))))) 1 (aw_c1 0 pl r)) g1) rfl ?_
  refine am_R.gf (pc' := 97) (v := .ref 1004) rfl (am_wf 1 (by decide) (am_pu_eq _ _ _ : (am_pu (am_pu (am_pu w4 (5 + 4 * sp) (aw_cT sp nn b4 s4 i4 c4 p4 1)) 4 (.inr (5, rs.set sd (.ref (1005 + 4 * sp))))) 1 (aw_c1 0 pl r)) 1 = _)) rfl rfl rfl ?_
  refine am_R.nxs 1 (pc' := 98) (lv' := [some (.ref 1001), some (.int (Int32.ofNat sd)), some (.ref (1045 + g.length)), some (.ref (1045 + a)), some (.ref (1005 + 4 * r))]) (st' := [.int (Int32.ofNat sd), .ref 1004]) (h1 := am_h (am_pu (am_pu (am_pu w4 (5 + 4 * sp) (aw_cT sp nn b4 s4 i4 c4 p4 1)) 4 (.inr (5, rs.set sd (.ref (1005 + 4 * sp))))) 1 (aw_c1 0 pl r)) g1) rfl ?_
  refine am_R.lda (i := sd) (xs := (rs.set sd (.ref (1005 + 4 * sp)))) (v := .ref (1005 + 4 * sp)) (pc' := 99) rfl (am_wf 4 (by decide) ((am_pu_ne (by decide)).trans (am_pu_eq _ _ _) : (am_pu (am_pu (am_pu w4 (5 + 4 * sp) (aw_cT sp nn b4 s4 i4 c4 p4 1)) 4 (.inr (5, rs.set sd (.ref (1005 + 4 * sp))))) 1 (aw_c1 0 pl r)) 4 = _)) (by decide) (by omega) (by omega) (List.getElem?_set_self (by omega)) rfl ?_
  refine am_R.gf (pc' := 102) (v := .int nn) rfl (aw_at5 hsp ((am_pu_ne (by omega)).trans ((am_pu_ne (by omega)).trans (am_pu_eq _ _ _)))) rfl rfl rfl ?_
  exact am_R.reti rfl rfl rfl
theorem aw_k8c {w : Nat → am_C} {g : am_H} (d : Nat) {tl pl sp : Nat} (h1 : w 1 = aw_c1 tl pl sp) (a0 : Int32) (hs : a0 < 0 ∨ ¬ a0 < 3) : am_R (d + 1) 8 0 [some (.ref 1001), some (.int a0), none, none, none] [] (am_h w g) (.inr (1000 + (am_h w g).length)) (am_h w (g ++ [.inl (8, [])])) := by
  rw [← am_h_push]
  refine am_R.nxs 2 (pc' := 2) (lv' := [some (.ref 1001), some (.int a0), none, none, none]) (st' := [.int a0, .ref 1001]) (h1 := am_h w g) rfl ?_
  exact am_R.cvp (a := 1001) (as' := [.int a0]) (r := []) rfl rfl rfl rfl (am_wf 1 (by decide) h1) rfl rfl (aw_k9b d _ a0 hs) rfl
theorem aw_k98c {w : Nat → am_C} {g : am_H} (d : Nat) {ft ty wr wd wt sn : Int32} (h21 : w 21 = aw_c21 ft ty wr wd wt sn) (a0 : Int32) (hs : a0 < 0 ∨ 2 < a0) : am_R (d + 1) 98 0 [some (.ref 1021), some (.int a0), none, none] [] (am_h w g) (.inl (some (.int 0))) (am_h (am_pu w 21 (aw_c21 1 ty wr wd wt sn)) g) := by
  have fin : am_R (d + 1) 98 10 [some (.ref 1021), some (.int a0), none, none] [.ref 1021] (am_h w g) (.inl (some (.int 0))) (am_h (am_pu w 21 (aw_c21 1 ty wr wd wt sn)) g) := by
    refine am_R.nxs 2 (pc' := 15) (lv' := [some (.ref 1021), some (.int a0), none, none]) (st' := [.int 1, .ref 1021]) (h1 := am_h w g) rfl ?_
    refine am_R.cv (a := 1021) (as' := [.int 1]) (r := []) (v := some (.int 1)) (h1 := am_h (am_pu w 21 (aw_c21 1 ty wr wd wt sn)) g) (pc' := 18) rfl rfl rfl rfl (am_wf 21 (by decide) h21) rfl rfl (aw_k99b d h21 1 (by decide)) rfl ?_
    refine am_R.nxs 2 (pc' := 22) (lv' := [some (.ref 1021), some (.int a0), none, none]) (st' := [.int 0]) (h1 := am_h (am_pu w 21 (aw_c21 1 ty wr wd wt sn)) g) rfl ?_
    exact am_R.reti rfl rfl rfl
  refine am_R.ites 3 (P := a0 < 0) (T := 10) (F := 5) (lv' := [some (.ref 1021), some (.int a0), none, none]) (st' := [.ref 1021]) (h1 := am_h w g) rfl (fun _ => fin) (fun b => ?_)
  refine am_R.ites 3 (P := a0 ≤ 2) (T := 14) (F := 10) (lv' := [some (.ref 1021), some (.int a0), none, none]) (st' := [.ref 1021]) (h1 := am_h w g) rfl (fun b2 => ?_) (fun _ => fin)
  rcases hs with q | q
  · exact absurd q b
  · exact absurd b2 (Int32.not_le.mpr q)
theorem aw_wlA : ∀ j, j < 38 → j ≠ 37 → aw_wl j ≤ 3 * (aw_by j).length := by decide
theorem aw_wd_wl {tx : List Int32} {p e : Nat} (hp : p < e) : aw_wl (aw_wd tx p e) + 1 ≤ 3 * (e - p) + 1 := by
  rcases aw_wf_spec (tx := tx) (p := p) (e := e) 38 0 with ⟨h1, -, h2⟩ | ⟨h1, h2⟩
  · have h1 : aw_eqb tx p e (aw_wd tx p e) = true := h1
    obtain ⟨q1, -⟩ := aw_eqb_iff.mp h1
    have h3 : aw_wd tx p e < 38 := by unfold aw_wd; omega
    have hne : aw_wd tx p e ≠ 37 := by
      intro z
      rw [z, aw_by37] at q1
      omega
    have := aw_wlA _ h3 hne
    omega
  · rw [show aw_wd tx p e = 37 from h1]
    have : aw_wl 37 = 0 := rfl
    omega
theorem aw_pgl_cons (j : Nat) (l : List Nat) : aw_pgl (j :: l) = aw_wl j + 1 + aw_pgl l := by
  unfold aw_pgl
  rw [List.map_cons, List.sum_cons]
theorem aw_one_wl {tx : List Int32} {p : Nat} (h : ¬ aw_let (tx.getD p 0) = true) : aw_wl (aw_wd tx p (p + 1)) ≤ 1 := by
  rcases aw_wf_spec (tx := tx) (p := p) (e := p + 1) 38 0 with ⟨h1, -, h2⟩ | ⟨h1, h2⟩
  · have h1 : aw_eqb tx p (p + 1) (aw_wd tx p (p + 1)) = true := h1
    obtain ⟨q1, q2⟩ := aw_eqb_iff.mp h1
    have h3 : aw_wd tx p (p + 1) < 38 := by unfold aw_wd; omega
    have hb := aw_by1314 _ h3
    by_cases c1 : aw_wd tx p (p + 1) = 13
    · rw [c1]
      decide
    · by_cases c2 : aw_wd tx p (p + 1) = 14
      · rw [c2]
        decide
      · have q := q2 0 (by omega)
        rw [Nat.add_zero] at q
        have := hb.2.2 (by omega) c1 c2
        rw [← q] at this
        exact absurd this h
  · rw [show aw_wd tx p (p + 1) = 37 from h1]
    decide
theorem aw_run_end {tx : List Int32} {tl : Nat} : ∀ n e, tl ≤ e + n → aw_run tx tl n e = tl ∨ tl ≤ aw_run tx tl n e ∨ ¬ aw_let (tx.getD (aw_run tx tl n e) 0) = true := by
  intro n
  induction n with
  | zero => intro e h; exact .inr (.inl (by rw [aw_run]; omega))
  | succ n ih =>
    intro e h
    rw [aw_run]
    split
    · exact ih (e + 1) (by omega)
    · rename_i q
      by_cases h1 : e < tl
      · exact .inr (.inr (fun z => q ⟨h1, z⟩))
      · exact .inr (.inl (by omega))
/-- a page holds what is told -/
theorem aw_pgl_tok {tx : List Int32} {tl : Nat} : ∀ n p, p ≤ tl → aw_pgl (aw_tok tx tl n p) ≤ 3 * (tl - p) + 1 ∧ ((tl ≤ p ∨ ¬ aw_let (tx.getD p 0) = true) → aw_pgl (aw_tok tx tl n p) ≤ 3 * (tl - p)) := by
  intro n
  induction n with
  | zero => intro p _; exact ⟨Nat.zero_le _, fun _ => Nat.zero_le _⟩
  | succ n ih =>
    intro p hp
    rw [aw_tok]
    by_cases h1 : tl ≤ p
    · rw [if_pos h1]
      exact ⟨Nat.zero_le _, fun _ => Nat.zero_le _⟩
    · rw [if_neg h1]
      by_cases h2 : aw_let (tx.getD p 0) = true
      · rw [if_pos h2, aw_pgl_cons]
        have hr := aw_run_le (tx := tx) (tl := tl) tl (p + 1) (by omega)
        have hw := aw_wd_wl (tx := tx) (p := p) (e := aw_run tx tl tl (p + 1)) (by omega)
        have hi := (ih (aw_run tx tl tl (p + 1)) hr.2).2 (by
          rcases aw_run_end (tx := tx) (tl := tl) tl (p + 1) (by omega) with q | q | q
          · exact .inl (by omega)
          · exact .inl q
          · exact .inr q)
        refine ⟨by omega, fun q => ?_⟩
        rcases q with q | q
        · omega
        · exact absurd h2 q
      · rw [if_neg h2]
        by_cases h3 : tx.getD p 0 = 32
        · rw [if_pos h3]
          have hi := (ih (p + 1) (by omega)).1
          exact ⟨by omega, fun _ => by omega⟩
        · rw [if_neg h3, aw_pgl_cons]
          have hi := (ih (p + 1) (by omega)).1
          have hw := aw_one_wl h2
          exact ⟨by omega, fun _ => by omega⟩
