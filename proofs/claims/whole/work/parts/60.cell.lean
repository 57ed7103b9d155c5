/-! cell: the class, the reference, the call in the law. -/
theorem aw_k67a {w : Nat → am_C} {g : am_H} (d : Nat) {tl pl sp : Nat} (h1 : w 1 = aw_c1 tl pl sp) {rs : List Value} (h4 : w 4 = .inr (5, rs)) (hl : rs.length = 3) {k r : Nat} (hk : k < 3) (hr : r < 4) (hrs : rs[k]? = some (.ref (1005 + 4 * r))) {wc bc sc ic cc dp rd : Int32} (hT : w (5 + 4 * r) = aw_cT r wc bc sc ic cc dp rd) {pc : List Int32} (hP : w (7 + 4 * r) = am_I 0 pc) (hpl : pc.length = 576) {x y : Nat} (hx : x < 24) (hy : y < 24) (hd : rd = 1) : am_R (d + 2) 67 0 [some (.ref 1001), some (.int (Int32.ofNat k)), some (.int (Int32.ofNat x)), some (.int (Int32.ofNat y))] [] (am_h w g) (.inl (some (.int (pc.getD (y * 24 + x) 0)))) (am_h w g) := by
  refine am_R.nxs 2 (pc' := 2) (lv' := [some (.ref 1001), some (.int (Int32.ofNat k)), some (.int (Int32.ofNat x)), some (.int (Int32.ofNat y))]) (st' := [.int (Int32.ofNat x), .ref 1001]) (h1 := am_h w g) rfl ?_
  refine am_R.cv (a := 1001) (as' := [.int (Int32.ofNat x)]) (r := []) (v := none) (h1 := am_h w g) (pc' := 5) rfl rfl rfl rfl (am_wf 1 (by decide) h1) rfl rfl (aw_k68a (d + 1) _ _ (aw_nn x) ((am_ltN (n := 24) (by omega) (by decide)).mpr hx)) rfl ?_
  refine am_R.nxs 2 (pc' := 7) (lv' := [some (.ref 1001), some (.int (Int32.ofNat k)), some (.int (Int32.ofNat x)), some (.int (Int32.ofNat y))]) (st' := [.int (Int32.ofNat y), .ref 1001]) (h1 := am_h w g) rfl ?_
  refine am_R.cv (a := 1001) (as' := [.int (Int32.ofNat y)]) (r := []) (v := none) (h1 := am_h w g) (pc' := 10) rfl rfl rfl rfl (am_wf 1 (by decide) h1) rfl rfl (aw_k68a (d + 1) _ _ (aw_nn y) ((am_ltN (n := 24) (by omega) (by decide)).mpr hy)) rfl ?_
  refine am_R.nxs 2 (pc' := 12) (lv' := [some (.ref 1001), some (.int (Int32.ofNat k)), some (.int (Int32.ofNat x)), some (.int (Int32.ofNat y))]) (st' := [.int (Int32.ofNat k), .ref 1001]) (h1 := am_h w g) rfl ?_
  refine am_R.cv (a := 1001) (as' := [.int (Int32.ofNat k)]) (r := []) (v := some (.ref (1005 + 4 * r))) (h1 := am_h w g) (pc' := 15) rfl rfl rfl rfl (am_wf 1 (by decide) h1) rfl rfl (aw_k69a d h1 h4 hl hk hr hrs hT hd) rfl ?_
  refine am_R.gf (pc' := 18) (v := .ref (1007 + 4 * r)) rfl (aw_at5 hr hT) rfl rfl rfl ?_
  refine am_R.nxs 3 (pc' := 22) (lv' := [some (.ref 1001), some (.int (Int32.ofNat k)), some (.int (Int32.ofNat x)), some (.int (Int32.ofNat y))]) (st' := [.int (Int32.ofNat y * 24), .ref (1007 + 4 * r)]) (h1 := am_h w g) rfl ?_
  rw [show (Int32.ofNat y * 24 : Int32) = Int32.ofNat (y * 24) from am_mul y 24]
  refine am_R.nxs 2 (pc' := 24) (lv' := [some (.ref 1001), some (.int (Int32.ofNat k)), some (.int (Int32.ofNat x)), some (.int (Int32.ofNat y))]) (st' := [.int (Int32.ofNat (y * 24) + Int32.ofNat x), .ref (1007 + 4 * r)]) (h1 := am_h w g) rfl ?_
  rw [show (Int32.ofNat (y * 24) + Int32.ofNat x : Int32) = Int32.ofNat ((y * 24) + x) from am_add (y * 24) x]
  refine am_R.ldi (i := ((y * 24) + x)) (xs := pc) (pc' := 25) rfl (aw_at7 hr hP) (by omega) (by omega) rfl ?_
  exact am_R.reti rfl rfl rfl
theorem aw_k67b {w : Nat → am_C} {g : am_H} (d : Nat) {tl pl sp : Nat} (h1 : w 1 = aw_c1 tl pl sp) {rs : List Value} (h4 : w 4 = .inr (5, rs)) (hl : rs.length = 3) {k r : Nat} (hk : k < 3) (hr : r < 4) (hrs : rs[k]? = some (.ref (1005 + 4 * r))) {wc bc sc ic cc dp rd : Int32} (hT : w (5 + 4 * r) = aw_cT r wc bc sc ic cc dp rd) {x y : Int32} (hx : ¬ x < 0 ∧ x < 24) (hy : ¬ y < 0 ∧ y < 24) (hd : rd = 0) : am_R (d + 2) 67 0 [some (.ref 1001), some (.int (Int32.ofNat k)), some (.int x), some (.int y)] [] (am_h w g) (.inr (1000 + (am_h w g).length)) (am_h w (g ++ [.inl (9, [])])) := by
  refine am_R.nxs 2 (pc' := 2) (lv' := [some (.ref 1001), some (.int (Int32.ofNat k)), some (.int x), some (.int y)]) (st' := [.int x, .ref 1001]) (h1 := am_h w g) rfl ?_
  refine am_R.cv (a := 1001) (as' := [.int x]) (r := []) (v := none) (h1 := am_h w g) (pc' := 5) rfl rfl rfl rfl (am_wf 1 (by decide) h1) rfl rfl (aw_k68a (d + 1) _ _ hx.1 hx.2) rfl ?_
  refine am_R.nxs 2 (pc' := 7) (lv' := [some (.ref 1001), some (.int (Int32.ofNat k)), some (.int x), some (.int y)]) (st' := [.int y, .ref 1001]) (h1 := am_h w g) rfl ?_
  refine am_R.cv (a := 1001) (as' := [.int y]) (r := []) (v := none) (h1 := am_h w g) (pc' := 10) rfl rfl rfl rfl (am_wf 1 (by decide) h1) rfl rfl (aw_k68a (d + 1) _ _ hy.1 hy.2) rfl ?_
  refine am_R.nxs 2 (pc' := 12) (lv' := [some (.ref 1001), some (.int (Int32.ofNat k)), some (.int x), some (.int y)]) (st' := [.int (Int32.ofNat k), .ref 1001]) (h1 := am_h w g) rfl ?_
  exact am_R.cvp (a := 1001) (as' := [.int (Int32.ofNat k)]) (r := []) rfl rfl rfl rfl (am_wf 1 (by decide) h1) rfl rfl (aw_k69b d h1 h4 hl hk hr hrs hT hd) rfl
theorem aw_k67c {w : Nat → am_C} {g : am_H} (d : Nat) {tl pl sp : Nat} (h1 : w 1 = aw_c1 tl pl sp) {x y : Int32} (hx : ¬ x < 0 ∧ x < 24) (hy : ¬ y < 0 ∧ y < 24) {s : Int32} (hs : s < 0 ∨ ¬ s < 3) : am_R (d + 2) 67 0 [some (.ref 1001), some (.int s), some (.int x), some (.int y)] [] (am_h w g) (.inr (1000 + (am_h w g).length)) (am_h w (g ++ [.inl (8, [])])) := by
  refine am_R.nxs 2 (pc' := 2) (lv' := [some (.ref 1001), some (.int s), some (.int x), some (.int y)]) (st' := [.int x, .ref 1001]) (h1 := am_h w g) rfl ?_
  refine am_R.cv (a := 1001) (as' := [.int x]) (r := []) (v := none) (h1 := am_h w g) (pc' := 5) rfl rfl rfl rfl (am_wf 1 (by decide) h1) rfl rfl (aw_k68a (d + 1) _ _ hx.1 hx.2) rfl ?_
  refine am_R.nxs 2 (pc' := 7) (lv' := [some (.ref 1001), some (.int s), some (.int x), some (.int y)]) (st' := [.int y, .ref 1001]) (h1 := am_h w g) rfl ?_
  refine am_R.cv (a := 1001) (as' := [.int y]) (r := []) (v := none) (h1 := am_h w g) (pc' := 10) rfl rfl rfl rfl (am_wf 1 (by decide) h1) rfl rfl (aw_k68a (d + 1) _ _ hy.1 hy.2) rfl ?_
  refine am_R.nxs 2 (pc' := 12) (lv' := [some (.ref 1001), some (.int s), some (.int x), some (.int y)]) (st' := [.int s, .ref 1001]) (h1 := am_h w g) rfl ?_
  exact am_R.cvp (a := 1001) (as' := [.int s]) (r := []) rfl rfl rfl rfl (am_wf 1 (by decide) h1) rfl rfl (aw_k69c d h1 s hs) rfl
theorem aw_k67e {w : Nat → am_C} {g : am_H} (d : Nat) {tl pl sp : Nat} (h1 : w 1 = aw_c1 tl pl sp) {s x y : Int32} (hx : x < 0 ∨ ¬ x < 24) : am_R (d + 2) 67 0 [some (.ref 1001), some (.int s), some (.int x), some (.int y)] [] (am_h w g) (.inr (1000 + (am_h w g).length)) (am_h w (g ++ [.inl (8, [])])) := by
  refine am_R.nxs 2 (pc' := 2) (lv' := [some (.ref 1001), some (.int s), some (.int x), some (.int y)]) (st' := [.int x, .ref 1001]) (h1 := am_h w g) rfl ?_
  exact am_R.cvp (a := 1001) (as' := [.int x]) (r := []) rfl rfl rfl rfl (am_wf 1 (by decide) h1) rfl rfl (aw_k68b (d + 1) _ _ hx) rfl
theorem aw_k67f {w : Nat → am_C} {g : am_H} (d : Nat) {tl pl sp : Nat} (h1 : w 1 = aw_c1 tl pl sp) {s x y : Int32} (hx : ¬ x < 0 ∧ x < 24) (hy : y < 0 ∨ ¬ y < 24) : am_R (d + 2) 67 0 [some (.ref 1001), some (.int s), some (.int x), some (.int y)] [] (am_h w g) (.inr (1000 + (am_h w g).length)) (am_h w (g ++ [.inl (8, [])])) := by
  refine am_R.nxs 2 (pc' := 2) (lv' := [some (.ref 1001), some (.int s), some (.int x), some (.int y)]) (st' := [.int x, .ref 1001]) (h1 := am_h w g) rfl ?_
  refine am_R.cv (a := 1001) (as' := [.int x]) (r := []) (v := none) (h1 := am_h w g) (pc' := 5) rfl rfl rfl rfl (am_wf 1 (by decide) h1) rfl rfl (aw_k68a (d + 1) _ _ hx.1 hx.2) rfl ?_
  refine am_R.nxs 2 (pc' := 7) (lv' := [some (.ref 1001), some (.int s), some (.int x), some (.int y)]) (st' := [.int y, .ref 1001]) (h1 := am_h w g) rfl ?_
  exact am_R.cvp (a := 1001) (as' := [.int y]) (r := []) rfl rfl rfl rfl (am_wf 1 (by decide) h1) rfl rfl (aw_k68b (d + 1) _ _ hy) rfl
theorem aw_k132a {w : Nat → am_C} {g : am_H} (d : Nat) {ft ty wr wd wt sn : Int32} (h21 : w 21 = aw_c21 ft ty wr wd wt sn) {ma : List Int32} (h27 : w 27 = am_I 0 ma) (l27 : ma.length = 3) {pi : List Int32} (h28 : w 28 = am_I 0 pi) (l28 : pi.length = 1728) {k : Nat} (hk : k < 3) {x y : Nat} (hx : x < 24) (hy : y < 24) (hm : ¬ ma.getD k 0 = 0) : am_R (d + 1) 132 0 [some (.ref 1021), some (.int (Int32.ofNat k)), some (.int (Int32.ofNat x)), some (.int (Int32.ofNat y))] [] (am_h w g) (.inl (some (.int (pi.getD (576 * k + 24 * y + x) 0)))) (am_h (am_pu w 21 (aw_c21 0 ty wr wd wt sn)) g) := by
  refine am_R.ites 5 (P := Int32.ofNat x < 0) (T := 27) (F := 7) (lv' := [some (.ref 1021), some (.int (Int32.ofNat k)), some (.int (Int32.ofNat x)), some (.int (Int32.ofNat y))]) (st' := [.int (Int32.ofNat k), .ref 1021, .ref 1021]) (h1 := am_h w g) rfl (fun b4 => ?_) (fun b4 => ?_)
  · exact absurd b4 (aw_nn x)
  · refine am_R.ites 3 (P := 24 ≤ Int32.ofNat x) (T := 27) (F := 13) (lv' := [some (.ref 1021), some (.int (Int32.ofNat k)), some (.int (Int32.ofNat x)), some (.int (Int32.ofNat y))]) (st' := [.int (Int32.ofNat k), .ref 1021, .ref 1021]) (h1 := am_h w g) rfl (fun b10 => ?_) (fun b10 => ?_)
    · have b10 : 24 ≤ x := (am_leN (i := 24) (n := x) (by omega) (by omega)).mp b10
      omega
    · have b10 : ¬ 24 ≤ x := fun hq9 => b10 ((am_leN (i := 24) (n := x) (by omega) (by omega)).mpr hq9)
      refine am_R.ites 2 (P := Int32.ofNat y < 0) (T := 27) (F := 17) (lv' := [some (.ref 1021), some (.int (Int32.ofNat k)), some (.int (Int32.ofNat x)), some (.int (Int32.ofNat y))]) (st' := [.int (Int32.ofNat k), .ref 1021, .ref 1021]) (h1 := am_h w g) rfl (fun b14 => ?_) (fun b14 => ?_)
      · exact absurd b14 (aw_nn y)
      · refine am_R.ites 3 (P := 24 ≤ Int32.ofNat y) (T := 27) (F := 23) (lv' := [some (.ref 1021), some (.int (Int32.ofNat k)), some (.int (Int32.ofNat x)), some (.int (Int32.ofNat y))]) (st' := [.int (Int32.ofNat k), .ref 1021, .ref 1021]) (h1 := am_h w g) rfl (fun b20 => ?_) (fun b20 => ?_)
        · have b20 : 24 ≤ y := (am_leN (i := 24) (n := y) (by omega) (by omega)).mp b20
          omega
        · have b20 : ¬ 24 ≤ y := fun hq9 => b20 ((am_leN (i := 24) (n := y) (by omega) (by omega)).mpr hq9)
          refine am_R.nxs 2 (pc' := 28) (lv' := [some (.ref 1021), some (.int (Int32.ofNat k)), some (.int (Int32.ofNat x)), some (.int (Int32.ofNat y))]) (st' := [.int 1, .int (Int32.ofNat k), .ref 1021, .ref 1021]) (h1 := am_h w g) rfl ?_
          refine am_R.cv (a := 1021) (as' := [.int (Int32.ofNat k), .int 1]) (r := [.ref 1021]) (v := some (.int 0)) (h1 := am_h w g) (pc' := 31) rfl rfl rfl rfl (am_wf 21 (by decide) h21) rfl rfl (aw_k133a d h21 h27 l27 hk hm) rfl ?_
          refine am_R.cv (a := 1021) (as' := [.int 0]) (r := []) (v := some (.int 0)) (h1 := am_h (am_pu w 21 (aw_c21 0 ty wr wd wt sn)) g) (pc' := 34) rfl rfl rfl rfl (am_wf 21 (by decide) h21) rfl rfl (aw_k99a (w := w) d h21 0 (by decide)) rfl ?_
          refine am_R.ites 1 (P := 0 = 0) (T := 39) (F := 37) (lv' := [some (.ref 1021), some (.int (Int32.ofNat k)), some (.int (Int32.ofNat x)), some (.int (Int32.ofNat y))]) (st' := []) (h1 := am_h (am_pu w 21 (aw_c21 0 ty wr wd wt sn)) g) rfl (fun b34 => ?_) (fun b34 => ?_)
          · refine am_R.nxs 1 (pc' := 40) (lv' := [some (.ref 1021), some (.int (Int32.ofNat k)), some (.int (Int32.ofNat x)), some (.int (Int32.ofNat y))]) (st' := [.ref 1021]) (h1 := am_h (am_pu w 21 (aw_c21 0 ty wr wd wt sn)) g) rfl ?_
            refine am_R.gf (pc' := 43) (v := .ref 1028) rfl (am_wf 21 (by decide) (rfl : (am_pu w 21 (aw_c21 0 ty wr wd wt sn)) 21 = _)) rfl rfl rfl ?_
            refine am_R.nxs 3 (pc' := 48) (lv' := [some (.ref 1021), some (.int (Int32.ofNat k)), some (.int (Int32.ofNat x)), some (.int (Int32.ofNat y))]) (st' := [.int (576 * Int32.ofNat k), .ref 1028]) (h1 := am_h (am_pu w 21 (aw_c21 0 ty wr wd wt sn)) g) rfl ?_
            rw [show (576 * Int32.ofNat k : Int32) = Int32.ofNat (576 * k) from am_mul 576 k]
            refine am_R.nxs 3 (pc' := 52) (lv' := [some (.ref 1021), some (.int (Int32.ofNat k)), some (.int (Int32.ofNat x)), some (.int (Int32.ofNat y))]) (st' := [.int (24 * Int32.ofNat y), .int (Int32.ofNat (576 * k)), .ref 1028]) (h1 := am_h (am_pu w 21 (aw_c21 0 ty wr wd wt sn)) g) rfl ?_
            rw [show (24 * Int32.ofNat y : Int32) = Int32.ofNat (24 * y) from am_mul 24 y]
            refine am_R.nxs 1 (pc' := 53) (lv' := [some (.ref 1021), some (.int (Int32.ofNat k)), some (.int (Int32.ofNat x)), some (.int (Int32.ofNat y))]) (st' := [.int (Int32.ofNat (576 * k) + Int32.ofNat (24 * y)), .ref 1028]) (h1 := am_h (am_pu w 21 (aw_c21 0 ty wr wd wt sn)) g) rfl ?_
            rw [show (Int32.ofNat (576 * k) + Int32.ofNat (24 * y) : Int32) = Int32.ofNat ((576 * k) + (24 * y)) from am_add (576 * k) (24 * y)]
            refine am_R.nxs 2 (pc' := 55) (lv' := [some (.ref 1021), some (.int (Int32.ofNat k)), some (.int (Int32.ofNat x)), some (.int (Int32.ofNat y))]) (st' := [.int (Int32.ofNat ((576 * k) + (24 * y)) + Int32.ofNat x), .ref 1028]) (h1 := am_h (am_pu w 21 (aw_c21 0 ty wr wd wt sn)) g) rfl ?_
            rw [show (Int32.ofNat ((576 * k) + (24 * y)) + Int32.ofNat x : Int32) = Int32.ofNat (((576 * k) + (24 * y)) + x) from am_add ((576 * k) + (24 * y)) x]
            refine am_R.ldi (i := (((576 * k) + (24 * y)) + x)) (xs := pi) (pc' := 56) rfl (am_wf 28 (by decide) h28) (by omega) (by omega) rfl ?_
            exact am_R.reti rfl rfl rfl
          · exact absurd rfl b34
theorem aw_k132b {w : Nat → am_C} {g : am_H} (d : Nat) {ft ty wr wd wt sn : Int32} (h21 : w 21 = aw_c21 ft ty wr wd wt sn) {ma : List Int32} (h27 : w 27 = am_I 0 ma) (l27 : ma.length = 3) {k : Nat} (hk : k < 3) {x y : Int32} (hx : ¬ x < 0 ∧ x < 24) (hy : ¬ y < 0 ∧ y < 24) (hm : ma.getD k 0 = 0) : am_R (d + 1) 132 0 [some (.ref 1021), some (.int (Int32.ofNat k)), some (.int x), some (.int y)] [] (am_h w g) (.inl (some (.int 0))) (am_h (am_pu w 21 (aw_c21 2 ty wr wd wt sn)) g) := by
  refine am_R.ites 5 (P := x < 0) (T := 27) (F := 7) (lv' := [some (.ref 1021), some (.int (Int32.ofNat k)), some (.int x), some (.int y)]) (st' := [.int (Int32.ofNat k), .ref 1021, .ref 1021]) (h1 := am_h w g) rfl (fun b4 => ?_) (fun b4 => ?_)
  · exact absurd b4 hx.1
  · refine am_R.ites 3 (P := 24 ≤ x) (T := 27) (F := 13) (lv' := [some (.ref 1021), some (.int (Int32.ofNat k)), some (.int x), some (.int y)]) (st' := [.int (Int32.ofNat k), .ref 1021, .ref 1021]) (h1 := am_h w g) rfl (fun b10 => ?_) (fun b10 => ?_)
    · exact absurd hx.2 (Int32.not_lt.mpr b10)
    · refine am_R.ites 2 (P := y < 0) (T := 27) (F := 17) (lv' := [some (.ref 1021), some (.int (Int32.ofNat k)), some (.int x), some (.int y)]) (st' := [.int (Int32.ofNat k), .ref 1021, .ref 1021]) (h1 := am_h w g) rfl (fun b14 => ?_) (fun b14 => ?_)
      · exact absurd b14 hy.1
      · refine am_R.ites 3 (P := 24 ≤ y) (T := 27) (F := 23) (lv' := [some (.ref 1021), some (.int (Int32.ofNat k)), some (.int x), some (.int y)]) (st' := [.int (Int32.ofNat k), .ref 1021, .ref 1021]) (h1 := am_h w g) rfl (fun b20 => ?_) (fun b20 => ?_)
        · exact absurd hy.2 (Int32.not_lt.mpr b20)
        · refine am_R.nxs 2 (pc' := 28) (lv' := [some (.ref 1021), some (.int (Int32.ofNat k)), some (.int x), some (.int y)]) (st' := [.int 1, .int (Int32.ofNat k), .ref 1021, .ref 1021]) (h1 := am_h w g) rfl ?_
          refine am_R.cv (a := 1021) (as' := [.int (Int32.ofNat k), .int 1]) (r := [.ref 1021]) (v := some (.int 2)) (h1 := am_h w g) (pc' := 31) rfl rfl rfl rfl (am_wf 21 (by decide) h21) rfl rfl (aw_k133b d h21 h27 l27 hk hm) rfl ?_
          refine am_R.cv (a := 1021) (as' := [.int 2]) (r := []) (v := some (.int 1)) (h1 := am_h (am_pu w 21 (aw_c21 2 ty wr wd wt sn)) g) (pc' := 34) rfl rfl rfl rfl (am_wf 21 (by decide) h21) rfl rfl (aw_k99b (w := w) d h21 2 (by decide)) rfl ?_
          refine am_R.ites 1 (P := 1 = 0) (T := 39) (F := 37) (lv' := [some (.ref 1021), some (.int (Int32.ofNat k)), some (.int x), some (.int y)]) (st' := []) (h1 := am_h (am_pu w 21 (aw_c21 2 ty wr wd wt sn)) g) rfl (fun b34 => ?_) (fun b34 => ?_)
          · exact absurd b34 (by decide)
          · refine am_R.nxs 1 (pc' := 38) (lv' := [some (.ref 1021), some (.int (Int32.ofNat k)), some (.int x), some (.int y)]) (st' := [.int 0]) (h1 := am_h (am_pu w 21 (aw_c21 2 ty wr wd wt sn)) g) rfl ?_
            exact am_R.reti rfl rfl rfl
theorem aw_k132c {w : Nat → am_C} {g : am_H} (d : Nat) {ft ty wr wd wt sn : Int32} (h21 : w 21 = aw_c21 ft ty wr wd wt sn) {x y : Int32} (hx : ¬ x < 0 ∧ x < 24) (hy : ¬ y < 0 ∧ y < 24) {s : Int32} (hs : s < 0 ∨ 2 < s) : am_R (d + 1) 132 0 [some (.ref 1021), some (.int s), some (.int x), some (.int y)] [] (am_h w g) (.inl (some (.int 0))) (am_h (am_pu w 21 (aw_c21 1 ty wr wd wt sn)) g) := by
  refine am_R.ites 5 (P := x < 0) (T := 27) (F := 7) (lv' := [some (.ref 1021), some (.int s), some (.int x), some (.int y)]) (st' := [.int s, .ref 1021, .ref 1021]) (h1 := am_h w g) rfl (fun b4 => ?_) (fun b4 => ?_)
  · exact absurd b4 hx.1
  · refine am_R.ites 3 (P := 24 ≤ x) (T := 27) (F := 13) (lv' := [some (.ref 1021), some (.int s), some (.int x), some (.int y)]) (st' := [.int s, .ref 1021, .ref 1021]) (h1 := am_h w g) rfl (fun b10 => ?_) (fun b10 => ?_)
    · exact absurd hx.2 (Int32.not_lt.mpr b10)
    · refine am_R.ites 2 (P := y < 0) (T := 27) (F := 17) (lv' := [some (.ref 1021), some (.int s), some (.int x), some (.int y)]) (st' := [.int s, .ref 1021, .ref 1021]) (h1 := am_h w g) rfl (fun b14 => ?_) (fun b14 => ?_)
      · exact absurd b14 hy.1
      · refine am_R.ites 3 (P := 24 ≤ y) (T := 27) (F := 23) (lv' := [some (.ref 1021), some (.int s), some (.int x), some (.int y)]) (st' := [.int s, .ref 1021, .ref 1021]) (h1 := am_h w g) rfl (fun b20 => ?_) (fun b20 => ?_)
        · exact absurd hy.2 (Int32.not_lt.mpr b20)
        · refine am_R.nxs 2 (pc' := 28) (lv' := [some (.ref 1021), some (.int s), some (.int x), some (.int y)]) (st' := [.int 1, .int s, .ref 1021, .ref 1021]) (h1 := am_h w g) rfl ?_
          refine am_R.cv (a := 1021) (as' := [.int s, .int 1]) (r := [.ref 1021]) (v := some (.int 1)) (h1 := am_h w g) (pc' := 31) rfl rfl rfl rfl (am_wf 21 (by decide) h21) rfl rfl (aw_k133c d h21 s 1 (hs.elim Or.inl (fun q => Or.inr (Or.inl q)))) rfl ?_
          refine am_R.cv (a := 1021) (as' := [.int 1]) (r := []) (v := some (.int 1)) (h1 := am_h (am_pu w 21 (aw_c21 1 ty wr wd wt sn)) g) (pc' := 34) rfl rfl rfl rfl (am_wf 21 (by decide) h21) rfl rfl (aw_k99b (w := w) d h21 1 (by decide)) rfl ?_
          refine am_R.ites 1 (P := 1 = 0) (T := 39) (F := 37) (lv' := [some (.ref 1021), some (.int s), some (.int x), some (.int y)]) (st' := []) (h1 := am_h (am_pu w 21 (aw_c21 1 ty wr wd wt sn)) g) rfl (fun b34 => ?_) (fun b34 => ?_)
          · exact absurd b34 (by decide)
          · refine am_R.nxs 1 (pc' := 38) (lv' := [some (.ref 1021), some (.int s), some (.int x), some (.int y)]) (st' := [.int 0]) (h1 := am_h (am_pu w 21 (aw_c21 1 ty wr wd wt sn)) g) rfl ?_
            exact am_R.reti rfl rfl rfl
theorem aw_k132e {w : Nat → am_C} {g : am_H} (d : Nat) {ft ty wr wd wt sn : Int32} (h21 : w 21 = aw_c21 ft ty wr wd wt sn) {s x y : Int32} (hn : (x < 0 ∨ ¬ x < 24) ∨ (y < 0 ∨ ¬ y < 24)) : am_R (d + 1) 132 0 [some (.ref 1021), some (.int s), some (.int x), some (.int y)] [] (am_h w g) (.inl (some (.int 0))) (am_h (am_pu w 21 (aw_c21 1 ty wr wd wt sn)) g) := by
  refine am_R.ites 5 (P := x < 0) (T := 27) (F := 7) (lv' := [some (.ref 1021), some (.int s), some (.int x), some (.int y)]) (st' := [.int s, .ref 1021, .ref 1021]) (h1 := am_h w g) rfl (fun b4 => ?_) (fun b4 => ?_)
  · refine am_R.nxs 1 (pc' := 28) (lv' := [some (.ref 1021), some (.int s), some (.int x), some (.int y)]) (st' := [.int 0, .int s, .ref 1021, .ref 1021]) (h1 := am_h w g) rfl ?_
    refine am_R.cv (a := 1021) (as' := [.int s, .int 0]) (r := [.ref 1021]) (v := some (.int 1)) (h1 := am_h w g) (pc' := 31) rfl rfl rfl rfl (am_wf 21 (by decide) h21) rfl rfl (aw_k133c d h21 s 0 (Or.inr (Or.inr rfl))) rfl ?_
    refine am_R.cv (a := 1021) (as' := [.int 1]) (r := []) (v := some (.int 1)) (h1 := am_h (am_pu w 21 (aw_c21 1 ty wr wd wt sn)) g) (pc' := 34) rfl rfl rfl rfl (am_wf 21 (by decide) h21) rfl rfl (aw_k99b (w := w) d h21 1 (by decide)) rfl ?_
    refine am_R.ites 1 (P := 1 = 0) (T := 39) (F := 37) (lv' := [some (.ref 1021), some (.int s), some (.int x), some (.int y)]) (st' := []) (h1 := am_h (am_pu w 21 (aw_c21 1 ty wr wd wt sn)) g) rfl (fun b34 => ?_) (fun b34 => ?_)
    · exact absurd b34 (by decide)
    · refine am_R.nxs 1 (pc' := 38) (lv' := [some (.ref 1021), some (.int s), some (.int x), some (.int y)]) (st' := [.int 0]) (h1 := am_h (am_pu w 21 (aw_c21 1 ty wr wd wt sn)) g) rfl ?_
      exact am_R.reti rfl rfl rfl
  · refine am_R.ites 3 (P := 24 ≤ x) (T := 27) (F := 13) (lv' := [some (.ref 1021), some (.int s), some (.int x), some (.int y)]) (st' := [.int s, .ref 1021, .ref 1021]) (h1 := am_h w g) rfl (fun b10 => ?_) (fun b10 => ?_)
    · refine am_R.nxs 1 (pc' := 28) (lv' := [some (.ref 1021), some (.int s), some (.int x), some (.int y)]) (st' := [.int 0, .int s, .ref 1021, .ref 1021]) (h1 := am_h w g) rfl ?_
      refine am_R.cv (a := 1021) (as' := [.int s, .int 0]) (r := [.ref 1021]) (v := some (.int 1)) (h1 := am_h w g) (pc' := 31) rfl rfl rfl rfl (am_wf 21 (by decide) h21) rfl rfl (aw_k133c d h21 s 0 (Or.inr (Or.inr rfl))) rfl ?_
      refine am_R.cv (a := 1021) (as' := [.int 1]) (r := []) (v := some (.int 1)) (h1 := am_h (am_pu w 21 (aw_c21 1 ty wr wd wt sn)) g) (pc' := 34) rfl rfl rfl rfl (am_wf 21 (by decide) h21) rfl rfl (aw_k99b (w := w) d h21 1 (by decide)) rfl ?_
      refine am_R.ites 1 (P := 1 = 0) (T := 39) (F := 37) (lv' := [some (.ref 1021), some (.int s), some (.int x), some (.int y)]) (st' := []) (h1 := am_h (am_pu w 21 (aw_c21 1 ty wr wd wt sn)) g) rfl (fun b34 => ?_) (fun b34 => ?_)
      · exact absurd b34 (by decide)
      · refine am_R.nxs 1 (pc' := 38) (lv' := [some (.ref 1021), some (.int s), some (.int x), some (.int y)]) (st' := [.int 0]) (h1 := am_h (am_pu w 21 (aw_c21 1 ty wr wd wt sn)) g) rfl ?_
        exact am_R.reti rfl rfl rfl
    · refine am_R.ites 2 (P := y < 0) (T := 27) (F := 17) (lv' := [some (.ref 1021), some (.int s), some (.int x), some (.int y)]) (st' := [.int s, .ref 1021, .ref 1021]) (h1 := am_h w g) rfl (fun b14 => ?_) (fun b14 => ?_)
      · refine am_R.nxs 1 (pc' := 28) (lv' := [some (.ref 1021), some (.int s), some (.int x), some (.int y)]) (st' := [.int 0, .int s, .ref 1021, .ref 1021]) (h1 := am_h w g) rfl ?_
        refine am_R.cv (a := 1021) (as' := [.int s, .int 0]) (r := [.ref 1021]) (v := some (.int 1)) (h1 := am_h w g) (pc' := 31) rfl rfl rfl rfl (am_wf 21 (by decide) h21) rfl rfl (aw_k133c d h21 s 0 (Or.inr (Or.inr rfl))) rfl ?_
        refine am_R.cv (a := 1021) (as' := [.int 1]) (r := []) (v := some (.int 1)) (h1 := am_h (am_pu w 21 (aw_c21 1 ty wr wd wt sn)) g) (pc' := 34) rfl rfl rfl rfl (am_wf 21 (by decide) h21) rfl rfl (aw_k99b (w := w) d h21 1 (by decide)) rfl ?_
        refine am_R.ites 1 (P := 1 = 0) (T := 39) (F := 37) (lv' := [some (.ref 1021), some (.int s), some (.int x), some (.int y)]) (st' := []) (h1 := am_h (am_pu w 21 (aw_c21 1 ty wr wd wt sn)) g) rfl (fun b34 => ?_) (fun b34 => ?_)
        · exact absurd b34 (by decide)
        · refine am_R.nxs 1 (pc' := 38) (lv' := [some (.ref 1021), some (.int s), some (.int x), some (.int y)]) (st' := [.int 0]) (h1 := am_h (am_pu w 21 (aw_c21 1 ty wr wd wt sn)) g) rfl ?_
          exact am_R.reti rfl rfl rfl
      · refine am_R.ites 3 (P := 24 ≤ y) (T := 27) (F := 23) (lv' := [some (.ref 1021), some (.int s), some (.int x), some (.int y)]) (st' := [.int s, .ref 1021, .ref 1021]) (h1 := am_h w g) rfl (fun b20 => ?_) (fun b20 => ?_)
        · refine am_R.nxs 1 (pc' := 28) (lv' := [some (.ref 1021), some (.int s), some (.int x), some (.int y)]) (st' := [.int 0, .int s, .ref 1021, .ref 1021]) (h1 := am_h w g) rfl ?_
          refine am_R.cv (a := 1021) (as' := [.int s, .int 0]) (r := [.ref 1021]) (v := some (.int 1)) (h1 := am_h w g) (pc' := 31) rfl rfl rfl rfl (am_wf 21 (by decide) h21) rfl rfl (aw_k133c d h21 s 0 (Or.inr (Or.inr rfl))) rfl ?_
          refine am_R.cv (a := 1021) (as' := [.int 1]) (r := []) (v := some (.int 1)) (h1 := am_h (am_pu w 21 (aw_c21 1 ty wr wd wt sn)) g) (pc' := 34) rfl rfl rfl rfl (am_wf 21 (by decide) h21) rfl rfl (aw_k99b (w := w) d h21 1 (by decide)) rfl ?_
          refine am_R.ites 1 (P := 1 = 0) (T := 39) (F := 37) (lv' := [some (.ref 1021), some (.int s), some (.int x), some (.int y)]) (st' := []) (h1 := am_h (am_pu w 21 (aw_c21 1 ty wr wd wt sn)) g) rfl (fun b34 => ?_) (fun b34 => ?_)
          · exact absurd b34 (by decide)
          · refine am_R.nxs 1 (pc' := 38) (lv' := [some (.ref 1021), some (.int s), some (.int x), some (.int y)]) (st' := [.int 0]) (h1 := am_h (am_pu w 21 (aw_c21 1 ty wr wd wt sn)) g) rfl ?_
            exact am_R.reti rfl rfl rfl
        · exact absurd hn (fun q => q.elim (fun q => q.elim b4 (fun q => q (Int32.not_le.mp b10))) (fun q => q.elim b14 (fun q => q (Int32.not_le.mp b20))))
theorem aw_pl24 {v : Int32} (h : ¬ v < 0 ∧ v < 24) : ∃ n, n < 24 ∧ v = Int32.ofNat n := by
  obtain ⟨n, hn, e⟩ := aw_nat h.1
  refine ⟨n, ?_, e⟩
  have := h.2
  rw [e] at this
  exact (am_ltN (i := n) (n := 24) hn (by decide)).mp this
theorem aw_bad24 {v : Int32} (h : ¬ (v < 0 ∨ ¬ v < 24)) : ¬ v < 0 ∧ v < 24 := ⟨fun q => h (Or.inl q), Decidable.not_not.mp (fun q => h (Or.inr q))⟩
set_option maxRecDepth 100000 in
theorem aw_o3 : aw_Op 208 := by
  intro d i w g x5 x6 xs hI h0 hi hx
  obtain ⟨tl, pl, sp, ft, wd, wt, sn, h1, h21, hT, hP, hS, hC, u, hO⟩ := hI
  by_cases hx1 : xs.getD (i + 2) 0 < 0 ∨ ¬ xs.getD (i + 2) 0 < 24
  · refine ⟨am_pu w 21 (aw_c21 1 (Int32.ofNat tl) (Int32.ofNat pl) wd wt sn), g ++ [.inl (8, [])], some (.int 1), some (.int 0), ⟨tl, pl, sp, 1, wd, wt, sn, h1, rfl, hT, hP, aw_Shs_up (by omega) hS, hC, u, hO⟩, h0, by simp, aw_sz1 rfl, fun o h' K => ?_⟩
    exact aw_L3 d i x5 x6 h0 hi hx (aw_W66t8 (d + 38) h1 _ _ _ (aw_k67e (d + 36) h1 hx1)) h0 h21 (aw_k132e (d + 38) h21 (Or.inl hx1)) rfl (fun q => absurd q (by decide)) K
  by_cases hy1 : xs.getD (i + 3) 0 < 0 ∨ ¬ xs.getD (i + 3) 0 < 24
  · refine ⟨am_pu w 21 (aw_c21 1 (Int32.ofNat tl) (Int32.ofNat pl) wd wt sn), g ++ [.inl (8, [])], some (.int 1), some (.int 0), ⟨tl, pl, sp, 1, wd, wt, sn, h1, rfl, hT, hP, aw_Shs_up (by omega) hS, hC, u, hO⟩, h0, by simp, aw_sz1 rfl, fun o h' K => ?_⟩
    exact aw_L3 d i x5 x6 h0 hi hx (aw_W66t8 (d + 38) h1 _ _ _ (aw_k67f (d + 36) h1 (aw_bad24 hx1) hy1)) h0 h21 (aw_k132e (d + 38) h21 (Or.inr hy1)) rfl (fun q => absurd q (by decide)) K
  by_cases hs : xs.getD (i + 1) 0 < 0 ∨ ¬ xs.getD (i + 1) 0 < 3
  · refine ⟨am_pu w 21 (aw_c21 1 (Int32.ofNat tl) (Int32.ofNat pl) wd wt sn), g ++ [.inl (8, [])], some (.int 1), some (.int 0), ⟨tl, pl, sp, 1, wd, wt, sn, h1, rfl, hT, hP, aw_Shs_up (by omega) hS, hC, u, hO⟩, h0, by simp, aw_sz1 rfl, fun o h' K => ?_⟩
    exact aw_L3 d i x5 x6 h0 hi hx (aw_W66t8 (d + 38) h1 _ _ _ (aw_k67c (d + 36) h1 (aw_bad24 hx1) (aw_bad24 hy1) hs)) h0 h21 (aw_k132c (d + 38) h21 (aw_bad24 hx1) (aw_bad24 hy1) (aw_gt2 hs)) rfl (fun q => absurd q (by decide)) K
  · obtain ⟨k, hk, hke⟩ := aw_sh3 hs
    obtain ⟨rs, r, to, ma, pi, br, bk, co, h4, hl, hr, hrs, ⟨m1, m2, m3, m4, m5, m6, m7, m8, m9, m10, m11, m12⟩, wc, bc, sc, ic, cc, dp, rd, ws, pc, bw, ⟨t1, t2, t3, t4, t5, t6, t7⟩, hsh⟩ := aw_get hS hk
    rcases hsh with ⟨hd, hm⟩ | ⟨hd, js, b, j1, j2, j3, j4, j5, j6, b1, b2, b3, b4, q1, q2, q3, q4, q5⟩
    · refine ⟨am_pu w 21 (aw_c21 2 (Int32.ofNat tl) (Int32.ofNat pl) wd wt sn), g ++ [.inl (9, [])], some (.int 2), some (.int 0), ⟨tl, pl, sp, 2, wd, wt, sn, h1, rfl, hT, hP, aw_Shs_up (by omega) hS, hC, u, hO⟩, h0, by simp, aw_sz1 rfl, fun o h' K => ?_⟩
      exact aw_L3 d i x5 x6 h0 hi hx (aw_W66t9 (d + 38) h1 _ _ _ (by rw [hke]; exact aw_k67b (d + 36) h1 h4 hl hk hr hrs t1 (aw_bad24 hx1) (aw_bad24 hy1) hd)) h0 h21 (by rw [hke]; exact aw_k132b (d + 38) h21 m2 m8 hk (aw_bad24 hx1) (aw_bad24 hy1) hm) rfl (fun q => absurd q (by decide)) K
    · obtain ⟨x, hxl, hxe⟩ := aw_pl24 (aw_bad24 hx1)
      obtain ⟨y, hyl, hye⟩ := aw_pl24 (aw_bad24 hy1)
      have e6 : pc.getD (y * 24 + x) 0 = pi.getD (576 * k + 24 * y + x) 0 := by
        rw [j6 _ (by omega), show 576 * k + (y * 24 + x) = 576 * k + 24 * y + x by omega]
      refine ⟨am_pu (am_pu w 44 (.inr (3, [.long (pc.getD (y * 24 + x) 0).toInt64]))) 21 (aw_c21 0 (Int32.ofNat tl) (Int32.ofNat pl) wd wt sn), g, some (.int 0), some (.int (pc.getD (y * 24 + x) 0)), ⟨tl, pl, sp, 0, wd, wt, sn, h1, rfl, hT, hP, aw_Shs_up (by omega) (aw_Shs_up (by omega) hS), hC, _, rfl⟩, h0, by omega, by omega, fun o h' K => ?_⟩
      exact aw_L3 d i x5 x6 h0 hi hx (aw_W66a (d + 38) h1 _ _ _ (by rw [hke, hxe, hye]; exact aw_k67a (d + 36) h1 h4 hl hk hr hrs t1 t3 t6 hxl hyl hd) hO) h0 h21 (by rw [hke, hxe, hye, e6]; exact aw_k132a (w := am_pu w 44 _) (d + 38) h21 m2 m8 m3 m9 hk hxl hyl (by rw [j4]; exact aw_nz j1 j2)) rfl (fun _ => rfl) K
