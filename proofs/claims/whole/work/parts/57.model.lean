/-! The reference's refusals and short answers; the wrappers of the law; its cases. -/
theorem am_mul (a n : Nat) : Int32.ofNat a * Int32.ofNat n = Int32.ofNat (a * n) := (Int32.ofNat_mul ..).symm
theorem aw_thrown {w : Nat → am_C} {g : am_H} {x : Nat} : am_at (am_h w (g ++ [.inl (x, [])])) (1000 + (am_h w g).length) = some (.inl (x, [])) := by
  rw [am_h_len, show 1000 + (45 + g.length) = 1045 + g.length by omega]
  exact am_gfn _ (by rw [List.getElem?_append_right (Nat.le_refl _), Nat.sub_self]; rfl)
theorem aw_cmp (x : Int64) : lg_cmp x x = 0 := by
  unfold lg_cmp
  simp
theorem aw_k99a {w : Nat → am_C} {g : am_H} (d : Nat) {ft ty wr wd wt sn : Int32} (h21 : w 21 = aw_c21 ft ty wr wd wt sn) (q : Int32) (hq : q ≤ 0) : am_R (d) 99 0 [some (.ref 1021), some (.int q)] [] (am_h w g) (.inl (some (.int 0))) (am_h (am_pu w 21 (aw_c21 q ty wr wd wt sn)) g) := by
  refine am_R.nxs 2 (pc' := 2) (lv' := [some (.ref 1021), some (.int q)]) (st' := [.int q, .ref 1021]) (h1 := am_h w g) rfl ?_
  refine am_R.pf (k := 0) (pc' := 5) rfl (am_wf 21 (by decide) h21) rfl (Nat.le_of_ble_eq_true rfl) rfl (fun q => by cases q) (am_ws (k := 21) (by decide) (by decide)) rfl ?_
  refine am_R.ites 2 (P := q ≤ 0) (T := 13) (F := 9) (lv' := [some (.ref 1021), some (.int q)]) (st' := []) (h1 := am_h (am_pu w 21 (aw_c21 q ty wr wd wt sn)) g) rfl (fun c1 => ?_) (fun c1 => ?_)
  · refine am_R.nxs 1 (pc' := 14) (lv' := [some (.ref 1021), some (.int q)]) (st' := [.int 0]) (h1 := am_h (am_pu w 21 (aw_c21 q ty wr wd wt sn)) g) rfl ?_
    exact am_R.reti rfl rfl rfl
  · exact absurd hq c1
theorem aw_k99b {w : Nat → am_C} {g : am_H} (d : Nat) {ft ty wr wd wt sn : Int32} (h21 : w 21 = aw_c21 ft ty wr wd wt sn) (q : Int32) (hq : ¬ q ≤ 0) : am_R (d) 99 0 [some (.ref 1021), some (.int q)] [] (am_h w g) (.inl (some (.int 1))) (am_h (am_pu w 21 (aw_c21 q ty wr wd wt sn)) g) := by
  refine am_R.nxs 2 (pc' := 2) (lv' := [some (.ref 1021), some (.int q)]) (st' := [.int q, .ref 1021]) (h1 := am_h w g) rfl ?_
  refine am_R.pf (k := 0) (pc' := 5) rfl (am_wf 21 (by decide) h21) rfl (Nat.le_of_ble_eq_true rfl) rfl (fun q => by cases q) (am_ws (k := 21) (by decide) (by decide)) rfl ?_
  refine am_R.ites 2 (P := q ≤ 0) (T := 13) (F := 9) (lv' := [some (.ref 1021), some (.int q)]) (st' := []) (h1 := am_h (am_pu w 21 (aw_c21 q ty wr wd wt sn)) g) rfl (fun c1 => ?_) (fun c1 => ?_)
  · exact absurd c1 hq
  · refine am_R.nxs 2 (pc' := 14) (lv' := [some (.ref 1021), some (.int q)]) (st' := [.int 1]) (h1 := am_h (am_pu w 21 (aw_c21 q ty wr wd wt sn)) g) rfl ?_
    exact am_R.reti rfl rfl rfl
theorem aw_k133a {w : Nat → am_C} {g : am_H} (d : Nat) {ft ty wr wd wt sn : Int32} (h21 : w 21 = aw_c21 ft ty wr wd wt sn) {ma : List Int32} (h27 : w 27 = am_I 0 ma) (l27 : ma.length = 3) {k : Nat} (hk : k < 3) (hm : ¬ ma.getD k 0 = 0) : am_R (d) 133 0 [some (.ref 1021), some (.int (Int32.ofNat k)), some (.int 1)] [] (am_h w g) (.inl (some (.int 0))) (am_h w g) := by
  refine am_R.ites 2 (P := Int32.ofNat k < 0) (T := 13) (F := 4) (lv' := [some (.ref 1021), some (.int (Int32.ofNat k)), some (.int 1)]) (st' := []) (h1 := am_h w g) rfl (fun c1 => ?_) (fun c1 => ?_)
  · exact absurd c1 (aw_nn k)
  · refine am_R.ites 3 (P := 2 < Int32.ofNat k) (T := 13) (F := 9) (lv' := [some (.ref 1021), some (.int (Int32.ofNat k)), some (.int 1)]) (st' := []) (h1 := am_h w g) rfl (fun c2 => ?_) (fun c2 => ?_)
    · exact absurd c2 (Int32.not_lt.mpr ((am_leN (n := 2) (by omega) (by decide)).mpr (by omega)))
    · refine am_R.ites 2 (P := ¬ 1 = 0) (T := 17) (F := 13) (lv' := [some (.ref 1021), some (.int (Int32.ofNat k)), some (.int 1)]) (st' := []) (h1 := am_h w g) rfl (fun c3 => ?_) (fun c3 => ?_)
      · refine am_R.nxs 1 (pc' := 18) (lv' := [some (.ref 1021), some (.int (Int32.ofNat k)), some (.int 1)]) (st' := [.ref 1021]) (h1 := am_h w g) rfl ?_
        refine am_R.gf (pc' := 21) (v := .ref 1027) rfl (am_wf 21 (by decide) h21) rfl rfl rfl ?_
        refine am_R.nxs 1 (pc' := 22) (lv' := [some (.ref 1021), some (.int (Int32.ofNat k)), some (.int 1)]) (st' := [.int (Int32.ofNat k), .ref 1027]) (h1 := am_h w g) rfl ?_
        refine am_R.ldi (i := k) (xs := ma) (pc' := 23) rfl (am_wf 27 (by decide) h27) (by omega) (by omega) rfl ?_
        refine am_R.ites 1 (P := ¬ (ma.getD k 0) = 0) (T := 30) (F := 26) (lv' := [some (.ref 1021), some (.int (Int32.ofNat k)), some (.int 1)]) (st' := []) (h1 := am_h w g) rfl (fun c4 => ?_) (fun c4 => ?_)
        · refine am_R.nxs 1 (pc' := 31) (lv' := [some (.ref 1021), some (.int (Int32.ofNat k)), some (.int 1)]) (st' := [.int 0]) (h1 := am_h w g) rfl ?_
          exact am_R.reti rfl rfl rfl
        · exact absurd hm c4
      · exact absurd (by decide) c3
theorem aw_k133b {w : Nat → am_C} {g : am_H} (d : Nat) {ft ty wr wd wt sn : Int32} (h21 : w 21 = aw_c21 ft ty wr wd wt sn) {ma : List Int32} (h27 : w 27 = am_I 0 ma) (l27 : ma.length = 3) {k : Nat} (hk : k < 3) (hm : ma.getD k 0 = 0) : am_R (d) 133 0 [some (.ref 1021), some (.int (Int32.ofNat k)), some (.int 1)] [] (am_h w g) (.inl (some (.int 2))) (am_h w g) := by
  refine am_R.ites 2 (P := Int32.ofNat k < 0) (T := 13) (F := 4) (lv' := [some (.ref 1021), some (.int (Int32.ofNat k)), some (.int 1)]) (st' := []) (h1 := am_h w g) rfl (fun c1 => ?_) (fun c1 => ?_)
  · exact absurd c1 (aw_nn k)
  · refine am_R.ites 3 (P := 2 < Int32.ofNat k) (T := 13) (F := 9) (lv' := [some (.ref 1021), some (.int (Int32.ofNat k)), some (.int 1)]) (st' := []) (h1 := am_h w g) rfl (fun c2 => ?_) (fun c2 => ?_)
    · exact absurd c2 (Int32.not_lt.mpr ((am_leN (n := 2) (by omega) (by decide)).mpr (by omega)))
    · refine am_R.ites 2 (P := ¬ 1 = 0) (T := 17) (F := 13) (lv' := [some (.ref 1021), some (.int (Int32.ofNat k)), some (.int 1)]) (st' := []) (h1 := am_h w g) rfl (fun c3 => ?_) (fun c3 => ?_)
      · refine am_R.nxs 1 (pc' := 18) (lv' := [some (.ref 1021), some (.int (Int32.ofNat k)), some (.int 1)]) (st' := [.ref 1021]) (h1 := am_h w g) rfl ?_
        refine am_R.gf (pc' := 21) (v := .ref 1027) rfl (am_wf 21 (by decide) h21) rfl rfl rfl ?_
        refine am_R.nxs 1 (pc' := 22) (lv' := [some (.ref 1021), some (.int (Int32.ofNat k)), some (.int 1)]) (st' := [.int (Int32.ofNat k), .ref 1027]) (h1 := am_h w g) rfl ?_
        refine am_R.ldi (i := k) (xs := ma) (pc' := 23) rfl (am_wf 27 (by decide) h27) (by omega) (by omega) rfl ?_
        refine am_R.ites 1 (P := ¬ (ma.getD k 0) = 0) (T := 30) (F := 26) (lv' := [some (.ref 1021), some (.int (Int32.ofNat k)), some (.int 1)]) (st' := []) (h1 := am_h w g) rfl (fun c4 => ?_) (fun c4 => ?_)
        · exact absurd hm c4
        · refine am_R.nxs 2 (pc' := 31) (lv' := [some (.ref 1021), some (.int (Int32.ofNat k)), some (.int 1)]) (st' := [.int 2]) (h1 := am_h w g) rfl ?_
          exact am_R.reti rfl rfl rfl
      · exact absurd (by decide) c3
theorem aw_k133c {w : Nat → am_C} {g : am_H} (d : Nat) {ft ty wr wd wt sn : Int32} (h21 : w 21 = aw_c21 ft ty wr wd wt sn) (s t : Int32) (hs : s < 0 ∨ 2 < s ∨ t = 0) : am_R (d) 133 0 [some (.ref 1021), some (.int s), some (.int t)] [] (am_h w g) (.inl (some (.int 1))) (am_h w g) := by
  refine am_R.ites 2 (P := s < 0) (T := 13) (F := 4) (lv' := [some (.ref 1021), some (.int s), some (.int t)]) (st' := []) (h1 := am_h w g) rfl (fun c1 => ?_) (fun c1 => ?_)
  · refine am_R.nxs 2 (pc' := 31) (lv' := [some (.ref 1021), some (.int s), some (.int t)]) (st' := [.int 1]) (h1 := am_h w g) rfl ?_
    exact am_R.reti rfl rfl rfl
  · refine am_R.ites 3 (P := 2 < s) (T := 13) (F := 9) (lv' := [some (.ref 1021), some (.int s), some (.int t)]) (st' := []) (h1 := am_h w g) rfl (fun c2 => ?_) (fun c2 => ?_)
    · refine am_R.nxs 2 (pc' := 31) (lv' := [some (.ref 1021), some (.int s), some (.int t)]) (st' := [.int 1]) (h1 := am_h w g) rfl ?_
      exact am_R.reti rfl rfl rfl
    · refine am_R.ites 2 (P := ¬ t = 0) (T := 17) (F := 13) (lv' := [some (.ref 1021), some (.int s), some (.int t)]) (st' := []) (h1 := am_h w g) rfl (fun c3 => ?_) (fun c3 => ?_)
      · exact absurd hs (fun q => q.elim c1 (fun q => q.elim c2 c3))
      · refine am_R.nxs 2 (pc' := 31) (lv' := [some (.ref 1021), some (.int s), some (.int t)]) (st' := [.int 1]) (h1 := am_h w g) rfl ?_
        exact am_R.reti rfl rfl rfl
theorem aw_k138a {w : Nat → am_C} {g : am_H} (d : Nat) {ft ty wr wd wt sn : Int32} (h21 : w 21 = aw_c21 ft ty wr wd wt sn) {ma : List Int32} (h27 : w 27 = am_I 0 ma) (l27 : ma.length = 3) {k : Nat} (hk : k < 3) (hm : ¬ ma.getD k 0 = 0)  {bk : List Int32} (h30 : w 30 = am_I 0 bk) (l30 : bk.length = 3) : am_R (d + 1) 138 0 [some (.ref 1021), some (.int (Int32.ofNat k))] [] (am_h w g) (.inl (some (.int (bk.getD k 0)))) (am_h (am_pu w 21 (aw_c21 0 ty wr wd wt sn)) g) := by
  refine am_R.nxs 4 (pc' := 4) (lv' := [some (.ref 1021), some (.int (Int32.ofNat k))]) (st' := [.int 1, .int (Int32.ofNat k), .ref 1021, .ref 1021]) (h1 := am_h w g) rfl ?_
  refine am_R.cv (a := 1021) (as' := [.int (Int32.ofNat k), .int 1]) (r := [.ref 1021]) (v := some (.int 0)) (h1 := am_h w g) (pc' := 7) rfl rfl rfl rfl (am_wf 21 (by decide) h21) rfl rfl (aw_k133a d h21 h27 l27 hk hm) rfl ?_
  refine am_R.cv (a := 1021) (as' := [.int 0]) (r := []) (v := some (.int 0)) (h1 := am_h (am_pu w 21 (aw_c21 0 ty wr wd wt sn)) g) (pc' := 10) rfl rfl rfl rfl (am_wf 21 (by decide) h21) rfl rfl (aw_k99a (w := w) d h21 0 (by decide)) rfl ?_
  refine am_R.ites 1 (P := 0 = 0) (T := 17) (F := 13) (lv' := [some (.ref 1021), some (.int (Int32.ofNat k))]) (st' := []) (h1 := am_h (am_pu w 21 (aw_c21 0 ty wr wd wt sn)) g) rfl (fun c1 => ?_) (fun c1 => ?_)
  · refine am_R.nxs 1 (pc' := 18) (lv' := [some (.ref 1021), some (.int (Int32.ofNat k))]) (st' := [.ref 1021]) (h1 := am_h (am_pu w 21 (aw_c21 0 ty wr wd wt sn)) g) rfl ?_
    refine am_R.gf (pc' := 21) (v := .ref 1030) rfl (am_wf 21 (by decide) (rfl : (am_pu w 21 (aw_c21 0 ty wr wd wt sn)) 21 = _)) rfl rfl rfl ?_
    refine am_R.nxs 1 (pc' := 22) (lv' := [some (.ref 1021), some (.int (Int32.ofNat k))]) (st' := [.int (Int32.ofNat k), .ref 1030]) (h1 := am_h (am_pu w 21 (aw_c21 0 ty wr wd wt sn)) g) rfl ?_
    refine am_R.ldi (i := k) (xs := bk) (pc' := 23) rfl (am_wf 30 (by decide) h30) (by omega) (by omega) rfl ?_
    exact am_R.reti rfl rfl rfl
  · exact absurd rfl c1
theorem aw_k138b {w : Nat → am_C} {g : am_H} (d : Nat) {ft ty wr wd wt sn : Int32} (h21 : w 21 = aw_c21 ft ty wr wd wt sn) {ma : List Int32} (h27 : w 27 = am_I 0 ma) (l27 : ma.length = 3) {k : Nat} (hk : k < 3) (hm : ma.getD k 0 = 0)  : am_R (d + 1) 138 0 [some (.ref 1021), some (.int (Int32.ofNat k))] [] (am_h w g) (.inl (some (.int 0))) (am_h (am_pu w 21 (aw_c21 2 ty wr wd wt sn)) g) := by
  refine am_R.nxs 4 (pc' := 4) (lv' := [some (.ref 1021), some (.int (Int32.ofNat k))]) (st' := [.int 1, .int (Int32.ofNat k), .ref 1021, .ref 1021]) (h1 := am_h w g) rfl ?_
  refine am_R.cv (a := 1021) (as' := [.int (Int32.ofNat k), .int 1]) (r := [.ref 1021]) (v := some (.int 2)) (h1 := am_h w g) (pc' := 7) rfl rfl rfl rfl (am_wf 21 (by decide) h21) rfl rfl (aw_k133b d h21 h27 l27 hk hm) rfl ?_
  refine am_R.cv (a := 1021) (as' := [.int 2]) (r := []) (v := some (.int 1)) (h1 := am_h (am_pu w 21 (aw_c21 2 ty wr wd wt sn)) g) (pc' := 10) rfl rfl rfl rfl (am_wf 21 (by decide) h21) rfl rfl (aw_k99b (w := w) d h21 2 (by decide)) rfl ?_
  refine am_R.ites 1 (P := 1 = 0) (T := 17) (F := 13) (lv' := [some (.ref 1021), some (.int (Int32.ofNat k))]) (st' := []) (h1 := am_h (am_pu w 21 (aw_c21 2 ty wr wd wt sn)) g) rfl (fun c1 => ?_) (fun c1 => ?_)
  · exact absurd c1 (by decide)
  · refine am_R.nxs 2 (pc' := 23) (lv' := [some (.ref 1021), some (.int (Int32.ofNat k))]) (st' := [.int 0]) (h1 := am_h (am_pu w 21 (aw_c21 2 ty wr wd wt sn)) g) rfl ?_
    exact am_R.reti rfl rfl rfl
theorem aw_k138c {w : Nat → am_C} {g : am_H} (d : Nat) {ft ty wr wd wt sn : Int32} (h21 : w 21 = aw_c21 ft ty wr wd wt sn) (s : Int32) (hs : s < 0 ∨ 2 < s) : am_R (d + 1) 138 0 [some (.ref 1021), some (.int s)] [] (am_h w g) (.inl (some (.int 0))) (am_h (am_pu w 21 (aw_c21 1 ty wr wd wt sn)) g) := by
  refine am_R.nxs 4 (pc' := 4) (lv' := [some (.ref 1021), some (.int s)]) (st' := [.int 1, .int s, .ref 1021, .ref 1021]) (h1 := am_h w g) rfl ?_
  refine am_R.cv (a := 1021) (as' := [.int s, .int 1]) (r := [.ref 1021]) (v := some (.int 1)) (h1 := am_h w g) (pc' := 7) rfl rfl rfl rfl (am_wf 21 (by decide) h21) rfl rfl (aw_k133c d h21 s 1 (hs.elim Or.inl (fun q => Or.inr (Or.inl q)))) rfl ?_
  refine am_R.cv (a := 1021) (as' := [.int 1]) (r := []) (v := some (.int 1)) (h1 := am_h (am_pu w 21 (aw_c21 1 ty wr wd wt sn)) g) (pc' := 10) rfl rfl rfl rfl (am_wf 21 (by decide) h21) rfl rfl (aw_k99b (w := w) d h21 1 (by decide)) rfl ?_
  refine am_R.ites 1 (P := 1 = 0) (T := 17) (F := 13) (lv' := [some (.ref 1021), some (.int s)]) (st' := []) (h1 := am_h (am_pu w 21 (aw_c21 1 ty wr wd wt sn)) g) rfl (fun c1 => ?_) (fun c1 => ?_)
  · exact absurd c1 (by decide)
  · refine am_R.nxs 2 (pc' := 23) (lv' := [some (.ref 1021), some (.int s)]) (st' := [.int 0]) (h1 := am_h (am_pu w 21 (aw_c21 1 ty wr wd wt sn)) g) rfl ?_
    exact am_R.reti rfl rfl rfl
theorem aw_k139a {w : Nat → am_C} {g : am_H} (d : Nat) {ft ty wr wd wt sn : Int32} (h21 : w 21 = aw_c21 ft ty wr wd wt sn) {ma : List Int32} (h27 : w 27 = am_I 0 ma) (l27 : ma.length = 3) {k : Nat} (hk : k < 3) (hm : ¬ ma.getD k 0 = 0) {bk : List Int32} (h30 : w 30 = am_I 0 bk) (l30 : bk.length = 3) {br : List Int32} (h29 : w 29 = am_I 0 br) (l29 : br.length = 120) {b : Nat} (hb : bk.getD k 0 = Int32.ofNat b) (hb2 : b ≤ 40) (i : Nat) (hi : i < b) : am_R (d + 1) 139 0 [some (.ref 1021), some (.int (Int32.ofNat k)), some (.int (Int32.ofNat i))] [] (am_h w g) (.inl (some (.int (br.getD (40 * k + i) 0)))) (am_h (am_pu w 21 (aw_c21 0 ty wr wd wt sn)) g) := by
  refine am_R.nxs 4 (pc' := 4) (lv' := [some (.ref 1021), some (.int (Int32.ofNat k)), some (.int (Int32.ofNat i))]) (st' := [.int 1, .int (Int32.ofNat k), .ref 1021, .ref 1021]) (h1 := am_h w g) rfl ?_
  refine am_R.cv (a := 1021) (as' := [.int (Int32.ofNat k), .int 1]) (r := [.ref 1021]) (v := some (.int 0)) (h1 := am_h w g) (pc' := 7) rfl rfl rfl rfl (am_wf 21 (by decide) h21) rfl rfl (aw_k133a d h21 h27 l27 hk hm) rfl ?_
  refine am_R.cv (a := 1021) (as' := [.int 0]) (r := []) (v := some (.int 0)) (h1 := am_h (am_pu w 21 (aw_c21 0 ty wr wd wt sn)) g) (pc' := 10) rfl rfl rfl rfl (am_wf 21 (by decide) h21) rfl rfl (aw_k99a (w := w) d h21 0 (by decide)) rfl ?_
  refine am_R.ites 1 (P := 0 = 0) (T := 15) (F := 13) (lv' := [some (.ref 1021), some (.int (Int32.ofNat k)), some (.int (Int32.ofNat i))]) (st' := []) (h1 := am_h (am_pu w 21 (aw_c21 0 ty wr wd wt sn)) g) rfl (fun c1 => ?_) (fun c1 => ?_)
  · refine am_R.ites 2 (P := Int32.ofNat i < 0) (T := 29) (F := 19) (lv' := [some (.ref 1021), some (.int (Int32.ofNat k)), some (.int (Int32.ofNat i))]) (st' := []) (h1 := am_h (am_pu w 21 (aw_c21 0 ty wr wd wt sn)) g) rfl (fun c2 => ?_) (fun c2 => ?_)
    · exact absurd c2 (aw_nn i)
    · refine am_R.nxs 2 (pc' := 21) (lv' := [some (.ref 1021), some (.int (Int32.ofNat k)), some (.int (Int32.ofNat i))]) (st' := [.ref 1021, .int (Int32.ofNat i)]) (h1 := am_h (am_pu w 21 (aw_c21 0 ty wr wd wt sn)) g) rfl ?_
      refine am_R.gf (pc' := 24) (v := .ref 1030) rfl (am_wf 21 (by decide) (rfl : (am_pu w 21 (aw_c21 0 ty wr wd wt sn)) 21 = _)) rfl rfl rfl ?_
      refine am_R.nxs 1 (pc' := 25) (lv' := [some (.ref 1021), some (.int (Int32.ofNat k)), some (.int (Int32.ofNat i))]) (st' := [.int (Int32.ofNat k), .ref 1030, .int (Int32.ofNat i)]) (h1 := am_h (am_pu w 21 (aw_c21 0 ty wr wd wt sn)) g) rfl ?_
      refine am_R.ldi (i := k) (xs := bk) (pc' := 26) rfl (am_wf 30 (by decide) h30) (by omega) (by omega) rfl ?_
      rw [hb]
      refine am_R.ites 1 (P := Int32.ofNat i < Int32.ofNat b) (T := 33) (F := 29) (lv' := [some (.ref 1021), some (.int (Int32.ofNat k)), some (.int (Int32.ofNat i))]) (st' := []) (h1 := am_h (am_pu w 21 (aw_c21 0 ty wr wd wt sn)) g) rfl (fun c3 => ?_) (fun c3 => ?_)
      · have c3 : i < b := (am_ltN (i := i) (n := b) (by omega) (by omega)).mp c3
        refine am_R.nxs 1 (pc' := 34) (lv' := [some (.ref 1021), some (.int (Int32.ofNat k)), some (.int (Int32.ofNat i))]) (st' := [.ref 1021]) (h1 := am_h (am_pu w 21 (aw_c21 0 ty wr wd wt sn)) g) rfl ?_
        refine am_R.gf (pc' := 37) (v := .ref 1029) rfl (am_wf 21 (by decide) (rfl : (am_pu w 21 (aw_c21 0 ty wr wd wt sn)) 21 = _)) rfl rfl rfl ?_
        refine am_R.nxs 3 (pc' := 41) (lv' := [some (.ref 1021), some (.int (Int32.ofNat k)), some (.int (Int32.ofNat i))]) (st' := [.int (40 * Int32.ofNat k), .ref 1029]) (h1 := am_h (am_pu w 21 (aw_c21 0 ty wr wd wt sn)) g) rfl ?_
        rw [show (40 * Int32.ofNat k : Int32) = Int32.ofNat (40 * k) from am_mul 40 k]
        refine am_R.nxs 2 (pc' := 43) (lv' := [some (.ref 1021), some (.int (Int32.ofNat k)), some (.int (Int32.ofNat i))]) (st' := [.int (Int32.ofNat (40 * k) + Int32.ofNat i), .ref 1029]) (h1 := am_h (am_pu w 21 (aw_c21 0 ty wr wd wt sn)) g) rfl ?_
        rw [show (Int32.ofNat (40 * k) + Int32.ofNat i : Int32) = Int32.ofNat ((40 * k) + i) from am_add (40 * k) i]
        refine am_R.ldi (i := ((40 * k) + i)) (xs := br) (pc' := 44) rfl (am_wf 29 (by decide) h29) (by omega) (by omega) rfl ?_
        exact am_R.reti rfl rfl rfl
      · have c3 : ¬ i < b := fun hq9 => c3 ((am_ltN (i := i) (n := b) (by omega) (by omega)).mpr hq9)
        omega
  · exact absurd rfl c1
theorem aw_k139e {w : Nat → am_C} {g : am_H} (d : Nat) {ft ty wr wd wt sn : Int32} (h21 : w 21 = aw_c21 ft ty wr wd wt sn) {ma : List Int32} (h27 : w 27 = am_I 0 ma) (l27 : ma.length = 3) {k : Nat} (hk : k < 3) (hm : ¬ ma.getD k 0 = 0) {bk : List Int32} (h30 : w 30 = am_I 0 bk) (l30 : bk.length = 3) {br : List Int32} (h29 : w 29 = am_I 0 br) (l29 : br.length = 120) {b : Nat} (hb : bk.getD k 0 = Int32.ofNat b) (hb2 : b ≤ 40) (v : Int32) (hv : v < 0 ∨ Int32.ofNat b ≤ v) : am_R (d + 1) 139 0 [some (.ref 1021), some (.int (Int32.ofNat k)), some (.int v)] [] (am_h w g) (.inl (some (.int (-1)))) (am_h (am_pu w 21 (aw_c21 0 ty wr wd wt sn)) g) := by
  refine am_R.nxs 4 (pc' := 4) (lv' := [some (.ref 1021), some (.int (Int32.ofNat k)), some (.int v)]) (st' := [.int 1, .int (Int32.ofNat k), .ref 1021, .ref 1021]) (h1 := am_h w g) rfl ?_
  refine am_R.cv (a := 1021) (as' := [.int (Int32.ofNat k), .int 1]) (r := [.ref 1021]) (v := some (.int 0)) (h1 := am_h w g) (pc' := 7) rfl rfl rfl rfl (am_wf 21 (by decide) h21) rfl rfl (aw_k133a d h21 h27 l27 hk hm) rfl ?_
  refine am_R.cv (a := 1021) (as' := [.int 0]) (r := []) (v := some (.int 0)) (h1 := am_h (am_pu w 21 (aw_c21 0 ty wr wd wt sn)) g) (pc' := 10) rfl rfl rfl rfl (am_wf 21 (by decide) h21) rfl rfl (aw_k99a (w := w) d h21 0 (by decide)) rfl ?_
  refine am_R.ites 1 (P := 0 = 0) (T := 15) (F := 13) (lv' := [some (.ref 1021), some (.int (Int32.ofNat k)), some (.int v)]) (st' := []) (h1 := am_h (am_pu w 21 (aw_c21 0 ty wr wd wt sn)) g) rfl (fun c1 => ?_) (fun c1 => ?_)
  · refine am_R.ites 2 (P := v < 0) (T := 29) (F := 19) (lv' := [some (.ref 1021), some (.int (Int32.ofNat k)), some (.int v)]) (st' := []) (h1 := am_h (am_pu w 21 (aw_c21 0 ty wr wd wt sn)) g) rfl (fun c2 => ?_) (fun c2 => ?_)
    · refine am_R.nxs 2 (pc' := 44) (lv' := [some (.ref 1021), some (.int (Int32.ofNat k)), some (.int v)]) (st' := [.int (-1)]) (h1 := am_h (am_pu w 21 (aw_c21 0 ty wr wd wt sn)) g) rfl ?_
      exact am_R.reti rfl rfl rfl
    · refine am_R.nxs 2 (pc' := 21) (lv' := [some (.ref 1021), some (.int (Int32.ofNat k)), some (.int v)]) (st' := [.ref 1021, .int v]) (h1 := am_h (am_pu w 21 (aw_c21 0 ty wr wd wt sn)) g) rfl ?_
      refine am_R.gf (pc' := 24) (v := .ref 1030) rfl (am_wf 21 (by decide) (rfl : (am_pu w 21 (aw_c21 0 ty wr wd wt sn)) 21 = _)) rfl rfl rfl ?_
      refine am_R.nxs 1 (pc' := 25) (lv' := [some (.ref 1021), some (.int (Int32.ofNat k)), some (.int v)]) (st' := [.int (Int32.ofNat k), .ref 1030, .int v]) (h1 := am_h (am_pu w 21 (aw_c21 0 ty wr wd wt sn)) g) rfl ?_
      refine am_R.ldi (i := k) (xs := bk) (pc' := 26) rfl (am_wf 30 (by decide) h30) (by omega) (by omega) rfl ?_
      rw [hb]
      refine am_R.ites 1 (P := v < Int32.ofNat b) (T := 33) (F := 29) (lv' := [some (.ref 1021), some (.int (Int32.ofNat k)), some (.int v)]) (st' := []) (h1 := am_h (am_pu w 21 (aw_c21 0 ty wr wd wt sn)) g) rfl (fun c3 => ?_) (fun c3 => ?_)
      · exact absurd c3 (fun q => hv.elim c2 (fun q2 => absurd q (Int32.not_lt.mpr q2)))
      · refine am_R.nxs 2 (pc' := 44) (lv' := [some (.ref 1021), some (.int (Int32.ofNat k)), some (.int v)]) (st' := [.int (-1)]) (h1 := am_h (am_pu w 21 (aw_c21 0 ty wr wd wt sn)) g) rfl ?_
        exact am_R.reti rfl rfl rfl
  · exact absurd rfl c1
theorem aw_k139b {w : Nat → am_C} {g : am_H} (d : Nat) {ft ty wr wd wt sn : Int32} (h21 : w 21 = aw_c21 ft ty wr wd wt sn) {ma : List Int32} (h27 : w 27 = am_I 0 ma) (l27 : ma.length = 3) {k : Nat} (hk : k < 3) (hm : ma.getD k 0 = 0) (v : Int32) : am_R (d + 1) 139 0 [some (.ref 1021), some (.int (Int32.ofNat k)), some (.int v)] [] (am_h w g) (.inl (some (.int 0))) (am_h (am_pu w 21 (aw_c21 2 ty wr wd wt sn)) g) := by
  refine am_R.nxs 4 (pc' := 4) (lv' := [some (.ref 1021), some (.int (Int32.ofNat k)), some (.int v)]) (st' := [.int 1, .int (Int32.ofNat k), .ref 1021, .ref 1021]) (h1 := am_h w g) rfl ?_
  refine am_R.cv (a := 1021) (as' := [.int (Int32.ofNat k), .int 1]) (r := [.ref 1021]) (v := some (.int 2)) (h1 := am_h w g) (pc' := 7) rfl rfl rfl rfl (am_wf 21 (by decide) h21) rfl rfl (aw_k133b d h21 h27 l27 hk hm) rfl ?_
  refine am_R.cv (a := 1021) (as' := [.int 2]) (r := []) (v := some (.int 1)) (h1 := am_h (am_pu w 21 (aw_c21 2 ty wr wd wt sn)) g) (pc' := 10) rfl rfl rfl rfl (am_wf 21 (by decide) h21) rfl rfl (aw_k99b (w := w) d h21 2 (by decide)) rfl ?_
  refine am_R.ites 1 (P := 1 = 0) (T := 15) (F := 13) (lv' := [some (.ref 1021), some (.int (Int32.ofNat k)), some (.int v)]) (st' := []) (h1 := am_h (am_pu w 21 (aw_c21 2 ty wr wd wt sn)) g) rfl (fun c1 => ?_) (fun c1 => ?_)
  · exact absurd c1 (by decide)
  · refine am_R.nxs 1 (pc' := 14) (lv' := [some (.ref 1021), some (.int (Int32.ofNat k)), some (.int v)]) (st' := [.int 0]) (h1 := am_h (am_pu w 21 (aw_c21 2 ty wr wd wt sn)) g) rfl ?_
    exact am_R.reti rfl rfl rfl
theorem aw_k139c {w : Nat → am_C} {g : am_H} (d : Nat) {ft ty wr wd wt sn : Int32} (h21 : w 21 = aw_c21 ft ty wr wd wt sn) (s v : Int32) (hs : s < 0 ∨ 2 < s) : am_R (d + 1) 139 0 [some (.ref 1021), some (.int s), some (.int v)] [] (am_h w g) (.inl (some (.int 0))) (am_h (am_pu w 21 (aw_c21 1 ty wr wd wt sn)) g) := by
  refine am_R.nxs 4 (pc' := 4) (lv' := [some (.ref 1021), some (.int s), some (.int v)]) (st' := [.int 1, .int s, .ref 1021, .ref 1021]) (h1 := am_h w g) rfl ?_
  refine am_R.cv (a := 1021) (as' := [.int s, .int 1]) (r := [.ref 1021]) (v := some (.int 1)) (h1 := am_h w g) (pc' := 7) rfl rfl rfl rfl (am_wf 21 (by decide) h21) rfl rfl (aw_k133c d h21 s 1 (hs.elim Or.inl (fun q => Or.inr (Or.inl q)))) rfl ?_
  refine am_R.cv (a := 1021) (as' := [.int 1]) (r := []) (v := some (.int 1)) (h1 := am_h (am_pu w 21 (aw_c21 1 ty wr wd wt sn)) g) (pc' := 10) rfl rfl rfl rfl (am_wf 21 (by decide) h21) rfl rfl (aw_k99b (w := w) d h21 1 (by decide)) rfl ?_
  refine am_R.ites 1 (P := 1 = 0) (T := 15) (F := 13) (lv' := [some (.ref 1021), some (.int s), some (.int v)]) (st' := []) (h1 := am_h (am_pu w 21 (aw_c21 1 ty wr wd wt sn)) g) rfl (fun c1 => ?_) (fun c1 => ?_)
  · exact absurd c1 (by decide)
  · refine am_R.nxs 1 (pc' := 14) (lv' := [some (.ref 1021), some (.int s), some (.int v)]) (st' := [.int 0]) (h1 := am_h (am_pu w 21 (aw_c21 1 ty wr wd wt sn)) g) rfl ?_
    exact am_R.reti rfl rfl rfl
theorem aw_k140a {w : Nat → am_C} {g : am_H} (d : Nat) {ft ty wr wd wt sn : Int32} (h21 : w 21 = aw_c21 ft ty wr wd wt sn) {ma : List Int32} (h27 : w 27 = am_I 0 ma) (l27 : ma.length = 3) {k : Nat} (hk : k < 3) {co : List Int32} (h31 : w 31 = am_I 0 co) (l31 : co.length = 12) (q : Nat) (hq : q < 4) (hm : ¬ ma.getD k 0 = 0) : am_R (d + 1) 140 0 [some (.ref 1021), some (.int (Int32.ofNat k)), some (.int (Int32.ofNat q)), none] [] (am_h w g) (.inl (some (.int (co.getD (4 * k + q) 0)))) (am_h (am_pu w 21 (aw_c21 0 ty wr wd wt sn)) g) := by
  refine am_R.ites 2 (P := Int32.ofNat k < 0) (T := 13) (F := 4) (lv' := [some (.ref 1021), some (.int (Int32.ofNat k)), some (.int (Int32.ofNat q)), none]) (st' := []) (h1 := am_h w g) rfl (fun c1 => ?_) (fun c1 => ?_)
  · exact absurd c1 (aw_nn k)
  · refine am_R.ites 3 (P := 3 ≤ Int32.ofNat k) (T := 13) (F := 9) (lv' := [some (.ref 1021), some (.int (Int32.ofNat k)), some (.int (Int32.ofNat q)), none]) (st' := []) (h1 := am_h w g) rfl (fun c2 => ?_) (fun c2 => ?_)
    · have c2 : 3 ≤ k := (am_leN (i := 3) (n := k) (by omega) (by omega)).mp c2
      omega
    · have c2 : ¬ 3 ≤ k := fun hq9 => c2 ((am_leN (i := 3) (n := k) (by omega) (by omega)).mpr hq9)
      refine am_R.ites 6 (P := ¬ 1 = 0) (T := 24) (F := 20) (lv' := [some (.ref 1021), some (.int (Int32.ofNat k)), some (.int (Int32.ofNat q)), some (.int 1)]) (st' := [.ref 1021]) (h1 := am_h w g) rfl (fun c3 => ?_) (fun c3 => ?_)
      · refine am_R.ites 2 (P := Int32.ofNat q < 0) (T := 33) (F := 28) (lv' := [some (.ref 1021), some (.int (Int32.ofNat k)), some (.int (Int32.ofNat q)), some (.int 1)]) (st' := [.ref 1021]) (h1 := am_h w g) rfl (fun c4 => ?_) (fun c4 => ?_)
        · exact absurd c4 (aw_nn q)
        · refine am_R.ites 3 (P := Int32.ofNat q ≤ 3) (T := 37) (F := 33) (lv' := [some (.ref 1021), some (.int (Int32.ofNat k)), some (.int (Int32.ofNat q)), some (.int 1)]) (st' := [.ref 1021]) (h1 := am_h w g) rfl (fun c5 => ?_) (fun c5 => ?_)
          · have c5 : q ≤ 3 := (am_leN (i := q) (n := 3) (by omega) (by omega)).mp c5
            refine am_R.nxs 1 (pc' := 38) (lv' := [some (.ref 1021), some (.int (Int32.ofNat k)), some (.int (Int32.ofNat q)), some (.int 1)]) (st' := [.ref 1021, .ref 1021]) (h1 := am_h w g) rfl ?_
            refine am_R.gf (pc' := 41) (v := .ref 1027) rfl (am_wf 21 (by decide) h21) rfl rfl rfl ?_
            refine am_R.nxs 1 (pc' := 42) (lv' := [some (.ref 1021), some (.int (Int32.ofNat k)), some (.int (Int32.ofNat q)), some (.int 1)]) (st' := [.int (Int32.ofNat k), .ref 1027, .ref 1021]) (h1 := am_h w g) rfl ?_
            refine am_R.ldi (i := k) (xs := ma) (pc' := 43) rfl (am_wf 27 (by decide) h27) (by omega) (by omega) rfl ?_
            refine am_R.ites 1 (P := ¬ (ma.getD k 0) = 0) (T := 50) (F := 46) (lv' := [some (.ref 1021), some (.int (Int32.ofNat k)), some (.int (Int32.ofNat q)), some (.int 1)]) (st' := [.ref 1021]) (h1 := am_h w g) rfl (fun c6 => ?_) (fun c6 => ?_)
            · refine am_R.nxs 1 (pc' := 51) (lv' := [some (.ref 1021), some (.int (Int32.ofNat k)), some (.int (Int32.ofNat q)), some (.int 1)]) (st' := [.int 0, .ref 1021]) (h1 := am_h w g) rfl ?_
              refine am_R.cv (a := 1021) (as' := [.int 0]) (r := []) (v := some (.int 0)) (h1 := am_h (am_pu w 21 (aw_c21 0 ty wr wd wt sn)) g) (pc' := 54) rfl rfl rfl rfl (am_wf 21 (by decide) h21) rfl rfl (aw_k99a (w := w) d h21 0 (by decide)) rfl ?_
              refine am_R.ites 1 (P := 0 = 0) (T := 59) (F := 57) (lv' := [some (.ref 1021), some (.int (Int32.ofNat k)), some (.int (Int32.ofNat q)), some (.int 1)]) (st' := []) (h1 := am_h (am_pu w 21 (aw_c21 0 ty wr wd wt sn)) g) rfl (fun c7 => ?_) (fun c7 => ?_)
              · refine am_R.nxs 1 (pc' := 60) (lv' := [some (.ref 1021), some (.int (Int32.ofNat k)), some (.int (Int32.ofNat q)), some (.int 1)]) (st' := [.ref 1021]) (h1 := am_h (am_pu w 21 (aw_c21 0 ty wr wd wt sn)) g) rfl ?_
                refine am_R.gf (pc' := 63) (v := .ref 1031) rfl (am_wf 21 (by decide) (rfl : (am_pu w 21 (aw_c21 0 ty wr wd wt sn)) 21 = _)) rfl rfl rfl ?_
                refine am_R.nxs 3 (pc' := 66) (lv' := [some (.ref 1021), some (.int (Int32.ofNat k)), some (.int (Int32.ofNat q)), some (.int 1)]) (st' := [.int (4 * Int32.ofNat k), .ref 1031]) (h1 := am_h (am_pu w 21 (aw_c21 0 ty wr wd wt sn)) g) rfl ?_
                rw [show (4 * Int32.ofNat k : Int32) = Int32.ofNat (4 * k) from am_mul 4 k]
                refine am_R.nxs 2 (pc' := 68) (lv' := [some (.ref 1021), some (.int (Int32.ofNat k)), some (.int (Int32.ofNat q)), some (.int 1)]) (st' := [.int (Int32.ofNat (4 * k) + Int32.ofNat q), .ref 1031]) (h1 := am_h (am_pu w 21 (aw_c21 0 ty wr wd wt sn)) g) rfl ?_
                rw [show (Int32.ofNat (4 * k) + Int32.ofNat q : Int32) = Int32.ofNat ((4 * k) + q) from am_add (4 * k) q]
                refine am_R.ldi (i := ((4 * k) + q)) (xs := co) (pc' := 69) rfl (am_wf 31 (by decide) h31) (by omega) (by omega) rfl ?_
                exact am_R.reti rfl rfl rfl
              · exact absurd rfl c7
            · exact absurd hm c6
          · have c5 : ¬ q ≤ 3 := fun hq9 => c5 ((am_leN (i := q) (n := 3) (by omega) (by omega)).mpr hq9)
            omega
      · exact absurd (by decide) c3
theorem aw_k140b {w : Nat → am_C} {g : am_H} (d : Nat) {ft ty wr wd wt sn : Int32} (h21 : w 21 = aw_c21 ft ty wr wd wt sn) {ma : List Int32} (h27 : w 27 = am_I 0 ma) (l27 : ma.length = 3) {k : Nat} (hk : k < 3) (v : Int32) (h5 : ¬ v < 0) (h6 : v ≤ 3) (hm : ma.getD k 0 = 0) : am_R (d + 1) 140 0 [some (.ref 1021), some (.int (Int32.ofNat k)), some (.int v), none] [] (am_h w g) (.inl (some (.int 0))) (am_h (am_pu w 21 (aw_c21 3 ty wr wd wt sn)) g) := by
  refine am_R.ites 2 (P := Int32.ofNat k < 0) (T := 13) (F := 4) (lv' := [some (.ref 1021), some (.int (Int32.ofNat k)), some (.int v), none]) (st' := []) (h1 := am_h w g) rfl (fun c1 => ?_) (fun c1 => ?_)
  · exact absurd c1 (aw_nn k)
  · refine am_R.ites 3 (P := 3 ≤ Int32.ofNat k) (T := 13) (F := 9) (lv' := [some (.ref 1021), some (.int (Int32.ofNat k)), some (.int v), none]) (st' := []) (h1 := am_h w g) rfl (fun c2 => ?_) (fun c2 => ?_)
    · have c2 : 3 ≤ k := (am_leN (i := 3) (n := k) (by omega) (by omega)).mp c2
      omega
    · have c2 : ¬ 3 ≤ k := fun hq9 => c2 ((am_leN (i := 3) (n := k) (by omega) (by omega)).mpr hq9)
      refine am_R.ites 6 (P := ¬ 1 = 0) (T := 24) (F := 20) (lv' := [some (.ref 1021), some (.int (Int32.ofNat k)), some (.int v), some (.int 1)]) (st' := [.ref 1021]) (h1 := am_h w g) rfl (fun c3 => ?_) (fun c3 => ?_)
      · refine am_R.ites 2 (P := v < 0) (T := 33) (F := 28) (lv' := [some (.ref 1021), some (.int (Int32.ofNat k)), some (.int v), some (.int 1)]) (st' := [.ref 1021]) (h1 := am_h w g) rfl (fun c4 => ?_) (fun c4 => ?_)
        · exact absurd c4 h5
        · refine am_R.ites 3 (P := v ≤ 3) (T := 37) (F := 33) (lv' := [some (.ref 1021), some (.int (Int32.ofNat k)), some (.int v), some (.int 1)]) (st' := [.ref 1021]) (h1 := am_h w g) rfl (fun c5 => ?_) (fun c5 => ?_)
          · refine am_R.nxs 1 (pc' := 38) (lv' := [some (.ref 1021), some (.int (Int32.ofNat k)), some (.int v), some (.int 1)]) (st' := [.ref 1021, .ref 1021]) (h1 := am_h w g) rfl ?_
            refine am_R.gf (pc' := 41) (v := .ref 1027) rfl (am_wf 21 (by decide) h21) rfl rfl rfl ?_
            refine am_R.nxs 1 (pc' := 42) (lv' := [some (.ref 1021), some (.int (Int32.ofNat k)), some (.int v), some (.int 1)]) (st' := [.int (Int32.ofNat k), .ref 1027, .ref 1021]) (h1 := am_h w g) rfl ?_
            refine am_R.ldi (i := k) (xs := ma) (pc' := 43) rfl (am_wf 27 (by decide) h27) (by omega) (by omega) rfl ?_
            refine am_R.ites 1 (P := ¬ (ma.getD k 0) = 0) (T := 50) (F := 46) (lv' := [some (.ref 1021), some (.int (Int32.ofNat k)), some (.int v), some (.int 1)]) (st' := [.ref 1021]) (h1 := am_h w g) rfl (fun c6 => ?_) (fun c6 => ?_)
            · exact absurd hm c6
            · refine am_R.nxs 2 (pc' := 51) (lv' := [some (.ref 1021), some (.int (Int32.ofNat k)), some (.int v), some (.int 1)]) (st' := [.int 3, .ref 1021]) (h1 := am_h w g) rfl ?_
              refine am_R.cv (a := 1021) (as' := [.int 3]) (r := []) (v := some (.int 1)) (h1 := am_h (am_pu w 21 (aw_c21 3 ty wr wd wt sn)) g) (pc' := 54) rfl rfl rfl rfl (am_wf 21 (by decide) h21) rfl rfl (aw_k99b (w := w) d h21 3 (by decide)) rfl ?_
              refine am_R.ites 1 (P := 1 = 0) (T := 59) (F := 57) (lv' := [some (.ref 1021), some (.int (Int32.ofNat k)), some (.int v), some (.int 1)]) (st' := []) (h1 := am_h (am_pu w 21 (aw_c21 3 ty wr wd wt sn)) g) rfl (fun c7 => ?_) (fun c7 => ?_)
              · exact absurd c7 (by decide)
              · refine am_R.nxs 1 (pc' := 58) (lv' := [some (.ref 1021), some (.int (Int32.ofNat k)), some (.int v), some (.int 1)]) (st' := [.int 0]) (h1 := am_h (am_pu w 21 (aw_c21 3 ty wr wd wt sn)) g) rfl ?_
                exact am_R.reti rfl rfl rfl
          · exact absurd h6 c5
      · exact absurd (by decide) c3
theorem aw_k140d {w : Nat → am_C} {g : am_H} (d : Nat) {ft ty wr wd wt sn : Int32} (h21 : w 21 = aw_c21 ft ty wr wd wt sn) {k : Nat} (hk : k < 3) (v : Int32) (hv : v < 0 ∨ ¬ v ≤ 3) : am_R (d + 1) 140 0 [some (.ref 1021), some (.int (Int32.ofNat k)), some (.int v), none] [] (am_h w g) (.inl (some (.int 0))) (am_h (am_pu w 21 (aw_c21 2 ty wr wd wt sn)) g) := by
  refine am_R.ites 2 (P := Int32.ofNat k < 0) (T := 13) (F := 4) (lv' := [some (.ref 1021), some (.int (Int32.ofNat k)), some (.int v), none]) (st' := []) (h1 := am_h w g) rfl (fun c1 => ?_) (fun c1 => ?_)
  · exact absurd c1 (aw_nn k)
  · refine am_R.ites 3 (P := 3 ≤ Int32.ofNat k) (T := 13) (F := 9) (lv' := [some (.ref 1021), some (.int (Int32.ofNat k)), some (.int v), none]) (st' := []) (h1 := am_h w g) rfl (fun c2 => ?_) (fun c2 => ?_)
    · have c2 : 3 ≤ k := (am_leN (i := 3) (n := k) (by omega) (by omega)).mp c2
      omega
    · have c2 : ¬ 3 ≤ k := fun hq9 => c2 ((am_leN (i := 3) (n := k) (by omega) (by omega)).mpr hq9)
      refine am_R.ites 6 (P := ¬ 1 = 0) (T := 24) (F := 20) (lv' := [some (.ref 1021), some (.int (Int32.ofNat k)), some (.int v), some (.int 1)]) (st' := [.ref 1021]) (h1 := am_h w g) rfl (fun c3 => ?_) (fun c3 => ?_)
      · refine am_R.ites 2 (P := v < 0) (T := 33) (F := 28) (lv' := [some (.ref 1021), some (.int (Int32.ofNat k)), some (.int v), some (.int 1)]) (st' := [.ref 1021]) (h1 := am_h w g) rfl (fun c4 => ?_) (fun c4 => ?_)
        · refine am_R.nxs 2 (pc' := 51) (lv' := [some (.ref 1021), some (.int (Int32.ofNat k)), some (.int v), some (.int 1)]) (st' := [.int 2, .ref 1021]) (h1 := am_h w g) rfl ?_
          refine am_R.cv (a := 1021) (as' := [.int 2]) (r := []) (v := some (.int 1)) (h1 := am_h (am_pu w 21 (aw_c21 2 ty wr wd wt sn)) g) (pc' := 54) rfl rfl rfl rfl (am_wf 21 (by decide) h21) rfl rfl (aw_k99b (w := w) d h21 2 (by decide)) rfl ?_
          refine am_R.ites 1 (P := 1 = 0) (T := 59) (F := 57) (lv' := [some (.ref 1021), some (.int (Int32.ofNat k)), some (.int v), some (.int 1)]) (st' := []) (h1 := am_h (am_pu w 21 (aw_c21 2 ty wr wd wt sn)) g) rfl (fun c5 => ?_) (fun c5 => ?_)
          · exact absurd c5 (by decide)
          · refine am_R.nxs 1 (pc' := 58) (lv' := [some (.ref 1021), some (.int (Int32.ofNat k)), some (.int v), some (.int 1)]) (st' := [.int 0]) (h1 := am_h (am_pu w 21 (aw_c21 2 ty wr wd wt sn)) g) rfl ?_
            exact am_R.reti rfl rfl rfl
        · refine am_R.ites 3 (P := v ≤ 3) (T := 37) (F := 33) (lv' := [some (.ref 1021), some (.int (Int32.ofNat k)), some (.int v), some (.int 1)]) (st' := [.ref 1021]) (h1 := am_h w g) rfl (fun c6 => ?_) (fun c6 => ?_)
          · exact absurd hv (fun q => q.elim c4 (fun q => q c6))
          · refine am_R.nxs 2 (pc' := 51) (lv' := [some (.ref 1021), some (.int (Int32.ofNat k)), some (.int v), some (.int 1)]) (st' := [.int 2, .ref 1021]) (h1 := am_h w g) rfl ?_
            refine am_R.cv (a := 1021) (as' := [.int 2]) (r := []) (v := some (.int 1)) (h1 := am_h (am_pu w 21 (aw_c21 2 ty wr wd wt sn)) g) (pc' := 54) rfl rfl rfl rfl (am_wf 21 (by decide) h21) rfl rfl (aw_k99b (w := w) d h21 2 (by decide)) rfl ?_
            refine am_R.ites 1 (P := 1 = 0) (T := 59) (F := 57) (lv' := [some (.ref 1021), some (.int (Int32.ofNat k)), some (.int v), some (.int 1)]) (st' := []) (h1 := am_h (am_pu w 21 (aw_c21 2 ty wr wd wt sn)) g) rfl (fun c7 => ?_) (fun c7 => ?_)
            · exact absurd c7 (by decide)
            · refine am_R.nxs 1 (pc' := 58) (lv' := [some (.ref 1021), some (.int (Int32.ofNat k)), some (.int v), some (.int 1)]) (st' := [.int 0]) (h1 := am_h (am_pu w 21 (aw_c21 2 ty wr wd wt sn)) g) rfl ?_
              exact am_R.reti rfl rfl rfl
      · exact absurd (by decide) c3
theorem aw_k140c {w : Nat → am_C} {g : am_H} (d : Nat) {ft ty wr wd wt sn : Int32} (h21 : w 21 = aw_c21 ft ty wr wd wt sn) (s v : Int32) (hs : s < 0 ∨ 3 ≤ s) : am_R (d + 1) 140 0 [some (.ref 1021), some (.int s), some (.int v), none] [] (am_h w g) (.inl (some (.int 0))) (am_h (am_pu w 21 (aw_c21 1 ty wr wd wt sn)) g) := by
  refine am_R.ites 2 (P := s < 0) (T := 13) (F := 4) (lv' := [some (.ref 1021), some (.int s), some (.int v), none]) (st' := []) (h1 := am_h w g) rfl (fun c1 => ?_) (fun c1 => ?_)
  · refine am_R.ites 5 (P := ¬ 0 = 0) (T := 24) (F := 20) (lv' := [some (.ref 1021), some (.int s), some (.int v), some (.int 0)]) (st' := [.ref 1021]) (h1 := am_h w g) rfl (fun c2 => ?_) (fun c2 => ?_)
    · exact absurd c2 (by decide)
    · refine am_R.nxs 2 (pc' := 51) (lv' := [some (.ref 1021), some (.int s), some (.int v), some (.int 0)]) (st' := [.int 1, .ref 1021]) (h1 := am_h w g) rfl ?_
      refine am_R.cv (a := 1021) (as' := [.int 1]) (r := []) (v := some (.int 1)) (h1 := am_h (am_pu w 21 (aw_c21 1 ty wr wd wt sn)) g) (pc' := 54) rfl rfl rfl rfl (am_wf 21 (by decide) h21) rfl rfl (aw_k99b (w := w) d h21 1 (by decide)) rfl ?_
      refine am_R.ites 1 (P := 1 = 0) (T := 59) (F := 57) (lv' := [some (.ref 1021), some (.int s), some (.int v), some (.int 0)]) (st' := []) (h1 := am_h (am_pu w 21 (aw_c21 1 ty wr wd wt sn)) g) rfl (fun c3 => ?_) (fun c3 => ?_)
      · exact absurd c3 (by decide)
      · refine am_R.nxs 1 (pc' := 58) (lv' := [some (.ref 1021), some (.int s), some (.int v), some (.int 0)]) (st' := [.int 0]) (h1 := am_h (am_pu w 21 (aw_c21 1 ty wr wd wt sn)) g) rfl ?_
        exact am_R.reti rfl rfl rfl
  · refine am_R.ites 3 (P := 3 ≤ s) (T := 13) (F := 9) (lv' := [some (.ref 1021), some (.int s), some (.int v), none]) (st' := []) (h1 := am_h w g) rfl (fun c4 => ?_) (fun c4 => ?_)
    · refine am_R.ites 5 (P := ¬ 0 = 0) (T := 24) (F := 20) (lv' := [some (.ref 1021), some (.int s), some (.int v), some (.int 0)]) (st' := [.ref 1021]) (h1 := am_h w g) rfl (fun c5 => ?_) (fun c5 => ?_)
      · exact absurd c5 (by decide)
      · refine am_R.nxs 2 (pc' := 51) (lv' := [some (.ref 1021), some (.int s), some (.int v), some (.int 0)]) (st' := [.int 1, .ref 1021]) (h1 := am_h w g) rfl ?_
        refine am_R.cv (a := 1021) (as' := [.int 1]) (r := []) (v := some (.int 1)) (h1 := am_h (am_pu w 21 (aw_c21 1 ty wr wd wt sn)) g) (pc' := 54) rfl rfl rfl rfl (am_wf 21 (by decide) h21) rfl rfl (aw_k99b (w := w) d h21 1 (by decide)) rfl ?_
        refine am_R.ites 1 (P := 1 = 0) (T := 59) (F := 57) (lv' := [some (.ref 1021), some (.int s), some (.int v), some (.int 0)]) (st' := []) (h1 := am_h (am_pu w 21 (aw_c21 1 ty wr wd wt sn)) g) rfl (fun c6 => ?_) (fun c6 => ?_)
        · exact absurd c6 (by decide)
        · refine am_R.nxs 1 (pc' := 58) (lv' := [some (.ref 1021), some (.int s), some (.int v), some (.int 0)]) (st' := [.int 0]) (h1 := am_h (am_pu w 21 (aw_c21 1 ty wr wd wt sn)) g) rfl ?_
          exact am_R.reti rfl rfl rfl
    · exact absurd hs (fun q => q.elim c1 c4)
