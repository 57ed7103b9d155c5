/-! Short methods of both sides: length, wipe, type, charAt, thrown. -/
theorem aw_k5 {w : Nat → am_C} {g : am_H} (d : Nat) {tl pl sp : Nat} (h1 : w 1 = aw_c1 tl pl sp) : am_R d 5 0 [some (.ref 1001)] [] (am_h w g) (.inl (some (.int (Int32.ofNat pl)))) (am_h w g) := by
  refine am_R.nxs 1 (pc' := 1) (lv' := [some (.ref 1001)]) (st' := [.ref 1001]) (h1 := am_h w g) rfl ?_
  refine am_R.gf (pc' := 4) (v := .int (Int32.ofNat pl)) rfl (am_wf 1 (by decide) h1) rfl rfl rfl ?_
  exact am_R.reti rfl rfl rfl
theorem aw_k148 {w : Nat → am_C} {g : am_H} (d : Nat) {ft ty wr wd wt sn : Int32} (h21 : w 21 = aw_c21 ft ty wr wd wt sn) : am_R d 148 0 [some (.ref 1021)] [] (am_h w g) (.inl (some (.int wr))) (am_h (am_pu w 21 (aw_c21 0 ty wr wd wt sn)) g) := by
  refine am_R.nxs 2 (pc' := 2) (lv' := [some (.ref 1021)]) (st' := [.int 0, .ref 1021]) (h1 := am_h w g) rfl ?_
  refine am_R.pf (k := 0) (pc' := 5) rfl (am_wf 21 (by decide) h21) rfl (Nat.le_of_ble_eq_true rfl) rfl (fun q => by cases q) (am_ws (k := 21) (by decide) (by decide)) rfl ?_
  refine am_R.nxs 1 (pc' := 6) (lv' := [some (.ref 1021)]) (st' := [.ref 1021]) (h1 := am_h (am_pu w 21 (aw_c21 0 ty wr wd wt sn)) g) rfl ?_
  refine am_R.gf (pc' := 9) (v := .int wr) rfl (am_wf 21 (by decide) (rfl : (am_pu w 21 (aw_c21 0 ty wr wd wt sn)) 21 = _)) rfl rfl rfl ?_
  exact am_R.reti rfl rfl rfl
theorem aw_k95 {w : Nat → am_C} {g : am_H} (d : Nat) {ft ty wr wd wt sn : Int32} (h21 : w 21 = aw_c21 ft ty wr wd wt sn) : am_R d 95 0 [some (.ref 1021)] [] (am_h w g) (.inl (some (.int ft))) (am_h w g) := by
  refine am_R.nxs 1 (pc' := 1) (lv' := [some (.ref 1021)]) (st' := [.ref 1021]) (h1 := am_h w g) rfl ?_
  refine am_R.gf (pc' := 4) (v := .int ft) rfl (am_wf 21 (by decide) h21) rfl rfl rfl ?_
  exact am_R.reti rfl rfl rfl
theorem aw_k4 {w : Nat → am_C} {g : am_H} (d : Nat) {tl pl sp : Nat} (h1 : w 1 = aw_c1 tl pl sp) : am_R d 4 0 [some (.ref 1001), none] [] (am_h w g) (.inl (some (.int (Int32.ofNat tl)))) (am_h (am_pu w 1 (aw_c1 0 pl sp)) g) := by
  refine am_R.nxs 1 (pc' := 1) (lv' := [some (.ref 1001), none]) (st' := [.ref 1001]) (h1 := am_h w g) rfl ?_
  refine am_R.gf (pc' := 4) (v := .int (Int32.ofNat tl)) rfl (am_wf 1 (by decide) h1) rfl rfl rfl ?_
  refine am_R.nxs 3 (pc' := 7) (lv' := [some (.ref 1001), some (.int (Int32.ofNat tl))]) (st' := [.int 0, .ref 1001]) (h1 := am_h w g) rfl ?_
  refine am_R.pf (k := 1) (pc' := 10) rfl (am_wf 1 (by decide) h1) rfl (Nat.le_of_ble_eq_true rfl) rfl (fun q => by cases q) (am_ws (k := 1) (by decide) (by decide)) rfl ?_
  refine am_R.nxs 1 (pc' := 11) (lv' := [some (.ref 1001), some (.int (Int32.ofNat tl))]) (st' := [.int (Int32.ofNat tl)]) (h1 := am_h (am_pu w 1 (aw_c1 0 pl sp)) g) rfl ?_
  exact am_R.reti rfl rfl rfl
theorem aw_k97 {w : Nat → am_C} {g : am_H} (d : Nat) {ft ty wr wd wt sn : Int32} (h21 : w 21 = aw_c21 ft ty wr wd wt sn) : am_R d 97 0 [some (.ref 1021), none] [] (am_h w g) (.inl (some (.int ty))) (am_h (am_pu w 21 (aw_c21 0 0 wr wd wt sn)) g) := by
  refine am_R.nxs 2 (pc' := 2) (lv' := [some (.ref 1021), none]) (st' := [.int 0, .ref 1021]) (h1 := am_h w g) rfl ?_
  refine am_R.pf (k := 0) (pc' := 5) rfl (am_wf 21 (by decide) h21) rfl (Nat.le_of_ble_eq_true rfl) rfl (fun q => by cases q) (am_ws (k := 21) (by decide) (by decide)) rfl ?_
  refine am_R.nxs 1 (pc' := 6) (lv' := [some (.ref 1021), none]) (st' := [.ref 1021]) (h1 := am_h (am_pu w 21 (aw_c21 0 ty wr wd wt sn)) g) rfl ?_
  refine am_R.gf (pc' := 9) (v := .int ty) rfl (am_wf 21 (by decide) (rfl : (am_pu w 21 (aw_c21 0 ty wr wd wt sn)) 21 = _)) rfl rfl rfl ?_
  refine am_R.nxs 3 (pc' := 12) (lv' := [some (.ref 1021), some (.int ty)]) (st' := [.int 0, .ref 1021]) (h1 := am_h (am_pu w 21 (aw_c21 0 ty wr wd wt sn)) g) rfl ?_
  refine am_R.pf (k := 1) (pc' := 15) rfl (am_wf 21 (by decide) (rfl : (am_pu w 21 (aw_c21 0 ty wr wd wt sn)) 21 = _)) rfl (Nat.le_of_ble_eq_true rfl) rfl (fun q => by cases q) (am_wsE (k := 21) (w' := (am_pu w 21 (aw_c21 0 0 wr wd wt sn))) (by decide) (by decide) (by funext j; simp only [am_pu]; (repeat' split) <;> first | rfl | omega)) rfl ?_
  refine am_R.nxs 1 (pc' := 16) (lv' := [some (.ref 1021), some (.int ty)]) (st' := [.int ty]) (h1 := am_h (am_pu w 21 (aw_c21 0 0 wr wd wt sn)) g) rfl ?_
  exact am_R.reti rfl rfl rfl
theorem aw_k6a {w : Nat → am_C} {g : am_H} (d : Nat) {tl pl sp : Nat} (h1 : w 1 = aw_c1 tl pl sp) {pg : List Int32} (h3 : w 3 = am_I 1 pg) (hl : pg.length = 480) (hp : pl ≤ 480) (i : Nat) (hi : i < pl) (hfit : ∀ k, k < pl → fits .char (.int (pg.getD k 0)) = true) : am_R d 6 0 [some (.ref 1001), some (.int (Int32.ofNat i))] [] (am_h w g) (.inl (some (.int (pg.getD i 0)))) (am_h w g) := by
  refine am_R.ites 2 (P := Int32.ofNat i < 0) (T := 21) (F := 4) (lv' := [some (.ref 1001), some (.int (Int32.ofNat i))]) (st' := []) (h1 := am_h w g) rfl (fun c1 => ?_) (fun c1 => ?_)
  · have c1 : i < 0 := (am_ltN (i := i) (n := 0) (by omega) (by omega)).mp c1
    omega
  · have c1 : ¬ i < 0 := fun hq9 => c1 ((am_ltN (i := i) (n := 0) (by omega) (by omega)).mpr hq9)
    refine am_R.nxs 2 (pc' := 6) (lv' := [some (.ref 1001), some (.int (Int32.ofNat i))]) (st' := [.ref 1001, .int (Int32.ofNat i)]) (h1 := am_h w g) rfl ?_
    refine am_R.gf (pc' := 9) (v := .int (Int32.ofNat pl)) rfl (am_wf 1 (by decide) h1) rfl rfl rfl ?_
    refine am_R.ites 1 (P := Int32.ofNat pl ≤ Int32.ofNat i) (T := 21) (F := 12) (lv' := [some (.ref 1001), some (.int (Int32.ofNat i))]) (st' := []) (h1 := am_h w g) rfl (fun c2 => ?_) (fun c2 => ?_)
    · have c2 : pl ≤ i := (am_leN (i := pl) (n := i) (by omega) (by omega)).mp c2
      omega
    · have c2 : ¬ pl ≤ i := fun hq9 => c2 ((am_leN (i := pl) (n := i) (by omega) (by omega)).mpr hq9)
      refine am_R.nxs 1 (pc' := 13) (lv' := [some (.ref 1001), some (.int (Int32.ofNat i))]) (st' := [.ref 1001]) (h1 := am_h w g) rfl ?_
      refine am_R.gf (pc' := 16) (v := .ref 1003) rfl (am_wf 1 (by decide) h1) rfl rfl rfl ?_
      refine am_R.nxs 1 (pc' := 17) (lv' := [some (.ref 1001), some (.int (Int32.ofNat i))]) (st' := [.int (Int32.ofNat i), .ref 1003]) (h1 := am_h w g) rfl ?_
      refine am_R.ldc (i := i) (xs := pg) (pc' := 18) rfl (am_wf 3 (by decide) h3) (by omega) (by omega) rfl ?_
      refine am_R.nxs 1 (pc' := 23) (lv' := [some (.ref 1001), some (.int (Int32.ofNat i))]) (st' := [.int (pg.getD i 0)]) (h1 := am_h w g) rfl ?_
      exact am_R.reti rfl rfl (hfit _ (by omega))
theorem aw_k6b {w : Nat → am_C} {g : am_H} (d : Nat) {tl pl sp : Nat} (h1 : w 1 = aw_c1 tl pl sp) (v : Int32) (hv : v < 0 ∨ Int32.ofNat pl ≤ v) : am_R d 6 0 [some (.ref 1001), some (.int v)] [] (am_h w g) (.inl (some (.int 32))) (am_h w g) := by
  refine am_R.ites 2 (P := v < 0) (T := 21) (F := 4) (lv' := [some (.ref 1001), some (.int v)]) (st' := []) (h1 := am_h w g) rfl (fun c1 => ?_) (fun c1 => ?_)
  · refine am_R.nxs 1 (pc' := 23) (lv' := [some (.ref 1001), some (.int v)]) (st' := [.int 32]) (h1 := am_h w g) rfl ?_
    exact am_R.reti rfl rfl rfl
  · refine am_R.nxs 2 (pc' := 6) (lv' := [some (.ref 1001), some (.int v)]) (st' := [.ref 1001, .int v]) (h1 := am_h w g) rfl ?_
    refine am_R.gf (pc' := 9) (v := .int (Int32.ofNat pl)) rfl (am_wf 1 (by decide) h1) rfl rfl rfl ?_
    refine am_R.ites 1 (P := Int32.ofNat pl ≤ v) (T := 21) (F := 12) (lv' := [some (.ref 1001), some (.int v)]) (st' := []) (h1 := am_h w g) rfl (fun c2 => ?_) (fun c2 => ?_)
    · refine am_R.nxs 1 (pc' := 23) (lv' := [some (.ref 1001), some (.int v)]) (st' := [.int 32]) (h1 := am_h w g) rfl ?_
      exact am_R.reti rfl rfl rfl
    · exact absurd hv (fun q => q.elim c1 c2)
theorem aw_k3a {w : Nat → am_C} {g : am_H} (d : Nat) {tl pl sp : Nat} (h1 : w 1 = aw_c1 tl pl sp) {tx : List Int32} (h2 : w 2 = am_I 1 tx) (hl : tx.length = 120) (c : Int32) (ha : ¬ c < 32) (hb : ¬ 126 < c) (ht : tl < 120) (hc1 : 0 ≤ c) (hc2 : c ≤ 65535) : am_R d 3 0 [some (.ref 1001), some (.int c)] [] (am_h w g) (.inl (some (.int 1))) (am_h (am_pu (am_pu w 2 (am_I 1 (tx.set tl c))) 1 (aw_c1 (tl + 1) pl sp)) g) := by
  refine am_R.ites 3 (P := c < 32) (T := 21) (F := 6) (lv' := [some (.ref 1001), some (.int c)]) (st' := []) (h1 := am_h w g) rfl (fun c1 => ?_) (fun c1 => ?_)
  · exact absurd c1 ha
  · refine am_R.ites 3 (P := 126 < c) (T := 21) (F := 12) (lv' := [some (.ref 1001), some (.int c)]) (st' := []) (h1 := am_h w g) rfl (fun c2 => ?_) (fun c2 => ?_)
    · exact absurd c2 hb
    · refine am_R.nxs 1 (pc' := 13) (lv' := [some (.ref 1001), some (.int c)]) (st' := [.ref 1001]) (h1 := am_h w g) rfl ?_
      refine am_R.gf (pc' := 16) (v := .int (Int32.ofNat tl)) rfl (am_wf 1 (by decide) h1) rfl rfl rfl ?_
      refine am_R.ites 2 (P := Int32.ofNat tl < 120) (T := 23) (F := 21) (lv' := [some (.ref 1001), some (.int c)]) (st' := []) (h1 := am_h w g) rfl (fun c3 => ?_) (fun c3 => ?_)
      · have c3 : tl < 120 := (am_ltN (i := tl) (n := 120) (by omega) (by omega)).mp c3
        refine am_R.nxs 1 (pc' := 24) (lv' := [some (.ref 1001), some (.int c)]) (st' := [.ref 1001]) (h1 := am_h w g) rfl ?_
        refine am_R.gf (pc' := 27) (v := .ref 1002) rfl (am_wf 1 (by decide) h1) rfl rfl rfl ?_
        refine am_R.nxs 1 (pc' := 28) (lv' := [some (.ref 1001), some (.int c)]) (st' := [.ref 1001, .ref 1002]) (h1 := am_h w g) rfl ?_
        refine am_R.gf (pc' := 31) (v := .int (Int32.ofNat tl)) rfl (am_wf 1 (by decide) h1) rfl rfl rfl ?_
        refine am_R.nxs 1 (pc' := 32) (lv' := [some (.ref 1001), some (.int c)]) (st' := [.int c, .int (Int32.ofNat tl), .ref 1002]) (h1 := am_h w g) rfl ?_
        refine am_R.stc (i := tl) (xs := tx) (pc' := 33) rfl (am_wf 2 (by decide) h2) (by omega) (by omega) (⟨hc1, hc2⟩) (am_ws (k := 2) (by decide) (by decide)) rfl ?_
        refine am_R.nxs 2 (pc' := 35) (lv' := [some (.ref 1001), some (.int c)]) (st' := [.ref 1001, .ref 1001]) (h1 := am_h (am_pu w 2 (am_I 1 (tx.set tl c))) g) rfl ?_
        refine am_R.gf (pc' := 38) (v := .int (Int32.ofNat tl)) rfl (am_wf 1 (by decide) h1) rfl rfl rfl ?_
        refine am_R.nxs 2 (pc' := 40) (lv' := [some (.ref 1001), some (.int c)]) (st' := [.int (Int32.ofNat tl + 1), .ref 1001]) (h1 := am_h (am_pu w 2 (am_I 1 (tx.set tl c))) g) rfl ?_
        rw [show (Int32.ofNat tl + 1 : Int32) = Int32.ofNat (tl + 1) from am_add tl 1]
        refine am_R.pf (k := 1) (pc' := 43) rfl (am_wf 1 (by decide) h1) rfl (Nat.le_of_ble_eq_true rfl) rfl (fun q => by cases q) (am_ws (k := 1) (by decide) (by decide)) rfl ?_
        refine am_R.nxs 1 (pc' := 44) (lv' := [some (.ref 1001), some (.int c)]) (st' := [.int 1]) (h1 := am_h (am_pu (am_pu w 2 (am_I 1 (tx.set tl c))) 1 (aw_c1 (tl + 1) pl sp)) g) rfl ?_
        exact am_R.reti rfl rfl rfl
      · have c3 : ¬ tl < 120 := fun hq9 => c3 ((am_ltN (i := tl) (n := 120) (by omega) (by omega)).mpr hq9)
        omega
theorem aw_k3b {w : Nat → am_C} {g : am_H} (d : Nat) {tl pl sp : Nat} (h1 : w 1 = aw_c1 tl pl sp) (c : Int32) (hn : c < 32 ∨ 126 < c ∨ 120 ≤ tl) (ht : tl ≤ 120) : am_R d 3 0 [some (.ref 1001), some (.int c)] [] (am_h w g) (.inl (some (.int 0))) (am_h w g) := by
  refine am_R.ites 3 (P := c < 32) (T := 21) (F := 6) (lv' := [some (.ref 1001), some (.int c)]) (st' := []) (h1 := am_h w g) rfl (fun c1 => ?_) (fun c1 => ?_)
  · refine am_R.nxs 1 (pc' := 22) (lv' := [some (.ref 1001), some (.int c)]) (st' := [.int 0]) (h1 := am_h w g) rfl ?_
    exact am_R.reti rfl rfl rfl
  · refine am_R.ites 3 (P := 126 < c) (T := 21) (F := 12) (lv' := [some (.ref 1001), some (.int c)]) (st' := []) (h1 := am_h w g) rfl (fun c2 => ?_) (fun c2 => ?_)
    · refine am_R.nxs 1 (pc' := 22) (lv' := [some (.ref 1001), some (.int c)]) (st' := [.int 0]) (h1 := am_h w g) rfl ?_
      exact am_R.reti rfl rfl rfl
    · refine am_R.nxs 1 (pc' := 13) (lv' := [some (.ref 1001), some (.int c)]) (st' := [.ref 1001]) (h1 := am_h w g) rfl ?_
      refine am_R.gf (pc' := 16) (v := .int (Int32.ofNat tl)) rfl (am_wf 1 (by decide) h1) rfl rfl rfl ?_
      refine am_R.ites 2 (P := Int32.ofNat tl < 120) (T := 23) (F := 21) (lv' := [some (.ref 1001), some (.int c)]) (st' := []) (h1 := am_h w g) rfl (fun c3 => ?_) (fun c3 => ?_)
      · have c3 : tl < 120 := (am_ltN (i := tl) (n := 120) (by omega) (by omega)).mp c3
        exact absurd hn (fun q => q.elim c1 (fun q => q.elim c2 (fun q => by omega)))
      · have c3 : ¬ tl < 120 := fun hq9 => c3 ((am_ltN (i := tl) (n := 120) (by omega) (by omega)).mpr hq9)
        refine am_R.nxs 1 (pc' := 22) (lv' := [some (.ref 1001), some (.int c)]) (st' := [.int 0]) (h1 := am_h w g) rfl ?_
        exact am_R.reti rfl rfl rfl
theorem aw_k96a {w : Nat → am_C} {g : am_H} (d : Nat) {tl pl : Nat} {ft wd wt sn : Int32} (h21 : w 21 = aw_c21 ft (Int32.ofNat tl) (Int32.ofNat pl) wd wt sn) {mt : List Int32} (h22 : w 22 = am_I 0 mt) (hl : mt.length = 120) (c : Int32) (ha : ¬ c < 32) (hb : ¬ 126 < c) (ht : tl < 120) : am_R d 96 0 [some (.ref 1021), some (.int c)] [] (am_h w g) (.inl (some (.int 1))) (am_h (am_pu (am_pu w 21 (aw_c21 0 (Int32.ofNat (tl + 1)) (Int32.ofNat pl) wd wt sn)) 22 (am_I 0 (mt.set tl c))) g) := by
  refine am_R.nxs 2 (pc' := 2) (lv' := [some (.ref 1021), some (.int c)]) (st' := [.int 0, .ref 1021]) (h1 := am_h w g) rfl ?_
  refine am_R.pf (k := 0) (pc' := 5) rfl (am_wf 21 (by decide) h21) rfl (Nat.le_of_ble_eq_true rfl) rfl (fun q => by cases q) (am_ws (k := 21) (by decide) (by decide)) rfl ?_
  refine am_R.ites 3 (P := c < 32) (T := 26) (F := 11) (lv' := [some (.ref 1021), some (.int c)]) (st' := []) (h1 := am_h (am_pu w 21 (aw_c21 0 (Int32.ofNat tl) (Int32.ofNat pl) wd wt sn)) g) rfl (fun c1 => ?_) (fun c1 => ?_)
  · exact absurd c1 ha
  · refine am_R.ites 3 (P := 126 < c) (T := 26) (F := 17) (lv' := [some (.ref 1021), some (.int c)]) (st' := []) (h1 := am_h (am_pu w 21 (aw_c21 0 (Int32.ofNat tl) (Int32.ofNat pl) wd wt sn)) g) rfl (fun c2 => ?_) (fun c2 => ?_)
    · exact absurd c2 hb
    · refine am_R.nxs 1 (pc' := 18) (lv' := [some (.ref 1021), some (.int c)]) (st' := [.ref 1021]) (h1 := am_h (am_pu w 21 (aw_c21 0 (Int32.ofNat tl) (Int32.ofNat pl) wd wt sn)) g) rfl ?_
      refine am_R.gf (pc' := 21) (v := .int (Int32.ofNat tl)) rfl (am_wf 21 (by decide) (rfl : (am_pu w 21 (aw_c21 0 (Int32.ofNat tl) (Int32.ofNat pl) wd wt sn)) 21 = _)) rfl rfl rfl ?_
      refine am_R.ites 2 (P := ¬ Int32.ofNat tl = 120) (T := 28) (F := 26) (lv' := [some (.ref 1021), some (.int c)]) (st' := []) (h1 := am_h (am_pu w 21 (aw_c21 0 (Int32.ofNat tl) (Int32.ofNat pl) wd wt sn)) g) rfl (fun c3 => ?_) (fun c3 => ?_)
      · have c3 : ¬ tl = 120 := fun hq9 => c3 ((am_eqN (i := tl) (n := 120) (by omega) (by omega)).mpr hq9)
        refine am_R.nxs 1 (pc' := 29) (lv' := [some (.ref 1021), some (.int c)]) (st' := [.ref 1021]) (h1 := am_h (am_pu w 21 (aw_c21 0 (Int32.ofNat tl) (Int32.ofNat pl) wd wt sn)) g) rfl ?_
        refine am_R.gf (pc' := 32) (v := .ref 1022) rfl (am_wf 21 (by decide) (rfl : (am_pu w 21 (aw_c21 0 (Int32.ofNat tl) (Int32.ofNat pl) wd wt sn)) 21 = _)) rfl rfl rfl ?_
        refine am_R.nxs 1 (pc' := 33) (lv' := [some (.ref 1021), some (.int c)]) (st' := [.ref 1021, .ref 1022]) (h1 := am_h (am_pu w 21 (aw_c21 0 (Int32.ofNat tl) (Int32.ofNat pl) wd wt sn)) g) rfl ?_
        refine am_R.gf (pc' := 36) (v := .int (Int32.ofNat tl)) rfl (am_wf 21 (by decide) (rfl : (am_pu w 21 (aw_c21 0 (Int32.ofNat tl) (Int32.ofNat pl) wd wt sn)) 21 = _)) rfl rfl rfl ?_
        refine am_R.nxs 1 (pc' := 37) (lv' := [some (.ref 1021), some (.int c)]) (st' := [.int c, .int (Int32.ofNat tl), .ref 1022]) (h1 := am_h (am_pu w 21 (aw_c21 0 (Int32.ofNat tl) (Int32.ofNat pl) wd wt sn)) g) rfl ?_
        refine am_R.sti (i := tl) (xs := mt) (pc' := 38) rfl (am_wf 22 (by decide) h22) (by omega) (by omega) (am_ws (k := 22) (by decide) (by decide)) rfl ?_
        refine am_R.nxs 2 (pc' := 40) (lv' := [some (.ref 1021), some (.int c)]) (st' := [.ref 1021, .ref 1021]) (h1 := am_h (am_pu (am_pu w 21 (aw_c21 0 (Int32.ofNat tl) (Int32.ofNat pl) wd wt sn)) 22 (am_I 0 (mt.set tl c))) g) rfl ?_
        refine am_R.gf (pc' := 43) (v := .int (Int32.ofNat tl)) rfl (am_wf 21 (by decide) (rfl : (am_pu w 21 (aw_c21 0 (Int32.ofNat tl) (Int32.ofNat pl) wd wt sn)) 21 = _)) rfl rfl rfl ?_
        refine am_R.nxs 2 (pc' := 45) (lv' := [some (.ref 1021), some (.int c)]) (st' := [.int (Int32.ofNat tl + 1), .ref 1021]) (h1 := am_h (am_pu (am_pu w 21 (aw_c21 0 (Int32.ofNat tl) (Int32.ofNat pl) wd wt sn)) 22 (am_I 0 (mt.set tl c))) g) rfl ?_
        rw [show (Int32.ofNat tl + 1 : Int32) = Int32.ofNat (tl + 1) from am_add tl 1]
        refine am_R.pf (k := 1) (pc' := 48) rfl (am_wf 21 (by decide) (rfl : (am_pu w 21 (aw_c21 0 (Int32.ofNat tl) (Int32.ofNat pl) wd wt sn)) 21 = _)) rfl (Nat.le_of_ble_eq_true rfl) rfl (fun q => by cases q) (am_wsE (k := 21) (w' := (am_pu (am_pu w 21 (aw_c21 0 (Int32.ofNat (tl + 1)) (Int32.ofNat pl) wd wt sn)) 22 (am_I 0 (mt.set tl c)))) (by decide) (by decide) (by funext j; simp only [am_pu]; (repeat' split) <;> first | rfl | omega)) rfl ?_
        refine am_R.nxs 1 (pc' := 49) (lv' := [some (.ref 1021), some (.int c)]) (st' := [.int 1]) (h1 := am_h (am_pu (am_pu w 21 (aw_c21 0 (Int32.ofNat (tl + 1)) (Int32.ofNat pl) wd wt sn)) 22 (am_I 0 (mt.set tl c))) g) rfl ?_
        exact am_R.reti rfl rfl rfl
      · have c3 : tl = 120 := (am_eqN (i := tl) (n := 120) (by omega) (by omega)).mp (Decidable.not_not.mp c3)
        omega
theorem aw_k96b {w : Nat → am_C} {g : am_H} (d : Nat) {tl pl : Nat} {ft wd wt sn : Int32} (h21 : w 21 = aw_c21 ft (Int32.ofNat tl) (Int32.ofNat pl) wd wt sn) (c : Int32) (hn : c < 32 ∨ 126 < c ∨ 120 ≤ tl) (ht : tl ≤ 120) : am_R d 96 0 [some (.ref 1021), some (.int c)] [] (am_h w g) (.inl (some (.int 0))) (am_h (am_pu w 21 (aw_c21 0 (Int32.ofNat tl) (Int32.ofNat pl) wd wt sn)) g) := by
  refine am_R.nxs 2 (pc' := 2) (lv' := [some (.ref 1021), some (.int c)]) (st' := [.int 0, .ref 1021]) (h1 := am_h w g) rfl ?_
  refine am_R.pf (k := 0) (pc' := 5) rfl (am_wf 21 (by decide) h21) rfl (Nat.le_of_ble_eq_true rfl) rfl (fun q => by cases q) (am_ws (k := 21) (by decide) (by decide)) rfl ?_
  refine am_R.ites 3 (P := c < 32) (T := 26) (F := 11) (lv' := [some (.ref 1021), some (.int c)]) (st' := []) (h1 := am_h (am_pu w 21 (aw_c21 0 (Int32.ofNat tl) (Int32.ofNat pl) wd wt sn)) g) rfl (fun c1 => ?_) (fun c1 => ?_)
  · refine am_R.nxs 1 (pc' := 27) (lv' := [some (.ref 1021), some (.int c)]) (st' := [.int 0]) (h1 := am_h (am_pu w 21 (aw_c21 0 (Int32.ofNat tl) (Int32.ofNat pl) wd wt sn)) g) rfl ?_
    exact am_R.reti rfl rfl rfl
  · refine am_R.ites 3 (P := 126 < c) (T := 26) (F := 17) (lv' := [some (.ref 1021), some (.int c)]) (st' := []) (h1 := am_h (am_pu w 21 (aw_c21 0 (Int32.ofNat tl) (Int32.ofNat pl) wd wt sn)) g) rfl (fun c2 => ?_) (fun c2 => ?_)
    · refine am_R.nxs 1 (pc' := 27) (lv' := [some (.ref 1021), some (.int c)]) (st' := [.int 0]) (h1 := am_h (am_pu w 21 (aw_c21 0 (Int32.ofNat tl) (Int32.ofNat pl) wd wt sn)) g) rfl ?_
      exact am_R.reti rfl rfl rfl
    · refine am_R.nxs 1 (pc' := 18) (lv' := [some (.ref 1021), some (.int c)]) (st' := [.ref 1021]) (h1 := am_h (am_pu w 21 (aw_c21 0 (Int32.ofNat tl) (Int32.ofNat pl) wd wt sn)) g) rfl ?_
      refine am_R.gf (pc' := 21) (v := .int (Int32.ofNat tl)) rfl (am_wf 21 (by decide) (rfl : (am_pu w 21 (aw_c21 0 (Int32.ofNat tl) (Int32.ofNat pl) wd wt sn)) 21 = _)) rfl rfl rfl ?_
      refine am_R.ites 2 (P := ¬ Int32.ofNat tl = 120) (T := 28) (F := 26) (lv' := [some (.ref 1021), some (.int c)]) (st' := []) (h1 := am_h (am_pu w 21 (aw_c21 0 (Int32.ofNat tl) (Int32.ofNat pl) wd wt sn)) g) rfl (fun c3 => ?_) (fun c3 => ?_)
      · have c3 : ¬ tl = 120 := fun hq9 => c3 ((am_eqN (i := tl) (n := 120) (by omega) (by omega)).mpr hq9)
        exact absurd hn (fun q => q.elim c1 (fun q => q.elim c2 (fun q => by omega)))
      · have c3 : tl = 120 := (am_eqN (i := tl) (n := 120) (by omega) (by omega)).mp (Decidable.not_not.mp c3)
        refine am_R.nxs 1 (pc' := 27) (lv' := [some (.ref 1021), some (.int c)]) (st' := [.int 0]) (h1 := am_h (am_pu w 21 (aw_c21 0 (Int32.ofNat tl) (Int32.ofNat pl) wd wt sn)) g) rfl ?_
        exact am_R.reti rfl rfl rfl
theorem aw_k149a {w : Nat → am_C} {g : am_H} (d : Nat) {tl pl : Nat} {ft wd wt sn : Int32} (h21 : w 21 = aw_c21 ft (Int32.ofNat tl) (Int32.ofNat pl) wd wt sn) {mp : List Int32} (h23 : w 23 = am_I 0 mp) (hl : mp.length = 400) (hp : pl ≤ 400) (i : Nat) (hi : i < pl) (hfit : ∀ k, k < pl → ((mp.getD k 0).toUInt32 % 65536).toInt32 = mp.getD k 0 ∧ fits .char (.int (mp.getD k 0)) = true) : am_R d 149 0 [some (.ref 1021), some (.int (Int32.ofNat i))] [] (am_h w g) (.inl (some (.int (mp.getD i 0)))) (am_h (am_pu w 21 (aw_c21 0 (Int32.ofNat tl) (Int32.ofNat pl) wd wt sn)) g) := by
  refine am_R.nxs 2 (pc' := 2) (lv' := [some (.ref 1021), some (.int (Int32.ofNat i))]) (st' := [.int 0, .ref 1021]) (h1 := am_h w g) rfl ?_
  refine am_R.pf (k := 0) (pc' := 5) rfl (am_wf 21 (by decide) h21) rfl (Nat.le_of_ble_eq_true rfl) rfl (fun q => by cases q) (am_ws (k := 21) (by decide) (by decide)) rfl ?_
  refine am_R.ites 2 (P := Int32.ofNat i < 0) (T := 17) (F := 9) (lv' := [some (.ref 1021), some (.int (Int32.ofNat i))]) (st' := []) (h1 := am_h (am_pu w 21 (aw_c21 0 (Int32.ofNat tl) (Int32.ofNat pl) wd wt sn)) g) rfl (fun c1 => ?_) (fun c1 => ?_)
  · have c1 : i < 0 := (am_ltN (i := i) (n := 0) (by omega) (by omega)).mp c1
    omega
  · have c1 : ¬ i < 0 := fun hq9 => c1 ((am_ltN (i := i) (n := 0) (by omega) (by omega)).mpr hq9)
    refine am_R.nxs 2 (pc' := 11) (lv' := [some (.ref 1021), some (.int (Int32.ofNat i))]) (st' := [.ref 1021, .int (Int32.ofNat i)]) (h1 := am_h (am_pu w 21 (aw_c21 0 (Int32.ofNat tl) (Int32.ofNat pl) wd wt sn)) g) rfl ?_
    refine am_R.gf (pc' := 14) (v := .int (Int32.ofNat pl)) rfl (am_wf 21 (by decide) (rfl : (am_pu w 21 (aw_c21 0 (Int32.ofNat tl) (Int32.ofNat pl) wd wt sn)) 21 = _)) rfl rfl rfl ?_
    refine am_R.ites 1 (P := Int32.ofNat i < Int32.ofNat pl) (T := 22) (F := 17) (lv' := [some (.ref 1021), some (.int (Int32.ofNat i))]) (st' := []) (h1 := am_h (am_pu w 21 (aw_c21 0 (Int32.ofNat tl) (Int32.ofNat pl) wd wt sn)) g) rfl (fun c2 => ?_) (fun c2 => ?_)
    · have c2 : i < pl := (am_ltN (i := i) (n := pl) (by omega) (by omega)).mp c2
      refine am_R.nxs 1 (pc' := 23) (lv' := [some (.ref 1021), some (.int (Int32.ofNat i))]) (st' := [.ref 1021]) (h1 := am_h (am_pu w 21 (aw_c21 0 (Int32.ofNat tl) (Int32.ofNat pl) wd wt sn)) g) rfl ?_
      refine am_R.gf (pc' := 26) (v := .ref 1023) rfl (am_wf 21 (by decide) (rfl : (am_pu w 21 (aw_c21 0 (Int32.ofNat tl) (Int32.ofNat pl) wd wt sn)) 21 = _)) rfl rfl rfl ?_
      refine am_R.nxs 1 (pc' := 27) (lv' := [some (.ref 1021), some (.int (Int32.ofNat i))]) (st' := [.int (Int32.ofNat i), .ref 1023]) (h1 := am_h (am_pu w 21 (aw_c21 0 (Int32.ofNat tl) (Int32.ofNat pl) wd wt sn)) g) rfl ?_
      refine am_R.ldi (i := i) (xs := mp) (pc' := 28) rfl (am_wf 23 (by decide) h23) (by omega) (by omega) rfl ?_
      refine am_R.nxs 1 (pc' := 29) (lv' := [some (.ref 1021), some (.int (Int32.ofNat i))]) (st' := [.int ((((mp.getD i 0)).toUInt32 % 65536).toInt32)]) (h1 := am_h (am_pu w 21 (aw_c21 0 (Int32.ofNat tl) (Int32.ofNat pl) wd wt sn)) g) rfl ?_
      rw [(hfit i hi).1]
      exact am_R.reti rfl rfl (hfit i hi).2
    · have c2 : ¬ i < pl := fun hq9 => c2 ((am_ltN (i := i) (n := pl) (by omega) (by omega)).mpr hq9)
      omega
theorem aw_k149b {w : Nat → am_C} {g : am_H} (d : Nat) {tl pl : Nat} {ft wd wt sn : Int32} (h21 : w 21 = aw_c21 ft (Int32.ofNat tl) (Int32.ofNat pl) wd wt sn) (v : Int32) (hv : v < 0 ∨ Int32.ofNat pl ≤ v) : am_R d 149 0 [some (.ref 1021), some (.int v)] [] (am_h w g) (.inl (some (.int 32))) (am_h (am_pu w 21 (aw_c21 0 (Int32.ofNat tl) (Int32.ofNat pl) wd wt sn)) g) := by
  refine am_R.nxs 2 (pc' := 2) (lv' := [some (.ref 1021), some (.int v)]) (st' := [.int 0, .ref 1021]) (h1 := am_h w g) rfl ?_
  refine am_R.pf (k := 0) (pc' := 5) rfl (am_wf 21 (by decide) h21) rfl (Nat.le_of_ble_eq_true rfl) rfl (fun q => by cases q) (am_ws (k := 21) (by decide) (by decide)) rfl ?_
  refine am_R.ites 2 (P := v < 0) (T := 17) (F := 9) (lv' := [some (.ref 1021), some (.int v)]) (st' := []) (h1 := am_h (am_pu w 21 (aw_c21 0 (Int32.ofNat tl) (Int32.ofNat pl) wd wt sn)) g) rfl (fun c1 => ?_) (fun c1 => ?_)
  · refine am_R.nxs 2 (pc' := 29) (lv' := [some (.ref 1021), some (.int v)]) (st' := [.int 32]) (h1 := am_h (am_pu w 21 (aw_c21 0 (Int32.ofNat tl) (Int32.ofNat pl) wd wt sn)) g) rfl ?_
    exact am_R.reti rfl rfl rfl
  · refine am_R.nxs 2 (pc' := 11) (lv' := [some (.ref 1021), some (.int v)]) (st' := [.ref 1021, .int v]) (h1 := am_h (am_pu w 21 (aw_c21 0 (Int32.ofNat tl) (Int32.ofNat pl) wd wt sn)) g) rfl ?_
    refine am_R.gf (pc' := 14) (v := .int (Int32.ofNat pl)) rfl (am_wf 21 (by decide) (rfl : (am_pu w 21 (aw_c21 0 (Int32.ofNat tl) (Int32.ofNat pl) wd wt sn)) 21 = _)) rfl rfl rfl ?_
    refine am_R.ites 1 (P := v < Int32.ofNat pl) (T := 22) (F := 17) (lv' := [some (.ref 1021), some (.int v)]) (st' := []) (h1 := am_h (am_pu w 21 (aw_c21 0 (Int32.ofNat tl) (Int32.ofNat pl) wd wt sn)) g) rfl (fun c2 => ?_) (fun c2 => ?_)
    · exact absurd c2 (fun q => hv.elim c1 (fun q2 => absurd q (Int32.not_lt.mpr q2)))
    · refine am_R.nxs 2 (pc' := 29) (lv' := [some (.ref 1021), some (.int v)]) (st' := [.int 32]) (h1 := am_h (am_pu w 21 (aw_c21 0 (Int32.ofNat tl) (Int32.ofNat pl) wd wt sn)) g) rfl ?_
      exact am_R.reti rfl rfl rfl
