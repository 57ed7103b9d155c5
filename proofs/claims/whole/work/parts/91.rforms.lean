/-! What covers a cell, of the reference. -/
theorem aw_k122 {h : am_H} (d : Nat) (v : Int32) : am_R d 122 0 [some (.int v)] [] h (.inl (some (.int (aw_abs v)))) h := by
  refine am_R.ites 2 (P := 0 ≤ v) (T := 9) (F := 4) (lv' := [some (.int v)]) (st' := []) (h1 := h) rfl (fun b => ?_) (fun b => ?_)
  · rw [show aw_abs v = v from if_pos b]
    refine am_R.nxs 1 (pc' := 10) (lv' := [some (.int v)]) (st' := [.int v]) (h1 := h) rfl ?_
    exact am_R.reti rfl rfl rfl
  · rw [show aw_abs v = -v from (if_neg b).trans (Int32.zero_sub v)]
    refine am_R.nxs 3 (pc' := 10) (lv' := [some (.int v)]) (st' := [.int (-v)]) (h1 := h) rfl ?_
    exact am_R.reti rfl rfl rfl
theorem aw_k125 (d : Nat) {h : am_H} (x y bw bh : Int32) : am_R (d + 1) 125 0 [some (.int x), some (.int y), some (.int bw), some (.int bh)] [] h (.inl (some (.int (if aw_bnd x y bw bh = true then 1 else 0)))) h := by
  refine am_R.nxs 8 (pc' := 8) (lv' := [some (.int x), some (.int y), some (.int bw), some (.int bh)]) (st' := [.int ((x * bh) - (y * bw)), .int 3]) (h1 := h) rfl ?_
  refine am_R.cs (mj := 122) (as := [.int ((x * bh) - (y * bw))]) (r := [.int 3]) (v := some (.int (aw_abs ((x * bh) - (y * bw))))) (h1 := h) (pc' := 11) rfl (aw_k122 _ _) rfl ?_
  refine am_R.ites 7 (P := ((bw * bh) / 2) < (3 * (aw_abs ((x * bh) - (y * bw))))) (T := 24) (F := 20) (lv' := [some (.int x), some (.int y), some (.int bw), some (.int bh)]) (st' := []) (h1 := h) rfl (fun b17 => ?_) (fun b17 => ?_)
  · refine am_R.nxs 1 (pc' := 25) (lv' := [some (.int x), some (.int y), some (.int bw), some (.int bh)]) (st' := [.int 0]) (h1 := h) rfl ?_
    rw [show aw_bnd x y bw bh = false from decide_eq_false (fun q => q b17)]
    exact am_R.reti rfl rfl rfl
  · refine am_R.nxs 2 (pc' := 25) (lv' := [some (.int x), some (.int y), some (.int bw), some (.int bh)]) (st' := [.int 1]) (h1 := h) rfl ?_
    rw [show aw_bnd x y bw bh = true from decide_eq_true b17]
    exact am_R.reti rfl rfl rfl
theorem aw_k126 (d : Nat) {h : am_H} (v l : Int32) : am_R d 126 0 [some (.int v), some (.int l)] [] h (.inl (some (.int (if aw_chn v l = true then 1 else 0)))) h := by
  refine am_R.ites 2 (P := v < 0) (T := 13) (F := 4) (lv' := [some (.int v), some (.int l)]) (st' := []) (h1 := h) rfl (fun b1 => ?_) (fun b1 => ?_)
  · refine am_R.nxs 1 (pc' := 14) (lv' := [some (.int v), some (.int l)]) (st' := [.int 0]) (h1 := h) rfl ?_
    rw [show aw_chn v l = false from decide_eq_false (fun q => q.1 b1)]
    exact am_R.reti rfl rfl rfl
  · refine am_R.ites 3 (P := l ≤ v) (T := 13) (F := 9) (lv' := [some (.int v), some (.int l)]) (st' := []) (h1 := h) rfl (fun b6 => ?_) (fun b6 => ?_)
    · refine am_R.nxs 1 (pc' := 14) (lv' := [some (.int v), some (.int l)]) (st' := [.int 0]) (h1 := h) rfl ?_
      rw [show aw_chn v l = false from decide_eq_false (fun q => q.2 b6)]
      exact am_R.reti rfl rfl rfl
    · refine am_R.nxs 2 (pc' := 14) (lv' := [some (.int v), some (.int l)]) (st' := [.int 1]) (h1 := h) rfl ?_
      rw [show aw_chn v l = true from decide_eq_true ⟨b1, b6⟩]
      exact am_R.reti rfl rfl rfl
set_option maxRecDepth 100000 in
theorem aw_k124_17 (d : Nat) {h : am_H} (x y bw bh : Int32) : am_R (d + 2) 124 0 [some (.int 18), some (.int x), some (.int y), some (.int bw), some (.int bh), none, none] [] h (.inl (some (.int (if aw_oc 17 x y bw bh = true then 1 else 0)))) h := by
  refine am_R.ites 5 (P := y < (bh / 3)) (T := 23) (F := 8) (lv' := [some (.int 18), some (.int x), some (.int y), some (.int bw), some (.int bh), none, none]) (st' := []) (h1 := h) rfl (fun b5 => ?_) (fun b5 => ?_)
  · refine am_R.ites 7 (P := x < (bw / 3)) (T := 46) (F := 33) (lv' := [some (.int 18), some (.int x), some (.int y), some (.int bw), some (.int bh), some (.int 0), none]) (st' := []) (h1 := h) rfl (fun b30 => ?_) (fun b30 => ?_)
    · refine am_R.nxs 2 (pc' := 49) (lv' := [some (.int 18), some (.int x), some (.int y), some (.int bw), some (.int bh), some (.int 0), some (.int 0)]) (st' := []) (h1 := h) rfl ?_
      refine am_R.ites 7 (P := (bh / 3) ≤ y) (T := 124) (F := 120) (lv' := [some (.int 18), some (.int x), some (.int y), some (.int bw), some (.int bh), some (.int 0), some (.int 0)]) (st' := []) (h1 := h) rfl (fun b117 => ?_) (fun b117 => ?_)
      · refine am_R.nxs 1 (pc' := 125) (lv' := [some (.int 18), some (.int x), some (.int y), some (.int bw), some (.int bh), some (.int 0), some (.int 0)]) (st' := [.int 0]) (h1 := h) rfl ?_
        rw [show aw_oc 17 x y bw bh = false from decide_eq_false (fun z => z b117)]
        exact am_R.reti rfl rfl (by (first | rfl | (split <;> rfl)))
      · refine am_R.nxs 2 (pc' := 125) (lv' := [some (.int 18), some (.int x), some (.int y), some (.int bw), some (.int bh), some (.int 0), some (.int 0)]) (st' := [.int 1]) (h1 := h) rfl ?_
        rw [show aw_oc 17 x y bw bh = true from decide_eq_true b117]
        exact am_R.reti rfl rfl (by (first | rfl | (split <;> rfl)))
    · refine am_R.ites 7 (P := (bw - (bw / 3)) ≤ x) (T := 46) (F := 42) (lv' := [some (.int 18), some (.int x), some (.int y), some (.int bw), some (.int bh), some (.int 0), none]) (st' := []) (h1 := h) rfl (fun b39 => ?_) (fun b39 => ?_)
      · refine am_R.nxs 2 (pc' := 49) (lv' := [some (.int 18), some (.int x), some (.int y), some (.int bw), some (.int bh), some (.int 0), some (.int 0)]) (st' := []) (h1 := h) rfl ?_
        refine am_R.ites 7 (P := (bh / 3) ≤ y) (T := 124) (F := 120) (lv' := [some (.int 18), some (.int x), some (.int y), some (.int bw), some (.int bh), some (.int 0), some (.int 0)]) (st' := []) (h1 := h) rfl (fun b117 => ?_) (fun b117 => ?_)
        · refine am_R.nxs 1 (pc' := 125) (lv' := [some (.int 18), some (.int x), some (.int y), some (.int bw), some (.int bh), some (.int 0), some (.int 0)]) (st' := [.int 0]) (h1 := h) rfl ?_
          rw [show aw_oc 17 x y bw bh = false from decide_eq_false (fun z => z b117)]
          exact am_R.reti rfl rfl (by (first | rfl | (split <;> rfl)))
        · refine am_R.nxs 2 (pc' := 125) (lv' := [some (.int 18), some (.int x), some (.int y), some (.int bw), some (.int bh), some (.int 0), some (.int 0)]) (st' := [.int 1]) (h1 := h) rfl ?_
          rw [show aw_oc 17 x y bw bh = true from decide_eq_true b117]
          exact am_R.reti rfl rfl (by (first | rfl | (split <;> rfl)))
      · refine am_R.nxs 3 (pc' := 49) (lv' := [some (.int 18), some (.int x), some (.int y), some (.int bw), some (.int bh), some (.int 0), some (.int 1)]) (st' := []) (h1 := h) rfl ?_
        refine am_R.ites 7 (P := (bh / 3) ≤ y) (T := 124) (F := 120) (lv' := [some (.int 18), some (.int x), some (.int y), some (.int bw), some (.int bh), some (.int 0), some (.int 1)]) (st' := []) (h1 := h) rfl (fun b117 => ?_) (fun b117 => ?_)
        · refine am_R.nxs 1 (pc' := 125) (lv' := [some (.int 18), some (.int x), some (.int y), some (.int bw), some (.int bh), some (.int 0), some (.int 1)]) (st' := [.int 0]) (h1 := h) rfl ?_
          rw [show aw_oc 17 x y bw bh = false from decide_eq_false (fun z => z b117)]
          exact am_R.reti rfl rfl (by (first | rfl | (split <;> rfl)))
        · refine am_R.nxs 2 (pc' := 125) (lv' := [some (.int 18), some (.int x), some (.int y), some (.int bw), some (.int bh), some (.int 0), some (.int 1)]) (st' := [.int 1]) (h1 := h) rfl ?_
          rw [show aw_oc 17 x y bw bh = true from decide_eq_true b117]
          exact am_R.reti rfl rfl (by (first | rfl | (split <;> rfl)))
  · refine am_R.ites 7 (P := (bh - (bh / 3)) ≤ y) (T := 23) (F := 19) (lv' := [some (.int 18), some (.int x), some (.int y), some (.int bw), some (.int bh), none, none]) (st' := []) (h1 := h) rfl (fun b16 => ?_) (fun b16 => ?_)
    · refine am_R.ites 7 (P := x < (bw / 3)) (T := 46) (F := 33) (lv' := [some (.int 18), some (.int x), some (.int y), some (.int bw), some (.int bh), some (.int 0), none]) (st' := []) (h1 := h) rfl (fun b30 => ?_) (fun b30 => ?_)
      · refine am_R.nxs 2 (pc' := 49) (lv' := [some (.int 18), some (.int x), some (.int y), some (.int bw), some (.int bh), some (.int 0), some (.int 0)]) (st' := []) (h1 := h) rfl ?_
        refine am_R.ites 7 (P := (bh / 3) ≤ y) (T := 124) (F := 120) (lv' := [some (.int 18), some (.int x), some (.int y), some (.int bw), some (.int bh), some (.int 0), some (.int 0)]) (st' := []) (h1 := h) rfl (fun b117 => ?_) (fun b117 => ?_)
        · refine am_R.nxs 1 (pc' := 125) (lv' := [some (.int 18), some (.int x), some (.int y), some (.int bw), some (.int bh), some (.int 0), some (.int 0)]) (st' := [.int 0]) (h1 := h) rfl ?_
          rw [show aw_oc 17 x y bw bh = false from decide_eq_false (fun z => z b117)]
          exact am_R.reti rfl rfl (by (first | rfl | (split <;> rfl)))
        · refine am_R.nxs 2 (pc' := 125) (lv' := [some (.int 18), some (.int x), some (.int y), some (.int bw), some (.int bh), some (.int 0), some (.int 0)]) (st' := [.int 1]) (h1 := h) rfl ?_
          rw [show aw_oc 17 x y bw bh = true from decide_eq_true b117]
          exact am_R.reti rfl rfl (by (first | rfl | (split <;> rfl)))
      · refine am_R.ites 7 (P := (bw - (bw / 3)) ≤ x) (T := 46) (F := 42) (lv' := [some (.int 18), some (.int x), some (.int y), some (.int bw), some (.int bh), some (.int 0), none]) (st' := []) (h1 := h) rfl (fun b39 => ?_) (fun b39 => ?_)
        · refine am_R.nxs 2 (pc' := 49) (lv' := [some (.int 18), some (.int x), some (.int y), some (.int bw), some (.int bh), some (.int 0), some (.int 0)]) (st' := []) (h1 := h) rfl ?_
          refine am_R.ites 7 (P := (bh / 3) ≤ y) (T := 124) (F := 120) (lv' := [some (.int 18), some (.int x), some (.int y), some (.int bw), some (.int bh), some (.int 0), some (.int 0)]) (st' := []) (h1 := h) rfl (fun b117 => ?_) (fun b117 => ?_)
          · refine am_R.nxs 1 (pc' := 125) (lv' := [some (.int 18), some (.int x), some (.int y), some (.int bw), some (.int bh), some (.int 0), some (.int 0)]) (st' := [.int 0]) (h1 := h) rfl ?_
            rw [show aw_oc 17 x y bw bh = false from decide_eq_false (fun z => z b117)]
            exact am_R.reti rfl rfl (by (first | rfl | (split <;> rfl)))
          · refine am_R.nxs 2 (pc' := 125) (lv' := [some (.int 18), some (.int x), some (.int y), some (.int bw), some (.int bh), some (.int 0), some (.int 0)]) (st' := [.int 1]) (h1 := h) rfl ?_
            rw [show aw_oc 17 x y bw bh = true from decide_eq_true b117]
            exact am_R.reti rfl rfl (by (first | rfl | (split <;> rfl)))
        · refine am_R.nxs 3 (pc' := 49) (lv' := [some (.int 18), some (.int x), some (.int y), some (.int bw), some (.int bh), some (.int 0), some (.int 1)]) (st' := []) (h1 := h) rfl ?_
          refine am_R.ites 7 (P := (bh / 3) ≤ y) (T := 124) (F := 120) (lv' := [some (.int 18), some (.int x), some (.int y), some (.int bw), some (.int bh), some (.int 0), some (.int 1)]) (st' := []) (h1 := h) rfl (fun b117 => ?_) (fun b117 => ?_)
          · refine am_R.nxs 1 (pc' := 125) (lv' := [some (.int 18), some (.int x), some (.int y), some (.int bw), some (.int bh), some (.int 0), some (.int 1)]) (st' := [.int 0]) (h1 := h) rfl ?_
            rw [show aw_oc 17 x y bw bh = false from decide_eq_false (fun z => z b117)]
            exact am_R.reti rfl rfl (by (first | rfl | (split <;> rfl)))
          · refine am_R.nxs 2 (pc' := 125) (lv' := [some (.int 18), some (.int x), some (.int y), some (.int bw), some (.int bh), some (.int 0), some (.int 1)]) (st' := [.int 1]) (h1 := h) rfl ?_
            rw [show aw_oc 17 x y bw bh = true from decide_eq_true b117]
            exact am_R.reti rfl rfl (by (first | rfl | (split <;> rfl)))
    · refine am_R.ites 8 (P := x < (bw / 3)) (T := 46) (F := 33) (lv' := [some (.int 18), some (.int x), some (.int y), some (.int bw), some (.int bh), some (.int 1), none]) (st' := []) (h1 := h) rfl (fun b30 => ?_) (fun b30 => ?_)
      · refine am_R.nxs 2 (pc' := 49) (lv' := [some (.int 18), some (.int x), some (.int y), some (.int bw), some (.int bh), some (.int 1), some (.int 0)]) (st' := []) (h1 := h) rfl ?_
        refine am_R.ites 7 (P := (bh / 3) ≤ y) (T := 124) (F := 120) (lv' := [some (.int 18), some (.int x), some (.int y), some (.int bw), some (.int bh), some (.int 1), some (.int 0)]) (st' := []) (h1 := h) rfl (fun b117 => ?_) (fun b117 => ?_)
        · refine am_R.nxs 1 (pc' := 125) (lv' := [some (.int 18), some (.int x), some (.int y), some (.int bw), some (.int bh), some (.int 1), some (.int 0)]) (st' := [.int 0]) (h1 := h) rfl ?_
          rw [show aw_oc 17 x y bw bh = false from decide_eq_false (fun z => z b117)]
          exact am_R.reti rfl rfl (by (first | rfl | (split <;> rfl)))
        · refine am_R.nxs 2 (pc' := 125) (lv' := [some (.int 18), some (.int x), some (.int y), some (.int bw), some (.int bh), some (.int 1), some (.int 0)]) (st' := [.int 1]) (h1 := h) rfl ?_
          rw [show aw_oc 17 x y bw bh = true from decide_eq_true b117]
          exact am_R.reti rfl rfl (by (first | rfl | (split <;> rfl)))
      · refine am_R.ites 7 (P := (bw - (bw / 3)) ≤ x) (T := 46) (F := 42) (lv' := [some (.int 18), some (.int x), some (.int y), some (.int bw), some (.int bh), some (.int 1), none]) (st' := []) (h1 := h) rfl (fun b39 => ?_) (fun b39 => ?_)
        · refine am_R.nxs 2 (pc' := 49) (lv' := [some (.int 18), some (.int x), some (.int y), some (.int bw), some (.int bh), some (.int 1), some (.int 0)]) (st' := []) (h1 := h) rfl ?_
          refine am_R.ites 7 (P := (bh / 3) ≤ y) (T := 124) (F := 120) (lv' := [some (.int 18), some (.int x), some (.int y), some (.int bw), some (.int bh), some (.int 1), some (.int 0)]) (st' := []) (h1 := h) rfl (fun b117 => ?_) (fun b117 => ?_)
          · refine am_R.nxs 1 (pc' := 125) (lv' := [some (.int 18), some (.int x), some (.int y), some (.int bw), some (.int bh), some (.int 1), some (.int 0)]) (st' := [.int 0]) (h1 := h) rfl ?_
            rw [show aw_oc 17 x y bw bh = false from decide_eq_false (fun z => z b117)]
            exact am_R.reti rfl rfl (by (first | rfl | (split <;> rfl)))
          · refine am_R.nxs 2 (pc' := 125) (lv' := [some (.int 18), some (.int x), some (.int y), some (.int bw), some (.int bh), some (.int 1), some (.int 0)]) (st' := [.int 1]) (h1 := h) rfl ?_
            rw [show aw_oc 17 x y bw bh = true from decide_eq_true b117]
            exact am_R.reti rfl rfl (by (first | rfl | (split <;> rfl)))
        · refine am_R.nxs 3 (pc' := 49) (lv' := [some (.int 18), some (.int x), some (.int y), some (.int bw), some (.int bh), some (.int 1), some (.int 1)]) (st' := []) (h1 := h) rfl ?_
          refine am_R.ites 7 (P := (bh / 3) ≤ y) (T := 124) (F := 120) (lv' := [some (.int 18), some (.int x), some (.int y), some (.int bw), some (.int bh), some (.int 1), some (.int 1)]) (st' := []) (h1 := h) rfl (fun b117 => ?_) (fun b117 => ?_)
          · refine am_R.nxs 1 (pc' := 125) (lv' := [some (.int 18), some (.int x), some (.int y), some (.int bw), some (.int bh), some (.int 1), some (.int 1)]) (st' := [.int 0]) (h1 := h) rfl ?_
            rw [show aw_oc 17 x y bw bh = false from decide_eq_false (fun z => z b117)]
            exact am_R.reti rfl rfl (by (first | rfl | (split <;> rfl)))
          · refine am_R.nxs 2 (pc' := 125) (lv' := [some (.int 18), some (.int x), some (.int y), some (.int bw), some (.int bh), some (.int 1), some (.int 1)]) (st' := [.int 1]) (h1 := h) rfl ?_
            rw [show aw_oc 17 x y bw bh = true from decide_eq_true b117]
            exact am_R.reti rfl rfl (by (first | rfl | (split <;> rfl)))
set_option maxRecDepth 100000 in
theorem aw_k124_18 (d : Nat) {h : am_H} (x y bw bh : Int32) : am_R (d + 2) 124 0 [some (.int 11), some (.int x), some (.int y), some (.int bw), some (.int bh), none, none] [] h (.inl (some (.int (if aw_oc 18 x y bw bh = true then 1 else 0)))) h := by
  refine am_R.ites 5 (P := y < (bh / 3)) (T := 23) (F := 8) (lv' := [some (.int 11), some (.int x), some (.int y), some (.int bw), some (.int bh), none, none]) (st' := []) (h1 := h) rfl (fun b5 => ?_) (fun b5 => ?_)
  · refine am_R.ites 7 (P := x < (bw / 3)) (T := 46) (F := 33) (lv' := [some (.int 11), some (.int x), some (.int y), some (.int bw), some (.int bh), some (.int 0), none]) (st' := []) (h1 := h) rfl (fun b30 => ?_) (fun b30 => ?_)
    · refine am_R.nxs 2 (pc' := 49) (lv' := [some (.int 11), some (.int x), some (.int y), some (.int bw), some (.int bh), some (.int 0), some (.int 0)]) (st' := []) (h1 := h) rfl ?_
      refine am_R.nxs 3 (pc' := 128) (lv' := [some (.int 11), some (.int x), some (.int y), some (.int bw), some (.int bh), some (.int 0), some (.int 0)]) (st' := [.int 0]) (h1 := h) rfl ?_
      rw [show aw_oc 18 x y bw bh = false from decide_eq_false (fun q => q.1 b5)]
      exact am_R.reti rfl rfl (by (first | rfl | (split <;> rfl)))
    · refine am_R.ites 7 (P := (bw - (bw / 3)) ≤ x) (T := 46) (F := 42) (lv' := [some (.int 11), some (.int x), some (.int y), some (.int bw), some (.int bh), some (.int 0), none]) (st' := []) (h1 := h) rfl (fun b39 => ?_) (fun b39 => ?_)
      · refine am_R.nxs 2 (pc' := 49) (lv' := [some (.int 11), some (.int x), some (.int y), some (.int bw), some (.int bh), some (.int 0), some (.int 0)]) (st' := []) (h1 := h) rfl ?_
        refine am_R.nxs 3 (pc' := 128) (lv' := [some (.int 11), some (.int x), some (.int y), some (.int bw), some (.int bh), some (.int 0), some (.int 0)]) (st' := [.int 0]) (h1 := h) rfl ?_
        rw [show aw_oc 18 x y bw bh = false from decide_eq_false (fun q => q.1 b5)]
        exact am_R.reti rfl rfl (by (first | rfl | (split <;> rfl)))
      · refine am_R.nxs 3 (pc' := 49) (lv' := [some (.int 11), some (.int x), some (.int y), some (.int bw), some (.int bh), some (.int 0), some (.int 1)]) (st' := []) (h1 := h) rfl ?_
        refine am_R.nxs 3 (pc' := 128) (lv' := [some (.int 11), some (.int x), some (.int y), some (.int bw), some (.int bh), some (.int 0), some (.int 1)]) (st' := [.int 0]) (h1 := h) rfl ?_
        rw [show aw_oc 18 x y bw bh = false from decide_eq_false (fun q => q.1 b5)]
        exact am_R.reti rfl rfl (by (first | rfl | (split <;> rfl)))
  · refine am_R.ites 7 (P := (bh - (bh / 3)) ≤ y) (T := 23) (F := 19) (lv' := [some (.int 11), some (.int x), some (.int y), some (.int bw), some (.int bh), none, none]) (st' := []) (h1 := h) rfl (fun b16 => ?_) (fun b16 => ?_)
    · refine am_R.ites 7 (P := x < (bw / 3)) (T := 46) (F := 33) (lv' := [some (.int 11), some (.int x), some (.int y), some (.int bw), some (.int bh), some (.int 0), none]) (st' := []) (h1 := h) rfl (fun b30 => ?_) (fun b30 => ?_)
      · refine am_R.nxs 2 (pc' := 49) (lv' := [some (.int 11), some (.int x), some (.int y), some (.int bw), some (.int bh), some (.int 0), some (.int 0)]) (st' := []) (h1 := h) rfl ?_
        refine am_R.nxs 3 (pc' := 128) (lv' := [some (.int 11), some (.int x), some (.int y), some (.int bw), some (.int bh), some (.int 0), some (.int 0)]) (st' := [.int 0]) (h1 := h) rfl ?_
        rw [show aw_oc 18 x y bw bh = false from decide_eq_false (fun q => q.2 b16)]
        exact am_R.reti rfl rfl (by (first | rfl | (split <;> rfl)))
      · refine am_R.ites 7 (P := (bw - (bw / 3)) ≤ x) (T := 46) (F := 42) (lv' := [some (.int 11), some (.int x), some (.int y), some (.int bw), some (.int bh), some (.int 0), none]) (st' := []) (h1 := h) rfl (fun b39 => ?_) (fun b39 => ?_)
        · refine am_R.nxs 2 (pc' := 49) (lv' := [some (.int 11), some (.int x), some (.int y), some (.int bw), some (.int bh), some (.int 0), some (.int 0)]) (st' := []) (h1 := h) rfl ?_
          refine am_R.nxs 3 (pc' := 128) (lv' := [some (.int 11), some (.int x), some (.int y), some (.int bw), some (.int bh), some (.int 0), some (.int 0)]) (st' := [.int 0]) (h1 := h) rfl ?_
          rw [show aw_oc 18 x y bw bh = false from decide_eq_false (fun q => q.2 b16)]
          exact am_R.reti rfl rfl (by (first | rfl | (split <;> rfl)))
        · refine am_R.nxs 3 (pc' := 49) (lv' := [some (.int 11), some (.int x), some (.int y), some (.int bw), some (.int bh), some (.int 0), some (.int 1)]) (st' := []) (h1 := h) rfl ?_
          refine am_R.nxs 3 (pc' := 128) (lv' := [some (.int 11), some (.int x), some (.int y), some (.int bw), some (.int bh), some (.int 0), some (.int 1)]) (st' := [.int 0]) (h1 := h) rfl ?_
          rw [show aw_oc 18 x y bw bh = false from decide_eq_false (fun q => q.2 b16)]
          exact am_R.reti rfl rfl (by (first | rfl | (split <;> rfl)))
    · refine am_R.ites 8 (P := x < (bw / 3)) (T := 46) (F := 33) (lv' := [some (.int 11), some (.int x), some (.int y), some (.int bw), some (.int bh), some (.int 1), none]) (st' := []) (h1 := h) rfl (fun b30 => ?_) (fun b30 => ?_)
      · refine am_R.nxs 2 (pc' := 49) (lv' := [some (.int 11), some (.int x), some (.int y), some (.int bw), some (.int bh), some (.int 1), some (.int 0)]) (st' := []) (h1 := h) rfl ?_
        refine am_R.nxs 3 (pc' := 128) (lv' := [some (.int 11), some (.int x), some (.int y), some (.int bw), some (.int bh), some (.int 1), some (.int 0)]) (st' := [.int 1]) (h1 := h) rfl ?_
        rw [show aw_oc 18 x y bw bh = true from decide_eq_true ⟨b5, b16⟩]
        exact am_R.reti rfl rfl (by (first | rfl | (split <;> rfl)))
      · refine am_R.ites 7 (P := (bw - (bw / 3)) ≤ x) (T := 46) (F := 42) (lv' := [some (.int 11), some (.int x), some (.int y), some (.int bw), some (.int bh), some (.int 1), none]) (st' := []) (h1 := h) rfl (fun b39 => ?_) (fun b39 => ?_)
        · refine am_R.nxs 2 (pc' := 49) (lv' := [some (.int 11), some (.int x), some (.int y), some (.int bw), some (.int bh), some (.int 1), some (.int 0)]) (st' := []) (h1 := h) rfl ?_
          refine am_R.nxs 3 (pc' := 128) (lv' := [some (.int 11), some (.int x), some (.int y), some (.int bw), some (.int bh), some (.int 1), some (.int 0)]) (st' := [.int 1]) (h1 := h) rfl ?_
          rw [show aw_oc 18 x y bw bh = true from decide_eq_true ⟨b5, b16⟩]
          exact am_R.reti rfl rfl (by (first | rfl | (split <;> rfl)))
        · refine am_R.nxs 3 (pc' := 49) (lv' := [some (.int 11), some (.int x), some (.int y), some (.int bw), some (.int bh), some (.int 1), some (.int 1)]) (st' := []) (h1 := h) rfl ?_
          refine am_R.nxs 3 (pc' := 128) (lv' := [some (.int 11), some (.int x), some (.int y), some (.int bw), some (.int bh), some (.int 1), some (.int 1)]) (st' := [.int 1]) (h1 := h) rfl ?_
          rw [show aw_oc 18 x y bw bh = true from decide_eq_true ⟨b5, b16⟩]
          exact am_R.reti rfl rfl (by (first | rfl | (split <;> rfl)))
set_option maxRecDepth 100000 in
theorem aw_k124_19 (d : Nat) {h : am_H} (x y bw bh : Int32) : am_R (d + 2) 124 0 [some (.int 10), some (.int x), some (.int y), some (.int bw), some (.int bh), none, none] [] h (.inl (some (.int (if aw_oc 19 x y bw bh = true then 1 else 0)))) h := by
  refine am_R.ites 5 (P := y < (bh / 3)) (T := 23) (F := 8) (lv' := [some (.int 10), some (.int x), some (.int y), some (.int bw), some (.int bh), none, none]) (st' := []) (h1 := h) rfl (fun b5 => ?_) (fun b5 => ?_)
  · refine am_R.ites 7 (P := x < (bw / 3)) (T := 46) (F := 33) (lv' := [some (.int 10), some (.int x), some (.int y), some (.int bw), some (.int bh), some (.int 0), none]) (st' := []) (h1 := h) rfl (fun b30 => ?_) (fun b30 => ?_)
    · refine am_R.nxs 2 (pc' := 49) (lv' := [some (.int 10), some (.int x), some (.int y), some (.int bw), some (.int bh), some (.int 0), some (.int 0)]) (st' := []) (h1 := h) rfl ?_
      refine am_R.nxs 3 (pc' := 131) (lv' := [some (.int 10), some (.int x), some (.int y), some (.int bw), some (.int bh), some (.int 0), some (.int 0)]) (st' := [.int 0]) (h1 := h) rfl ?_
      rw [show aw_oc 19 x y bw bh = false from decide_eq_false (fun q => q.1 b30)]
      exact am_R.reti rfl rfl (by (first | rfl | (split <;> rfl)))
    · refine am_R.ites 7 (P := (bw - (bw / 3)) ≤ x) (T := 46) (F := 42) (lv' := [some (.int 10), some (.int x), some (.int y), some (.int bw), some (.int bh), some (.int 0), none]) (st' := []) (h1 := h) rfl (fun b39 => ?_) (fun b39 => ?_)
      · refine am_R.nxs 2 (pc' := 49) (lv' := [some (.int 10), some (.int x), some (.int y), some (.int bw), some (.int bh), some (.int 0), some (.int 0)]) (st' := []) (h1 := h) rfl ?_
        refine am_R.nxs 3 (pc' := 131) (lv' := [some (.int 10), some (.int x), some (.int y), some (.int bw), some (.int bh), some (.int 0), some (.int 0)]) (st' := [.int 0]) (h1 := h) rfl ?_
        rw [show aw_oc 19 x y bw bh = false from decide_eq_false (fun q => q.2 b39)]
        exact am_R.reti rfl rfl (by (first | rfl | (split <;> rfl)))
      · refine am_R.nxs 3 (pc' := 49) (lv' := [some (.int 10), some (.int x), some (.int y), some (.int bw), some (.int bh), some (.int 0), some (.int 1)]) (st' := []) (h1 := h) rfl ?_
        refine am_R.nxs 3 (pc' := 131) (lv' := [some (.int 10), some (.int x), some (.int y), some (.int bw), some (.int bh), some (.int 0), some (.int 1)]) (st' := [.int 1]) (h1 := h) rfl ?_
        rw [show aw_oc 19 x y bw bh = true from decide_eq_true ⟨b30, b39⟩]
        exact am_R.reti rfl rfl (by (first | rfl | (split <;> rfl)))
  · refine am_R.ites 7 (P := (bh - (bh / 3)) ≤ y) (T := 23) (F := 19) (lv' := [some (.int 10), some (.int x), some (.int y), some (.int bw), some (.int bh), none, none]) (st' := []) (h1 := h) rfl (fun b16 => ?_) (fun b16 => ?_)
    · refine am_R.ites 7 (P := x < (bw / 3)) (T := 46) (F := 33) (lv' := [some (.int 10), some (.int x), some (.int y), some (.int bw), some (.int bh), some (.int 0), none]) (st' := []) (h1 := h) rfl (fun b30 => ?_) (fun b30 => ?_)
      · refine am_R.nxs 2 (pc' := 49) (lv' := [some (.int 10), some (.int x), some (.int y), some (.int bw), some (.int bh), some (.int 0), some (.int 0)]) (st' := []) (h1 := h) rfl ?_
        refine am_R.nxs 3 (pc' := 131) (lv' := [some (.int 10), some (.int x), some (.int y), some (.int bw), some (.int bh), some (.int 0), some (.int 0)]) (st' := [.int 0]) (h1 := h) rfl ?_
        rw [show aw_oc 19 x y bw bh = false from decide_eq_false (fun q => q.1 b30)]
        exact am_R.reti rfl rfl (by (first | rfl | (split <;> rfl)))
      · refine am_R.ites 7 (P := (bw - (bw / 3)) ≤ x) (T := 46) (F := 42) (lv' := [some (.int 10), some (.int x), some (.int y), some (.int bw), some (.int bh), some (.int 0), none]) (st' := []) (h1 := h) rfl (fun b39 => ?_) (fun b39 => ?_)
        · refine am_R.nxs 2 (pc' := 49) (lv' := [some (.int 10), some (.int x), some (.int y), some (.int bw), some (.int bh), some (.int 0), some (.int 0)]) (st' := []) (h1 := h) rfl ?_
          refine am_R.nxs 3 (pc' := 131) (lv' := [some (.int 10), some (.int x), some (.int y), some (.int bw), some (.int bh), some (.int 0), some (.int 0)]) (st' := [.int 0]) (h1 := h) rfl ?_
          rw [show aw_oc 19 x y bw bh = false from decide_eq_false (fun q => q.2 b39)]
          exact am_R.reti rfl rfl (by (first | rfl | (split <;> rfl)))
        · refine am_R.nxs 3 (pc' := 49) (lv' := [some (.int 10), some (.int x), some (.int y), some (.int bw), some (.int bh), some (.int 0), some (.int 1)]) (st' := []) (h1 := h) rfl ?_
          refine am_R.nxs 3 (pc' := 131) (lv' := [some (.int 10), some (.int x), some (.int y), some (.int bw), some (.int bh), some (.int 0), some (.int 1)]) (st' := [.int 1]) (h1 := h) rfl ?_
          rw [show aw_oc 19 x y bw bh = true from decide_eq_true ⟨b30, b39⟩]
          exact am_R.reti rfl rfl (by (first | rfl | (split <;> rfl)))
    · refine am_R.ites 8 (P := x < (bw / 3)) (T := 46) (F := 33) (lv' := [some (.int 10), some (.int x), some (.int y), some (.int bw), some (.int bh), some (.int 1), none]) (st' := []) (h1 := h) rfl (fun b30 => ?_) (fun b30 => ?_)
      · refine am_R.nxs 2 (pc' := 49) (lv' := [some (.int 10), some (.int x), some (.int y), some (.int bw), some (.int bh), some (.int 1), some (.int 0)]) (st' := []) (h1 := h) rfl ?_
        refine am_R.nxs 3 (pc' := 131) (lv' := [some (.int 10), some (.int x), some (.int y), some (.int bw), some (.int bh), some (.int 1), some (.int 0)]) (st' := [.int 0]) (h1 := h) rfl ?_
        rw [show aw_oc 19 x y bw bh = false from decide_eq_false (fun q => q.1 b30)]
        exact am_R.reti rfl rfl (by (first | rfl | (split <;> rfl)))
      · refine am_R.ites 7 (P := (bw - (bw / 3)) ≤ x) (T := 46) (F := 42) (lv' := [some (.int 10), some (.int x), some (.int y), some (.int bw), some (.int bh), some (.int 1), none]) (st' := []) (h1 := h) rfl (fun b39 => ?_) (fun b39 => ?_)
        · refine am_R.nxs 2 (pc' := 49) (lv' := [some (.int 10), some (.int x), some (.int y), some (.int bw), some (.int bh), some (.int 1), some (.int 0)]) (st' := []) (h1 := h) rfl ?_
          refine am_R.nxs 3 (pc' := 131) (lv' := [some (.int 10), some (.int x), some (.int y), some (.int bw), some (.int bh), some (.int 1), some (.int 0)]) (st' := [.int 0]) (h1 := h) rfl ?_
          rw [show aw_oc 19 x y bw bh = false from decide_eq_false (fun q => q.2 b39)]
          exact am_R.reti rfl rfl (by (first | rfl | (split <;> rfl)))
        · refine am_R.nxs 3 (pc' := 49) (lv' := [some (.int 10), some (.int x), some (.int y), some (.int bw), some (.int bh), some (.int 1), some (.int 1)]) (st' := []) (h1 := h) rfl ?_
          refine am_R.nxs 3 (pc' := 131) (lv' := [some (.int 10), some (.int x), some (.int y), some (.int bw), some (.int bh), some (.int 1), some (.int 1)]) (st' := [.int 1]) (h1 := h) rfl ?_
          rw [show aw_oc 19 x y bw bh = true from decide_eq_true ⟨b30, b39⟩]
          exact am_R.reti rfl rfl (by (first | rfl | (split <;> rfl)))
set_option maxRecDepth 100000 in
theorem aw_k124_20 (d : Nat) {h : am_H} (x y bw bh : Int32) : am_R (d + 2) 124 0 [some (.int 12), some (.int x), some (.int y), some (.int bw), some (.int bh), none, none] [] h (.inl (some (.int (if aw_oc 20 x y bw bh = true then 1 else 0)))) h := by
  refine am_R.ites 5 (P := y < (bh / 3)) (T := 23) (F := 8) (lv' := [some (.int 12), some (.int x), some (.int y), some (.int bw), some (.int bh), none, none]) (st' := []) (h1 := h) rfl (fun b5 => ?_) (fun b5 => ?_)
  · refine am_R.ites 7 (P := x < (bw / 3)) (T := 46) (F := 33) (lv' := [some (.int 12), some (.int x), some (.int y), some (.int bw), some (.int bh), some (.int 0), none]) (st' := []) (h1 := h) rfl (fun b30 => ?_) (fun b30 => ?_)
    · refine am_R.nxs 2 (pc' := 49) (lv' := [some (.int 12), some (.int x), some (.int y), some (.int bw), some (.int bh), some (.int 0), some (.int 0)]) (st' := []) (h1 := h) rfl ?_
      refine am_R.nxs 6 (pc' := 137) (lv' := [some (.int 12), some (.int x), some (.int y), some (.int bw), some (.int bh), some (.int 0), some (.int 0)]) (st' := [.int bh, .int bw, .int y, .int x]) (h1 := h) rfl ?_
      refine am_R.cs (mj := 125) (as := [.int x, .int y, .int bw, .int bh]) (r := []) (v := some (.int (if aw_bnd x y bw bh = true then 1 else 0))) (h1 := h) (pc' := 140) rfl (aw_k125 _ x y bw bh) rfl ?_
      exact am_R.reti rfl rfl (by (first | rfl | (split <;> rfl)))
    · refine am_R.ites 7 (P := (bw - (bw / 3)) ≤ x) (T := 46) (F := 42) (lv' := [some (.int 12), some (.int x), some (.int y), some (.int bw), some (.int bh), some (.int 0), none]) (st' := []) (h1 := h) rfl (fun b39 => ?_) (fun b39 => ?_)
      · refine am_R.nxs 2 (pc' := 49) (lv' := [some (.int 12), some (.int x), some (.int y), some (.int bw), some (.int bh), some (.int 0), some (.int 0)]) (st' := []) (h1 := h) rfl ?_
        refine am_R.nxs 6 (pc' := 137) (lv' := [some (.int 12), some (.int x), some (.int y), some (.int bw), some (.int bh), some (.int 0), some (.int 0)]) (st' := [.int bh, .int bw, .int y, .int x]) (h1 := h) rfl ?_
        refine am_R.cs (mj := 125) (as := [.int x, .int y, .int bw, .int bh]) (r := []) (v := some (.int (if aw_bnd x y bw bh = true then 1 else 0))) (h1 := h) (pc' := 140) rfl (aw_k125 _ x y bw bh) rfl ?_
        exact am_R.reti rfl rfl (by (first | rfl | (split <;> rfl)))
      · refine am_R.nxs 3 (pc' := 49) (lv' := [some (.int 12), some (.int x), some (.int y), some (.int bw), some (.int bh), some (.int 0), some (.int 1)]) (st' := []) (h1 := h) rfl ?_
        refine am_R.nxs 6 (pc' := 137) (lv' := [some (.int 12), some (.int x), some (.int y), some (.int bw), some (.int bh), some (.int 0), some (.int 1)]) (st' := [.int bh, .int bw, .int y, .int x]) (h1 := h) rfl ?_
        refine am_R.cs (mj := 125) (as := [.int x, .int y, .int bw, .int bh]) (r := []) (v := some (.int (if aw_bnd x y bw bh = true then 1 else 0))) (h1 := h) (pc' := 140) rfl (aw_k125 _ x y bw bh) rfl ?_
        exact am_R.reti rfl rfl (by (first | rfl | (split <;> rfl)))
  · refine am_R.ites 7 (P := (bh - (bh / 3)) ≤ y) (T := 23) (F := 19) (lv' := [some (.int 12), some (.int x), some (.int y), some (.int bw), some (.int bh), none, none]) (st' := []) (h1 := h) rfl (fun b16 => ?_) (fun b16 => ?_)
    · refine am_R.ites 7 (P := x < (bw / 3)) (T := 46) (F := 33) (lv' := [some (.int 12), some (.int x), some (.int y), some (.int bw), some (.int bh), some (.int 0), none]) (st' := []) (h1 := h) rfl (fun b30 => ?_) (fun b30 => ?_)
      · refine am_R.nxs 2 (pc' := 49) (lv' := [some (.int 12), some (.int x), some (.int y), some (.int bw), some (.int bh), some (.int 0), some (.int 0)]) (st' := []) (h1 := h) rfl ?_
        refine am_R.nxs 6 (pc' := 137) (lv' := [some (.int 12), some (.int x), some (.int y), some (.int bw), some (.int bh), some (.int 0), some (.int 0)]) (st' := [.int bh, .int bw, .int y, .int x]) (h1 := h) rfl ?_
        refine am_R.cs (mj := 125) (as := [.int x, .int y, .int bw, .int bh]) (r := []) (v := some (.int (if aw_bnd x y bw bh = true then 1 else 0))) (h1 := h) (pc' := 140) rfl (aw_k125 _ x y bw bh) rfl ?_
        exact am_R.reti rfl rfl (by (first | rfl | (split <;> rfl)))
      · refine am_R.ites 7 (P := (bw - (bw / 3)) ≤ x) (T := 46) (F := 42) (lv' := [some (.int 12), some (.int x), some (.int y), some (.int bw), some (.int bh), some (.int 0), none]) (st' := []) (h1 := h) rfl (fun b39 => ?_) (fun b39 => ?_)
        · refine am_R.nxs 2 (pc' := 49) (lv' := [some (.int 12), some (.int x), some (.int y), some (.int bw), some (.int bh), some (.int 0), some (.int 0)]) (st' := []) (h1 := h) rfl ?_
          refine am_R.nxs 6 (pc' := 137) (lv' := [some (.int 12), some (.int x), some (.int y), some (.int bw), some (.int bh), some (.int 0), some (.int 0)]) (st' := [.int bh, .int bw, .int y, .int x]) (h1 := h) rfl ?_
          refine am_R.cs (mj := 125) (as := [.int x, .int y, .int bw, .int bh]) (r := []) (v := some (.int (if aw_bnd x y bw bh = true then 1 else 0))) (h1 := h) (pc' := 140) rfl (aw_k125 _ x y bw bh) rfl ?_
          exact am_R.reti rfl rfl (by (first | rfl | (split <;> rfl)))
        · refine am_R.nxs 3 (pc' := 49) (lv' := [some (.int 12), some (.int x), some (.int y), some (.int bw), some (.int bh), some (.int 0), some (.int 1)]) (st' := []) (h1 := h) rfl ?_
          refine am_R.nxs 6 (pc' := 137) (lv' := [some (.int 12), some (.int x), some (.int y), some (.int bw), some (.int bh), some (.int 0), some (.int 1)]) (st' := [.int bh, .int bw, .int y, .int x]) (h1 := h) rfl ?_
          refine am_R.cs (mj := 125) (as := [.int x, .int y, .int bw, .int bh]) (r := []) (v := some (.int (if aw_bnd x y bw bh = true then 1 else 0))) (h1 := h) (pc' := 140) rfl (aw_k125 _ x y bw bh) rfl ?_
          exact am_R.reti rfl rfl (by (first | rfl | (split <;> rfl)))
    · refine am_R.ites 8 (P := x < (bw / 3)) (T := 46) (F := 33) (lv' := [some (.int 12), some (.int x), some (.int y), some (.int bw), some (.int bh), some (.int 1), none]) (st' := []) (h1 := h) rfl (fun b30 => ?_) (fun b30 => ?_)
      · refine am_R.nxs 2 (pc' := 49) (lv' := [some (.int 12), some (.int x), some (.int y), some (.int bw), some (.int bh), some (.int 1), some (.int 0)]) (st' := []) (h1 := h) rfl ?_
        refine am_R.nxs 6 (pc' := 137) (lv' := [some (.int 12), some (.int x), some (.int y), some (.int bw), some (.int bh), some (.int 1), some (.int 0)]) (st' := [.int bh, .int bw, .int y, .int x]) (h1 := h) rfl ?_
        refine am_R.cs (mj := 125) (as := [.int x, .int y, .int bw, .int bh]) (r := []) (v := some (.int (if aw_bnd x y bw bh = true then 1 else 0))) (h1 := h) (pc' := 140) rfl (aw_k125 _ x y bw bh) rfl ?_
        exact am_R.reti rfl rfl (by (first | rfl | (split <;> rfl)))
      · refine am_R.ites 7 (P := (bw - (bw / 3)) ≤ x) (T := 46) (F := 42) (lv' := [some (.int 12), some (.int x), some (.int y), some (.int bw), some (.int bh), some (.int 1), none]) (st' := []) (h1 := h) rfl (fun b39 => ?_) (fun b39 => ?_)
        · refine am_R.nxs 2 (pc' := 49) (lv' := [some (.int 12), some (.int x), some (.int y), some (.int bw), some (.int bh), some (.int 1), some (.int 0)]) (st' := []) (h1 := h) rfl ?_
          refine am_R.nxs 6 (pc' := 137) (lv' := [some (.int 12), some (.int x), some (.int y), some (.int bw), some (.int bh), some (.int 1), some (.int 0)]) (st' := [.int bh, .int bw, .int y, .int x]) (h1 := h) rfl ?_
          refine am_R.cs (mj := 125) (as := [.int x, .int y, .int bw, .int bh]) (r := []) (v := some (.int (if aw_bnd x y bw bh = true then 1 else 0))) (h1 := h) (pc' := 140) rfl (aw_k125 _ x y bw bh) rfl ?_
          exact am_R.reti rfl rfl (by (first | rfl | (split <;> rfl)))
        · refine am_R.nxs 3 (pc' := 49) (lv' := [some (.int 12), some (.int x), some (.int y), some (.int bw), some (.int bh), some (.int 1), some (.int 1)]) (st' := []) (h1 := h) rfl ?_
          refine am_R.nxs 6 (pc' := 137) (lv' := [some (.int 12), some (.int x), some (.int y), some (.int bw), some (.int bh), some (.int 1), some (.int 1)]) (st' := [.int bh, .int bw, .int y, .int x]) (h1 := h) rfl ?_
          refine am_R.cs (mj := 125) (as := [.int x, .int y, .int bw, .int bh]) (r := []) (v := some (.int (if aw_bnd x y bw bh = true then 1 else 0))) (h1 := h) (pc' := 140) rfl (aw_k125 _ x y bw bh) rfl ?_
          exact am_R.reti rfl rfl (by (first | rfl | (split <;> rfl)))
set_option maxRecDepth 100000 in
theorem aw_k124_21 (d : Nat) {h : am_H} (x y bw bh : Int32) : am_R (d + 2) 124 0 [some (.int 19), some (.int x), some (.int y), some (.int bw), some (.int bh), none, none] [] h (.inl (some (.int (if aw_oc 21 x y bw bh = true then 1 else 0)))) h := by
  refine am_R.ites 5 (P := y < (bh / 3)) (T := 23) (F := 8) (lv' := [some (.int 19), some (.int x), some (.int y), some (.int bw), some (.int bh), none, none]) (st' := []) (h1 := h) rfl (fun b5 => ?_) (fun b5 => ?_)
  · refine am_R.ites 7 (P := x < (bw / 3)) (T := 46) (F := 33) (lv' := [some (.int 19), some (.int x), some (.int y), some (.int bw), some (.int bh), some (.int 0), none]) (st' := []) (h1 := h) rfl (fun b30 => ?_) (fun b30 => ?_)
    · refine am_R.nxs 2 (pc' := 49) (lv' := [some (.int 19), some (.int x), some (.int y), some (.int bw), some (.int bh), some (.int 0), some (.int 0)]) (st' := []) (h1 := h) rfl ?_
      refine am_R.ites 4 (P := ¬ 0 = 0) (T := 151) (F := 146) (lv' := [some (.int 19), some (.int x), some (.int y), some (.int bw), some (.int bh), some (.int 0), some (.int 0)]) (st' := []) (h1 := h) rfl (fun b143 => ?_) (fun b143 => ?_)
      · exact absurd rfl b143
      · refine am_R.ites 2 (P := 0 = 0) (T := 155) (F := 151) (lv' := [some (.int 19), some (.int x), some (.int y), some (.int bw), some (.int bh), some (.int 0), some (.int 0)]) (st' := []) (h1 := h) rfl (fun b148 => ?_) (fun b148 => ?_)
        · refine am_R.nxs 1 (pc' := 156) (lv' := [some (.int 19), some (.int x), some (.int y), some (.int bw), some (.int bh), some (.int 0), some (.int 0)]) (st' := [.int 0]) (h1 := h) rfl ?_
          rw [show aw_oc 21 x y bw bh = false from show (aw_mid y bh || aw_mid x bw) = false by rw [show aw_mid y bh = false from decide_eq_false (fun q => q.1 b5), show aw_mid x bw = false from decide_eq_false (fun q => q.1 b30)]; rfl]
          exact am_R.reti rfl rfl (by (first | rfl | (split <;> rfl)))
        · exact absurd rfl b148
    · refine am_R.ites 7 (P := (bw - (bw / 3)) ≤ x) (T := 46) (F := 42) (lv' := [some (.int 19), some (.int x), some (.int y), some (.int bw), some (.int bh), some (.int 0), none]) (st' := []) (h1 := h) rfl (fun b39 => ?_) (fun b39 => ?_)
      · refine am_R.nxs 2 (pc' := 49) (lv' := [some (.int 19), some (.int x), some (.int y), some (.int bw), some (.int bh), some (.int 0), some (.int 0)]) (st' := []) (h1 := h) rfl ?_
        refine am_R.ites 4 (P := ¬ 0 = 0) (T := 151) (F := 146) (lv' := [some (.int 19), some (.int x), some (.int y), some (.int bw), some (.int bh), some (.int 0), some (.int 0)]) (st' := []) (h1 := h) rfl (fun b143 => ?_) (fun b143 => ?_)
        · exact absurd rfl b143
        · refine am_R.ites 2 (P := 0 = 0) (T := 155) (F := 151) (lv' := [some (.int 19), some (.int x), some (.int y), some (.int bw), some (.int bh), some (.int 0), some (.int 0)]) (st' := []) (h1 := h) rfl (fun b148 => ?_) (fun b148 => ?_)
          · refine am_R.nxs 1 (pc' := 156) (lv' := [some (.int 19), some (.int x), some (.int y), some (.int bw), some (.int bh), some (.int 0), some (.int 0)]) (st' := [.int 0]) (h1 := h) rfl ?_
            rw [show aw_oc 21 x y bw bh = false from show (aw_mid y bh || aw_mid x bw) = false by rw [show aw_mid y bh = false from decide_eq_false (fun q => q.1 b5), show aw_mid x bw = false from decide_eq_false (fun q => q.2 b39)]; rfl]
            exact am_R.reti rfl rfl (by (first | rfl | (split <;> rfl)))
          · exact absurd rfl b148
      · refine am_R.nxs 3 (pc' := 49) (lv' := [some (.int 19), some (.int x), some (.int y), some (.int bw), some (.int bh), some (.int 0), some (.int 1)]) (st' := []) (h1 := h) rfl ?_
        refine am_R.ites 4 (P := ¬ 0 = 0) (T := 151) (F := 146) (lv' := [some (.int 19), some (.int x), some (.int y), some (.int bw), some (.int bh), some (.int 0), some (.int 1)]) (st' := []) (h1 := h) rfl (fun b143 => ?_) (fun b143 => ?_)
        · exact absurd rfl b143
        · refine am_R.ites 2 (P := 1 = 0) (T := 155) (F := 151) (lv' := [some (.int 19), some (.int x), some (.int y), some (.int bw), some (.int bh), some (.int 0), some (.int 1)]) (st' := []) (h1 := h) rfl (fun b148 => ?_) (fun b148 => ?_)
          · exact absurd b148 (by decide)
          · refine am_R.nxs 2 (pc' := 156) (lv' := [some (.int 19), some (.int x), some (.int y), some (.int bw), some (.int bh), some (.int 0), some (.int 1)]) (st' := [.int 1]) (h1 := h) rfl ?_
            rw [show aw_oc 21 x y bw bh = true from show (aw_mid y bh || aw_mid x bw) = true by rw [show aw_mid y bh = false from decide_eq_false (fun q => q.1 b5), show aw_mid x bw = true from decide_eq_true ⟨b30, b39⟩]; rfl]
            exact am_R.reti rfl rfl (by (first | rfl | (split <;> rfl)))
  · refine am_R.ites 7 (P := (bh - (bh / 3)) ≤ y) (T := 23) (F := 19) (lv' := [some (.int 19), some (.int x), some (.int y), some (.int bw), some (.int bh), none, none]) (st' := []) (h1 := h) rfl (fun b16 => ?_) (fun b16 => ?_)
    · refine am_R.ites 7 (P := x < (bw / 3)) (T := 46) (F := 33) (lv' := [some (.int 19), some (.int x), some (.int y), some (.int bw), some (.int bh), some (.int 0), none]) (st' := []) (h1 := h) rfl (fun b30 => ?_) (fun b30 => ?_)
      · refine am_R.nxs 2 (pc' := 49) (lv' := [some (.int 19), some (.int x), some (.int y), some (.int bw), some (.int bh), some (.int 0), some (.int 0)]) (st' := []) (h1 := h) rfl ?_
        refine am_R.ites 4 (P := ¬ 0 = 0) (T := 151) (F := 146) (lv' := [some (.int 19), some (.int x), some (.int y), some (.int bw), some (.int bh), some (.int 0), some (.int 0)]) (st' := []) (h1 := h) rfl (fun b143 => ?_) (fun b143 => ?_)
        · exact absurd rfl b143
        · refine am_R.ites 2 (P := 0 = 0) (T := 155) (F := 151) (lv' := [some (.int 19), some (.int x), some (.int y), some (.int bw), some (.int bh), some (.int 0), some (.int 0)]) (st' := []) (h1 := h) rfl (fun b148 => ?_) (fun b148 => ?_)
          · refine am_R.nxs 1 (pc' := 156) (lv' := [some (.int 19), some (.int x), some (.int y), some (.int bw), some (.int bh), some (.int 0), some (.int 0)]) (st' := [.int 0]) (h1 := h) rfl ?_
            rw [show aw_oc 21 x y bw bh = false from show (aw_mid y bh || aw_mid x bw) = false by rw [show aw_mid y bh = false from decide_eq_false (fun q => q.2 b16), show aw_mid x bw = false from decide_eq_false (fun q => q.1 b30)]; rfl]
            exact am_R.reti rfl rfl (by (first | rfl | (split <;> rfl)))
          · exact absurd rfl b148
      · refine am_R.ites 7 (P := (bw - (bw / 3)) ≤ x) (T := 46) (F := 42) (lv' := [some (.int 19), some (.int x), some (.int y), some (.int bw), some (.int bh), some (.int 0), none]) (st' := []) (h1 := h) rfl (fun b39 => ?_) (fun b39 => ?_)
        · refine am_R.nxs 2 (pc' := 49) (lv' := [some (.int 19), some (.int x), some (.int y), some (.int bw), some (.int bh), some (.int 0), some (.int 0)]) (st' := []) (h1 := h) rfl ?_
          refine am_R.ites 4 (P := ¬ 0 = 0) (T := 151) (F := 146) (lv' := [some (.int 19), some (.int x), some (.int y), some (.int bw), some (.int bh), some (.int 0), some (.int 0)]) (st' := []) (h1 := h) rfl (fun b143 => ?_) (fun b143 => ?_)
          · exact absurd rfl b143
          · refine am_R.ites 2 (P := 0 = 0) (T := 155) (F := 151) (lv' := [some (.int 19), some (.int x), some (.int y), some (.int bw), some (.int bh), some (.int 0), some (.int 0)]) (st' := []) (h1 := h) rfl (fun b148 => ?_) (fun b148 => ?_)
            · refine am_R.nxs 1 (pc' := 156) (lv' := [some (.int 19), some (.int x), some (.int y), some (.int bw), some (.int bh), some (.int 0), some (.int 0)]) (st' := [.int 0]) (h1 := h) rfl ?_
              rw [show aw_oc 21 x y bw bh = false from show (aw_mid y bh || aw_mid x bw) = false by rw [show aw_mid y bh = false from decide_eq_false (fun q => q.2 b16), show aw_mid x bw = false from decide_eq_false (fun q => q.2 b39)]; rfl]
              exact am_R.reti rfl rfl (by (first | rfl | (split <;> rfl)))
            · exact absurd rfl b148
        · refine am_R.nxs 3 (pc' := 49) (lv' := [some (.int 19), some (.int x), some (.int y), some (.int bw), some (.int bh), some (.int 0), some (.int 1)]) (st' := []) (h1 := h) rfl ?_
          refine am_R.ites 4 (P := ¬ 0 = 0) (T := 151) (F := 146) (lv' := [some (.int 19), some (.int x), some (.int y), some (.int bw), some (.int bh), some (.int 0), some (.int 1)]) (st' := []) (h1 := h) rfl (fun b143 => ?_) (fun b143 => ?_)
          · exact absurd rfl b143
          · refine am_R.ites 2 (P := 1 = 0) (T := 155) (F := 151) (lv' := [some (.int 19), some (.int x), some (.int y), some (.int bw), some (.int bh), some (.int 0), some (.int 1)]) (st' := []) (h1 := h) rfl (fun b148 => ?_) (fun b148 => ?_)
            · exact absurd b148 (by decide)
            · refine am_R.nxs 2 (pc' := 156) (lv' := [some (.int 19), some (.int x), some (.int y), some (.int bw), some (.int bh), some (.int 0), some (.int 1)]) (st' := [.int 1]) (h1 := h) rfl ?_
              rw [show aw_oc 21 x y bw bh = true from show (aw_mid y bh || aw_mid x bw) = true by rw [show aw_mid y bh = false from decide_eq_false (fun q => q.2 b16), show aw_mid x bw = true from decide_eq_true ⟨b30, b39⟩]; rfl]
              exact am_R.reti rfl rfl (by (first | rfl | (split <;> rfl)))
    · refine am_R.ites 8 (P := x < (bw / 3)) (T := 46) (F := 33) (lv' := [some (.int 19), some (.int x), some (.int y), some (.int bw), some (.int bh), some (.int 1), none]) (st' := []) (h1 := h) rfl (fun b30 => ?_) (fun b30 => ?_)
      · refine am_R.nxs 2 (pc' := 49) (lv' := [some (.int 19), some (.int x), some (.int y), some (.int bw), some (.int bh), some (.int 1), some (.int 0)]) (st' := []) (h1 := h) rfl ?_
        refine am_R.ites 4 (P := ¬ 1 = 0) (T := 151) (F := 146) (lv' := [some (.int 19), some (.int x), some (.int y), some (.int bw), some (.int bh), some (.int 1), some (.int 0)]) (st' := []) (h1 := h) rfl (fun b143 => ?_) (fun b143 => ?_)
        · refine am_R.nxs 2 (pc' := 156) (lv' := [some (.int 19), some (.int x), some (.int y), some (.int bw), some (.int bh), some (.int 1), some (.int 0)]) (st' := [.int 1]) (h1 := h) rfl ?_
          rw [show aw_oc 21 x y bw bh = true from show (aw_mid y bh || aw_mid x bw) = true by rw [show aw_mid y bh = true from decide_eq_true ⟨b5, b16⟩, show aw_mid x bw = false from decide_eq_false (fun q => q.1 b30)]; rfl]
          exact am_R.reti rfl rfl (by (first | rfl | (split <;> rfl)))
        · exact absurd (by decide) b143
      · refine am_R.ites 7 (P := (bw - (bw / 3)) ≤ x) (T := 46) (F := 42) (lv' := [some (.int 19), some (.int x), some (.int y), some (.int bw), some (.int bh), some (.int 1), none]) (st' := []) (h1 := h) rfl (fun b39 => ?_) (fun b39 => ?_)
        · refine am_R.nxs 2 (pc' := 49) (lv' := [some (.int 19), some (.int x), some (.int y), some (.int bw), some (.int bh), some (.int 1), some (.int 0)]) (st' := []) (h1 := h) rfl ?_
          refine am_R.ites 4 (P := ¬ 1 = 0) (T := 151) (F := 146) (lv' := [some (.int 19), some (.int x), some (.int y), some (.int bw), some (.int bh), some (.int 1), some (.int 0)]) (st' := []) (h1 := h) rfl (fun b143 => ?_) (fun b143 => ?_)
          · refine am_R.nxs 2 (pc' := 156) (lv' := [some (.int 19), some (.int x), some (.int y), some (.int bw), some (.int bh), some (.int 1), some (.int 0)]) (st' := [.int 1]) (h1 := h) rfl ?_
            rw [show aw_oc 21 x y bw bh = true from show (aw_mid y bh || aw_mid x bw) = true by rw [show aw_mid y bh = true from decide_eq_true ⟨b5, b16⟩, show aw_mid x bw = false from decide_eq_false (fun q => q.2 b39)]; rfl]
            exact am_R.reti rfl rfl (by (first | rfl | (split <;> rfl)))
          · exact absurd (by decide) b143
        · refine am_R.nxs 3 (pc' := 49) (lv' := [some (.int 19), some (.int x), some (.int y), some (.int bw), some (.int bh), some (.int 1), some (.int 1)]) (st' := []) (h1 := h) rfl ?_
          refine am_R.ites 4 (P := ¬ 1 = 0) (T := 151) (F := 146) (lv' := [some (.int 19), some (.int x), some (.int y), some (.int bw), some (.int bh), some (.int 1), some (.int 1)]) (st' := []) (h1 := h) rfl (fun b143 => ?_) (fun b143 => ?_)
          · refine am_R.nxs 2 (pc' := 156) (lv' := [some (.int 19), some (.int x), some (.int y), some (.int bw), some (.int bh), some (.int 1), some (.int 1)]) (st' := [.int 1]) (h1 := h) rfl ?_
            rw [show aw_oc 21 x y bw bh = true from show (aw_mid y bh || aw_mid x bw) = true by rw [show aw_mid y bh = true from decide_eq_true ⟨b5, b16⟩, show aw_mid x bw = true from decide_eq_true ⟨b30, b39⟩]; rfl]
            exact am_R.reti rfl rfl (by (first | rfl | (split <;> rfl)))
          · exact absurd (by decide) b143
set_option maxRecDepth 100000 in
theorem aw_k124_22 (d : Nat) {h : am_H} (x y bw bh : Int32) : am_R (d + 2) 124 0 [some (.int 20), some (.int x), some (.int y), some (.int bw), some (.int bh), none, none] [] h (.inl (some (.int (if aw_oc 22 x y bw bh = true then 1 else 0)))) h := by
  refine am_R.ites 5 (P := y < (bh / 3)) (T := 23) (F := 8) (lv' := [some (.int 20), some (.int x), some (.int y), some (.int bw), some (.int bh), none, none]) (st' := []) (h1 := h) rfl (fun b5 => ?_) (fun b5 => ?_)
  · refine am_R.ites 7 (P := x < (bw / 3)) (T := 46) (F := 33) (lv' := [some (.int 20), some (.int x), some (.int y), some (.int bw), some (.int bh), some (.int 0), none]) (st' := []) (h1 := h) rfl (fun b30 => ?_) (fun b30 => ?_)
    · refine am_R.nxs 2 (pc' := 49) (lv' := [some (.int 20), some (.int x), some (.int y), some (.int bw), some (.int bh), some (.int 0), some (.int 0)]) (st' := []) (h1 := h) rfl ?_
      refine am_R.nxs 6 (pc' := 162) (lv' := [some (.int 20), some (.int x), some (.int y), some (.int bw), some (.int bh), some (.int 0), some (.int 0)]) (st' := [.int bh, .int bw, .int y, .int x]) (h1 := h) rfl ?_
      refine am_R.cs (mj := 125) (as := [.int x, .int y, .int bw, .int bh]) (r := []) (v := some (.int (if aw_bnd x y bw bh = true then 1 else 0))) (h1 := h) (pc' := 165) rfl (aw_k125 _ x y bw bh) rfl ?_
      refine am_R.ites 1 (P := ¬ (if aw_bnd x y bw bh = true then 1 else 0) = 0) (T := 183) (F := 168) (lv' := [some (.int 20), some (.int x), some (.int y), some (.int bw), some (.int bh), some (.int 0), some (.int 0)]) (st' := []) (h1 := h) rfl (fun b165 => ?_) (fun b165 => ?_)
      · refine am_R.nxs 2 (pc' := 188) (lv' := [some (.int 20), some (.int x), some (.int y), some (.int bw), some (.int bh), some (.int 0), some (.int 0)]) (st' := [.int 1]) (h1 := h) rfl ?_
        rw [show aw_oc 22 x y bw bh = true from show (aw_bnd x y bw bh || aw_bnd (bw - 1 - x) y bw bh) = true from by rw [aw_01 b165]; rfl]
        exact am_R.reti rfl rfl (by (first | rfl | (split <;> rfl)))
      · refine am_R.nxs 8 (pc' := 177) (lv' := [some (.int 20), some (.int x), some (.int y), some (.int bw), some (.int bh), some (.int 0), some (.int 0)]) (st' := [.int bh, .int bw, .int y, .int ((bw - 1) - x)]) (h1 := h) rfl ?_
        refine am_R.cs (mj := 125) (as := [.int ((bw - 1) - x), .int y, .int bw, .int bh]) (r := []) (v := some (.int (if aw_bnd ((bw - 1) - x) y bw bh = true then 1 else 0))) (h1 := h) (pc' := 180) rfl (aw_k125 _ ((bw - 1) - x) y bw bh) rfl ?_
        refine am_R.ites 1 (P := (if aw_bnd ((bw - 1) - x) y bw bh = true then 1 else 0) = 0) (T := 187) (F := 183) (lv' := [some (.int 20), some (.int x), some (.int y), some (.int bw), some (.int bh), some (.int 0), some (.int 0)]) (st' := []) (h1 := h) rfl (fun b180 => ?_) (fun b180 => ?_)
        · refine am_R.nxs 1 (pc' := 188) (lv' := [some (.int 20), some (.int x), some (.int y), some (.int bw), some (.int bh), some (.int 0), some (.int 0)]) (st' := [.int 0]) (h1 := h) rfl ?_
          rw [show aw_oc 22 x y bw bh = false from show (aw_bnd x y bw bh || aw_bnd (bw - 1 - x) y bw bh) = false from by rw [aw_00 (Decidable.not_not.mp b165), aw_00 b180]; rfl]
          exact am_R.reti rfl rfl (by (first | rfl | (split <;> rfl)))
        · refine am_R.nxs 2 (pc' := 188) (lv' := [some (.int 20), some (.int x), some (.int y), some (.int bw), some (.int bh), some (.int 0), some (.int 0)]) (st' := [.int 1]) (h1 := h) rfl ?_
          rw [show aw_oc 22 x y bw bh = true from show (aw_bnd x y bw bh || aw_bnd (bw - 1 - x) y bw bh) = true from by rw [aw_01 b180]; exact Bool.or_true _]
          exact am_R.reti rfl rfl (by (first | rfl | (split <;> rfl)))
    · refine am_R.ites 7 (P := (bw - (bw / 3)) ≤ x) (T := 46) (F := 42) (lv' := [some (.int 20), some (.int x), some (.int y), some (.int bw), some (.int bh), some (.int 0), none]) (st' := []) (h1 := h) rfl (fun b39 => ?_) (fun b39 => ?_)
      · refine am_R.nxs 2 (pc' := 49) (lv' := [some (.int 20), some (.int x), some (.int y), some (.int bw), some (.int bh), some (.int 0), some (.int 0)]) (st' := []) (h1 := h) rfl ?_
        refine am_R.nxs 6 (pc' := 162) (lv' := [some (.int 20), some (.int x), some (.int y), some (.int bw), some (.int bh), some (.int 0), some (.int 0)]) (st' := [.int bh, .int bw, .int y, .int x]) (h1 := h) rfl ?_
        refine am_R.cs (mj := 125) (as := [.int x, .int y, .int bw, .int bh]) (r := []) (v := some (.int (if aw_bnd x y bw bh = true then 1 else 0))) (h1 := h) (pc' := 165) rfl (aw_k125 _ x y bw bh) rfl ?_
        refine am_R.ites 1 (P := ¬ (if aw_bnd x y bw bh = true then 1 else 0) = 0) (T := 183) (F := 168) (lv' := [some (.int 20), some (.int x), some (.int y), some (.int bw), some (.int bh), some (.int 0), some (.int 0)]) (st' := []) (h1 := h) rfl (fun b165 => ?_) (fun b165 => ?_)
        · refine am_R.nxs 2 (pc' := 188) (lv' := [some (.int 20), some (.int x), some (.int y), some (.int bw), some (.int bh), some (.int 0), some (.int 0)]) (st' := [.int 1]) (h1 := h) rfl ?_
          rw [show aw_oc 22 x y bw bh = true from show (aw_bnd x y bw bh || aw_bnd (bw - 1 - x) y bw bh) = true from by rw [aw_01 b165]; rfl]
          exact am_R.reti rfl rfl (by (first | rfl | (split <;> rfl)))
        · refine am_R.nxs 8 (pc' := 177) (lv' := [some (.int 20), some (.int x), some (.int y), some (.int bw), some (.int bh), some (.int 0), some (.int 0)]) (st' := [.int bh, .int bw, .int y, .int ((bw - 1) - x)]) (h1 := h) rfl ?_
          refine am_R.cs (mj := 125) (as := [.int ((bw - 1) - x), .int y, .int bw, .int bh]) (r := []) (v := some (.int (if aw_bnd ((bw - 1) - x) y bw bh = true then 1 else 0))) (h1 := h) (pc' := 180) rfl (aw_k125 _ ((bw - 1) - x) y bw bh) rfl ?_
          refine am_R.ites 1 (P := (if aw_bnd ((bw - 1) - x) y bw bh = true then 1 else 0) = 0) (T := 187) (F := 183) (lv' := [some (.int 20), some (.int x), some (.int y), some (.int bw), some (.int bh), some (.int 0), some (.int 0)]) (st' := []) (h1 := h) rfl (fun b180 => ?_) (fun b180 => ?_)
          · refine am_R.nxs 1 (pc' := 188) (lv' := [some (.int 20), some (.int x), some (.int y), some (.int bw), some (.int bh), some (.int 0), some (.int 0)]) (st' := [.int 0]) (h1 := h) rfl ?_
            rw [show aw_oc 22 x y bw bh = false from show (aw_bnd x y bw bh || aw_bnd (bw - 1 - x) y bw bh) = false from by rw [aw_00 (Decidable.not_not.mp b165), aw_00 b180]; rfl]
            exact am_R.reti rfl rfl (by (first | rfl | (split <;> rfl)))
          · refine am_R.nxs 2 (pc' := 188) (lv' := [some (.int 20), some (.int x), some (.int y), some (.int bw), some (.int bh), some (.int 0), some (.int 0)]) (st' := [.int 1]) (h1 := h) rfl ?_
            rw [show aw_oc 22 x y bw bh = true from show (aw_bnd x y bw bh || aw_bnd (bw - 1 - x) y bw bh) = true from by rw [aw_01 b180]; exact Bool.or_true _]
            exact am_R.reti rfl rfl (by (first | rfl | (split <;> rfl)))
      · refine am_R.nxs 3 (pc' := 49) (lv' := [some (.int 20), some (.int x), some (.int y), some (.int bw), some (.int bh), some (.int 0), some (.int 1)]) (st' := []) (h1 := h) rfl ?_
        refine am_R.nxs 6 (pc' := 162) (lv' := [some (.int 20), some (.int x), some (.int y), some (.int bw), some (.int bh), some (.int 0), some (.int 1)]) (st' := [.int bh, .int bw, .int y, .int x]) (h1 := h) rfl ?_
        refine am_R.cs (mj := 125) (as := [.int x, .int y, .int bw, .int bh]) (r := []) (v := some (.int (if aw_bnd x y bw bh = true then 1 else 0))) (h1 := h) (pc' := 165) rfl (aw_k125 _ x y bw bh) rfl ?_
        refine am_R.ites 1 (P := ¬ (if aw_bnd x y bw bh = true then 1 else 0) = 0) (T := 183) (F := 168) (lv' := [some (.int 20), some (.int x), some (.int y), some (.int bw), some (.int bh), some (.int 0), some (.int 1)]) (st' := []) (h1 := h) rfl (fun b165 => ?_) (fun b165 => ?_)
        · refine am_R.nxs 2 (pc' := 188) (lv' := [some (.int 20), some (.int x), some (.int y), some (.int bw), some (.int bh), some (.int 0), some (.int 1)]) (st' := [.int 1]) (h1 := h) rfl ?_
          rw [show aw_oc 22 x y bw bh = true from show (aw_bnd x y bw bh || aw_bnd (bw - 1 - x) y bw bh) = true from by rw [aw_01 b165]; rfl]
          exact am_R.reti rfl rfl (by (first | rfl | (split <;> rfl)))
        · refine am_R.nxs 8 (pc' := 177) (lv' := [some (.int 20), some (.int x), some (.int y), some (.int bw), some (.int bh), some (.int 0), some (.int 1)]) (st' := [.int bh, .int bw, .int y, .int ((bw - 1) - x)]) (h1 := h) rfl ?_
          refine am_R.cs (mj := 125) (as := [.int ((bw - 1) - x), .int y, .int bw, .int bh]) (r := []) (v := some (.int (if aw_bnd ((bw - 1) - x) y bw bh = true then 1 else 0))) (h1 := h) (pc' := 180) rfl (aw_k125 _ ((bw - 1) - x) y bw bh) rfl ?_
          refine am_R.ites 1 (P := (if aw_bnd ((bw - 1) - x) y bw bh = true then 1 else 0) = 0) (T := 187) (F := 183) (lv' := [some (.int 20), some (.int x), some (.int y), some (.int bw), some (.int bh), some (.int 0), some (.int 1)]) (st' := []) (h1 := h) rfl (fun b180 => ?_) (fun b180 => ?_)
          · refine am_R.nxs 1 (pc' := 188) (lv' := [some (.int 20), some (.int x), some (.int y), some (.int bw), some (.int bh), some (.int 0), some (.int 1)]) (st' := [.int 0]) (h1 := h) rfl ?_
            rw [show aw_oc 22 x y bw bh = false from show (aw_bnd x y bw bh || aw_bnd (bw - 1 - x) y bw bh) = false from by rw [aw_00 (Decidable.not_not.mp b165), aw_00 b180]; rfl]
            exact am_R.reti rfl rfl (by (first | rfl | (split <;> rfl)))
          · refine am_R.nxs 2 (pc' := 188) (lv' := [some (.int 20), some (.int x), some (.int y), some (.int bw), some (.int bh), some (.int 0), some (.int 1)]) (st' := [.int 1]) (h1 := h) rfl ?_
            rw [show aw_oc 22 x y bw bh = true from show (aw_bnd x y bw bh || aw_bnd (bw - 1 - x) y bw bh) = true from by rw [aw_01 b180]; exact Bool.or_true _]
            exact am_R.reti rfl rfl (by (first | rfl | (split <;> rfl)))
  · refine am_R.ites 7 (P := (bh - (bh / 3)) ≤ y) (T := 23) (F := 19) (lv' := [some (.int 20), some (.int x), some (.int y), some (.int bw), some (.int bh), none, none]) (st' := []) (h1 := h) rfl (fun b16 => ?_) (fun b16 => ?_)
    · refine am_R.ites 7 (P := x < (bw / 3)) (T := 46) (F := 33) (lv' := [some (.int 20), some (.int x), some (.int y), some (.int bw), some (.int bh), some (.int 0), none]) (st' := []) (h1 := h) rfl (fun b30 => ?_) (fun b30 => ?_)
      · refine am_R.nxs 2 (pc' := 49) (lv' := [some (.int 20), some (.int x), some (.int y), some (.int bw), some (.int bh), some (.int 0), some (.int 0)]) (st' := []) (h1 := h) rfl ?_
        refine am_R.nxs 6 (pc' := 162) (lv' := [some (.int 20), some (.int x), some (.int y), some (.int bw), some (.int bh), some (.int 0), some (.int 0)]) (st' := [.int bh, .int bw, .int y, .int x]) (h1 := h) rfl ?_
        refine am_R.cs (mj := 125) (as := [.int x, .int y, .int bw, .int bh]) (r := []) (v := some (.int (if aw_bnd x y bw bh = true then 1 else 0))) (h1 := h) (pc' := 165) rfl (aw_k125 _ x y bw bh) rfl ?_
        refine am_R.ites 1 (P := ¬ (if aw_bnd x y bw bh = true then 1 else 0) = 0) (T := 183) (F := 168) (lv' := [some (.int 20), some (.int x), some (.int y), some (.int bw), some (.int bh), some (.int 0), some (.int 0)]) (st' := []) (h1 := h) rfl (fun b165 => ?_) (fun b165 => ?_)
        · refine am_R.nxs 2 (pc' := 188) (lv' := [some (.int 20), some (.int x), some (.int y), some (.int bw), some (.int bh), some (.int 0), some (.int 0)]) (st' := [.int 1]) (h1 := h) rfl ?_
          rw [show aw_oc 22 x y bw bh = true from show (aw_bnd x y bw bh || aw_bnd (bw - 1 - x) y bw bh) = true from by rw [aw_01 b165]; rfl]
          exact am_R.reti rfl rfl (by (first | rfl | (split <;> rfl)))
        · refine am_R.nxs 8 (pc' := 177) (lv' := [some (.int 20), some (.int x), some (.int y), some (.int bw), some (.int bh), some (.int 0), some (.int 0)]) (st' := [.int bh, .int bw, .int y, .int ((bw - 1) - x)]) (h1 := h) rfl ?_
          refine am_R.cs (mj := 125) (as := [.int ((bw - 1) - x), .int y, .int bw, .int bh]) (r := []) (v := some (.int (if aw_bnd ((bw - 1) - x) y bw bh = true then 1 else 0))) (h1 := h) (pc' := 180) rfl (aw_k125 _ ((bw - 1) - x) y bw bh) rfl ?_
          refine am_R.ites 1 (P := (if aw_bnd ((bw - 1) - x) y bw bh = true then 1 else 0) = 0) (T := 187) (F := 183) (lv' := [some (.int 20), some (.int x), some (.int y), some (.int bw), some (.int bh), some (.int 0), some (.int 0)]) (st' := []) (h1 := h) rfl (fun b180 => ?_) (fun b180 => ?_)
          · refine am_R.nxs 1 (pc' := 188) (lv' := [some (.int 20), some (.int x), some (.int y), some (.int bw), some (.int bh), some (.int 0), some (.int 0)]) (st' := [.int 0]) (h1 := h) rfl ?_
            rw [show aw_oc 22 x y bw bh = false from show (aw_bnd x y bw bh || aw_bnd (bw - 1 - x) y bw bh) = false from by rw [aw_00 (Decidable.not_not.mp b165), aw_00 b180]; rfl]
            exact am_R.reti rfl rfl (by (first | rfl | (split <;> rfl)))
          · refine am_R.nxs 2 (pc' := 188) (lv' := [some (.int 20), some (.int x), some (.int y), some (.int bw), some (.int bh), some (.int 0), some (.int 0)]) (st' := [.int 1]) (h1 := h) rfl ?_
            rw [show aw_oc 22 x y bw bh = true from show (aw_bnd x y bw bh || aw_bnd (bw - 1 - x) y bw bh) = true from by rw [aw_01 b180]; exact Bool.or_true _]
            exact am_R.reti rfl rfl (by (first | rfl | (split <;> rfl)))
      · refine am_R.ites 7 (P := (bw - (bw / 3)) ≤ x) (T := 46) (F := 42) (lv' := [some (.int 20), some (.int x), some (.int y), some (.int bw), some (.int bh), some (.int 0), none]) (st' := []) (h1 := h) rfl (fun b39 => ?_) (fun b39 => ?_)
        · refine am_R.nxs 2 (pc' := 49) (lv' := [some (.int 20), some (.int x), some (.int y), some (.int bw), some (.int bh), some (.int 0), some (.int 0)]) (st' := []) (h1 := h) rfl ?_
          refine am_R.nxs 6 (pc' := 162) (lv' := [some (.int 20), some (.int x), some (.int y), some (.int bw), some (.int bh), some (.int 0), some (.int 0)]) (st' := [.int bh, .int bw, .int y, .int x]) (h1 := h) rfl ?_
          refine am_R.cs (mj := 125) (as := [.int x, .int y, .int bw, .int bh]) (r := []) (v := some (.int (if aw_bnd x y bw bh = true then 1 else 0))) (h1 := h) (pc' := 165) rfl (aw_k125 _ x y bw bh) rfl ?_
          refine am_R.ites 1 (P := ¬ (if aw_bnd x y bw bh = true then 1 else 0) = 0) (T := 183) (F := 168) (lv' := [some (.int 20), some (.int x), some (.int y), some (.int bw), some (.int bh), some (.int 0), some (.int 0)]) (st' := []) (h1 := h) rfl (fun b165 => ?_) (fun b165 => ?_)
          · refine am_R.nxs 2 (pc' := 188) (lv' := [some (.int 20), some (.int x), some (.int y), some (.int bw), some (.int bh), some (.int 0), some (.int 0)]) (st' := [.int 1]) (h1 := h) rfl ?_
            rw [show aw_oc 22 x y bw bh = true from show (aw_bnd x y bw bh || aw_bnd (bw - 1 - x) y bw bh) = true from by rw [aw_01 b165]; rfl]
            exact am_R.reti rfl rfl (by (first | rfl | (split <;> rfl)))
          · refine am_R.nxs 8 (pc' := 177) (lv' := [some (.int 20), some (.int x), some (.int y), some (.int bw), some (.int bh), some (.int 0), some (.int 0)]) (st' := [.int bh, .int bw, .int y, .int ((bw - 1) - x)]) (h1 := h) rfl ?_
            refine am_R.cs (mj := 125) (as := [.int ((bw - 1) - x), .int y, .int bw, .int bh]) (r := []) (v := some (.int (if aw_bnd ((bw - 1) - x) y bw bh = true then 1 else 0))) (h1 := h) (pc' := 180) rfl (aw_k125 _ ((bw - 1) - x) y bw bh) rfl ?_
            refine am_R.ites 1 (P := (if aw_bnd ((bw - 1) - x) y bw bh = true then 1 else 0) = 0) (T := 187) (F := 183) (lv' := [some (.int 20), some (.int x), some (.int y), some (.int bw), some (.int bh), some (.int 0), some (.int 0)]) (st' := []) (h1 := h) rfl (fun b180 => ?_) (fun b180 => ?_)
            · refine am_R.nxs 1 (pc' := 188) (lv' := [some (.int 20), some (.int x), some (.int y), some (.int bw), some (.int bh), some (.int 0), some (.int 0)]) (st' := [.int 0]) (h1 := h) rfl ?_
              rw [show aw_oc 22 x y bw bh = false from show (aw_bnd x y bw bh || aw_bnd (bw - 1 - x) y bw bh) = false from by rw [aw_00 (Decidable.not_not.mp b165), aw_00 b180]; rfl]
              exact am_R.reti rfl rfl (by (first | rfl | (split <;> rfl)))
            · refine am_R.nxs 2 (pc' := 188) (lv' := [some (.int 20), some (.int x), some (.int y), some (.int bw), some (.int bh), some (.int 0), some (.int 0)]) (st' := [.int 1]) (h1 := h) rfl ?_
              rw [show aw_oc 22 x y bw bh = true from show (aw_bnd x y bw bh || aw_bnd (bw - 1 - x) y bw bh) = true from by rw [aw_01 b180]; exact Bool.or_true _]
              exact am_R.reti rfl rfl (by (first | rfl | (split <;> rfl)))
        · refine am_R.nxs 3 (pc' := 49) (lv' := [some (.int 20), some (.int x), some (.int y), some (.int bw), some (.int bh), some (.int 0), some (.int 1)]) (st' := []) (h1 := h) rfl ?_
          refine am_R.nxs 6 (pc' := 162) (lv' := [some (.int 20), some (.int x), some (.int y), some (.int bw), some (.int bh), some (.int 0), some (.int 1)]) (st' := [.int bh, .int bw, .int y, .int x]) (h1 := h) rfl ?_
          refine am_R.cs (mj := 125) (as := [.int x, .int y, .int bw, .int bh]) (r := []) (v := some (.int (if aw_bnd x y bw bh = true then 1 else 0))) (h1 := h) (pc' := 165) rfl (aw_k125 _ x y bw bh) rfl ?_
          refine am_R.ites 1 (P := ¬ (if aw_bnd x y bw bh = true then 1 else 0) = 0) (T := 183) (F := 168) (lv' := [some (.int 20), some (.int x), some (.int y), some (.int bw), some (.int bh), some (.int 0), some (.int 1)]) (st' := []) (h1 := h) rfl (fun b165 => ?_) (fun b165 => ?_)
          · refine am_R.nxs 2 (pc' := 188) (lv' := [some (.int 20), some (.int x), some (.int y), some (.int bw), some (.int bh), some (.int 0), some (.int 1)]) (st' := [.int 1]) (h1 := h) rfl ?_
            rw [show aw_oc 22 x y bw bh = true from show (aw_bnd x y bw bh || aw_bnd (bw - 1 - x) y bw bh) = true from by rw [aw_01 b165]; rfl]
            exact am_R.reti rfl rfl (by (first | rfl | (split <;> rfl)))
          · refine am_R.nxs 8 (pc' := 177) (lv' := [some (.int 20), some (.int x), some (.int y), some (.int bw), some (.int bh), some (.int 0), some (.int 1)]) (st' := [.int bh, .int bw, .int y, .int ((bw - 1) - x)]) (h1 := h) rfl ?_
            refine am_R.cs (mj := 125) (as := [.int ((bw - 1) - x), .int y, .int bw, .int bh]) (r := []) (v := some (.int (if aw_bnd ((bw - 1) - x) y bw bh = true then 1 else 0))) (h1 := h) (pc' := 180) rfl (aw_k125 _ ((bw - 1) - x) y bw bh) rfl ?_
            refine am_R.ites 1 (P := (if aw_bnd ((bw - 1) - x) y bw bh = true then 1 else 0) = 0) (T := 187) (F := 183) (lv' := [some (.int 20), some (.int x), some (.int y), some (.int bw), some (.int bh), some (.int 0), some (.int 1)]) (st' := []) (h1 := h) rfl (fun b180 => ?_) (fun b180 => ?_)
            · refine am_R.nxs 1 (pc' := 188) (lv' := [some (.int 20), some (.int x), some (.int y), some (.int bw), some (.int bh), some (.int 0), some (.int 1)]) (st' := [.int 0]) (h1 := h) rfl ?_
              rw [show aw_oc 22 x y bw bh = false from show (aw_bnd x y bw bh || aw_bnd (bw - 1 - x) y bw bh) = false from by rw [aw_00 (Decidable.not_not.mp b165), aw_00 b180]; rfl]
              exact am_R.reti rfl rfl (by (first | rfl | (split <;> rfl)))
            · refine am_R.nxs 2 (pc' := 188) (lv' := [some (.int 20), some (.int x), some (.int y), some (.int bw), some (.int bh), some (.int 0), some (.int 1)]) (st' := [.int 1]) (h1 := h) rfl ?_
              rw [show aw_oc 22 x y bw bh = true from show (aw_bnd x y bw bh || aw_bnd (bw - 1 - x) y bw bh) = true from by rw [aw_01 b180]; exact Bool.or_true _]
              exact am_R.reti rfl rfl (by (first | rfl | (split <;> rfl)))
    · refine am_R.ites 8 (P := x < (bw / 3)) (T := 46) (F := 33) (lv' := [some (.int 20), some (.int x), some (.int y), some (.int bw), some (.int bh), some (.int 1), none]) (st' := []) (h1 := h) rfl (fun b30 => ?_) (fun b30 => ?_)
      · refine am_R.nxs 2 (pc' := 49) (lv' := [some (.int 20), some (.int x), some (.int y), some (.int bw), some (.int bh), some (.int 1), some (.int 0)]) (st' := []) (h1 := h) rfl ?_
        refine am_R.nxs 6 (pc' := 162) (lv' := [some (.int 20), some (.int x), some (.int y), some (.int bw), some (.int bh), some (.int 1), some (.int 0)]) (st' := [.int bh, .int bw, .int y, .int x]) (h1 := h) rfl ?_
        refine am_R.cs (mj := 125) (as := [.int x, .int y, .int bw, .int bh]) (r := []) (v := some (.int (if aw_bnd x y bw bh = true then 1 else 0))) (h1 := h) (pc' := 165) rfl (aw_k125 _ x y bw bh) rfl ?_
        refine am_R.ites 1 (P := ¬ (if aw_bnd x y bw bh = true then 1 else 0) = 0) (T := 183) (F := 168) (lv' := [some (.int 20), some (.int x), some (.int y), some (.int bw), some (.int bh), some (.int 1), some (.int 0)]) (st' := []) (h1 := h) rfl (fun b165 => ?_) (fun b165 => ?_)
        · refine am_R.nxs 2 (pc' := 188) (lv' := [some (.int 20), some (.int x), some (.int y), some (.int bw), some (.int bh), some (.int 1), some (.int 0)]) (st' := [.int 1]) (h1 := h) rfl ?_
          rw [show aw_oc 22 x y bw bh = true from show (aw_bnd x y bw bh || aw_bnd (bw - 1 - x) y bw bh) = true from by rw [aw_01 b165]; rfl]
          exact am_R.reti rfl rfl (by (first | rfl | (split <;> rfl)))
        · refine am_R.nxs 8 (pc' := 177) (lv' := [some (.int 20), some (.int x), some (.int y), some (.int bw), some (.int bh), some (.int 1), some (.int 0)]) (st' := [.int bh, .int bw, .int y, .int ((bw - 1) - x)]) (h1 := h) rfl ?_
          refine am_R.cs (mj := 125) (as := [.int ((bw - 1) - x), .int y, .int bw, .int bh]) (r := []) (v := some (.int (if aw_bnd ((bw - 1) - x) y bw bh = true then 1 else 0))) (h1 := h) (pc' := 180) rfl (aw_k125 _ ((bw - 1) - x) y bw bh) rfl ?_
          refine am_R.ites 1 (P := (if aw_bnd ((bw - 1) - x) y bw bh = true then 1 else 0) = 0) (T := 187) (F := 183) (lv' := [some (.int 20), some (.int x), some (.int y), some (.int bw), some (.int bh), some (.int 1), some (.int 0)]) (st' := []) (h1 := h) rfl (fun b180 => ?_) (fun b180 => ?_)
          · refine am_R.nxs 1 (pc' := 188) (lv' := [some (.int 20), some (.int x), some (.int y), some (.int bw), some (.int bh), some (.int 1), some (.int 0)]) (st' := [.int 0]) (h1 := h) rfl ?_
            rw [show aw_oc 22 x y bw bh = false from show (aw_bnd x y bw bh || aw_bnd (bw - 1 - x) y bw bh) = false from by rw [aw_00 (Decidable.not_not.mp b165), aw_00 b180]; rfl]
            exact am_R.reti rfl rfl (by (first | rfl | (split <;> rfl)))
          · refine am_R.nxs 2 (pc' := 188) (lv' := [some (.int 20), some (.int x), some (.int y), some (.int bw), some (.int bh), some (.int 1), some (.int 0)]) (st' := [.int 1]) (h1 := h) rfl ?_
            rw [show aw_oc 22 x y bw bh = true from show (aw_bnd x y bw bh || aw_bnd (bw - 1 - x) y bw bh) = true from by rw [aw_01 b180]; exact Bool.or_true _]
            exact am_R.reti rfl rfl (by (first | rfl | (split <;> rfl)))
      · refine am_R.ites 7 (P := (bw - (bw / 3)) ≤ x) (T := 46) (F := 42) (lv' := [some (.int 20), some (.int x), some (.int y), some (.int bw), some (.int bh), some (.int 1), none]) (st' := []) (h1 := h) rfl (fun b39 => ?_) (fun b39 => ?_)
        · refine am_R.nxs 2 (pc' := 49) (lv' := [some (.int 20), some (.int x), some (.int y), some (.int bw), some (.int bh), some (.int 1), some (.int 0)]) (st' := []) (h1 := h) rfl ?_
          refine am_R.nxs 6 (pc' := 162) (lv' := [some (.int 20), some (.int x), some (.int y), some (.int bw), some (.int bh), some (.int 1), some (.int 0)]) (st' := [.int bh, .int bw, .int y, .int x]) (h1 := h) rfl ?_
          refine am_R.cs (mj := 125) (as := [.int x, .int y, .int bw, .int bh]) (r := []) (v := some (.int (if aw_bnd x y bw bh = true then 1 else 0))) (h1 := h) (pc' := 165) rfl (aw_k125 _ x y bw bh) rfl ?_
          refine am_R.ites 1 (P := ¬ (if aw_bnd x y bw bh = true then 1 else 0) = 0) (T := 183) (F := 168) (lv' := [some (.int 20), some (.int x), some (.int y), some (.int bw), some (.int bh), some (.int 1), some (.int 0)]) (st' := []) (h1 := h) rfl (fun b165 => ?_) (fun b165 => ?_)
          · refine am_R.nxs 2 (pc' := 188) (lv' := [some (.int 20), some (.int x), some (.int y), some (.int bw), some (.int bh), some (.int 1), some (.int 0)]) (st' := [.int 1]) (h1 := h) rfl ?_
            rw [show aw_oc 22 x y bw bh = true from show (aw_bnd x y bw bh || aw_bnd (bw - 1 - x) y bw bh) = true from by rw [aw_01 b165]; rfl]
            exact am_R.reti rfl rfl (by (first | rfl | (split <;> rfl)))
          · refine am_R.nxs 8 (pc' := 177) (lv' := [some (.int 20), some (.int x), some (.int y), some (.int bw), some (.int bh), some (.int 1), some (.int 0)]) (st' := [.int bh, .int bw, .int y, .int ((bw - 1) - x)]) (h1 := h) rfl ?_
            refine am_R.cs (mj := 125) (as := [.int ((bw - 1) - x), .int y, .int bw, .int bh]) (r := []) (v := some (.int (if aw_bnd ((bw - 1) - x) y bw bh = true then 1 else 0))) (h1 := h) (pc' := 180) rfl (aw_k125 _ ((bw - 1) - x) y bw bh) rfl ?_
            refine am_R.ites 1 (P := (if aw_bnd ((bw - 1) - x) y bw bh = true then 1 else 0) = 0) (T := 187) (F := 183) (lv' := [some (.int 20), some (.int x), some (.int y), some (.int bw), some (.int bh), some (.int 1), some (.int 0)]) (st' := []) (h1 := h) rfl (fun b180 => ?_) (fun b180 => ?_)
            · refine am_R.nxs 1 (pc' := 188) (lv' := [some (.int 20), some (.int x), some (.int y), some (.int bw), some (.int bh), some (.int 1), some (.int 0)]) (st' := [.int 0]) (h1 := h) rfl ?_
              rw [show aw_oc 22 x y bw bh = false from show (aw_bnd x y bw bh || aw_bnd (bw - 1 - x) y bw bh) = false from by rw [aw_00 (Decidable.not_not.mp b165), aw_00 b180]; rfl]
              exact am_R.reti rfl rfl (by (first | rfl | (split <;> rfl)))
            · refine am_R.nxs 2 (pc' := 188) (lv' := [some (.int 20), some (.int x), some (.int y), some (.int bw), some (.int bh), some (.int 1), some (.int 0)]) (st' := [.int 1]) (h1 := h) rfl ?_
              rw [show aw_oc 22 x y bw bh = true from show (aw_bnd x y bw bh || aw_bnd (bw - 1 - x) y bw bh) = true from by rw [aw_01 b180]; exact Bool.or_true _]
              exact am_R.reti rfl rfl (by (first | rfl | (split <;> rfl)))
        · refine am_R.nxs 3 (pc' := 49) (lv' := [some (.int 20), some (.int x), some (.int y), some (.int bw), some (.int bh), some (.int 1), some (.int 1)]) (st' := []) (h1 := h) rfl ?_
          refine am_R.nxs 6 (pc' := 162) (lv' := [some (.int 20), some (.int x), some (.int y), some (.int bw), some (.int bh), some (.int 1), some (.int 1)]) (st' := [.int bh, .int bw, .int y, .int x]) (h1 := h) rfl ?_
          refine am_R.cs (mj := 125) (as := [.int x, .int y, .int bw, .int bh]) (r := []) (v := some (.int (if aw_bnd x y bw bh = true then 1 else 0))) (h1 := h) (pc' := 165) rfl (aw_k125 _ x y bw bh) rfl ?_
          refine am_R.ites 1 (P := ¬ (if aw_bnd x y bw bh = true then 1 else 0) = 0) (T := 183) (F := 168) (lv' := [some (.int 20), some (.int x), some (.int y), some (.int bw), some (.int bh), some (.int 1), some (.int 1)]) (st' := []) (h1 := h) rfl (fun b165 => ?_) (fun b165 => ?_)
          · refine am_R.nxs 2 (pc' := 188) (lv' := [some (.int 20), some (.int x), some (.int y), some (.int bw), some (.int bh), some (.int 1), some (.int 1)]) (st' := [.int 1]) (h1 := h) rfl ?_
            rw [show aw_oc 22 x y bw bh = true from show (aw_bnd x y bw bh || aw_bnd (bw - 1 - x) y bw bh) = true from by rw [aw_01 b165]; rfl]
            exact am_R.reti rfl rfl (by (first | rfl | (split <;> rfl)))
          · refine am_R.nxs 8 (pc' := 177) (lv' := [some (.int 20), some (.int x), some (.int y), some (.int bw), some (.int bh), some (.int 1), some (.int 1)]) (st' := [.int bh, .int bw, .int y, .int ((bw - 1) - x)]) (h1 := h) rfl ?_
            refine am_R.cs (mj := 125) (as := [.int ((bw - 1) - x), .int y, .int bw, .int bh]) (r := []) (v := some (.int (if aw_bnd ((bw - 1) - x) y bw bh = true then 1 else 0))) (h1 := h) (pc' := 180) rfl (aw_k125 _ ((bw - 1) - x) y bw bh) rfl ?_
            refine am_R.ites 1 (P := (if aw_bnd ((bw - 1) - x) y bw bh = true then 1 else 0) = 0) (T := 187) (F := 183) (lv' := [some (.int 20), some (.int x), some (.int y), some (.int bw), some (.int bh), some (.int 1), some (.int 1)]) (st' := []) (h1 := h) rfl (fun b180 => ?_) (fun b180 => ?_)
            · refine am_R.nxs 1 (pc' := 188) (lv' := [some (.int 20), some (.int x), some (.int y), some (.int bw), some (.int bh), some (.int 1), some (.int 1)]) (st' := [.int 0]) (h1 := h) rfl ?_
              rw [show aw_oc 22 x y bw bh = false from show (aw_bnd x y bw bh || aw_bnd (bw - 1 - x) y bw bh) = false from by rw [aw_00 (Decidable.not_not.mp b165), aw_00 b180]; rfl]
              exact am_R.reti rfl rfl (by (first | rfl | (split <;> rfl)))
            · refine am_R.nxs 2 (pc' := 188) (lv' := [some (.int 20), some (.int x), some (.int y), some (.int bw), some (.int bh), some (.int 1), some (.int 1)]) (st' := [.int 1]) (h1 := h) rfl ?_
              rw [show aw_oc 22 x y bw bh = true from show (aw_bnd x y bw bh || aw_bnd (bw - 1 - x) y bw bh) = true from by rw [aw_01 b180]; exact Bool.or_true _]
              exact am_R.reti rfl rfl (by (first | rfl | (split <;> rfl)))
set_option maxRecDepth 100000 in
theorem aw_k124_23 (d : Nat) {h : am_H} (x y bw bh : Int32) : am_R (d + 2) 124 0 [some (.int 21), some (.int x), some (.int y), some (.int bw), some (.int bh), none, none] [] h (.inl (some (.int (if aw_oc 23 x y bw bh = true then 1 else 0)))) h := by
  refine am_R.ites 5 (P := y < (bh / 3)) (T := 23) (F := 8) (lv' := [some (.int 21), some (.int x), some (.int y), some (.int bw), some (.int bh), none, none]) (st' := []) (h1 := h) rfl (fun b5 => ?_) (fun b5 => ?_)
  · refine am_R.ites 7 (P := x < (bw / 3)) (T := 46) (F := 33) (lv' := [some (.int 21), some (.int x), some (.int y), some (.int bw), some (.int bh), some (.int 0), none]) (st' := []) (h1 := h) rfl (fun b30 => ?_) (fun b30 => ?_)
    · refine am_R.nxs 2 (pc' := 49) (lv' := [some (.int 21), some (.int x), some (.int y), some (.int bw), some (.int bh), some (.int 0), some (.int 0)]) (st' := []) (h1 := h) rfl ?_
      refine am_R.nxs 14 (pc' := 201) (lv' := [some (.int 21), some (.int x), some (.int y), some (.int bw), some (.int bh), some (.int 0), some (.int 0)]) (st' := [.int (((2 * x) + 1) - bw), .int ((2 * y) * bw)]) (h1 := h) rfl ?_
      refine am_R.cs (mj := 122) (as := [.int (((2 * x) + 1) - bw)]) (r := [.int ((2 * y) * bw)]) (v := some (.int (aw_abs (((2 * x) + 1) - bw)))) (h1 := h) (pc' := 204) rfl (aw_k122 _ _) rfl ?_
      refine am_R.nxs 12 (pc' := 219) (lv' := [some (.int 21), some (.int x), some (.int y), some (.int bw), some (.int bh), some (.int 0), some (.int 0)]) (st' := [.int (bw * bh), .int ((((2 * y) * bw) - ((aw_abs (((2 * x) + 1) - bw)) * bh)) - ((bw * bh) / 2))]) (h1 := h) rfl ?_
      refine am_R.cs (mj := 126) (as := [.int ((((2 * y) * bw) - ((aw_abs (((2 * x) + 1) - bw)) * bh)) - ((bw * bh) / 2)), .int (bw * bh)]) (r := []) (v := some (.int (if (aw_chn (aw_chw x y bw bh) (bw * bh)) = true then 1 else 0))) (h1 := h) (pc' := 222) rfl (aw_k126 _ _ _) rfl ?_
      exact am_R.reti rfl rfl (by (first | rfl | (split <;> rfl)))
    · refine am_R.ites 7 (P := (bw - (bw / 3)) ≤ x) (T := 46) (F := 42) (lv' := [some (.int 21), some (.int x), some (.int y), some (.int bw), some (.int bh), some (.int 0), none]) (st' := []) (h1 := h) rfl (fun b39 => ?_) (fun b39 => ?_)
      · refine am_R.nxs 2 (pc' := 49) (lv' := [some (.int 21), some (.int x), some (.int y), some (.int bw), some (.int bh), some (.int 0), some (.int 0)]) (st' := []) (h1 := h) rfl ?_
        refine am_R.nxs 14 (pc' := 201) (lv' := [some (.int 21), some (.int x), some (.int y), some (.int bw), some (.int bh), some (.int 0), some (.int 0)]) (st' := [.int (((2 * x) + 1) - bw), .int ((2 * y) * bw)]) (h1 := h) rfl ?_
        refine am_R.cs (mj := 122) (as := [.int (((2 * x) + 1) - bw)]) (r := [.int ((2 * y) * bw)]) (v := some (.int (aw_abs (((2 * x) + 1) - bw)))) (h1 := h) (pc' := 204) rfl (aw_k122 _ _) rfl ?_
        refine am_R.nxs 12 (pc' := 219) (lv' := [some (.int 21), some (.int x), some (.int y), some (.int bw), some (.int bh), some (.int 0), some (.int 0)]) (st' := [.int (bw * bh), .int ((((2 * y) * bw) - ((aw_abs (((2 * x) + 1) - bw)) * bh)) - ((bw * bh) / 2))]) (h1 := h) rfl ?_
        refine am_R.cs (mj := 126) (as := [.int ((((2 * y) * bw) - ((aw_abs (((2 * x) + 1) - bw)) * bh)) - ((bw * bh) / 2)), .int (bw * bh)]) (r := []) (v := some (.int (if (aw_chn (aw_chw x y bw bh) (bw * bh)) = true then 1 else 0))) (h1 := h) (pc' := 222) rfl (aw_k126 _ _ _) rfl ?_
        exact am_R.reti rfl rfl (by (first | rfl | (split <;> rfl)))
      · refine am_R.nxs 3 (pc' := 49) (lv' := [some (.int 21), some (.int x), some (.int y), some (.int bw), some (.int bh), some (.int 0), some (.int 1)]) (st' := []) (h1 := h) rfl ?_
        refine am_R.nxs 14 (pc' := 201) (lv' := [some (.int 21), some (.int x), some (.int y), some (.int bw), some (.int bh), some (.int 0), some (.int 1)]) (st' := [.int (((2 * x) + 1) - bw), .int ((2 * y) * bw)]) (h1 := h) rfl ?_
        refine am_R.cs (mj := 122) (as := [.int (((2 * x) + 1) - bw)]) (r := [.int ((2 * y) * bw)]) (v := some (.int (aw_abs (((2 * x) + 1) - bw)))) (h1 := h) (pc' := 204) rfl (aw_k122 _ _) rfl ?_
        refine am_R.nxs 12 (pc' := 219) (lv' := [some (.int 21), some (.int x), some (.int y), some (.int bw), some (.int bh), some (.int 0), some (.int 1)]) (st' := [.int (bw * bh), .int ((((2 * y) * bw) - ((aw_abs (((2 * x) + 1) - bw)) * bh)) - ((bw * bh) / 2))]) (h1 := h) rfl ?_
        refine am_R.cs (mj := 126) (as := [.int ((((2 * y) * bw) - ((aw_abs (((2 * x) + 1) - bw)) * bh)) - ((bw * bh) / 2)), .int (bw * bh)]) (r := []) (v := some (.int (if (aw_chn (aw_chw x y bw bh) (bw * bh)) = true then 1 else 0))) (h1 := h) (pc' := 222) rfl (aw_k126 _ _ _) rfl ?_
        exact am_R.reti rfl rfl (by (first | rfl | (split <;> rfl)))
  · refine am_R.ites 7 (P := (bh - (bh / 3)) ≤ y) (T := 23) (F := 19) (lv' := [some (.int 21), some (.int x), some (.int y), some (.int bw), some (.int bh), none, none]) (st' := []) (h1 := h) rfl (fun b16 => ?_) (fun b16 => ?_)
    · refine am_R.ites 7 (P := x < (bw / 3)) (T := 46) (F := 33) (lv' := [some (.int 21), some (.int x), some (.int y), some (.int bw), some (.int bh), some (.int 0), none]) (st' := []) (h1 := h) rfl (fun b30 => ?_) (fun b30 => ?_)
      · refine am_R.nxs 2 (pc' := 49) (lv' := [some (.int 21), some (.int x), some (.int y), some (.int bw), some (.int bh), some (.int 0), some (.int 0)]) (st' := []) (h1 := h) rfl ?_
        refine am_R.nxs 14 (pc' := 201) (lv' := [some (.int 21), some (.int x), some (.int y), some (.int bw), some (.int bh), some (.int 0), some (.int 0)]) (st' := [.int (((2 * x) + 1) - bw), .int ((2 * y) * bw)]) (h1 := h) rfl ?_
        refine am_R.cs (mj := 122) (as := [.int (((2 * x) + 1) - bw)]) (r := [.int ((2 * y) * bw)]) (v := some (.int (aw_abs (((2 * x) + 1) - bw)))) (h1 := h) (pc' := 204) rfl (aw_k122 _ _) rfl ?_
        refine am_R.nxs 12 (pc' := 219) (lv' := [some (.int 21), some (.int x), some (.int y), some (.int bw), some (.int bh), some (.int 0), some (.int 0)]) (st' := [.int (bw * bh), .int ((((2 * y) * bw) - ((aw_abs (((2 * x) + 1) - bw)) * bh)) - ((bw * bh) / 2))]) (h1 := h) rfl ?_
        refine am_R.cs (mj := 126) (as := [.int ((((2 * y) * bw) - ((aw_abs (((2 * x) + 1) - bw)) * bh)) - ((bw * bh) / 2)), .int (bw * bh)]) (r := []) (v := some (.int (if (aw_chn (aw_chw x y bw bh) (bw * bh)) = true then 1 else 0))) (h1 := h) (pc' := 222) rfl (aw_k126 _ _ _) rfl ?_
        exact am_R.reti rfl rfl (by (first | rfl | (split <;> rfl)))
      · refine am_R.ites 7 (P := (bw - (bw / 3)) ≤ x) (T := 46) (F := 42) (lv' := [some (.int 21), some (.int x), some (.int y), some (.int bw), some (.int bh), some (.int 0), none]) (st' := []) (h1 := h) rfl (fun b39 => ?_) (fun b39 => ?_)
        · refine am_R.nxs 2 (pc' := 49) (lv' := [some (.int 21), some (.int x), some (.int y), some (.int bw), some (.int bh), some (.int 0), some (.int 0)]) (st' := []) (h1 := h) rfl ?_
          refine am_R.nxs 14 (pc' := 201) (lv' := [some (.int 21), some (.int x), some (.int y), some (.int bw), some (.int bh), some (.int 0), some (.int 0)]) (st' := [.int (((2 * x) + 1) - bw), .int ((2 * y) * bw)]) (h1 := h) rfl ?_
          refine am_R.cs (mj := 122) (as := [.int (((2 * x) + 1) - bw)]) (r := [.int ((2 * y) * bw)]) (v := some (.int (aw_abs (((2 * x) + 1) - bw)))) (h1 := h) (pc' := 204) rfl (aw_k122 _ _) rfl ?_
          refine am_R.nxs 12 (pc' := 219) (lv' := [some (.int 21), some (.int x), some (.int y), some (.int bw), some (.int bh), some (.int 0), some (.int 0)]) (st' := [.int (bw * bh), .int ((((2 * y) * bw) - ((aw_abs (((2 * x) + 1) - bw)) * bh)) - ((bw * bh) / 2))]) (h1 := h) rfl ?_
          refine am_R.cs (mj := 126) (as := [.int ((((2 * y) * bw) - ((aw_abs (((2 * x) + 1) - bw)) * bh)) - ((bw * bh) / 2)), .int (bw * bh)]) (r := []) (v := some (.int (if (aw_chn (aw_chw x y bw bh) (bw * bh)) = true then 1 else 0))) (h1 := h) (pc' := 222) rfl (aw_k126 _ _ _) rfl ?_
          exact am_R.reti rfl rfl (by (first | rfl | (split <;> rfl)))
        · refine am_R.nxs 3 (pc' := 49) (lv' := [some (.int 21), some (.int x), some (.int y), some (.int bw), some (.int bh), some (.int 0), some (.int 1)]) (st' := []) (h1 := h) rfl ?_
          refine am_R.nxs 14 (pc' := 201) (lv' := [some (.int 21), some (.int x), some (.int y), some (.int bw), some (.int bh), some (.int 0), some (.int 1)]) (st' := [.int (((2 * x) + 1) - bw), .int ((2 * y) * bw)]) (h1 := h) rfl ?_
          refine am_R.cs (mj := 122) (as := [.int (((2 * x) + 1) - bw)]) (r := [.int ((2 * y) * bw)]) (v := some (.int (aw_abs (((2 * x) + 1) - bw)))) (h1 := h) (pc' := 204) rfl (aw_k122 _ _) rfl ?_
          refine am_R.nxs 12 (pc' := 219) (lv' := [some (.int 21), some (.int x), some (.int y), some (.int bw), some (.int bh), some (.int 0), some (.int 1)]) (st' := [.int (bw * bh), .int ((((2 * y) * bw) - ((aw_abs (((2 * x) + 1) - bw)) * bh)) - ((bw * bh) / 2))]) (h1 := h) rfl ?_
          refine am_R.cs (mj := 126) (as := [.int ((((2 * y) * bw) - ((aw_abs (((2 * x) + 1) - bw)) * bh)) - ((bw * bh) / 2)), .int (bw * bh)]) (r := []) (v := some (.int (if (aw_chn (aw_chw x y bw bh) (bw * bh)) = true then 1 else 0))) (h1 := h) (pc' := 222) rfl (aw_k126 _ _ _) rfl ?_
          exact am_R.reti rfl rfl (by (first | rfl | (split <;> rfl)))
    · refine am_R.ites 8 (P := x < (bw / 3)) (T := 46) (F := 33) (lv' := [some (.int 21), some (.int x), some (.int y), some (.int bw), some (.int bh), some (.int 1), none]) (st' := []) (h1 := h) rfl (fun b30 => ?_) (fun b30 => ?_)
      · refine am_R.nxs 2 (pc' := 49) (lv' := [some (.int 21), some (.int x), some (.int y), some (.int bw), some (.int bh), some (.int 1), some (.int 0)]) (st' := []) (h1 := h) rfl ?_
        refine am_R.nxs 14 (pc' := 201) (lv' := [some (.int 21), some (.int x), some (.int y), some (.int bw), some (.int bh), some (.int 1), some (.int 0)]) (st' := [.int (((2 * x) + 1) - bw), .int ((2 * y) * bw)]) (h1 := h) rfl ?_
        refine am_R.cs (mj := 122) (as := [.int (((2 * x) + 1) - bw)]) (r := [.int ((2 * y) * bw)]) (v := some (.int (aw_abs (((2 * x) + 1) - bw)))) (h1 := h) (pc' := 204) rfl (aw_k122 _ _) rfl ?_
        refine am_R.nxs 12 (pc' := 219) (lv' := [some (.int 21), some (.int x), some (.int y), some (.int bw), some (.int bh), some (.int 1), some (.int 0)]) (st' := [.int (bw * bh), .int ((((2 * y) * bw) - ((aw_abs (((2 * x) + 1) - bw)) * bh)) - ((bw * bh) / 2))]) (h1 := h) rfl ?_
        refine am_R.cs (mj := 126) (as := [.int ((((2 * y) * bw) - ((aw_abs (((2 * x) + 1) - bw)) * bh)) - ((bw * bh) / 2)), .int (bw * bh)]) (r := []) (v := some (.int (if (aw_chn (aw_chw x y bw bh) (bw * bh)) = true then 1 else 0))) (h1 := h) (pc' := 222) rfl (aw_k126 _ _ _) rfl ?_
        exact am_R.reti rfl rfl (by (first | rfl | (split <;> rfl)))
      · refine am_R.ites 7 (P := (bw - (bw / 3)) ≤ x) (T := 46) (F := 42) (lv' := [some (.int 21), some (.int x), some (.int y), some (.int bw), some (.int bh), some (.int 1), none]) (st' := []) (h1 := h) rfl (fun b39 => ?_) (fun b39 => ?_)
        · refine am_R.nxs 2 (pc' := 49) (lv' := [some (.int 21), some (.int x), some (.int y), some (.int bw), some (.int bh), some (.int 1), some (.int 0)]) (st' := []) (h1 := h) rfl ?_
          refine am_R.nxs 14 (pc' := 201) (lv' := [some (.int 21), some (.int x), some (.int y), some (.int bw), some (.int bh), some (.int 1), some (.int 0)]) (st' := [.int (((2 * x) + 1) - bw), .int ((2 * y) * bw)]) (h1 := h) rfl ?_
          refine am_R.cs (mj := 122) (as := [.int (((2 * x) + 1) - bw)]) (r := [.int ((2 * y) * bw)]) (v := some (.int (aw_abs (((2 * x) + 1) - bw)))) (h1 := h) (pc' := 204) rfl (aw_k122 _ _) rfl ?_
          refine am_R.nxs 12 (pc' := 219) (lv' := [some (.int 21), some (.int x), some (.int y), some (.int bw), some (.int bh), some (.int 1), some (.int 0)]) (st' := [.int (bw * bh), .int ((((2 * y) * bw) - ((aw_abs (((2 * x) + 1) - bw)) * bh)) - ((bw * bh) / 2))]) (h1 := h) rfl ?_
          refine am_R.cs (mj := 126) (as := [.int ((((2 * y) * bw) - ((aw_abs (((2 * x) + 1) - bw)) * bh)) - ((bw * bh) / 2)), .int (bw * bh)]) (r := []) (v := some (.int (if (aw_chn (aw_chw x y bw bh) (bw * bh)) = true then 1 else 0))) (h1 := h) (pc' := 222) rfl (aw_k126 _ _ _) rfl ?_
          exact am_R.reti rfl rfl (by (first | rfl | (split <;> rfl)))
        · refine am_R.nxs 3 (pc' := 49) (lv' := [some (.int 21), some (.int x), some (.int y), some (.int bw), some (.int bh), some (.int 1), some (.int 1)]) (st' := []) (h1 := h) rfl ?_
          refine am_R.nxs 14 (pc' := 201) (lv' := [some (.int 21), some (.int x), some (.int y), some (.int bw), some (.int bh), some (.int 1), some (.int 1)]) (st' := [.int (((2 * x) + 1) - bw), .int ((2 * y) * bw)]) (h1 := h) rfl ?_
          refine am_R.cs (mj := 122) (as := [.int (((2 * x) + 1) - bw)]) (r := [.int ((2 * y) * bw)]) (v := some (.int (aw_abs (((2 * x) + 1) - bw)))) (h1 := h) (pc' := 204) rfl (aw_k122 _ _) rfl ?_
          refine am_R.nxs 12 (pc' := 219) (lv' := [some (.int 21), some (.int x), some (.int y), some (.int bw), some (.int bh), some (.int 1), some (.int 1)]) (st' := [.int (bw * bh), .int ((((2 * y) * bw) - ((aw_abs (((2 * x) + 1) - bw)) * bh)) - ((bw * bh) / 2))]) (h1 := h) rfl ?_
          refine am_R.cs (mj := 126) (as := [.int ((((2 * y) * bw) - ((aw_abs (((2 * x) + 1) - bw)) * bh)) - ((bw * bh) / 2)), .int (bw * bh)]) (r := []) (v := some (.int (if (aw_chn (aw_chw x y bw bh) (bw * bh)) = true then 1 else 0))) (h1 := h) (pc' := 222) rfl (aw_k126 _ _ _) rfl ?_
          exact am_R.reti rfl rfl (by (first | rfl | (split <;> rfl)))
set_option maxRecDepth 100000 in
theorem aw_k124_24 (d : Nat) {h : am_H} (x y bw bh : Int32) : am_R (d + 2) 124 0 [some (.int 22), some (.int x), some (.int y), some (.int bw), some (.int bh), none, none] [] h (.inl (some (.int (if aw_oc 24 x y bw bh = true then 1 else 0)))) h := by
  refine am_R.ites 5 (P := y < (bh / 3)) (T := 23) (F := 8) (lv' := [some (.int 22), some (.int x), some (.int y), some (.int bw), some (.int bh), none, none]) (st' := []) (h1 := h) rfl (fun b5 => ?_) (fun b5 => ?_)
  · refine am_R.ites 7 (P := x < (bw / 3)) (T := 46) (F := 33) (lv' := [some (.int 22), some (.int x), some (.int y), some (.int bw), some (.int bh), some (.int 0), none]) (st' := []) (h1 := h) rfl (fun b30 => ?_) (fun b30 => ?_)
    · refine am_R.nxs 2 (pc' := 49) (lv' := [some (.int 22), some (.int x), some (.int y), some (.int bw), some (.int bh), some (.int 0), some (.int 0)]) (st' := []) (h1 := h) rfl ?_
      refine am_R.ites 9 (P := x < ((bw / 8) + 1)) (T := 270) (F := 233) (lv' := [some (.int 22), some (.int x), some (.int y), some (.int bw), some (.int bh), some (.int 0), some (.int 0)]) (st' := []) (h1 := h) rfl (fun b230 => ?_) (fun b230 => ?_)
      · refine am_R.nxs 2 (pc' := 275) (lv' := [some (.int 22), some (.int x), some (.int y), some (.int bw), some (.int bh), some (.int 0), some (.int 0)]) (st' := [.int 1]) (h1 := h) rfl ?_
        rw [show aw_oc 24 x y bw bh = true from show (aw_edg x bw || aw_edg y bh) = true from by rw [show aw_edg x bw = true from decide_eq_true (.inl b230)]; rfl]
        exact am_R.reti rfl rfl (by (first | rfl | (split <;> rfl)))
      · refine am_R.ites 9 (P := ((bw - (bw / 8)) - 1) ≤ x) (T := 270) (F := 245) (lv' := [some (.int 22), some (.int x), some (.int y), some (.int bw), some (.int bh), some (.int 0), some (.int 0)]) (st' := []) (h1 := h) rfl (fun b242 => ?_) (fun b242 => ?_)
        · refine am_R.nxs 2 (pc' := 275) (lv' := [some (.int 22), some (.int x), some (.int y), some (.int bw), some (.int bh), some (.int 0), some (.int 0)]) (st' := [.int 1]) (h1 := h) rfl ?_
          rw [show aw_oc 24 x y bw bh = true from show (aw_edg x bw || aw_edg y bh) = true from by rw [show aw_edg x bw = true from decide_eq_true (.inr (Int32.not_lt.mpr b242))]; rfl]
          exact am_R.reti rfl rfl (by (first | rfl | (split <;> rfl)))
        · refine am_R.ites 7 (P := y < ((bh / 8) + 1)) (T := 270) (F := 256) (lv' := [some (.int 22), some (.int x), some (.int y), some (.int bw), some (.int bh), some (.int 0), some (.int 0)]) (st' := []) (h1 := h) rfl (fun b253 => ?_) (fun b253 => ?_)
          · refine am_R.nxs 2 (pc' := 275) (lv' := [some (.int 22), some (.int x), some (.int y), some (.int bw), some (.int bh), some (.int 0), some (.int 0)]) (st' := [.int 1]) (h1 := h) rfl ?_
            rw [show aw_oc 24 x y bw bh = true from show (aw_edg x bw || aw_edg y bh) = true from by rw [show aw_edg y bh = true from decide_eq_true (.inl b253)]; exact Bool.or_true _]
            exact am_R.reti rfl rfl (by (first | rfl | (split <;> rfl)))
          · refine am_R.ites 9 (P := y < ((bh - (bh / 8)) - 1)) (T := 274) (F := 270) (lv' := [some (.int 22), some (.int x), some (.int y), some (.int bw), some (.int bh), some (.int 0), some (.int 0)]) (st' := []) (h1 := h) rfl (fun b267 => ?_) (fun b267 => ?_)
            · refine am_R.nxs 1 (pc' := 275) (lv' := [some (.int 22), some (.int x), some (.int y), some (.int bw), some (.int bh), some (.int 0), some (.int 0)]) (st' := [.int 0]) (h1 := h) rfl ?_
              rw [show aw_oc 24 x y bw bh = false from show (aw_edg x bw || aw_edg y bh) = false from by rw [show aw_edg x bw = false from decide_eq_false (fun q => q.elim b230 (fun z => z (Int32.not_le.mp b242))), show aw_edg y bh = false from decide_eq_false (fun q => q.elim b253 (fun z => z b267))]; rfl]
              exact am_R.reti rfl rfl (by (first | rfl | (split <;> rfl)))
            · refine am_R.nxs 2 (pc' := 275) (lv' := [some (.int 22), some (.int x), some (.int y), some (.int bw), some (.int bh), some (.int 0), some (.int 0)]) (st' := [.int 1]) (h1 := h) rfl ?_
              rw [show aw_oc 24 x y bw bh = true from show (aw_edg x bw || aw_edg y bh) = true from by rw [show aw_edg y bh = true from decide_eq_true (.inr b267)]; exact Bool.or_true _]
              exact am_R.reti rfl rfl (by (first | rfl | (split <;> rfl)))
    · refine am_R.ites 7 (P := (bw - (bw / 3)) ≤ x) (T := 46) (F := 42) (lv' := [some (.int 22), some (.int x), some (.int y), some (.int bw), some (.int bh), some (.int 0), none]) (st' := []) (h1 := h) rfl (fun b39 => ?_) (fun b39 => ?_)
      · refine am_R.nxs 2 (pc' := 49) (lv' := [some (.int 22), some (.int x), some (.int y), some (.int bw), some (.int bh), some (.int 0), some (.int 0)]) (st' := []) (h1 := h) rfl ?_
        refine am_R.ites 9 (P := x < ((bw / 8) + 1)) (T := 270) (F := 233) (lv' := [some (.int 22), some (.int x), some (.int y), some (.int bw), some (.int bh), some (.int 0), some (.int 0)]) (st' := []) (h1 := h) rfl (fun b230 => ?_) (fun b230 => ?_)
        · refine am_R.nxs 2 (pc' := 275) (lv' := [some (.int 22), some (.int x), some (.int y), some (.int bw), some (.int bh), some (.int 0), some (.int 0)]) (st' := [.int 1]) (h1 := h) rfl ?_
          rw [show aw_oc 24 x y bw bh = true from show (aw_edg x bw || aw_edg y bh) = true from by rw [show aw_edg x bw = true from decide_eq_true (.inl b230)]; rfl]
          exact am_R.reti rfl rfl (by (first | rfl | (split <;> rfl)))
        · refine am_R.ites 9 (P := ((bw - (bw / 8)) - 1) ≤ x) (T := 270) (F := 245) (lv' := [some (.int 22), some (.int x), some (.int y), some (.int bw), some (.int bh), some (.int 0), some (.int 0)]) (st' := []) (h1 := h) rfl (fun b242 => ?_) (fun b242 => ?_)
          · refine am_R.nxs 2 (pc' := 275) (lv' := [some (.int 22), some (.int x), some (.int y), some (.int bw), some (.int bh), some (.int 0), some (.int 0)]) (st' := [.int 1]) (h1 := h) rfl ?_
            rw [show aw_oc 24 x y bw bh = true from show (aw_edg x bw || aw_edg y bh) = true from by rw [show aw_edg x bw = true from decide_eq_true (.inr (Int32.not_lt.mpr b242))]; rfl]
            exact am_R.reti rfl rfl (by (first | rfl | (split <;> rfl)))
          · refine am_R.ites 7 (P := y < ((bh / 8) + 1)) (T := 270) (F := 256) (lv' := [some (.int 22), some (.int x), some (.int y), some (.int bw), some (.int bh), some (.int 0), some (.int 0)]) (st' := []) (h1 := h) rfl (fun b253 => ?_) (fun b253 => ?_)
            · refine am_R.nxs 2 (pc' := 275) (lv' := [some (.int 22), some (.int x), some (.int y), some (.int bw), some (.int bh), some (.int 0), some (.int 0)]) (st' := [.int 1]) (h1 := h) rfl ?_
              rw [show aw_oc 24 x y bw bh = true from show (aw_edg x bw || aw_edg y bh) = true from by rw [show aw_edg y bh = true from decide_eq_true (.inl b253)]; exact Bool.or_true _]
              exact am_R.reti rfl rfl (by (first | rfl | (split <;> rfl)))
            · refine am_R.ites 9 (P := y < ((bh - (bh / 8)) - 1)) (T := 274) (F := 270) (lv' := [some (.int 22), some (.int x), some (.int y), some (.int bw), some (.int bh), some (.int 0), some (.int 0)]) (st' := []) (h1 := h) rfl (fun b267 => ?_) (fun b267 => ?_)
              · refine am_R.nxs 1 (pc' := 275) (lv' := [some (.int 22), some (.int x), some (.int y), some (.int bw), some (.int bh), some (.int 0), some (.int 0)]) (st' := [.int 0]) (h1 := h) rfl ?_
                rw [show aw_oc 24 x y bw bh = false from show (aw_edg x bw || aw_edg y bh) = false from by rw [show aw_edg x bw = false from decide_eq_false (fun q => q.elim b230 (fun z => z (Int32.not_le.mp b242))), show aw_edg y bh = false from decide_eq_false (fun q => q.elim b253 (fun z => z b267))]; rfl]
                exact am_R.reti rfl rfl (by (first | rfl | (split <;> rfl)))
              · refine am_R.nxs 2 (pc' := 275) (lv' := [some (.int 22), some (.int x), some (.int y), some (.int bw), some (.int bh), some (.int 0), some (.int 0)]) (st' := [.int 1]) (h1 := h) rfl ?_
                rw [show aw_oc 24 x y bw bh = true from show (aw_edg x bw || aw_edg y bh) = true from by rw [show aw_edg y bh = true from decide_eq_true (.inr b267)]; exact Bool.or_true _]
                exact am_R.reti rfl rfl (by (first | rfl | (split <;> rfl)))
      · refine am_R.nxs 3 (pc' := 49) (lv' := [some (.int 22), some (.int x), some (.int y), some (.int bw), some (.int bh), some (.int 0), some (.int 1)]) (st' := []) (h1 := h) rfl ?_
        refine am_R.ites 9 (P := x < ((bw / 8) + 1)) (T := 270) (F := 233) (lv' := [some (.int 22), some (.int x), some (.int y), some (.int bw), some (.int bh), some (.int 0), some (.int 1)]) (st' := []) (h1 := h) rfl (fun b230 => ?_) (fun b230 => ?_)
        · refine am_R.nxs 2 (pc' := 275) (lv' := [some (.int 22), some (.int x), some (.int y), some (.int bw), some (.int bh), some (.int 0), some (.int 1)]) (st' := [.int 1]) (h1 := h) rfl ?_
          rw [show aw_oc 24 x y bw bh = true from show (aw_edg x bw || aw_edg y bh) = true from by rw [show aw_edg x bw = true from decide_eq_true (.inl b230)]; rfl]
          exact am_R.reti rfl rfl (by (first | rfl | (split <;> rfl)))
        · refine am_R.ites 9 (P := ((bw - (bw / 8)) - 1) ≤ x) (T := 270) (F := 245) (lv' := [some (.int 22), some (.int x), some (.int y), some (.int bw), some (.int bh), some (.int 0), some (.int 1)]) (st' := []) (h1 := h) rfl (fun b242 => ?_) (fun b242 => ?_)
          · refine am_R.nxs 2 (pc' := 275) (lv' := [some (.int 22), some (.int x), some (.int y), some (.int bw), some (.int bh), some (.int 0), some (.int 1)]) (st' := [.int 1]) (h1 := h) rfl ?_
            rw [show aw_oc 24 x y bw bh = true from show (aw_edg x bw || aw_edg y bh) = true from by rw [show aw_edg x bw = true from decide_eq_true (.inr (Int32.not_lt.mpr b242))]; rfl]
            exact am_R.reti rfl rfl (by (first | rfl | (split <;> rfl)))
          · refine am_R.ites 7 (P := y < ((bh / 8) + 1)) (T := 270) (F := 256) (lv' := [some (.int 22), some (.int x), some (.int y), some (.int bw), some (.int bh), some (.int 0), some (.int 1)]) (st' := []) (h1 := h) rfl (fun b253 => ?_) (fun b253 => ?_)
            · refine am_R.nxs 2 (pc' := 275) (lv' := [some (.int 22), some (.int x), some (.int y), some (.int bw), some (.int bh), some (.int 0), some (.int 1)]) (st' := [.int 1]) (h1 := h) rfl ?_
              rw [show aw_oc 24 x y bw bh = true from show (aw_edg x bw || aw_edg y bh) = true from by rw [show aw_edg y bh = true from decide_eq_true (.inl b253)]; exact Bool.or_true _]
              exact am_R.reti rfl rfl (by (first | rfl | (split <;> rfl)))
            · refine am_R.ites 9 (P := y < ((bh - (bh / 8)) - 1)) (T := 274) (F := 270) (lv' := [some (.int 22), some (.int x), some (.int y), some (.int bw), some (.int bh), some (.int 0), some (.int 1)]) (st' := []) (h1 := h) rfl (fun b267 => ?_) (fun b267 => ?_)
              · refine am_R.nxs 1 (pc' := 275) (lv' := [some (.int 22), some (.int x), some (.int y), some (.int bw), some (.int bh), some (.int 0), some (.int 1)]) (st' := [.int 0]) (h1 := h) rfl ?_
                rw [show aw_oc 24 x y bw bh = false from show (aw_edg x bw || aw_edg y bh) = false from by rw [show aw_edg x bw = false from decide_eq_false (fun q => q.elim b230 (fun z => z (Int32.not_le.mp b242))), show aw_edg y bh = false from decide_eq_false (fun q => q.elim b253 (fun z => z b267))]; rfl]
                exact am_R.reti rfl rfl (by (first | rfl | (split <;> rfl)))
              · refine am_R.nxs 2 (pc' := 275) (lv' := [some (.int 22), some (.int x), some (.int y), some (.int bw), some (.int bh), some (.int 0), some (.int 1)]) (st' := [.int 1]) (h1 := h) rfl ?_
                rw [show aw_oc 24 x y bw bh = true from show (aw_edg x bw || aw_edg y bh) = true from by rw [show aw_edg y bh = true from decide_eq_true (.inr b267)]; exact Bool.or_true _]
                exact am_R.reti rfl rfl (by (first | rfl | (split <;> rfl)))
  · refine am_R.ites 7 (P := (bh - (bh / 3)) ≤ y) (T := 23) (F := 19) (lv' := [some (.int 22), some (.int x), some (.int y), some (.int bw), some (.int bh), none, none]) (st' := []) (h1 := h) rfl (fun b16 => ?_) (fun b16 => ?_)
    · refine am_R.ites 7 (P := x < (bw / 3)) (T := 46) (F := 33) (lv' := [some (.int 22), some (.int x), some (.int y), some (.int bw), some (.int bh), some (.int 0), none]) (st' := []) (h1 := h) rfl (fun b30 => ?_) (fun b30 => ?_)
      · refine am_R.nxs 2 (pc' := 49) (lv' := [some (.int 22), some (.int x), some (.int y), some (.int bw), some (.int bh), some (.int 0), some (.int 0)]) (st' := []) (h1 := h) rfl ?_
        refine am_R.ites 9 (P := x < ((bw / 8) + 1)) (T := 270) (F := 233) (lv' := [some (.int 22), some (.int x), some (.int y), some (.int bw), some (.int bh), some (.int 0), some (.int 0)]) (st' := []) (h1 := h) rfl (fun b230 => ?_) (fun b230 => ?_)
        · refine am_R.nxs 2 (pc' := 275) (lv' := [some (.int 22), some (.int x), some (.int y), some (.int bw), some (.int bh), some (.int 0), some (.int 0)]) (st' := [.int 1]) (h1 := h) rfl ?_
          rw [show aw_oc 24 x y bw bh = true from show (aw_edg x bw || aw_edg y bh) = true from by rw [show aw_edg x bw = true from decide_eq_true (.inl b230)]; rfl]
          exact am_R.reti rfl rfl (by (first | rfl | (split <;> rfl)))
        · refine am_R.ites 9 (P := ((bw - (bw / 8)) - 1) ≤ x) (T := 270) (F := 245) (lv' := [some (.int 22), some (.int x), some (.int y), some (.int bw), some (.int bh), some (.int 0), some (.int 0)]) (st' := []) (h1 := h) rfl (fun b242 => ?_) (fun b242 => ?_)
          · refine am_R.nxs 2 (pc' := 275) (lv' := [some (.int 22), some (.int x), some (.int y), some (.int bw), some (.int bh), some (.int 0), some (.int 0)]) (st' := [.int 1]) (h1 := h) rfl ?_
            rw [show aw_oc 24 x y bw bh = true from show (aw_edg x bw || aw_edg y bh) = true from by rw [show aw_edg x bw = true from decide_eq_true (.inr (Int32.not_lt.mpr b242))]; rfl]
            exact am_R.reti rfl rfl (by (first | rfl | (split <;> rfl)))
          · refine am_R.ites 7 (P := y < ((bh / 8) + 1)) (T := 270) (F := 256) (lv' := [some (.int 22), some (.int x), some (.int y), some (.int bw), some (.int bh), some (.int 0), some (.int 0)]) (st' := []) (h1 := h) rfl (fun b253 => ?_) (fun b253 => ?_)
            · refine am_R.nxs 2 (pc' := 275) (lv' := [some (.int 22), some (.int x), some (.int y), some (.int bw), some (.int bh), some (.int 0), some (.int 0)]) (st' := [.int 1]) (h1 := h) rfl ?_
              rw [show aw_oc 24 x y bw bh = true from show (aw_edg x bw || aw_edg y bh) = true from by rw [show aw_edg y bh = true from decide_eq_true (.inl b253)]; exact Bool.or_true _]
              exact am_R.reti rfl rfl (by (first | rfl | (split <;> rfl)))
            · refine am_R.ites 9 (P := y < ((bh - (bh / 8)) - 1)) (T := 274) (F := 270) (lv' := [some (.int 22), some (.int x), some (.int y), some (.int bw), some (.int bh), some (.int 0), some (.int 0)]) (st' := []) (h1 := h) rfl (fun b267 => ?_) (fun b267 => ?_)
              · refine am_R.nxs 1 (pc' := 275) (lv' := [some (.int 22), some (.int x), some (.int y), some (.int bw), some (.int bh), some (.int 0), some (.int 0)]) (st' := [.int 0]) (h1 := h) rfl ?_
                rw [show aw_oc 24 x y bw bh = false from show (aw_edg x bw || aw_edg y bh) = false from by rw [show aw_edg x bw = false from decide_eq_false (fun q => q.elim b230 (fun z => z (Int32.not_le.mp b242))), show aw_edg y bh = false from decide_eq_false (fun q => q.elim b253 (fun z => z b267))]; rfl]
                exact am_R.reti rfl rfl (by (first | rfl | (split <;> rfl)))
              · refine am_R.nxs 2 (pc' := 275) (lv' := [some (.int 22), some (.int x), some (.int y), some (.int bw), some (.int bh), some (.int 0), some (.int 0)]) (st' := [.int 1]) (h1 := h) rfl ?_
                rw [show aw_oc 24 x y bw bh = true from show (aw_edg x bw || aw_edg y bh) = true from by rw [show aw_edg y bh = true from decide_eq_true (.inr b267)]; exact Bool.or_true _]
                exact am_R.reti rfl rfl (by (first | rfl | (split <;> rfl)))
      · refine am_R.ites 7 (P := (bw - (bw / 3)) ≤ x) (T := 46) (F := 42) (lv' := [some (.int 22), some (.int x), some (.int y), some (.int bw), some (.int bh), some (.int 0), none]) (st' := []) (h1 := h) rfl (fun b39 => ?_) (fun b39 => ?_)
        · refine am_R.nxs 2 (pc' := 49) (lv' := [some (.int 22), some (.int x), some (.int y), some (.int bw), some (.int bh), some (.int 0), some (.int 0)]) (st' := []) (h1 := h) rfl ?_
          refine am_R.ites 9 (P := x < ((bw / 8) + 1)) (T := 270) (F := 233) (lv' := [some (.int 22), some (.int x), some (.int y), some (.int bw), some (.int bh), some (.int 0), some (.int 0)]) (st' := []) (h1 := h) rfl (fun b230 => ?_) (fun b230 => ?_)
          · refine am_R.nxs 2 (pc' := 275) (lv' := [some (.int 22), some (.int x), some (.int y), some (.int bw), some (.int bh), some (.int 0), some (.int 0)]) (st' := [.int 1]) (h1 := h) rfl ?_
            rw [show aw_oc 24 x y bw bh = true from show (aw_edg x bw || aw_edg y bh) = true from by rw [show aw_edg x bw = true from decide_eq_true (.inl b230)]; rfl]
            exact am_R.reti rfl rfl (by (first | rfl | (split <;> rfl)))
          · refine am_R.ites 9 (P := ((bw - (bw / 8)) - 1) ≤ x) (T := 270) (F := 245) (lv' := [some (.int 22), some (.int x), some (.int y), some (.int bw), some (.int bh), some (.int 0), some (.int 0)]) (st' := []) (h1 := h) rfl (fun b242 => ?_) (fun b242 => ?_)
            · refine am_R.nxs 2 (pc' := 275) (lv' := [some (.int 22), some (.int x), some (.int y), some (.int bw), some (.int bh), some (.int 0), some (.int 0)]) (st' := [.int 1]) (h1 := h) rfl ?_
              rw [show aw_oc 24 x y bw bh = true from show (aw_edg x bw || aw_edg y bh) = true from by rw [show aw_edg x bw = true from decide_eq_true (.inr (Int32.not_lt.mpr b242))]; rfl]
              exact am_R.reti rfl rfl (by (first | rfl | (split <;> rfl)))
            · refine am_R.ites 7 (P := y < ((bh / 8) + 1)) (T := 270) (F := 256) (lv' := [some (.int 22), some (.int x), some (.int y), some (.int bw), some (.int bh), some (.int 0), some (.int 0)]) (st' := []) (h1 := h) rfl (fun b253 => ?_) (fun b253 => ?_)
              · refine am_R.nxs 2 (pc' := 275) (lv' := [some (.int 22), some (.int x), some (.int y), some (.int bw), some (.int bh), some (.int 0), some (.int 0)]) (st' := [.int 1]) (h1 := h) rfl ?_
                rw [show aw_oc 24 x y bw bh = true from show (aw_edg x bw || aw_edg y bh) = true from by rw [show aw_edg y bh = true from decide_eq_true (.inl b253)]; exact Bool.or_true _]
                exact am_R.reti rfl rfl (by (first | rfl | (split <;> rfl)))
              · refine am_R.ites 9 (P := y < ((bh - (bh / 8)) - 1)) (T := 274) (F := 270) (lv' := [some (.int 22), some (.int x), some (.int y), some (.int bw), some (.int bh), some (.int 0), some (.int 0)]) (st' := []) (h1 := h) rfl (fun b267 => ?_) (fun b267 => ?_)
                · refine am_R.nxs 1 (pc' := 275) (lv' := [some (.int 22), some (.int x), some (.int y), some (.int bw), some (.int bh), some (.int 0), some (.int 0)]) (st' := [.int 0]) (h1 := h) rfl ?_
                  rw [show aw_oc 24 x y bw bh = false from show (aw_edg x bw || aw_edg y bh) = false from by rw [show aw_edg x bw = false from decide_eq_false (fun q => q.elim b230 (fun z => z (Int32.not_le.mp b242))), show aw_edg y bh = false from decide_eq_false (fun q => q.elim b253 (fun z => z b267))]; rfl]
                  exact am_R.reti rfl rfl (by (first | rfl | (split <;> rfl)))
                · refine am_R.nxs 2 (pc' := 275) (lv' := [some (.int 22), some (.int x), some (.int y), some (.int bw), some (.int bh), some (.int 0), some (.int 0)]) (st' := [.int 1]) (h1 := h) rfl ?_
                  rw [show aw_oc 24 x y bw bh = true from show (aw_edg x bw || aw_edg y bh) = true from by rw [show aw_edg y bh = true from decide_eq_true (.inr b267)]; exact Bool.or_true _]
                  exact am_R.reti rfl rfl (by (first | rfl | (split <;> rfl)))
        · refine am_R.nxs 3 (pc' := 49) (lv' := [some (.int 22), some (.int x), some (.int y), some (.int bw), some (.int bh), some (.int 0), some (.int 1)]) (st' := []) (h1 := h) rfl ?_
          refine am_R.ites 9 (P := x < ((bw / 8) + 1)) (T := 270) (F := 233) (lv' := [some (.int 22), some (.int x), some (.int y), some (.int bw), some (.int bh), some (.int 0), some (.int 1)]) (st' := []) (h1 := h) rfl (fun b230 => ?_) (fun b230 => ?_)
          · refine am_R.nxs 2 (pc' := 275) (lv' := [some (.int 22), some (.int x), some (.int y), some (.int bw), some (.int bh), some (.int 0), some (.int 1)]) (st' := [.int 1]) (h1 := h) rfl ?_
            rw [show aw_oc 24 x y bw bh = true from show (aw_edg x bw || aw_edg y bh) = true from by rw [show aw_edg x bw = true from decide_eq_true (.inl b230)]; rfl]
            exact am_R.reti rfl rfl (by (first | rfl | (split <;> rfl)))
          · refine am_R.ites 9 (P := ((bw - (bw / 8)) - 1) ≤ x) (T := 270) (F := 245) (lv' := [some (.int 22), some (.int x), some (.int y), some (.int bw), some (.int bh), some (.int 0), some (.int 1)]) (st' := []) (h1 := h) rfl (fun b242 => ?_) (fun b242 => ?_)
            · refine am_R.nxs 2 (pc' := 275) (lv' := [some (.int 22), some (.int x), some (.int y), some (.int bw), some (.int bh), some (.int 0), some (.int 1)]) (st' := [.int 1]) (h1 := h) rfl ?_
              rw [show aw_oc 24 x y bw bh = true from show (aw_edg x bw || aw_edg y bh) = true from by rw [show aw_edg x bw = true from decide_eq_true (.inr (Int32.not_lt.mpr b242))]; rfl]
              exact am_R.reti rfl rfl (by (first | rfl | (split <;> rfl)))
            · refine am_R.ites 7 (P := y < ((bh / 8) + 1)) (T := 270) (F := 256) (lv' := [some (.int 22), some (.int x), some (.int y), some (.int bw), some (.int bh), some (.int 0), some (.int 1)]) (st' := []) (h1 := h) rfl (fun b253 => ?_) (fun b253 => ?_)
              · refine am_R.nxs 2 (pc' := 275) (lv' := [some (.int 22), some (.int x), some (.int y), some (.int bw), some (.int bh), some (.int 0), some (.int 1)]) (st' := [.int 1]) (h1 := h) rfl ?_
                rw [show aw_oc 24 x y bw bh = true from show (aw_edg x bw || aw_edg y bh) = true from by rw [show aw_edg y bh = true from decide_eq_true (.inl b253)]; exact Bool.or_true _]
                exact am_R.reti rfl rfl (by (first | rfl | (split <;> rfl)))
              · refine am_R.ites 9 (P := y < ((bh - (bh / 8)) - 1)) (T := 274) (F := 270) (lv' := [some (.int 22), some (.int x), some (.int y), some (.int bw), some (.int bh), some (.int 0), some (.int 1)]) (st' := []) (h1 := h) rfl (fun b267 => ?_) (fun b267 => ?_)
                · refine am_R.nxs 1 (pc' := 275) (lv' := [some (.int 22), some (.int x), some (.int y), some (.int bw), some (.int bh), some (.int 0), some (.int 1)]) (st' := [.int 0]) (h1 := h) rfl ?_
                  rw [show aw_oc 24 x y bw bh = false from show (aw_edg x bw || aw_edg y bh) = false from by rw [show aw_edg x bw = false from decide_eq_false (fun q => q.elim b230 (fun z => z (Int32.not_le.mp b242))), show aw_edg y bh = false from decide_eq_false (fun q => q.elim b253 (fun z => z b267))]; rfl]
                  exact am_R.reti rfl rfl (by (first | rfl | (split <;> rfl)))
                · refine am_R.nxs 2 (pc' := 275) (lv' := [some (.int 22), some (.int x), some (.int y), some (.int bw), some (.int bh), some (.int 0), some (.int 1)]) (st' := [.int 1]) (h1 := h) rfl ?_
                  rw [show aw_oc 24 x y bw bh = true from show (aw_edg x bw || aw_edg y bh) = true from by rw [show aw_edg y bh = true from decide_eq_true (.inr b267)]; exact Bool.or_true _]
                  exact am_R.reti rfl rfl (by (first | rfl | (split <;> rfl)))
    · refine am_R.ites 8 (P := x < (bw / 3)) (T := 46) (F := 33) (lv' := [some (.int 22), some (.int x), some (.int y), some (.int bw), some (.int bh), some (.int 1), none]) (st' := []) (h1 := h) rfl (fun b30 => ?_) (fun b30 => ?_)
      · refine am_R.nxs 2 (pc' := 49) (lv' := [some (.int 22), some (.int x), some (.int y), some (.int bw), some (.int bh), some (.int 1), some (.int 0)]) (st' := []) (h1 := h) rfl ?_
        refine am_R.ites 9 (P := x < ((bw / 8) + 1)) (T := 270) (F := 233) (lv' := [some (.int 22), some (.int x), some (.int y), some (.int bw), some (.int bh), some (.int 1), some (.int 0)]) (st' := []) (h1 := h) rfl (fun b230 => ?_) (fun b230 => ?_)
        · refine am_R.nxs 2 (pc' := 275) (lv' := [some (.int 22), some (.int x), some (.int y), some (.int bw), some (.int bh), some (.int 1), some (.int 0)]) (st' := [.int 1]) (h1 := h) rfl ?_
          rw [show aw_oc 24 x y bw bh = true from show (aw_edg x bw || aw_edg y bh) = true from by rw [show aw_edg x bw = true from decide_eq_true (.inl b230)]; rfl]
          exact am_R.reti rfl rfl (by (first | rfl | (split <;> rfl)))
        · refine am_R.ites 9 (P := ((bw - (bw / 8)) - 1) ≤ x) (T := 270) (F := 245) (lv' := [some (.int 22), some (.int x), some (.int y), some (.int bw), some (.int bh), some (.int 1), some (.int 0)]) (st' := []) (h1 := h) rfl (fun b242 => ?_) (fun b242 => ?_)
          · refine am_R.nxs 2 (pc' := 275) (lv' := [some (.int 22), some (.int x), some (.int y), some (.int bw), some (.int bh), some (.int 1), some (.int 0)]) (st' := [.int 1]) (h1 := h) rfl ?_
            rw [show aw_oc 24 x y bw bh = true from show (aw_edg x bw || aw_edg y bh) = true from by rw [show aw_edg x bw = true from decide_eq_true (.inr (Int32.not_lt.mpr b242))]; rfl]
            exact am_R.reti rfl rfl (by (first | rfl | (split <;> rfl)))
          · refine am_R.ites 7 (P := y < ((bh / 8) + 1)) (T := 270) (F := 256) (lv' := [some (.int 22), some (.int x), some (.int y), some (.int bw), some (.int bh), some (.int 1), some (.int 0)]) (st' := []) (h1 := h) rfl (fun b253 => ?_) (fun b253 => ?_)
            · refine am_R.nxs 2 (pc' := 275) (lv' := [some (.int 22), some (.int x), some (.int y), some (.int bw), some (.int bh), some (.int 1), some (.int 0)]) (st' := [.int 1]) (h1 := h) rfl ?_
              rw [show aw_oc 24 x y bw bh = true from show (aw_edg x bw || aw_edg y bh) = true from by rw [show aw_edg y bh = true from decide_eq_true (.inl b253)]; exact Bool.or_true _]
              exact am_R.reti rfl rfl (by (first | rfl | (split <;> rfl)))
            · refine am_R.ites 9 (P := y < ((bh - (bh / 8)) - 1)) (T := 274) (F := 270) (lv' := [some (.int 22), some (.int x), some (.int y), some (.int bw), some (.int bh), some (.int 1), some (.int 0)]) (st' := []) (h1 := h) rfl (fun b267 => ?_) (fun b267 => ?_)
              · refine am_R.nxs 1 (pc' := 275) (lv' := [some (.int 22), some (.int x), some (.int y), some (.int bw), some (.int bh), some (.int 1), some (.int 0)]) (st' := [.int 0]) (h1 := h) rfl ?_
                rw [show aw_oc 24 x y bw bh = false from show (aw_edg x bw || aw_edg y bh) = false from by rw [show aw_edg x bw = false from decide_eq_false (fun q => q.elim b230 (fun z => z (Int32.not_le.mp b242))), show aw_edg y bh = false from decide_eq_false (fun q => q.elim b253 (fun z => z b267))]; rfl]
                exact am_R.reti rfl rfl (by (first | rfl | (split <;> rfl)))
              · refine am_R.nxs 2 (pc' := 275) (lv' := [some (.int 22), some (.int x), some (.int y), some (.int bw), some (.int bh), some (.int 1), some (.int 0)]) (st' := [.int 1]) (h1 := h) rfl ?_
                rw [show aw_oc 24 x y bw bh = true from show (aw_edg x bw || aw_edg y bh) = true from by rw [show aw_edg y bh = true from decide_eq_true (.inr b267)]; exact Bool.or_true _]
                exact am_R.reti rfl rfl (by (first | rfl | (split <;> rfl)))
      · refine am_R.ites 7 (P := (bw - (bw / 3)) ≤ x) (T := 46) (F := 42) (lv' := [some (.int 22), some (.int x), some (.int y), some (.int bw), some (.int bh), some (.int 1), none]) (st' := []) (h1 := h) rfl (fun b39 => ?_) (fun b39 => ?_)
        · refine am_R.nxs 2 (pc' := 49) (lv' := [some (.int 22), some (.int x), some (.int y), some (.int bw), some (.int bh), some (.int 1), some (.int 0)]) (st' := []) (h1 := h) rfl ?_
          refine am_R.ites 9 (P := x < ((bw / 8) + 1)) (T := 270) (F := 233) (lv' := [some (.int 22), some (.int x), some (.int y), some (.int bw), some (.int bh), some (.int 1), some (.int 0)]) (st' := []) (h1 := h) rfl (fun b230 => ?_) (fun b230 => ?_)
          · refine am_R.nxs 2 (pc' := 275) (lv' := [some (.int 22), some (.int x), some (.int y), some (.int bw), some (.int bh), some (.int 1), some (.int 0)]) (st' := [.int 1]) (h1 := h) rfl ?_
            rw [show aw_oc 24 x y bw bh = true from show (aw_edg x bw || aw_edg y bh) = true from by rw [show aw_edg x bw = true from decide_eq_true (.inl b230)]; rfl]
            exact am_R.reti rfl rfl (by (first | rfl | (split <;> rfl)))
          · refine am_R.ites 9 (P := ((bw - (bw / 8)) - 1) ≤ x) (T := 270) (F := 245) (lv' := [some (.int 22), some (.int x), some (.int y), some (.int bw), some (.int bh), some (.int 1), some (.int 0)]) (st' := []) (h1 := h) rfl (fun b242 => ?_) (fun b242 => ?_)
            · refine am_R.nxs 2 (pc' := 275) (lv' := [some (.int 22), some (.int x), some (.int y), some (.int bw), some (.int bh), some (.int 1), some (.int 0)]) (st' := [.int 1]) (h1 := h) rfl ?_
              rw [show aw_oc 24 x y bw bh = true from show (aw_edg x bw || aw_edg y bh) = true from by rw [show aw_edg x bw = true from decide_eq_true (.inr (Int32.not_lt.mpr b242))]; rfl]
              exact am_R.reti rfl rfl (by (first | rfl | (split <;> rfl)))
            · refine am_R.ites 7 (P := y < ((bh / 8) + 1)) (T := 270) (F := 256) (lv' := [some (.int 22), some (.int x), some (.int y), some (.int bw), some (.int bh), some (.int 1), some (.int 0)]) (st' := []) (h1 := h) rfl (fun b253 => ?_) (fun b253 => ?_)
              · refine am_R.nxs 2 (pc' := 275) (lv' := [some (.int 22), some (.int x), some (.int y), some (.int bw), some (.int bh), some (.int 1), some (.int 0)]) (st' := [.int 1]) (h1 := h) rfl ?_
                rw [show aw_oc 24 x y bw bh = true from show (aw_edg x bw || aw_edg y bh) = true from by rw [show aw_edg y bh = true from decide_eq_true (.inl b253)]; exact Bool.or_true _]
                exact am_R.reti rfl rfl (by (first | rfl | (split <;> rfl)))
              · refine am_R.ites 9 (P := y < ((bh - (bh / 8)) - 1)) (T := 274) (F := 270) (lv' := [some (.int 22), some (.int x), some (.int y), some (.int bw), some (.int bh), some (.int 1), some (.int 0)]) (st' := []) (h1 := h) rfl (fun b267 => ?_) (fun b267 => ?_)
                · refine am_R.nxs 1 (pc' := 275) (lv' := [some (.int 22), some (.int x), some (.int y), some (.int bw), some (.int bh), some (.int 1), some (.int 0)]) (st' := [.int 0]) (h1 := h) rfl ?_
                  rw [show aw_oc 24 x y bw bh = false from show (aw_edg x bw || aw_edg y bh) = false from by rw [show aw_edg x bw = false from decide_eq_false (fun q => q.elim b230 (fun z => z (Int32.not_le.mp b242))), show aw_edg y bh = false from decide_eq_false (fun q => q.elim b253 (fun z => z b267))]; rfl]
                  exact am_R.reti rfl rfl (by (first | rfl | (split <;> rfl)))
                · refine am_R.nxs 2 (pc' := 275) (lv' := [some (.int 22), some (.int x), some (.int y), some (.int bw), some (.int bh), some (.int 1), some (.int 0)]) (st' := [.int 1]) (h1 := h) rfl ?_
                  rw [show aw_oc 24 x y bw bh = true from show (aw_edg x bw || aw_edg y bh) = true from by rw [show aw_edg y bh = true from decide_eq_true (.inr b267)]; exact Bool.or_true _]
                  exact am_R.reti rfl rfl (by (first | rfl | (split <;> rfl)))
        · refine am_R.nxs 3 (pc' := 49) (lv' := [some (.int 22), some (.int x), some (.int y), some (.int bw), some (.int bh), some (.int 1), some (.int 1)]) (st' := []) (h1 := h) rfl ?_
          refine am_R.ites 9 (P := x < ((bw / 8) + 1)) (T := 270) (F := 233) (lv' := [some (.int 22), some (.int x), some (.int y), some (.int bw), some (.int bh), some (.int 1), some (.int 1)]) (st' := []) (h1 := h) rfl (fun b230 => ?_) (fun b230 => ?_)
          · refine am_R.nxs 2 (pc' := 275) (lv' := [some (.int 22), some (.int x), some (.int y), some (.int bw), some (.int bh), some (.int 1), some (.int 1)]) (st' := [.int 1]) (h1 := h) rfl ?_
            rw [show aw_oc 24 x y bw bh = true from show (aw_edg x bw || aw_edg y bh) = true from by rw [show aw_edg x bw = true from decide_eq_true (.inl b230)]; rfl]
            exact am_R.reti rfl rfl (by (first | rfl | (split <;> rfl)))
          · refine am_R.ites 9 (P := ((bw - (bw / 8)) - 1) ≤ x) (T := 270) (F := 245) (lv' := [some (.int 22), some (.int x), some (.int y), some (.int bw), some (.int bh), some (.int 1), some (.int 1)]) (st' := []) (h1 := h) rfl (fun b242 => ?_) (fun b242 => ?_)
            · refine am_R.nxs 2 (pc' := 275) (lv' := [some (.int 22), some (.int x), some (.int y), some (.int bw), some (.int bh), some (.int 1), some (.int 1)]) (st' := [.int 1]) (h1 := h) rfl ?_
              rw [show aw_oc 24 x y bw bh = true from show (aw_edg x bw || aw_edg y bh) = true from by rw [show aw_edg x bw = true from decide_eq_true (.inr (Int32.not_lt.mpr b242))]; rfl]
              exact am_R.reti rfl rfl (by (first | rfl | (split <;> rfl)))
            · refine am_R.ites 7 (P := y < ((bh / 8) + 1)) (T := 270) (F := 256) (lv' := [some (.int 22), some (.int x), some (.int y), some (.int bw), some (.int bh), some (.int 1), some (.int 1)]) (st' := []) (h1 := h) rfl (fun b253 => ?_) (fun b253 => ?_)
              · refine am_R.nxs 2 (pc' := 275) (lv' := [some (.int 22), some (.int x), some (.int y), some (.int bw), some (.int bh), some (.int 1), some (.int 1)]) (st' := [.int 1]) (h1 := h) rfl ?_
                rw [show aw_oc 24 x y bw bh = true from show (aw_edg x bw || aw_edg y bh) = true from by rw [show aw_edg y bh = true from decide_eq_true (.inl b253)]; exact Bool.or_true _]
                exact am_R.reti rfl rfl (by (first | rfl | (split <;> rfl)))
              · refine am_R.ites 9 (P := y < ((bh - (bh / 8)) - 1)) (T := 274) (F := 270) (lv' := [some (.int 22), some (.int x), some (.int y), some (.int bw), some (.int bh), some (.int 1), some (.int 1)]) (st' := []) (h1 := h) rfl (fun b267 => ?_) (fun b267 => ?_)
                · refine am_R.nxs 1 (pc' := 275) (lv' := [some (.int 22), some (.int x), some (.int y), some (.int bw), some (.int bh), some (.int 1), some (.int 1)]) (st' := [.int 0]) (h1 := h) rfl ?_
                  rw [show aw_oc 24 x y bw bh = false from show (aw_edg x bw || aw_edg y bh) = false from by rw [show aw_edg x bw = false from decide_eq_false (fun q => q.elim b230 (fun z => z (Int32.not_le.mp b242))), show aw_edg y bh = false from decide_eq_false (fun q => q.elim b253 (fun z => z b267))]; rfl]
                  exact am_R.reti rfl rfl (by (first | rfl | (split <;> rfl)))
                · refine am_R.nxs 2 (pc' := 275) (lv' := [some (.int 22), some (.int x), some (.int y), some (.int bw), some (.int bh), some (.int 1), some (.int 1)]) (st' := [.int 1]) (h1 := h) rfl ?_
                  rw [show aw_oc 24 x y bw bh = true from show (aw_edg x bw || aw_edg y bh) = true from by rw [show aw_edg y bh = true from decide_eq_true (.inr b267)]; exact Bool.or_true _]
                  exact am_R.reti rfl rfl (by (first | rfl | (split <;> rfl)))
theorem aw_k124 (d : Nat) {h : am_H} {j : Nat} (h1 : 17 ≤ j) (h2 : j ≤ 24) (x y bw bh : Int32) : am_R (d + 2) 124 0 [some (.int (aw_tau j)), some (.int x), some (.int y), some (.int bw), some (.int bh), none, none] [] h (.inl (some (.int (if aw_oc j x y bw bh = true then 1 else 0)))) h := by
  rcases (by omega : j = 17 ∨ j = 18 ∨ j = 19 ∨ j = 20 ∨ j = 21 ∨ j = 22 ∨ j = 23 ∨ j = 24) with q | q | q | q | q | q | q | q <;> subst q
  · exact aw_k124_17 d x y bw bh
  · exact aw_k124_18 d x y bw bh
  · exact aw_k124_19 d x y bw bh
  · exact aw_k124_20 d x y bw bh
  · exact aw_k124_21 d x y bw bh
  · exact aw_k124_22 d x y bw bh
  · exact aw_k124_23 d x y bw bh
  · exact aw_k124_24 d x y bw bh
set_option maxRecDepth 100000 in
theorem aw_k121_0 (d : Nat) {h : am_H} (x y bw bh : Int32) : am_R (d + 1) 121 0 [some (.int 0), some (.int x), some (.int y), some (.int bw), some (.int bh), none, none] [] h (.inl (some (.int (if aw_cg 0 x y bw bh = true then 1 else 0)))) h := by
  refine am_R.nxs 7 (pc' := 7) (lv' := [some (.int 0), some (.int x), some (.int y), some (.int bw), some (.int bh), none, none]) (st' := [.int (((2 * x) + 1) - bw)]) (h1 := h) rfl ?_
  refine am_R.cs (mj := 122) (as := [.int (((2 * x) + 1) - bw)]) (r := []) (v := some (.int (aw_abs (((2 * x) + 1) - bw)))) (h1 := h) (pc' := 10) rfl (aw_k122 _ _) rfl ?_
  refine am_R.nxs 8 (pc' := 20) (lv' := [some (.int 0), some (.int x), some (.int y), some (.int bw), some (.int bh), some (.int (aw_abs (((2 * x) + 1) - bw))), none]) (st' := [.int (((2 * y) + 1) - bh)]) (h1 := h) rfl ?_
  refine am_R.cs (mj := 122) (as := [.int (((2 * y) + 1) - bh)]) (r := []) (v := some (.int (aw_abs (((2 * y) + 1) - bh)))) (h1 := h) (pc' := 23) rfl (aw_k122 _ _) rfl ?_
  refine am_R.ites 3 (P := ¬ 0 = 0) (T := 74) (F := 29) (lv' := [some (.int 0), some (.int x), some (.int y), some (.int bw), some (.int bh), some (.int (aw_abs (((2 * x) + 1) - bw))), some (.int (aw_abs (((2 * y) + 1) - bh)))]) (st' := []) (h1 := h) rfl (fun b26 => ?_) (fun b26 => ?_)
  · exact absurd rfl b26
  · refine am_R.ites 27 (P := ((((9 * bw) * bw) * bh) * bh) < (16 * (((((aw_abs (((2 * x) + 1) - bw)) * (aw_abs (((2 * x) + 1) - bw))) * bh) * bh) + ((((aw_abs (((2 * y) + 1) - bh)) * (aw_abs (((2 * y) + 1) - bh))) * bw) * bw)))) (T := 72) (F := 68) (lv' := [some (.int 0), some (.int x), some (.int y), some (.int bw), some (.int bh), some (.int (aw_abs (((2 * x) + 1) - bw))), some (.int (aw_abs (((2 * y) + 1) - bh)))]) (st' := []) (h1 := h) rfl (fun b65 => ?_) (fun b65 => ?_)
    · refine am_R.nxs 1 (pc' := 73) (lv' := [some (.int 0), some (.int x), some (.int y), some (.int bw), some (.int bh), some (.int (aw_abs (((2 * x) + 1) - bw))), some (.int (aw_abs (((2 * y) + 1) - bh)))]) (st' := [.int 0]) (h1 := h) rfl ?_
      rw [show aw_cg 0 x y bw bh = false from decide_eq_false (fun z => z b65)]
      exact am_R.reti rfl rfl rfl
    · refine am_R.nxs 2 (pc' := 73) (lv' := [some (.int 0), some (.int x), some (.int y), some (.int bw), some (.int bh), some (.int (aw_abs (((2 * x) + 1) - bw))), some (.int (aw_abs (((2 * y) + 1) - bh)))]) (st' := [.int 1]) (h1 := h) rfl ?_
      rw [show aw_cg 0 x y bw bh = true from decide_eq_true b65]
      exact am_R.reti rfl rfl rfl
set_option maxRecDepth 100000 in
theorem aw_k121_1 (d : Nat) {h : am_H} (x y bw bh : Int32) : am_R (d + 1) 121 0 [some (.int 1), some (.int x), some (.int y), some (.int bw), some (.int bh), none, none] [] h (.inl (some (.int (if aw_cg 1 x y bw bh = true then 1 else 0)))) h := by
  refine am_R.nxs 7 (pc' := 7) (lv' := [some (.int 1), some (.int x), some (.int y), some (.int bw), some (.int bh), none, none]) (st' := [.int (((2 * x) + 1) - bw)]) (h1 := h) rfl ?_
  refine am_R.cs (mj := 122) (as := [.int (((2 * x) + 1) - bw)]) (r := []) (v := some (.int (aw_abs (((2 * x) + 1) - bw)))) (h1 := h) (pc' := 10) rfl (aw_k122 _ _) rfl ?_
  refine am_R.nxs 8 (pc' := 20) (lv' := [some (.int 1), some (.int x), some (.int y), some (.int bw), some (.int bh), some (.int (aw_abs (((2 * x) + 1) - bw))), none]) (st' := [.int (((2 * y) + 1) - bh)]) (h1 := h) rfl ?_
  refine am_R.cs (mj := 122) (as := [.int (((2 * y) + 1) - bh)]) (r := []) (v := some (.int (aw_abs (((2 * y) + 1) - bh)))) (h1 := h) (pc' := 23) rfl (aw_k122 _ _) rfl ?_
  refine am_R.ites 3 (P := ¬ 1 = 0) (T := 74) (F := 29) (lv' := [some (.int 1), some (.int x), some (.int y), some (.int bw), some (.int bh), some (.int (aw_abs (((2 * x) + 1) - bw))), some (.int (aw_abs (((2 * y) + 1) - bh)))]) (st' := []) (h1 := h) rfl (fun b26 => ?_) (fun b26 => ?_)
  · refine am_R.ites 3 (P := ¬ 1 = 1) (T := 106) (F := 79) (lv' := [some (.int 1), some (.int x), some (.int y), some (.int bw), some (.int bh), some (.int (aw_abs (((2 * x) + 1) - bw))), some (.int (aw_abs (((2 * y) + 1) - bh)))]) (st' := []) (h1 := h) rfl (fun b76 => ?_) (fun b76 => ?_)
    · exact absurd rfl b76
    · refine am_R.ites 5 (P := bw < (2 * (aw_abs (((2 * x) + 1) - bw)))) (T := 102) (F := 87) (lv' := [some (.int 1), some (.int x), some (.int y), some (.int bw), some (.int bh), some (.int (aw_abs (((2 * x) + 1) - bw))), some (.int (aw_abs (((2 * y) + 1) - bh)))]) (st' := []) (h1 := h) rfl (fun b84 => ?_) (fun b84 => ?_)
      · refine am_R.nxs 2 (pc' := 132) (lv' := [some (.int 1), some (.int x), some (.int y), some (.int bw), some (.int bh), some (.int (aw_abs (((2 * x) + 1) - bw))), some (.int (aw_abs (((2 * y) + 1) - bh)))]) (st' := [.int 0]) (h1 := h) rfl ?_
        rw [show aw_cg 1 x y bw bh = false from decide_eq_false (fun z => z.1 b84)]
        exact am_R.reti rfl rfl rfl
      · refine am_R.ites 7 (P := (3 * bh) < (4 * (aw_abs (((2 * y) + 1) - bh)))) (T := 102) (F := 98) (lv' := [some (.int 1), some (.int x), some (.int y), some (.int bw), some (.int bh), some (.int (aw_abs (((2 * x) + 1) - bw))), some (.int (aw_abs (((2 * y) + 1) - bh)))]) (st' := []) (h1 := h) rfl (fun b95 => ?_) (fun b95 => ?_)
        · refine am_R.nxs 2 (pc' := 132) (lv' := [some (.int 1), some (.int x), some (.int y), some (.int bw), some (.int bh), some (.int (aw_abs (((2 * x) + 1) - bw))), some (.int (aw_abs (((2 * y) + 1) - bh)))]) (st' := [.int 0]) (h1 := h) rfl ?_
          rw [show aw_cg 1 x y bw bh = false from decide_eq_false (fun z => z.2 b95)]
          exact am_R.reti rfl rfl rfl
        · refine am_R.nxs 2 (pc' := 132) (lv' := [some (.int 1), some (.int x), some (.int y), some (.int bw), some (.int bh), some (.int (aw_abs (((2 * x) + 1) - bw))), some (.int (aw_abs (((2 * y) + 1) - bh)))]) (st' := [.int 1]) (h1 := h) rfl ?_
          rw [show aw_cg 1 x y bw bh = true from decide_eq_true ⟨b84, b95⟩]
          exact am_R.reti rfl rfl rfl
  · exact absurd (by decide) b26
set_option maxRecDepth 100000 in
theorem aw_k121_2 (d : Nat) {h : am_H} (x y bw bh : Int32) : am_R (d + 1) 121 0 [some (.int 2), some (.int x), some (.int y), some (.int bw), some (.int bh), none, none] [] h (.inl (some (.int (if aw_cg 2 x y bw bh = true then 1 else 0)))) h := by
  refine am_R.nxs 7 (pc' := 7) (lv' := [some (.int 2), some (.int x), some (.int y), some (.int bw), some (.int bh), none, none]) (st' := [.int (((2 * x) + 1) - bw)]) (h1 := h) rfl ?_
  refine am_R.cs (mj := 122) (as := [.int (((2 * x) + 1) - bw)]) (r := []) (v := some (.int (aw_abs (((2 * x) + 1) - bw)))) (h1 := h) (pc' := 10) rfl (aw_k122 _ _) rfl ?_
  refine am_R.nxs 8 (pc' := 20) (lv' := [some (.int 2), some (.int x), some (.int y), some (.int bw), some (.int bh), some (.int (aw_abs (((2 * x) + 1) - bw))), none]) (st' := [.int (((2 * y) + 1) - bh)]) (h1 := h) rfl ?_
  refine am_R.cs (mj := 122) (as := [.int (((2 * y) + 1) - bh)]) (r := []) (v := some (.int (aw_abs (((2 * y) + 1) - bh)))) (h1 := h) (pc' := 23) rfl (aw_k122 _ _) rfl ?_
  refine am_R.ites 3 (P := ¬ 2 = 0) (T := 74) (F := 29) (lv' := [some (.int 2), some (.int x), some (.int y), some (.int bw), some (.int bh), some (.int (aw_abs (((2 * x) + 1) - bw))), some (.int (aw_abs (((2 * y) + 1) - bh)))]) (st' := []) (h1 := h) rfl (fun b26 => ?_) (fun b26 => ?_)
  · refine am_R.ites 3 (P := ¬ 2 = 1) (T := 106) (F := 79) (lv' := [some (.int 2), some (.int x), some (.int y), some (.int bw), some (.int bh), some (.int (aw_abs (((2 * x) + 1) - bw))), some (.int (aw_abs (((2 * y) + 1) - bh)))]) (st' := []) (h1 := h) rfl (fun b76 => ?_) (fun b76 => ?_)
    · refine am_R.ites 15 (P := ((3 * bw) * bh) < (4 * (((aw_abs (((2 * x) + 1) - bw)) * bh) + ((aw_abs (((2 * y) + 1) - bh)) * bw)))) (T := 131) (F := 127) (lv' := [some (.int 2), some (.int x), some (.int y), some (.int bw), some (.int bh), some (.int (aw_abs (((2 * x) + 1) - bw))), some (.int (aw_abs (((2 * y) + 1) - bh)))]) (st' := []) (h1 := h) rfl (fun b124 => ?_) (fun b124 => ?_)
      · refine am_R.nxs 1 (pc' := 132) (lv' := [some (.int 2), some (.int x), some (.int y), some (.int bw), some (.int bh), some (.int (aw_abs (((2 * x) + 1) - bw))), some (.int (aw_abs (((2 * y) + 1) - bh)))]) (st' := [.int 0]) (h1 := h) rfl ?_
        rw [show aw_cg 2 x y bw bh = false from decide_eq_false (fun z => z b124)]
        exact am_R.reti rfl rfl rfl
      · refine am_R.nxs 2 (pc' := 132) (lv' := [some (.int 2), some (.int x), some (.int y), some (.int bw), some (.int bh), some (.int (aw_abs (((2 * x) + 1) - bw))), some (.int (aw_abs (((2 * y) + 1) - bh)))]) (st' := [.int 1]) (h1 := h) rfl ?_
        rw [show aw_cg 2 x y bw bh = true from decide_eq_true b124]
        exact am_R.reti rfl rfl rfl
    · exact absurd (by decide) b76
  · exact absurd (by decide) b26
theorem aw_k121 (d : Nat) {h : am_H} {ch : Nat} (hc : ch < 3) (x y bw bh : Int32) : am_R (d + 1) 121 0 [some (.int (Int32.ofNat ch)), some (.int x), some (.int y), some (.int bw), some (.int bh), none, none] [] h (.inl (some (.int (if aw_cg ch x y bw bh = true then 1 else 0)))) h := by
  rcases (by omega : ch = 0 ∨ ch = 1 ∨ ch = 2) with q | q | q <;> subst q
  · exact aw_k121_0 d x y bw bh
  · exact aw_k121_1 d x y bw bh
  · exact aw_k121_2 d x y bw bh
theorem aw_k118l (d : Nat) {h : am_H} (at_ len k : Int32) (hk : ¬ k = 0) {v : Int32} : ∀ (f : Nat) (i : Int32), aw_sp at_ len k f i = some v → am_R d 118 2 [some (.int at_), some (.int len), some (.int k), some (.int i)] [] h (.inl (some (.int v))) h := by
  intro f
  induction f with
  | zero =>
    intro i e
    cases e
  | succ f ih =>
    intro i e
    rw [aw_sp] at e
    refine am_R.nxs 7 (pc' := 9) (lv' := [some (.int at_), some (.int len), some (.int k), some (.int i)]) (st' := [.int k, .int ((i + 1) * len), .int at_]) (h1 := h) rfl ?_
    refine am_R.idv (pc' := 10) rfl (hk) rfl ?_
    refine am_R.ites 1 (P := at_ < (((i + 1) * len) / k)) (T := 19) (F := 13) (lv' := [some (.int at_), some (.int len), some (.int k), some (.int i)]) (st' := []) (h1 := h) rfl (fun b10 => ?_) (fun b10 => ?_)
    · refine am_R.nxs 1 (pc' := 20) (lv' := [some (.int at_), some (.int len), some (.int k), some (.int i)]) (st' := [.int i]) (h1 := h) rfl ?_
      rw [if_pos b10] at e
      cases e
      exact am_R.reti rfl rfl rfl
    · refine am_R.nxs 2 (pc' := 2) (lv' := [some (.int at_), some (.int len), some (.int k), some (.int (i + 1))]) (st' := []) (h1 := h) rfl ?_
      rw [if_neg b10] at e
      exact ih (i + 1) e
theorem aw_k118 (d : Nat) {h : am_H} (at_ len k : Int32) (hk : ¬ k = 0) {v : Int32} (e : aw_sp at_ len k 8 0 = some v) : am_R d 118 0 [some (.int at_), some (.int len), some (.int k), none] [] h (.inl (some (.int v))) h := by
  refine am_R.nxs 2 (pc' := 2) (lv' := [some (.int at_), some (.int len), some (.int k), some (.int 0)]) (st' := []) (h1 := h) rfl ?_
  exact aw_k118l d at_ len k hk 8 0 e
theorem aw_k119_1 (d : Nat) {h : am_H} (i : Int32) : am_R d 119 0 [some (.int 1), some (.int i)] [] h (.inl (some (.int (aw_inr 1 i)))) h := by
  refine am_R.nxs 3 (pc' := 37) (lv' := [some (.int 1), some (.int i)]) (st' := [.int 1]) (h1 := h) rfl ?_
  exact am_R.reti rfl rfl rfl
theorem aw_k119_2 (d : Nat) {h : am_H} (i : Int32) : am_R d 119 0 [some (.int 2), some (.int i)] [] h (.inl (some (.int (aw_inr 2 i)))) h := by
  refine am_R.nxs 3 (pc' := 39) (lv' := [some (.int 2), some (.int i)]) (st' := [.int 2]) (h1 := h) rfl ?_
  exact am_R.reti rfl rfl rfl
theorem aw_k119_3 (d : Nat) {h : am_H} (i : Int32) : am_R d 119 0 [some (.int 3), some (.int i)] [] h (.inl (some (.int (aw_inr 3 i)))) h := by
  refine am_R.ites 4 (P := ¬ i = 0) (T := 48) (F := 44) (lv' := [some (.int 3), some (.int i)]) (st' := []) (h1 := h) rfl (fun b41 => ?_) (fun b41 => ?_)
  · refine am_R.nxs 1 (pc' := 49) (lv' := [some (.int 3), some (.int i)]) (st' := [.int 1]) (h1 := h) rfl ?_
    rw [show aw_inr 3 i = 1 from if_neg b41]
    exact am_R.reti rfl rfl rfl
  · refine am_R.nxs 2 (pc' := 49) (lv' := [some (.int 3), some (.int i)]) (st' := [.int 2]) (h1 := h) rfl ?_
    rw [show aw_inr 3 i = 2 from if_pos (Decidable.not_not.mp b41)]
    exact am_R.reti rfl rfl rfl
theorem aw_k119_4 (d : Nat) {h : am_H} (i : Int32) : am_R d 119 0 [some (.int 4), some (.int i)] [] h (.inl (some (.int (aw_inr 4 i)))) h := by
  refine am_R.nxs 3 (pc' := 51) (lv' := [some (.int 4), some (.int i)]) (st' := [.int 2]) (h1 := h) rfl ?_
  exact am_R.reti rfl rfl rfl
theorem aw_k119_5 (d : Nat) {h : am_H} (i : Int32) : am_R d 119 0 [some (.int 5), some (.int i)] [] h (.inl (some (.int (aw_inr 5 i)))) h := by
  refine am_R.ites 5 (P := 2 ≤ i) (T := 61) (F := 57) (lv' := [some (.int 5), some (.int i)]) (st' := []) (h1 := h) rfl (fun b54 => ?_) (fun b54 => ?_)
  · refine am_R.nxs 1 (pc' := 62) (lv' := [some (.int 5), some (.int i)]) (st' := [.int 1]) (h1 := h) rfl ?_
    rw [show aw_inr 5 i = 1 from if_neg (Int32.not_lt.mpr b54)]
    exact am_R.reti rfl rfl rfl
  · refine am_R.nxs 2 (pc' := 62) (lv' := [some (.int 5), some (.int i)]) (st' := [.int 2]) (h1 := h) rfl ?_
    rw [show aw_inr 5 i = 2 from if_pos (Int32.not_le.mp b54)]
    exact am_R.reti rfl rfl rfl
theorem aw_k119_6 (d : Nat) {h : am_H} (i : Int32) : am_R d 119 0 [some (.int 6), some (.int i)] [] h (.inl (some (.int (aw_inr 6 i)))) h := by
  refine am_R.nxs 5 (pc' := 66) (lv' := [some (.int 6), some (.int i)]) (st' := [.int (3 - i)]) (h1 := h) rfl ?_
  exact am_R.reti rfl rfl rfl
theorem aw_k119 (d : Nat) {h : am_H} {n : Nat} (h1 : 1 ≤ n) (h2 : n ≤ 6) (i : Int32) : am_R d 119 0 [some (.int (Int32.ofNat n)), some (.int i)] [] h (.inl (some (.int (aw_inr (Int32.ofNat n) i)))) h := by
  rcases (by omega : n = 1 ∨ n = 2 ∨ n = 3 ∨ n = 4 ∨ n = 5 ∨ n = 6) with q | q | q | q | q | q <;> subst q
  · exact aw_k119_1 d i
  · exact aw_k119_2 d i
  · exact aw_k119_3 d i
  · exact aw_k119_4 d i
  · exact aw_k119_5 d i
  · exact aw_k119_6 d i
theorem aw_k120 (d : Nat) {h : am_H} {ch : Nat} (hc : ch < 3) (k r all x y bw bh : Int32) (hk : ¬ k = 0) (hl : ¬ all = 0) {j : Int32} (hj : aw_sp x bw k 8 0 = some j) : am_R (d + 2) 120 0 [some (.int (Int32.ofNat ch)), some (.int k), some (.int r), some (.int all), some (.int x), some (.int y), some (.int bw), some (.int bh), none, none, none] [] h (.inl (some (.int (if aw_cg ch (x - j * bw / k) (y - r * bh / all) ((j + 1) * bw / k - j * bw / k) ((r + 1) * bh / all - r * bh / all) = true then 1 else 0)))) h := by
  refine am_R.nxs 4 (pc' := 5) (lv' := [some (.int (Int32.ofNat ch)), some (.int k), some (.int r), some (.int all), some (.int x), some (.int y), some (.int bw), some (.int bh), none, none, none]) (st' := [.int all, .int (r * bh)]) (h1 := h) rfl ?_
  refine am_R.idv (pc' := 6) rfl (hl) rfl ?_
  refine am_R.nxs 4 (pc' := 13) (lv' := [some (.int (Int32.ofNat ch)), some (.int k), some (.int r), some (.int all), some (.int x), some (.int y), some (.int bw), some (.int bh), some (.int ((r * bh) / all)), none, none]) (st' := [.int k, .int bw, .int x]) (h1 := h) rfl ?_
  refine am_R.cs (mj := 118) (as := [.int x, .int bw, .int k]) (r := []) (v := some (.int j)) (h1 := h) (pc' := 16) rfl (aw_k118 _ _ _ _ hk hj) rfl ?_
  refine am_R.nxs 5 (pc' := 24) (lv' := [some (.int (Int32.ofNat ch)), some (.int k), some (.int r), some (.int all), some (.int x), some (.int y), some (.int bw), some (.int bh), some (.int ((r * bh) / all)), some (.int j), none]) (st' := [.int k, .int (j * bw)]) (h1 := h) rfl ?_
  refine am_R.idv (pc' := 25) rfl (hk) rfl ?_
  refine am_R.nxs 14 (pc' := 46) (lv' := [some (.int (Int32.ofNat ch)), some (.int k), some (.int r), some (.int all), some (.int x), some (.int y), some (.int bw), some (.int bh), some (.int ((r * bh) / all)), some (.int j), some (.int ((j * bw) / k))]) (st' := [.int k, .int ((j + 1) * bw), .int (y - ((r * bh) / all)), .int (x - ((j * bw) / k)), .int (Int32.ofNat ch)]) (h1 := h) rfl ?_
  refine am_R.idv (pc' := 47) rfl (hk) rfl ?_
  refine am_R.nxs 8 (pc' := 57) (lv' := [some (.int (Int32.ofNat ch)), some (.int k), some (.int r), some (.int all), some (.int x), some (.int y), some (.int bw), some (.int bh), some (.int ((r * bh) / all)), some (.int j), some (.int ((j * bw) / k))]) (st' := [.int all, .int ((r + 1) * bh), .int ((((j + 1) * bw) / k) - ((j * bw) / k)), .int (y - ((r * bh) / all)), .int (x - ((j * bw) / k)), .int (Int32.ofNat ch)]) (h1 := h) rfl ?_
  refine am_R.idv (pc' := 58) rfl (hl) rfl ?_
  refine am_R.nxs 2 (pc' := 61) (lv' := [some (.int (Int32.ofNat ch)), some (.int k), some (.int r), some (.int all), some (.int x), some (.int y), some (.int bw), some (.int bh), some (.int ((r * bh) / all)), some (.int j), some (.int ((j * bw) / k))]) (st' := [.int ((((r + 1) * bh) / all) - ((r * bh) / all)), .int ((((j + 1) * bw) / k) - ((j * bw) / k)), .int (y - ((r * bh) / all)), .int (x - ((j * bw) / k)), .int (Int32.ofNat ch)]) (h1 := h) rfl ?_
  refine am_R.cs (mj := 121) (as := [.int (Int32.ofNat ch), .int (x - ((j * bw) / k)), .int (y - ((r * bh) / all)), .int ((((j + 1) * bw) / k) - ((j * bw) / k)), .int ((((r + 1) * bh) / all) - ((r * bh) / all))]) (r := []) (v := some (.int (if (aw_cg ch (x - ((j * bw) / k)) (y - ((r * bh) / all)) ((((j + 1) * bw) / k) - ((j * bw) / k)) ((((r + 1) * bh) / all) - ((r * bh) / all))) = true then 1 else 0))) (h1 := h) (pc' := 64) rfl (aw_k121 d hc _ _ _ _) rfl ?_
  exact am_R.reti rfl rfl (by split <;> rfl)
def aw_all (n : Int32) : Int32 := if 3 ≤ n then (if 5 ≤ n then 3 else 2) else 1
theorem aw_k117 (d : Nat) {h : am_H} {ch n : Nat} (hc : ch < 3) (h1 : 1 ≤ n) (h2 : n ≤ 6) (x y bw bh : Int32) {r j : Int32} {all : Int32} (ha : all = aw_all (Int32.ofNat n)) (hr : aw_sp y bh all 8 0 = some r) (hl : ¬ all = 0) (hk : ¬ aw_inr (Int32.ofNat n) r = 0) (hj : aw_sp x bw (aw_inr (Int32.ofNat n) r) 8 0 = some j) : am_R (d + 3) 117 0 [some (.int (Int32.ofNat ch)), some (.int (Int32.ofNat n)), some (.int x), some (.int y), some (.int bw), some (.int bh), none, none] [] h (.inl (some (.int (if aw_cg ch (x - j * bw / aw_inr (Int32.ofNat n) r) (y - r * bh / all) ((j + 1) * bw / aw_inr (Int32.ofNat n) r - j * bw / aw_inr (Int32.ofNat n) r) ((r + 1) * bh / all - r * bh / all) = true then 1 else 0)))) h := by
  refine am_R.ites 3 (P := 3 ≤ Int32.ofNat n) (T := 9) (F := 5) (lv' := [some (.int (Int32.ofNat ch)), some (.int (Int32.ofNat n)), some (.int x), some (.int y), some (.int bw), some (.int bh), none, none]) (st' := []) (h1 := h) rfl (fun b2 => ?_) (fun b2 => ?_)
  · refine am_R.ites 3 (P := 5 ≤ Int32.ofNat n) (T := 18) (F := 14) (lv' := [some (.int (Int32.ofNat ch)), some (.int (Int32.ofNat n)), some (.int x), some (.int y), some (.int bw), some (.int bh), none, none]) (st' := []) (h1 := h) rfl (fun b11 => ?_) (fun b11 => ?_)
    · refine am_R.nxs 1 (pc' := 19) (lv' := [some (.int (Int32.ofNat ch)), some (.int (Int32.ofNat n)), some (.int x), some (.int y), some (.int bw), some (.int bh), none, none]) (st' := [.int 3]) (h1 := h) rfl ?_
      have e9 : all = 3 := ha.trans ((if_pos b2).trans (if_pos b11))
      subst e9
      refine am_R.nxs 4 (pc' := 26) (lv' := [some (.int (Int32.ofNat ch)), some (.int (Int32.ofNat n)), some (.int x), some (.int y), some (.int bw), some (.int bh), some (.int 3), none]) (st' := [.int 3, .int bh, .int y]) (h1 := h) rfl ?_
      refine am_R.cs (mj := 118) (as := [.int y, .int bh, .int 3]) (r := []) (v := some (.int r)) (h1 := h) (pc' := 29) rfl (aw_k118 _ _ _ _ hl hr) rfl ?_
      refine am_R.nxs 4 (pc' := 35) (lv' := [some (.int (Int32.ofNat ch)), some (.int (Int32.ofNat n)), some (.int x), some (.int y), some (.int bw), some (.int bh), some (.int 3), some (.int r)]) (st' := [.int r, .int (Int32.ofNat n), .int (Int32.ofNat ch)]) (h1 := h) rfl ?_
      refine am_R.cs (mj := 119) (as := [.int (Int32.ofNat n), .int r]) (r := [.int (Int32.ofNat ch)]) (v := some (.int (aw_inr (Int32.ofNat n) r))) (h1 := h) (pc' := 38) rfl (aw_k119 _ h1 h2 _) rfl ?_
      refine am_R.nxs 6 (pc' := 48) (lv' := [some (.int (Int32.ofNat ch)), some (.int (Int32.ofNat n)), some (.int x), some (.int y), some (.int bw), some (.int bh), some (.int 3), some (.int r)]) (st' := [.int bh, .int bw, .int y, .int x, .int 3, .int r, .int (aw_inr (Int32.ofNat n) r), .int (Int32.ofNat ch)]) (h1 := h) rfl ?_
      refine am_R.cs (mj := 120) (as := [.int (Int32.ofNat ch), .int (aw_inr (Int32.ofNat n) r), .int r, .int 3, .int x, .int y, .int bw, .int bh]) (r := []) (v := some (.int (if aw_cg ch (x - j * bw / aw_inr (Int32.ofNat n) r) (y - r * bh / 3) ((j + 1) * bw / aw_inr (Int32.ofNat n) r - j * bw / aw_inr (Int32.ofNat n) r) ((r + 1) * bh / 3 - r * bh / 3) = true then 1 else 0))) (h1 := h) (pc' := 51) rfl (aw_k120 d hc _ _ _ _ _ _ _ hk hl hj) rfl ?_
      exact am_R.reti rfl rfl (by split <;> rfl)
    · refine am_R.nxs 2 (pc' := 19) (lv' := [some (.int (Int32.ofNat ch)), some (.int (Int32.ofNat n)), some (.int x), some (.int y), some (.int bw), some (.int bh), none, none]) (st' := [.int 2]) (h1 := h) rfl ?_
      have e9 : all = 2 := ha.trans ((if_pos b2).trans (if_neg b11))
      subst e9
      refine am_R.nxs 4 (pc' := 26) (lv' := [some (.int (Int32.ofNat ch)), some (.int (Int32.ofNat n)), some (.int x), some (.int y), some (.int bw), some (.int bh), some (.int 2), none]) (st' := [.int 2, .int bh, .int y]) (h1 := h) rfl ?_
      refine am_R.cs (mj := 118) (as := [.int y, .int bh, .int 2]) (r := []) (v := some (.int r)) (h1 := h) (pc' := 29) rfl (aw_k118 _ _ _ _ hl hr) rfl ?_
      refine am_R.nxs 4 (pc' := 35) (lv' := [some (.int (Int32.ofNat ch)), some (.int (Int32.ofNat n)), some (.int x), some (.int y), some (.int bw), some (.int bh), some (.int 2), some (.int r)]) (st' := [.int r, .int (Int32.ofNat n), .int (Int32.ofNat ch)]) (h1 := h) rfl ?_
      refine am_R.cs (mj := 119) (as := [.int (Int32.ofNat n), .int r]) (r := [.int (Int32.ofNat ch)]) (v := some (.int (aw_inr (Int32.ofNat n) r))) (h1 := h) (pc' := 38) rfl (aw_k119 _ h1 h2 _) rfl ?_
      refine am_R.nxs 6 (pc' := 48) (lv' := [some (.int (Int32.ofNat ch)), some (.int (Int32.ofNat n)), some (.int x), some (.int y), some (.int bw), some (.int bh), some (.int 2), some (.int r)]) (st' := [.int bh, .int bw, .int y, .int x, .int 2, .int r, .int (aw_inr (Int32.ofNat n) r), .int (Int32.ofNat ch)]) (h1 := h) rfl ?_
      refine am_R.cs (mj := 120) (as := [.int (Int32.ofNat ch), .int (aw_inr (Int32.ofNat n) r), .int r, .int 2, .int x, .int y, .int bw, .int bh]) (r := []) (v := some (.int (if aw_cg ch (x - j * bw / aw_inr (Int32.ofNat n) r) (y - r * bh / 2) ((j + 1) * bw / aw_inr (Int32.ofNat n) r - j * bw / aw_inr (Int32.ofNat n) r) ((r + 1) * bh / 2 - r * bh / 2) = true then 1 else 0))) (h1 := h) (pc' := 51) rfl (aw_k120 d hc _ _ _ _ _ _ _ hk hl hj) rfl ?_
      exact am_R.reti rfl rfl (by split <;> rfl)
  · refine am_R.nxs 2 (pc' := 19) (lv' := [some (.int (Int32.ofNat ch)), some (.int (Int32.ofNat n)), some (.int x), some (.int y), some (.int bw), some (.int bh), none, none]) (st' := [.int 1]) (h1 := h) rfl ?_
    have e9 : all = 1 := ha.trans (if_neg b2)
    subst e9
    refine am_R.nxs 4 (pc' := 26) (lv' := [some (.int (Int32.ofNat ch)), some (.int (Int32.ofNat n)), some (.int x), some (.int y), some (.int bw), some (.int bh), some (.int 1), none]) (st' := [.int 1, .int bh, .int y]) (h1 := h) rfl ?_
    refine am_R.cs (mj := 118) (as := [.int y, .int bh, .int 1]) (r := []) (v := some (.int r)) (h1 := h) (pc' := 29) rfl (aw_k118 _ _ _ _ hl hr) rfl ?_
    refine am_R.nxs 4 (pc' := 35) (lv' := [some (.int (Int32.ofNat ch)), some (.int (Int32.ofNat n)), some (.int x), some (.int y), some (.int bw), some (.int bh), some (.int 1), some (.int r)]) (st' := [.int r, .int (Int32.ofNat n), .int (Int32.ofNat ch)]) (h1 := h) rfl ?_
    refine am_R.cs (mj := 119) (as := [.int (Int32.ofNat n), .int r]) (r := [.int (Int32.ofNat ch)]) (v := some (.int (aw_inr (Int32.ofNat n) r))) (h1 := h) (pc' := 38) rfl (aw_k119 _ h1 h2 _) rfl ?_
    refine am_R.nxs 6 (pc' := 48) (lv' := [some (.int (Int32.ofNat ch)), some (.int (Int32.ofNat n)), some (.int x), some (.int y), some (.int bw), some (.int bh), some (.int 1), some (.int r)]) (st' := [.int bh, .int bw, .int y, .int x, .int 1, .int r, .int (aw_inr (Int32.ofNat n) r), .int (Int32.ofNat ch)]) (h1 := h) rfl ?_
    refine am_R.cs (mj := 120) (as := [.int (Int32.ofNat ch), .int (aw_inr (Int32.ofNat n) r), .int r, .int 1, .int x, .int y, .int bw, .int bh]) (r := []) (v := some (.int (if aw_cg ch (x - j * bw / aw_inr (Int32.ofNat n) r) (y - r * bh / 1) ((j + 1) * bw / aw_inr (Int32.ofNat n) r - j * bw / aw_inr (Int32.ofNat n) r) ((r + 1) * bh / 1 - r * bh / 1) = true then 1 else 0))) (h1 := h) (pc' := 51) rfl (aw_k120 d hc _ _ _ _ _ _ _ hk hl hj) rfl ?_
    exact am_R.reti rfl rfl (by split <;> rfl)
