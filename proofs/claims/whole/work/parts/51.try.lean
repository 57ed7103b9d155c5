/-! try -/
theorem am_isEdge (d : Nat) (h : am_H) (p s : Int32) : am_R d 64 0 [some (.int p), some (.int s)] [] h (.inl (some (.int (if p < s / 8 + 1 ∨ s - s / 8 - 1 ≤ p then 1 else 0)))) h := by
  refine am_R.ites 7 (P := p < ((s / 8) + 1)) (T := 22) (F := 10) (lv' := [some (.int p), some (.int s)]) (st' := []) (h1 := h) rfl (fun c1 => ?_) (fun c1 => ?_)
  · refine am_R.nxs 2 (pc' := 27) (lv' := [some (.int p), some (.int s)]) (st' := [.int 1]) (h1 := h) rfl ?_
    exact am_R.retE rfl rfl (by simp_all)
  · refine am_R.ites 9 (P := p < ((s - (s / 8)) - 1)) (T := 26) (F := 22) (lv' := [some (.int p), some (.int s)]) (st' := []) (h1 := h) rfl (fun c2 => ?_) (fun c2 => ?_)
    · refine am_R.nxs 1 (pc' := 27) (lv' := [some (.int p), some (.int s)]) (st' := [.int 0]) (h1 := h) rfl ?_
      exact am_R.retE rfl rfl (by simp_all)
    · refine am_R.nxs 2 (pc' := 27) (lv' := [some (.int p), some (.int s)]) (st' := [.int 1]) (h1 := h) rfl ?_
      exact am_R.retE rfl rfl (by simp_all)

theorem am_isLetter (d : Nat) (h : am_H) (c : Int32) : am_R d 11 0 [some (.int c)] [] h (.inl (some (.int (if 97 ≤ c ∧ c ≤ 122 then 1 else 0)))) h := by
  refine am_R.ites 3 (P := c < 97) (T := 16) (F := 6) (lv' := [some (.int c)]) (st' := []) (h1 := h) rfl (fun c1 => ?_) (fun c1 => ?_)
  · refine am_R.nxs 1 (pc' := 17) (lv' := [some (.int c)]) (st' := [.int 0]) (h1 := h) rfl ?_
    exact am_R.retE rfl rfl (by simp_all)
  · refine am_R.ites 3 (P := 122 < c) (T := 16) (F := 12) (lv' := [some (.int c)]) (st' := []) (h1 := h) rfl (fun c2 => ?_) (fun c2 => ?_)
    · refine am_R.nxs 1 (pc' := 17) (lv' := [some (.int c)]) (st' := [.int 0]) (h1 := h) rfl ?_
      exact am_R.retE rfl rfl (by simp_all)
    · refine am_R.nxs 2 (pc' := 17) (lv' := [some (.int c)]) (st' := [.int 1]) (h1 := h) rfl ?_
      exact am_R.retE rfl rfl (by simp_all)

