/-! take of the reference, and the steps of readAll. -/
set_option maxRecDepth 100000 in
theorem aw_k106_50 {w : Nat → am_C} {g : am_H} (d : Nat) {ft wr wd : Int32} {n sh : Nat} {T : aw_T} (a : Nat) (t : Int32) (ha : a < 40) (hn : n + 5 ≤ 300) : am_R (d + 3) 106 0 [some (.ref 1021), some (.int 50), some (.int (Int32.ofNat a)), some (.int t)] [] (am_h (aw_mt w ft wr wd n sh T) g) (.inl (some (.int (aw_f107 a n T t).1))) (am_h (aw_mt w ft wr wd ((aw_f107 a n T t).2.1) sh ((aw_f107 a n T t).2.2)) g) := by
  refine am_R.nxs 5 (pc' := 67) (lv' := [some (.ref 1021), some (.int 50), some (.int (Int32.ofNat a)), some (.int t)]) (st' := [.int t, .int (Int32.ofNat a), .ref 1021]) (h1 := am_h (aw_mt w ft wr wd n sh T) g) rfl ?_
  refine am_R.cv (a := 1021) (as' := [.int (Int32.ofNat a), .int t]) (r := []) (v := some (.int ((aw_f107 a n T t).1))) (h1 := am_h (aw_mt w ft wr wd ((aw_f107 a n T t).2.1) sh ((aw_f107 a n T t).2.2)) g) (pc' := 70) rfl rfl rfl rfl (am_wf 21 (by decide) (aw_mt21 : (aw_mt w ft wr wd n sh T) 21 = _)) rfl rfl (aw_k107 (w := w) d (n := n) (sh := sh) (T := T) a t ha hn) rfl ?_
  exact am_R.reti rfl rfl rfl
set_option maxRecDepth 100000 in
theorem aw_k106_52 {w : Nat → am_C} {g : am_H} (d : Nat) {ft wr wd : Int32} {n sh : Nat} {T : aw_T} (a : Nat) (t : Int32) (ha : a < 80) (hn : n + 5 ≤ 300) (hs : sh < 40) : am_R (d + 3) 106 0 [some (.ref 1021), some (.int 52), some (.int (Int32.ofNat a)), some (.int t)] [] (am_h (aw_mt w ft wr wd n sh T) g) (.inl (some (.int (aw_f109 a n sh T t).1))) (am_h (aw_mt w ft wr wd ((aw_f109 a n sh T t).2.1) ((aw_f109 a n sh T t).2.2.1) ((aw_f109 a n sh T t).2.2.2)) g) := by
  refine am_R.nxs 5 (pc' := 125) (lv' := [some (.ref 1021), some (.int 52), some (.int (Int32.ofNat a)), some (.int t)]) (st' := [.int t, .int (Int32.ofNat a), .ref 1021]) (h1 := am_h (aw_mt w ft wr wd n sh T) g) rfl ?_
  refine am_R.cv (a := 1021) (as' := [.int (Int32.ofNat a), .int t]) (r := []) (v := some (.int ((aw_f109 a n sh T t).1))) (h1 := am_h (aw_mt w ft wr wd ((aw_f109 a n sh T t).2.1) ((aw_f109 a n sh T t).2.2.1) ((aw_f109 a n sh T t).2.2.2)) g) (pc' := 128) rfl rfl rfl rfl (am_wf 21 (by decide) (aw_mt21 : (aw_mt w ft wr wd n sh T) 21 = _)) rfl rfl (aw_k109 (w := w) d (n := n) (sh := sh) (T := T) a t ha hn hs) rfl ?_
  exact am_R.reti rfl rfl rfl
set_option maxRecDepth 100000 in
theorem aw_k106_53 {w : Nat → am_C} {g : am_H} (d : Nat) {ft wr wd : Int32} {n sh : Nat} {T : aw_T} (a : Nat) (t : Int32) (i : Nat) (ha : a < 40) (hi : T 38 a = Int32.ofNat i) (hi4 : i ≤ 4) (hn : n + 5 ≤ 300) : am_R (d + 3) 106 0 [some (.ref 1021), some (.int 53), some (.int (Int32.ofNat a)), some (.int t)] [] (am_h (aw_mt w ft wr wd n sh T) g) (.inl (some (.int (aw_f110 a i n T t).1))) (am_h (aw_mt w ft wr wd ((aw_f110 a i n T t).2.1) sh ((aw_f110 a i n T t).2.2)) g) := by
  refine am_R.nxs 5 (pc' := 132) (lv' := [some (.ref 1021), some (.int 53), some (.int (Int32.ofNat a)), some (.int t)]) (st' := [.int t, .int (Int32.ofNat a), .ref 1021]) (h1 := am_h (aw_mt w ft wr wd n sh T) g) rfl ?_
  refine am_R.cv (a := 1021) (as' := [.int (Int32.ofNat a), .int t]) (r := []) (v := some (.int ((aw_f110 a i n T t).1))) (h1 := am_h (aw_mt w ft wr wd ((aw_f110 a i n T t).2.1) sh ((aw_f110 a i n T t).2.2)) g) (pc' := 135) rfl rfl rfl rfl (am_wf 21 (by decide) (aw_mt21 : (aw_mt w ft wr wd n sh T) 21 = _)) rfl rfl (aw_k110 (w := w) d (n := n) (sh := sh) (T := T) a i t ha hi hi4 hn) rfl ?_
  exact am_R.reti rfl rfl rfl
set_option maxRecDepth 100000 in
theorem aw_k106_54 {w : Nat → am_C} {g : am_H} (d : Nat) {ft wr wd : Int32} {n sh : Nat} {T : aw_T} (a : Nat) (t : Int32) (ha : a < 160) (hn : n + 5 ≤ 300) : am_R (d + 3) 106 0 [some (.ref 1021), some (.int 54), some (.int (Int32.ofNat a)), some (.int t)] [] (am_h (aw_mt w ft wr wd n sh T) g) (.inl (some (.int (aw_f112 a n T t).1))) (am_h (aw_mt w ft wr wd ((aw_f112 a n T t).2.1) sh ((aw_f112 a n T t).2.2)) g) := by
  refine am_R.nxs 5 (pc' := 139) (lv' := [some (.ref 1021), some (.int 54), some (.int (Int32.ofNat a)), some (.int t)]) (st' := [.int t, .int (Int32.ofNat a), .ref 1021]) (h1 := am_h (aw_mt w ft wr wd n sh T) g) rfl ?_
  refine am_R.cv (a := 1021) (as' := [.int (Int32.ofNat a), .int t]) (r := []) (v := some (.int ((aw_f112 a n T t).1))) (h1 := am_h (aw_mt w ft wr wd ((aw_f112 a n T t).2.1) sh ((aw_f112 a n T t).2.2)) g) (pc' := 142) rfl rfl rfl rfl (am_wf 21 (by decide) (aw_mt21 : (aw_mt w ft wr wd n sh T) 21 = _)) rfl rfl (aw_k112 (w := w) d (n := n) (sh := sh) (T := T) a t ha hn) rfl ?_
  exact am_R.reti rfl rfl rfl
def aw_f51 (a n : Nat) (T : aw_T) (t : Int32) : Int32 × Nat × aw_T := (if t = 10 ∨ t = 11 ∨ t = 12 then 1 else 0, n, aw_up T 35 a (if t = 10 then 1 else if t = 11 then 2 else 3))
set_option maxRecDepth 100000 in
theorem aw_k106_51 {w : Nat → am_C} {g : am_H} (d : Nat) {ft wr wd : Int32} {n sh : Nat} {T : aw_T} (a : Nat) (t : Int32) (ha : a < 40) : am_R (d + 3) 106 0 [some (.ref 1021), some (.int 51), some (.int (Int32.ofNat a)), some (.int t)] [] (am_h (aw_mt w ft wr wd n sh T) g) (.inl (some (.int (aw_f51 a n T t).1))) (am_h (aw_mt w ft wr wd ((aw_f51 a n T t).2.1) sh ((aw_f51 a n T t).2.2)) g) := by
  refine am_R.nxs 3 (pc' := 72) (lv' := [some (.ref 1021), some (.int 51), some (.int (Int32.ofNat a)), some (.int t)]) (st' := [.ref 1021]) (h1 := am_h (aw_mt w ft wr wd n sh T) g) rfl ?_
  refine am_R.gf (pc' := 75) (v := .ref 1035) rfl (am_wf 21 (by decide) (aw_mt21 : (aw_mt w ft wr wd n sh T) 21 = _)) rfl rfl rfl ?_
  refine am_R.ites 4 (P := ¬ t = 10) (T := 86) (F := 82) (lv' := [some (.ref 1021), some (.int 51), some (.int (Int32.ofNat a)), some (.int t)]) (st' := [.int (Int32.ofNat a), .ref 1035]) (h1 := am_h (aw_mt w ft wr wd n sh T) g) rfl (fun b79 => ?_) (fun b79 => ?_)
  · refine am_R.ites 3 (P := ¬ t = 11) (T := 96) (F := 92) (lv' := [some (.ref 1021), some (.int 51), some (.int (Int32.ofNat a)), some (.int t)]) (st' := [.int (Int32.ofNat a), .ref 1035]) (h1 := am_h (aw_mt w ft wr wd n sh T) g) rfl (fun b89 => ?_) (fun b89 => ?_)
    · refine am_R.nxs 1 (pc' := 97) (lv' := [some (.ref 1021), some (.int 51), some (.int (Int32.ofNat a)), some (.int t)]) (st' := [.int 3, .int (Int32.ofNat a), .ref 1035]) (h1 := am_h (aw_mt w ft wr wd n sh T) g) rfl ?_
      refine am_R.sti (i := a) (xs := (aw_lT T 35)) (pc' := 98) rfl (am_wf 35 (by decide) (aw_mtk (by decide) (by decide) : (aw_mt w ft wr wd n sh T) 35 = _)) (aw_lT_b (show a < 40 by omega)) aw_lT_s (am_wsE (k := 35) (w' := (aw_mt w ft wr wd n sh (aw_up T 35 a 3))) (by decide) (by decide) (aw_mt_put (by decide) (by decide))) rfl ?_
      refine am_R.ites 3 (P := t = 10) (T := 116) (F := 104) (lv' := [some (.ref 1021), some (.int 51), some (.int (Int32.ofNat a)), some (.int t)]) (st' := []) (h1 := am_h (aw_mt w ft wr wd n sh (aw_up T 35 a 3)) g) rfl (fun b101 => ?_) (fun b101 => ?_)
      · exact absurd b101 b79
      · refine am_R.ites 3 (P := t = 11) (T := 116) (F := 110) (lv' := [some (.ref 1021), some (.int 51), some (.int (Int32.ofNat a)), some (.int t)]) (st' := []) (h1 := am_h (aw_mt w ft wr wd n sh (aw_up T 35 a 3)) g) rfl (fun b107 => ?_) (fun b107 => ?_)
        · exact absurd b107 b89
        · refine am_R.ites 3 (P := ¬ t = 12) (T := 120) (F := 116) (lv' := [some (.ref 1021), some (.int 51), some (.int (Int32.ofNat a)), some (.int t)]) (st' := []) (h1 := am_h (aw_mt w ft wr wd n sh (aw_up T 35 a 3)) g) rfl (fun b113 => ?_) (fun b113 => ?_)
          · refine am_R.nxs 1 (pc' := 121) (lv' := [some (.ref 1021), some (.int 51), some (.int (Int32.ofNat a)), some (.int t)]) (st' := [.int 0]) (h1 := am_h (aw_mt w ft wr wd n sh (aw_up T 35 a 3)) g) rfl ?_
            rw [show aw_f51 a n T t = (0, n, (aw_up T 35 a 3)) by simp [aw_f51, b79, b89, b101, b107, b113]]
            exact am_R.reti rfl rfl rfl
          · refine am_R.nxs 2 (pc' := 121) (lv' := [some (.ref 1021), some (.int 51), some (.int (Int32.ofNat a)), some (.int t)]) (st' := [.int 1]) (h1 := am_h (aw_mt w ft wr wd n sh (aw_up T 35 a 3)) g) rfl ?_
            rw [show aw_f51 a n T t = (1, n, (aw_up T 35 a 3)) by simp [aw_f51, b79, b89, b101, b107, (Decidable.not_not.mp b113)]]
            exact am_R.reti rfl rfl rfl
    · refine am_R.nxs 2 (pc' := 97) (lv' := [some (.ref 1021), some (.int 51), some (.int (Int32.ofNat a)), some (.int t)]) (st' := [.int 2, .int (Int32.ofNat a), .ref 1035]) (h1 := am_h (aw_mt w ft wr wd n sh T) g) rfl ?_
      refine am_R.sti (i := a) (xs := (aw_lT T 35)) (pc' := 98) rfl (am_wf 35 (by decide) (aw_mtk (by decide) (by decide) : (aw_mt w ft wr wd n sh T) 35 = _)) (aw_lT_b (show a < 40 by omega)) aw_lT_s (am_wsE (k := 35) (w' := (aw_mt w ft wr wd n sh (aw_up T 35 a 2))) (by decide) (by decide) (aw_mt_put (by decide) (by decide))) rfl ?_
      refine am_R.ites 3 (P := t = 10) (T := 116) (F := 104) (lv' := [some (.ref 1021), some (.int 51), some (.int (Int32.ofNat a)), some (.int t)]) (st' := []) (h1 := am_h (aw_mt w ft wr wd n sh (aw_up T 35 a 2)) g) rfl (fun b101 => ?_) (fun b101 => ?_)
      · exact absurd b101 b79
      · refine am_R.ites 3 (P := t = 11) (T := 116) (F := 110) (lv' := [some (.ref 1021), some (.int 51), some (.int (Int32.ofNat a)), some (.int t)]) (st' := []) (h1 := am_h (aw_mt w ft wr wd n sh (aw_up T 35 a 2)) g) rfl (fun b107 => ?_) (fun b107 => ?_)
        · refine am_R.nxs 2 (pc' := 121) (lv' := [some (.ref 1021), some (.int 51), some (.int (Int32.ofNat a)), some (.int t)]) (st' := [.int 1]) (h1 := am_h (aw_mt w ft wr wd n sh (aw_up T 35 a 2)) g) rfl ?_
          rw [show aw_f51 a n T t = (1, n, (aw_up T 35 a 2)) by simp [aw_f51, b79, (Decidable.not_not.mp b89), b101, b107]]
          exact am_R.reti rfl rfl rfl
        · exact absurd (Decidable.not_not.mp b89) b107
  · refine am_R.nxs 2 (pc' := 97) (lv' := [some (.ref 1021), some (.int 51), some (.int (Int32.ofNat a)), some (.int t)]) (st' := [.int 1, .int (Int32.ofNat a), .ref 1035]) (h1 := am_h (aw_mt w ft wr wd n sh T) g) rfl ?_
    refine am_R.sti (i := a) (xs := (aw_lT T 35)) (pc' := 98) rfl (am_wf 35 (by decide) (aw_mtk (by decide) (by decide) : (aw_mt w ft wr wd n sh T) 35 = _)) (aw_lT_b (show a < 40 by omega)) aw_lT_s (am_wsE (k := 35) (w' := (aw_mt w ft wr wd n sh (aw_up T 35 a 1))) (by decide) (by decide) (aw_mt_put (by decide) (by decide))) rfl ?_
    refine am_R.ites 3 (P := t = 10) (T := 116) (F := 104) (lv' := [some (.ref 1021), some (.int 51), some (.int (Int32.ofNat a)), some (.int t)]) (st' := []) (h1 := am_h (aw_mt w ft wr wd n sh (aw_up T 35 a 1)) g) rfl (fun b101 => ?_) (fun b101 => ?_)
    · refine am_R.nxs 2 (pc' := 121) (lv' := [some (.ref 1021), some (.int 51), some (.int (Int32.ofNat a)), some (.int t)]) (st' := [.int 1]) (h1 := am_h (aw_mt w ft wr wd n sh (aw_up T 35 a 1)) g) rfl ?_
      rw [show aw_f51 a n T t = (1, n, (aw_up T 35 a 1)) by simp [aw_f51, (Decidable.not_not.mp b79), b101]]
      exact am_R.reti rfl rfl rfl
    · exact absurd (Decidable.not_not.mp b79) b101
def aw_f55 (a n : Nat) (T : aw_T) (t : Int32) : Int32 × Nat × aw_T := (if ¬ t < 28 ∧ ¬ 30 < t then 1 else 0, n, aw_up T 41 a (t - 28))
set_option maxRecDepth 100000 in
theorem aw_k106_55 {w : Nat → am_C} {g : am_H} (d : Nat) {ft wr wd : Int32} {n sh : Nat} {T : aw_T} (a : Nat) (t : Int32) (ha : a < 160) : am_R (d + 3) 106 0 [some (.ref 1021), some (.int 55), some (.int (Int32.ofNat a)), some (.int t)] [] (am_h (aw_mt w ft wr wd n sh T) g) (.inl (some (.int (aw_f55 a n T t).1))) (am_h (aw_mt w ft wr wd ((aw_f55 a n T t).2.1) sh ((aw_f55 a n T t).2.2)) g) := by
  refine am_R.nxs 3 (pc' := 144) (lv' := [some (.ref 1021), some (.int 55), some (.int (Int32.ofNat a)), some (.int t)]) (st' := [.ref 1021]) (h1 := am_h (aw_mt w ft wr wd n sh T) g) rfl ?_
  refine am_R.gf (pc' := 147) (v := .ref 1041) rfl (am_wf 21 (by decide) (aw_mt21 : (aw_mt w ft wr wd n sh T) 21 = _)) rfl rfl rfl ?_
  refine am_R.nxs 4 (pc' := 152) (lv' := [some (.ref 1021), some (.int 55), some (.int (Int32.ofNat a)), some (.int t)]) (st' := [.int (t - 28), .int (Int32.ofNat a), .ref 1041]) (h1 := am_h (aw_mt w ft wr wd n sh T) g) rfl ?_
  refine am_R.sti (i := a) (xs := (aw_lT T 41)) (pc' := 153) rfl (am_wf 41 (by decide) (aw_mtk (by decide) (by decide) : (aw_mt w ft wr wd n sh T) 41 = _)) (aw_lT_b (show a < 160 by omega)) aw_lT_s (am_wsE (k := 41) (w' := (aw_mt w ft wr wd n sh (aw_up T 41 a (t - 28)))) (by decide) (by decide) (aw_mt_put (by decide) (by decide))) rfl ?_
  refine am_R.ites 3 (P := t < 28) (T := 169) (F := 159) (lv' := [some (.ref 1021), some (.int 55), some (.int (Int32.ofNat a)), some (.int t)]) (st' := []) (h1 := am_h (aw_mt w ft wr wd n sh (aw_up T 41 a (t - 28))) g) rfl (fun b156 => ?_) (fun b156 => ?_)
  · refine am_R.nxs 1 (pc' := 170) (lv' := [some (.ref 1021), some (.int 55), some (.int (Int32.ofNat a)), some (.int t)]) (st' := [.int 0]) (h1 := am_h (aw_mt w ft wr wd n sh (aw_up T 41 a (t - 28))) g) rfl ?_
    rw [show aw_f55 a n T t = (0, n, (aw_up T 41 a (t - 28))) by simp [aw_f55, b156]]
    exact am_R.reti rfl rfl rfl
  · refine am_R.ites 3 (P := 30 < t) (T := 169) (F := 165) (lv' := [some (.ref 1021), some (.int 55), some (.int (Int32.ofNat a)), some (.int t)]) (st' := []) (h1 := am_h (aw_mt w ft wr wd n sh (aw_up T 41 a (t - 28))) g) rfl (fun b162 => ?_) (fun b162 => ?_)
    · refine am_R.nxs 1 (pc' := 170) (lv' := [some (.ref 1021), some (.int 55), some (.int (Int32.ofNat a)), some (.int t)]) (st' := [.int 0]) (h1 := am_h (aw_mt w ft wr wd n sh (aw_up T 41 a (t - 28))) g) rfl ?_
      rw [show aw_f55 a n T t = (0, n, (aw_up T 41 a (t - 28))) by simp [aw_f55, Int32.not_lt.mp b156, b156, b162]]
      exact am_R.reti rfl rfl rfl
    · refine am_R.nxs 2 (pc' := 170) (lv' := [some (.ref 1021), some (.int 55), some (.int (Int32.ofNat a)), some (.int t)]) (st' := [.int 1]) (h1 := am_h (aw_mt w ft wr wd n sh (aw_up T 41 a (t - 28))) g) rfl ?_
      rw [show aw_f55 a n T t = (1, n, (aw_up T 41 a (t - 28))) by simp [aw_f55, Int32.not_lt.mp b156, b156, Int32.not_lt.mp b162, b162]]
      exact am_R.reti rfl rfl rfl
set_option maxRecDepth 100000 in
theorem aw_k106_60 {w : Nat → am_C} {g : am_H} (d : Nat) {ft wr wd : Int32} {n sh : Nat} {T : aw_T} (a : Nat) (t : Int32) (ha : a < 160) : am_R (d + 3) 106 0 [some (.ref 1021), some (.int 60), some (.int (Int32.ofNat a)), some (.int t)] [] (am_h (aw_mt w ft wr wd n sh T) g) (.inl (some (.int (aw_f55 a n T t).1))) (am_h (aw_mt w ft wr wd ((aw_f55 a n T t).2.1) sh ((aw_f55 a n T t).2.2)) g) := by
  refine am_R.nxs 3 (pc' := 144) (lv' := [some (.ref 1021), some (.int 60), some (.int (Int32.ofNat a)), some (.int t)]) (st' := [.ref 1021]) (h1 := am_h (aw_mt w ft wr wd n sh T) g) rfl ?_
  refine am_R.gf (pc' := 147) (v := .ref 1041) rfl (am_wf 21 (by decide) (aw_mt21 : (aw_mt w ft wr wd n sh T) 21 = _)) rfl rfl rfl ?_
  refine am_R.nxs 4 (pc' := 152) (lv' := [some (.ref 1021), some (.int 60), some (.int (Int32.ofNat a)), some (.int t)]) (st' := [.int (t - 28), .int (Int32.ofNat a), .ref 1041]) (h1 := am_h (aw_mt w ft wr wd n sh T) g) rfl ?_
  refine am_R.sti (i := a) (xs := (aw_lT T 41)) (pc' := 153) rfl (am_wf 41 (by decide) (aw_mtk (by decide) (by decide) : (aw_mt w ft wr wd n sh T) 41 = _)) (aw_lT_b (show a < 160 by omega)) aw_lT_s (am_wsE (k := 41) (w' := (aw_mt w ft wr wd n sh (aw_up T 41 a (t - 28)))) (by decide) (by decide) (aw_mt_put (by decide) (by decide))) rfl ?_
  refine am_R.ites 3 (P := t < 28) (T := 169) (F := 159) (lv' := [some (.ref 1021), some (.int 60), some (.int (Int32.ofNat a)), some (.int t)]) (st' := []) (h1 := am_h (aw_mt w ft wr wd n sh (aw_up T 41 a (t - 28))) g) rfl (fun b156 => ?_) (fun b156 => ?_)
  · refine am_R.nxs 1 (pc' := 170) (lv' := [some (.ref 1021), some (.int 60), some (.int (Int32.ofNat a)), some (.int t)]) (st' := [.int 0]) (h1 := am_h (aw_mt w ft wr wd n sh (aw_up T 41 a (t - 28))) g) rfl ?_
    rw [show aw_f55 a n T t = (0, n, (aw_up T 41 a (t - 28))) by simp [aw_f55, b156]]
    exact am_R.reti rfl rfl rfl
  · refine am_R.ites 3 (P := 30 < t) (T := 169) (F := 165) (lv' := [some (.ref 1021), some (.int 60), some (.int (Int32.ofNat a)), some (.int t)]) (st' := []) (h1 := am_h (aw_mt w ft wr wd n sh (aw_up T 41 a (t - 28))) g) rfl (fun b162 => ?_) (fun b162 => ?_)
    · refine am_R.nxs 1 (pc' := 170) (lv' := [some (.ref 1021), some (.int 60), some (.int (Int32.ofNat a)), some (.int t)]) (st' := [.int 0]) (h1 := am_h (aw_mt w ft wr wd n sh (aw_up T 41 a (t - 28))) g) rfl ?_
      rw [show aw_f55 a n T t = (0, n, (aw_up T 41 a (t - 28))) by simp [aw_f55, Int32.not_lt.mp b156, b156, b162]]
      exact am_R.reti rfl rfl rfl
    · refine am_R.nxs 2 (pc' := 170) (lv' := [some (.ref 1021), some (.int 60), some (.int (Int32.ofNat a)), some (.int t)]) (st' := [.int 1]) (h1 := am_h (aw_mt w ft wr wd n sh (aw_up T 41 a (t - 28))) g) rfl ?_
      rw [show aw_f55 a n T t = (1, n, (aw_up T 41 a (t - 28))) by simp [aw_f55, Int32.not_lt.mp b156, b156, Int32.not_lt.mp b162, b162]]
      exact am_R.reti rfl rfl rfl
def aw_f59 (a n : Nat) (T : aw_T) (t : Int32) : Int32 × Nat × aw_T := (if ¬ t < 25 ∧ ¬ 27 < t then 1 else 0, n, aw_up T 41 a (t - 25))
set_option maxRecDepth 100000 in
theorem aw_k106_59 {w : Nat → am_C} {g : am_H} (d : Nat) {ft wr wd : Int32} {n sh : Nat} {T : aw_T} (a : Nat) (t : Int32) (ha : a < 160) : am_R (d + 3) 106 0 [some (.ref 1021), some (.int 59), some (.int (Int32.ofNat a)), some (.int t)] [] (am_h (aw_mt w ft wr wd n sh T) g) (.inl (some (.int (aw_f59 a n T t).1))) (am_h (aw_mt w ft wr wd ((aw_f59 a n T t).2.1) sh ((aw_f59 a n T t).2.2)) g) := by
  refine am_R.nxs 3 (pc' := 172) (lv' := [some (.ref 1021), some (.int 59), some (.int (Int32.ofNat a)), some (.int t)]) (st' := [.ref 1021]) (h1 := am_h (aw_mt w ft wr wd n sh T) g) rfl ?_
  refine am_R.gf (pc' := 175) (v := .ref 1041) rfl (am_wf 21 (by decide) (aw_mt21 : (aw_mt w ft wr wd n sh T) 21 = _)) rfl rfl rfl ?_
  refine am_R.nxs 4 (pc' := 180) (lv' := [some (.ref 1021), some (.int 59), some (.int (Int32.ofNat a)), some (.int t)]) (st' := [.int (t - 25), .int (Int32.ofNat a), .ref 1041]) (h1 := am_h (aw_mt w ft wr wd n sh T) g) rfl ?_
  refine am_R.sti (i := a) (xs := (aw_lT T 41)) (pc' := 181) rfl (am_wf 41 (by decide) (aw_mtk (by decide) (by decide) : (aw_mt w ft wr wd n sh T) 41 = _)) (aw_lT_b (show a < 160 by omega)) aw_lT_s (am_wsE (k := 41) (w' := (aw_mt w ft wr wd n sh (aw_up T 41 a (t - 25)))) (by decide) (by decide) (aw_mt_put (by decide) (by decide))) rfl ?_
  refine am_R.ites 3 (P := t < 25) (T := 197) (F := 187) (lv' := [some (.ref 1021), some (.int 59), some (.int (Int32.ofNat a)), some (.int t)]) (st' := []) (h1 := am_h (aw_mt w ft wr wd n sh (aw_up T 41 a (t - 25))) g) rfl (fun b184 => ?_) (fun b184 => ?_)
  · refine am_R.nxs 1 (pc' := 198) (lv' := [some (.ref 1021), some (.int 59), some (.int (Int32.ofNat a)), some (.int t)]) (st' := [.int 0]) (h1 := am_h (aw_mt w ft wr wd n sh (aw_up T 41 a (t - 25))) g) rfl ?_
    rw [show aw_f59 a n T t = (0, n, (aw_up T 41 a (t - 25))) by simp [aw_f59, b184]]
    exact am_R.reti rfl rfl rfl
  · refine am_R.ites 3 (P := 27 < t) (T := 197) (F := 193) (lv' := [some (.ref 1021), some (.int 59), some (.int (Int32.ofNat a)), some (.int t)]) (st' := []) (h1 := am_h (aw_mt w ft wr wd n sh (aw_up T 41 a (t - 25))) g) rfl (fun b190 => ?_) (fun b190 => ?_)
    · refine am_R.nxs 1 (pc' := 198) (lv' := [some (.ref 1021), some (.int 59), some (.int (Int32.ofNat a)), some (.int t)]) (st' := [.int 0]) (h1 := am_h (aw_mt w ft wr wd n sh (aw_up T 41 a (t - 25))) g) rfl ?_
      rw [show aw_f59 a n T t = (0, n, (aw_up T 41 a (t - 25))) by simp [aw_f59, Int32.not_lt.mp b184, b184, b190]]
      exact am_R.reti rfl rfl rfl
    · refine am_R.nxs 2 (pc' := 198) (lv' := [some (.ref 1021), some (.int 59), some (.int (Int32.ofNat a)), some (.int t)]) (st' := [.int 1]) (h1 := am_h (aw_mt w ft wr wd n sh (aw_up T 41 a (t - 25))) g) rfl ?_
      rw [show aw_f59 a n T t = (1, n, (aw_up T 41 a (t - 25))) by simp [aw_f59, Int32.not_lt.mp b184, b184, Int32.not_lt.mp b190, b190]]
      exact am_R.reti rfl rfl rfl
def aw_f56 (a n : Nat) (T : aw_T) (t : Int32) : Int32 × Nat × aw_T := (if aw_it t = true ∨ (t = 36 ∧ aw_tw (aw_up T 40 a (if t = 36 then 9 else t)) (a / 4) = true) then 1 else 0, n, aw_up T 40 a (if t = 36 then 9 else t))
set_option maxRecDepth 100000 in
theorem aw_k106_56 {w : Nat → am_C} {g : am_H} (d : Nat) {ft wr wd : Int32} {n sh : Nat} {T : aw_T} (a : Nat) (t : Int32) (ha : a < 160) : am_R (d + 3) 106 0 [some (.ref 1021), some (.int 56), some (.int (Int32.ofNat a)), some (.int t)] [] (am_h (aw_mt w ft wr wd n sh T) g) (.inl (some (.int (aw_f56 a n T t).1))) (am_h (aw_mt w ft wr wd ((aw_f56 a n T t).2.1) sh ((aw_f56 a n T t).2.2)) g) := by
  refine am_R.nxs 3 (pc' := 200) (lv' := [some (.ref 1021), some (.int 56), some (.int (Int32.ofNat a)), some (.int t)]) (st' := [.ref 1021]) (h1 := am_h (aw_mt w ft wr wd n sh T) g) rfl ?_
  refine am_R.gf (pc' := 203) (v := .ref 1040) rfl (am_wf 21 (by decide) (aw_mt21 : (aw_mt w ft wr wd n sh T) 21 = _)) rfl rfl rfl ?_
  refine am_R.ites 4 (P := ¬ t = 36) (T := 215) (F := 210) (lv' := [some (.ref 1021), some (.int 56), some (.int (Int32.ofNat a)), some (.int t)]) (st' := [.int (Int32.ofNat a), .ref 1040]) (h1 := am_h (aw_mt w ft wr wd n sh T) g) rfl (fun b207 => ?_) (fun b207 => ?_)
  · refine am_R.nxs 1 (pc' := 216) (lv' := [some (.ref 1021), some (.int 56), some (.int (Int32.ofNat a)), some (.int t)]) (st' := [.int t, .int (Int32.ofNat a), .ref 1040]) (h1 := am_h (aw_mt w ft wr wd n sh T) g) rfl ?_
    refine am_R.sti (i := a) (xs := (aw_lT T 40)) (pc' := 217) rfl (am_wf 40 (by decide) (aw_mtk (by decide) (by decide) : (aw_mt w ft wr wd n sh T) 40 = _)) (aw_lT_b (show a < 160 by omega)) aw_lT_s (am_wsE (k := 40) (w' := (aw_mt w ft wr wd n sh (aw_up T 40 a t))) (by decide) (by decide) (aw_mt_put (by decide) (by decide))) rfl ?_
    refine am_R.nxs 1 (pc' := 218) (lv' := [some (.ref 1021), some (.int 56), some (.int (Int32.ofNat a)), some (.int t)]) (st' := [.int t]) (h1 := am_h (aw_mt w ft wr wd n sh (aw_up T 40 a t)) g) rfl ?_
    refine am_R.cs (mj := 108) (as := [.int t]) (r := []) (v := some (.int (if aw_it t = true then 1 else 0))) (h1 := am_h (aw_mt w ft wr wd n sh (aw_up T 40 a t)) g) (pc' := 221) rfl (aw_k108 _ _ _) rfl ?_
    refine am_R.ites 1 (P := ¬ (if aw_it t = true then 1 else 0) = 0) (T := 240) (F := 224) (lv' := [some (.ref 1021), some (.int 56), some (.int (Int32.ofNat a)), some (.int t)]) (st' := []) (h1 := am_h (aw_mt w ft wr wd n sh (aw_up T 40 a t)) g) rfl (fun b221 => ?_) (fun b221 => ?_)
    · refine am_R.nxs 2 (pc' := 245) (lv' := [some (.ref 1021), some (.int 56), some (.int (Int32.ofNat a)), some (.int t)]) (st' := [.int 1]) (h1 := am_h (aw_mt w ft wr wd n sh (aw_up T 40 a t)) g) rfl ?_
      rw [show aw_f56 a n T t = (1, n, (aw_up T 40 a t)) by simp [aw_f56, aw_01 b221, b207]]
      exact am_R.reti rfl rfl rfl
    · refine am_R.ites 3 (P := ¬ t = 36) (T := 244) (F := 230) (lv' := [some (.ref 1021), some (.int 56), some (.int (Int32.ofNat a)), some (.int t)]) (st' := []) (h1 := am_h (aw_mt w ft wr wd n sh (aw_up T 40 a t)) g) rfl (fun b227 => ?_) (fun b227 => ?_)
      · refine am_R.nxs 1 (pc' := 245) (lv' := [some (.ref 1021), some (.int 56), some (.int (Int32.ofNat a)), some (.int t)]) (st' := [.int 0]) (h1 := am_h (aw_mt w ft wr wd n sh (aw_up T 40 a t)) g) rfl ?_
        rw [show aw_f56 a n T t = (0, n, (aw_up T 40 a t)) by simp [aw_f56, aw_00 (Decidable.not_not.mp b221), b207]]
        exact am_R.reti rfl rfl rfl
      · exact absurd (Decidable.not_not.mp b227) b207
  · refine am_R.nxs 2 (pc' := 216) (lv' := [some (.ref 1021), some (.int 56), some (.int (Int32.ofNat a)), some (.int t)]) (st' := [.int 9, .int (Int32.ofNat a), .ref 1040]) (h1 := am_h (aw_mt w ft wr wd n sh T) g) rfl ?_
    refine am_R.sti (i := a) (xs := (aw_lT T 40)) (pc' := 217) rfl (am_wf 40 (by decide) (aw_mtk (by decide) (by decide) : (aw_mt w ft wr wd n sh T) 40 = _)) (aw_lT_b (show a < 160 by omega)) aw_lT_s (am_wsE (k := 40) (w' := (aw_mt w ft wr wd n sh (aw_up T 40 a 9))) (by decide) (by decide) (aw_mt_put (by decide) (by decide))) rfl ?_
    refine am_R.nxs 1 (pc' := 218) (lv' := [some (.ref 1021), some (.int 56), some (.int (Int32.ofNat a)), some (.int t)]) (st' := [.int t]) (h1 := am_h (aw_mt w ft wr wd n sh (aw_up T 40 a 9)) g) rfl ?_
    refine am_R.cs (mj := 108) (as := [.int t]) (r := []) (v := some (.int (if aw_it t = true then 1 else 0))) (h1 := am_h (aw_mt w ft wr wd n sh (aw_up T 40 a 9)) g) (pc' := 221) rfl (aw_k108 _ _ _) rfl ?_
    refine am_R.ites 1 (P := ¬ (if aw_it t = true then 1 else 0) = 0) (T := 240) (F := 224) (lv' := [some (.ref 1021), some (.int 56), some (.int (Int32.ofNat a)), some (.int t)]) (st' := []) (h1 := am_h (aw_mt w ft wr wd n sh (aw_up T 40 a 9)) g) rfl (fun b221 => ?_) (fun b221 => ?_)
    · refine am_R.nxs 2 (pc' := 245) (lv' := [some (.ref 1021), some (.int 56), some (.int (Int32.ofNat a)), some (.int t)]) (st' := [.int 1]) (h1 := am_h (aw_mt w ft wr wd n sh (aw_up T 40 a 9)) g) rfl ?_
      exact absurd (aw_01 b221) (by rw [Decidable.not_not.mp b207]; decide)
    · refine am_R.ites 3 (P := ¬ t = 36) (T := 244) (F := 230) (lv' := [some (.ref 1021), some (.int 56), some (.int (Int32.ofNat a)), some (.int t)]) (st' := []) (h1 := am_h (aw_mt w ft wr wd n sh (aw_up T 40 a 9)) g) rfl (fun b227 => ?_) (fun b227 => ?_)
      · exact absurd (Decidable.not_not.mp b207) b227
      · refine am_R.nxs 4 (pc' := 234) (lv' := [some (.ref 1021), some (.int 56), some (.int (Int32.ofNat a)), some (.int t)]) (st' := [.int (Int32.ofNat a / 4), .ref 1021]) (h1 := am_h (aw_mt w ft wr wd n sh (aw_up T 40 a 9)) g) rfl ?_
        rw [show (Int32.ofNat a / 4 : Int32) = Int32.ofNat (a / 4) from aw_d4 a (by omega)]
        refine am_R.cv (a := 1021) (as' := [.int (Int32.ofNat (a / 4))]) (r := []) (v := some (.int (if aw_tw (aw_up T 40 a 9) (a / 4) = true then 1 else 0))) (h1 := am_h (aw_mt w ft wr wd n sh (aw_up T 40 a 9)) g) (pc' := 237) rfl rfl rfl rfl (am_wf 21 (by decide) (aw_mt21 : (aw_mt w ft wr wd n sh (aw_up T 40 a 9)) 21 = _)) rfl rfl (aw_k113 (w := w) _ (n := n) (sh := sh) (T := (aw_up T 40 a 9)) (a / 4) (by omega)) rfl ?_
        refine am_R.ites 1 (P := (if aw_tw (aw_up T 40 a 9) (a / 4) = true then 1 else 0) = 0) (T := 244) (F := 240) (lv' := [some (.ref 1021), some (.int 56), some (.int (Int32.ofNat a)), some (.int t)]) (st' := []) (h1 := am_h (aw_mt w ft wr wd n sh (aw_up T 40 a 9)) g) rfl (fun b237 => ?_) (fun b237 => ?_)
        · refine am_R.nxs 1 (pc' := 245) (lv' := [some (.ref 1021), some (.int 56), some (.int (Int32.ofNat a)), some (.int t)]) (st' := [.int 0]) (h1 := am_h (aw_mt w ft wr wd n sh (aw_up T 40 a 9)) g) rfl ?_
          have e6 : t = 36 := Decidable.not_not.mp b207
          rw [show aw_f56 a n T t = (0, n, (aw_up T 40 a 9)) by subst e6; simp [aw_f56, aw_00 (Decidable.not_not.mp b221), aw_00 b237]]
          exact am_R.reti rfl rfl rfl
        · refine am_R.nxs 2 (pc' := 245) (lv' := [some (.ref 1021), some (.int 56), some (.int (Int32.ofNat a)), some (.int t)]) (st' := [.int 1]) (h1 := am_h (aw_mt w ft wr wd n sh (aw_up T 40 a 9)) g) rfl ?_
          have e6 : t = 36 := Decidable.not_not.mp b207
          rw [show aw_f56 a n T t = (1, n, (aw_up T 40 a 9)) by subst e6; simp [aw_f56, aw_00 (Decidable.not_not.mp b221), aw_01 b237]]
          exact am_R.reti rfl rfl rfl
def aw_f61 (a n : Nat) (T : aw_T) (t : Int32) : Int32 × Nat × aw_T := (if aw_it t = true then 1 else 0, n, aw_up T 43 a t)
set_option maxRecDepth 100000 in
theorem aw_k106_61 {w : Nat → am_C} {g : am_H} (d : Nat) {ft wr wd : Int32} {n sh : Nat} {T : aw_T} (a : Nat) (t : Int32) (ha : a < 160) : am_R (d + 3) 106 0 [some (.ref 1021), some (.int 61), some (.int (Int32.ofNat a)), some (.int t)] [] (am_h (aw_mt w ft wr wd n sh T) g) (.inl (some (.int (aw_f61 a n T t).1))) (am_h (aw_mt w ft wr wd ((aw_f61 a n T t).2.1) sh ((aw_f61 a n T t).2.2)) g) := by
  refine am_R.nxs 3 (pc' := 247) (lv' := [some (.ref 1021), some (.int 61), some (.int (Int32.ofNat a)), some (.int t)]) (st' := [.ref 1021]) (h1 := am_h (aw_mt w ft wr wd n sh T) g) rfl ?_
  refine am_R.gf (pc' := 250) (v := .ref 1043) rfl (am_wf 21 (by decide) (aw_mt21 : (aw_mt w ft wr wd n sh T) 21 = _)) rfl rfl rfl ?_
  refine am_R.nxs 2 (pc' := 252) (lv' := [some (.ref 1021), some (.int 61), some (.int (Int32.ofNat a)), some (.int t)]) (st' := [.int t, .int (Int32.ofNat a), .ref 1043]) (h1 := am_h (aw_mt w ft wr wd n sh T) g) rfl ?_
  refine am_R.sti (i := a) (xs := (aw_lT T 43)) (pc' := 253) rfl (am_wf 43 (by decide) (aw_mtk (by decide) (by decide) : (aw_mt w ft wr wd n sh T) 43 = _)) (aw_lT_b (show a < 160 by omega)) aw_lT_s (am_wsE (k := 43) (w' := (aw_mt w ft wr wd n sh (aw_up T 43 a t))) (by decide) (by decide) (aw_mt_put (by decide) (by decide))) rfl ?_
  refine am_R.nxs 1 (pc' := 254) (lv' := [some (.ref 1021), some (.int 61), some (.int (Int32.ofNat a)), some (.int t)]) (st' := [.int t]) (h1 := am_h (aw_mt w ft wr wd n sh (aw_up T 43 a t)) g) rfl ?_
  refine am_R.cs (mj := 108) (as := [.int t]) (r := []) (v := some (.int (if aw_it t = true then 1 else 0))) (h1 := am_h (aw_mt w ft wr wd n sh (aw_up T 43 a t)) g) (pc' := 257) rfl (aw_k108 _ _ _) rfl ?_
  refine am_R.ites 1 (P := (if aw_it t = true then 1 else 0) = 0) (T := 264) (F := 260) (lv' := [some (.ref 1021), some (.int 61), some (.int (Int32.ofNat a)), some (.int t)]) (st' := []) (h1 := am_h (aw_mt w ft wr wd n sh (aw_up T 43 a t)) g) rfl (fun b257 => ?_) (fun b257 => ?_)
  · refine am_R.nxs 1 (pc' := 265) (lv' := [some (.ref 1021), some (.int 61), some (.int (Int32.ofNat a)), some (.int t)]) (st' := [.int 0]) (h1 := am_h (aw_mt w ft wr wd n sh (aw_up T 43 a t)) g) rfl ?_
    rw [show aw_f61 a n T t = (0, n, (aw_up T 43 a t)) by simp [aw_f61, aw_00 b257]]
    exact am_R.reti rfl rfl rfl
  · refine am_R.nxs 2 (pc' := 265) (lv' := [some (.ref 1021), some (.int 61), some (.int (Int32.ofNat a)), some (.int t)]) (st' := [.int 1]) (h1 := am_h (aw_mt w ft wr wd n sh (aw_up T 43 a t)) g) rfl ?_
    rw [show aw_f61 a n T t = (1, n, (aw_up T 43 a t)) by simp [aw_f61, aw_01 b257]]
    exact am_R.reti rfl rfl rfl
def aw_f57 (a n : Nat) (T : aw_T) (t : Int32) : Int32 × Nat × aw_T := if t = 23 then (1, n + 1 + 1, (aw_ph (aw_ph T n 58 (Int32.ofNat a)) (n + 1) 24 0)) else (2, n, T)
set_option maxRecDepth 100000 in
theorem aw_k106_57 {w : Nat → am_C} {g : am_H} (d : Nat) {ft wr wd : Int32} {n sh : Nat} {T : aw_T} (a : Nat) (t : Int32) (hn : n + 5 ≤ 300) : am_R (d + 3) 106 0 [some (.ref 1021), some (.int 57), some (.int (Int32.ofNat a)), some (.int t)] [] (am_h (aw_mt w ft wr wd n sh T) g) (.inl (some (.int (aw_f57 a n T t).1))) (am_h (aw_mt w ft wr wd ((aw_f57 a n T t).2.1) sh ((aw_f57 a n T t).2.2)) g) := by
  refine am_R.ites 5 (P := t = 23) (T := 274) (F := 272) (lv' := [some (.ref 1021), some (.int 57), some (.int (Int32.ofNat a)), some (.int t)]) (st' := []) (h1 := am_h (aw_mt w ft wr wd n sh T) g) rfl (fun b269 => ?_) (fun b269 => ?_)
  · refine am_R.nxs 3 (pc' := 278) (lv' := [some (.ref 1021), some (.int 57), some (.int (Int32.ofNat a)), some (.int t)]) (st' := [.int (Int32.ofNat a), .int 58, .ref 1021]) (h1 := am_h (aw_mt w ft wr wd n sh T) g) rfl ?_
    refine am_R.cv (a := 1021) (as' := [.int 58, .int (Int32.ofNat a)]) (r := []) (v := none) (h1 := am_h (aw_mt w ft wr wd (n + 1) sh (aw_ph T n 58 (Int32.ofNat a))) g) (pc' := 281) rfl rfl rfl rfl (am_wf 21 (by decide) (aw_mt21 : (aw_mt w ft wr wd n sh T) 21 = _)) rfl rfl (aw_k105 (w := w) _ (n := n) (T := T) 58 (Int32.ofNat a) (by omega)) rfl ?_
    refine am_R.nxs 3 (pc' := 285) (lv' := [some (.ref 1021), some (.int 57), some (.int (Int32.ofNat a)), some (.int t)]) (st' := [.int 0, .int 24, .ref 1021]) (h1 := am_h (aw_mt w ft wr wd (n + 1) sh (aw_ph T n 58 (Int32.ofNat a))) g) rfl ?_
    refine am_R.cv (a := 1021) (as' := [.int 24, .int 0]) (r := []) (v := none) (h1 := am_h (aw_mt w ft wr wd ((n + 1) + 1) sh (aw_ph (aw_ph T n 58 (Int32.ofNat a)) (n + 1) 24 0)) g) (pc' := 288) rfl rfl rfl rfl (am_wf 21 (by decide) (aw_mt21 : (aw_mt w ft wr wd (n + 1) sh (aw_ph T n 58 (Int32.ofNat a))) 21 = _)) rfl rfl (aw_k105 (w := w) _ (n := (n + 1)) (T := (aw_ph T n 58 (Int32.ofNat a))) 24 0 (by omega)) rfl ?_
    refine am_R.nxs 1 (pc' := 289) (lv' := [some (.ref 1021), some (.int 57), some (.int (Int32.ofNat a)), some (.int t)]) (st' := [.int 1]) (h1 := am_h (aw_mt w ft wr wd ((n + 1) + 1) sh (aw_ph (aw_ph T n 58 (Int32.ofNat a)) (n + 1) 24 0)) g) rfl ?_
    rw [show aw_f57 a n T t = (1, ((n + 1) + 1), (aw_ph (aw_ph T n 58 (Int32.ofNat a)) (n + 1) 24 0)) from if_pos b269]
    exact am_R.reti rfl rfl rfl
  · refine am_R.nxs 1 (pc' := 273) (lv' := [some (.ref 1021), some (.int 57), some (.int (Int32.ofNat a)), some (.int t)]) (st' := [.int 2]) (h1 := am_h (aw_mt w ft wr wd n sh T) g) rfl ?_
    rw [show aw_f57 a n T t = (2, n, T) from if_neg b269]
    exact am_R.reti rfl rfl rfl
def aw_f58 (a n : Nat) (T : aw_T) (t : Int32) : Int32 × Nat × aw_T := if t = 17 then (1, n + 1 + 1, (aw_ph (aw_ph (aw_up T 42 a 1) n 61 (Int32.ofNat a)) (n + 1) 59 (Int32.ofNat a))) else (if aw_in t = true then 1 else 0, n + 1 + 1, (aw_ph (aw_ph (aw_up T 42 a (t - 31 + 2)) n 61 (Int32.ofNat a)) (n + 1) 60 (Int32.ofNat a)))
set_option maxRecDepth 100000 in
theorem aw_k106_58 {w : Nat → am_C} {g : am_H} (d : Nat) {ft wr wd : Int32} {n sh : Nat} {T : aw_T} (a : Nat) (t : Int32) (ha : a < 160) (hn : n + 5 ≤ 300) : am_R (d + 3) 106 0 [some (.ref 1021), some (.int 58), some (.int (Int32.ofNat a)), some (.int t)] [] (am_h (aw_mt w ft wr wd n sh T) g) (.inl (some (.int (aw_f58 a n T t).1))) (am_h (aw_mt w ft wr wd ((aw_f58 a n T t).2.1) sh ((aw_f58 a n T t).2.2)) g) := by
  refine am_R.nxs 3 (pc' := 291) (lv' := [some (.ref 1021), some (.int 58), some (.int (Int32.ofNat a)), some (.int t)]) (st' := [.ref 1021]) (h1 := am_h (aw_mt w ft wr wd n sh T) g) rfl ?_
  refine am_R.gf (pc' := 294) (v := .ref 1042) rfl (am_wf 21 (by decide) (aw_mt21 : (aw_mt w ft wr wd n sh T) 21 = _)) rfl rfl rfl ?_
  refine am_R.ites 4 (P := ¬ t = 17) (T := 305) (F := 301) (lv' := [some (.ref 1021), some (.int 58), some (.int (Int32.ofNat a)), some (.int t)]) (st' := [.int (Int32.ofNat a), .ref 1042]) (h1 := am_h (aw_mt w ft wr wd n sh T) g) rfl (fun b298 => ?_) (fun b298 => ?_)
  · refine am_R.nxs 5 (pc' := 311) (lv' := [some (.ref 1021), some (.int 58), some (.int (Int32.ofNat a)), some (.int t)]) (st' := [.int ((t - 31) + 2), .int (Int32.ofNat a), .ref 1042]) (h1 := am_h (aw_mt w ft wr wd n sh T) g) rfl ?_
    refine am_R.sti (i := a) (xs := (aw_lT T 42)) (pc' := 312) rfl (am_wf 42 (by decide) (aw_mtk (by decide) (by decide) : (aw_mt w ft wr wd n sh T) 42 = _)) (aw_lT_b (show a < 160 by omega)) aw_lT_s (am_wsE (k := 42) (w' := (aw_mt w ft wr wd n sh (aw_up T 42 a ((t - 31) + 2)))) (by decide) (by decide) (aw_mt_put (by decide) (by decide))) rfl ?_
    refine am_R.nxs 3 (pc' := 316) (lv' := [some (.ref 1021), some (.int 58), some (.int (Int32.ofNat a)), some (.int t)]) (st' := [.int (Int32.ofNat a), .int 61, .ref 1021]) (h1 := am_h (aw_mt w ft wr wd n sh (aw_up T 42 a ((t - 31) + 2))) g) rfl ?_
    refine am_R.cv (a := 1021) (as' := [.int 61, .int (Int32.ofNat a)]) (r := []) (v := none) (h1 := am_h (aw_mt w ft wr wd (n + 1) sh (aw_ph (aw_up T 42 a ((t - 31) + 2)) n 61 (Int32.ofNat a))) g) (pc' := 319) rfl rfl rfl rfl (am_wf 21 (by decide) (aw_mt21 : (aw_mt w ft wr wd n sh (aw_up T 42 a ((t - 31) + 2))) 21 = _)) rfl rfl (aw_k105 (w := w) _ (n := n) (T := (aw_up T 42 a ((t - 31) + 2))) 61 (Int32.ofNat a) (by omega)) rfl ?_
    refine am_R.ites 4 (P := ¬ t = 17) (T := 331) (F := 326) (lv' := [some (.ref 1021), some (.int 58), some (.int (Int32.ofNat a)), some (.int t)]) (st' := [.ref 1021]) (h1 := am_h (aw_mt w ft wr wd (n + 1) sh (aw_ph (aw_up T 42 a ((t - 31) + 2)) n 61 (Int32.ofNat a))) g) rfl (fun b323 => ?_) (fun b323 => ?_)
    · refine am_R.nxs 2 (pc' := 334) (lv' := [some (.ref 1021), some (.int 58), some (.int (Int32.ofNat a)), some (.int t)]) (st' := [.int (Int32.ofNat a), .int 60, .ref 1021]) (h1 := am_h (aw_mt w ft wr wd (n + 1) sh (aw_ph (aw_up T 42 a ((t - 31) + 2)) n 61 (Int32.ofNat a))) g) rfl ?_
      refine am_R.cv (a := 1021) (as' := [.int 60, .int (Int32.ofNat a)]) (r := []) (v := none) (h1 := am_h (aw_mt w ft wr wd ((n + 1) + 1) sh (aw_ph (aw_ph (aw_up T 42 a ((t - 31) + 2)) n 61 (Int32.ofNat a)) (n + 1) 60 (Int32.ofNat a))) g) (pc' := 337) rfl rfl rfl rfl (am_wf 21 (by decide) (aw_mt21 : (aw_mt w ft wr wd (n + 1) sh (aw_ph (aw_up T 42 a ((t - 31) + 2)) n 61 (Int32.ofNat a))) 21 = _)) rfl rfl (aw_k105 (w := w) _ (n := (n + 1)) (T := (aw_ph (aw_up T 42 a ((t - 31) + 2)) n 61 (Int32.ofNat a))) 60 (Int32.ofNat a) (by omega)) rfl ?_
      refine am_R.ites 3 (P := t = 17) (T := 350) (F := 343) (lv' := [some (.ref 1021), some (.int 58), some (.int (Int32.ofNat a)), some (.int t)]) (st' := []) (h1 := am_h (aw_mt w ft wr wd ((n + 1) + 1) sh (aw_ph (aw_ph (aw_up T 42 a ((t - 31) + 2)) n 61 (Int32.ofNat a)) (n + 1) 60 (Int32.ofNat a))) g) rfl (fun b340 => ?_) (fun b340 => ?_)
      · exact absurd b340 b298
      · refine am_R.nxs 1 (pc' := 344) (lv' := [some (.ref 1021), some (.int 58), some (.int (Int32.ofNat a)), some (.int t)]) (st' := [.int t]) (h1 := am_h (aw_mt w ft wr wd ((n + 1) + 1) sh (aw_ph (aw_ph (aw_up T 42 a ((t - 31) + 2)) n 61 (Int32.ofNat a)) (n + 1) 60 (Int32.ofNat a))) g) rfl ?_
        refine am_R.cs (mj := 111) (as := [.int t]) (r := []) (v := some (.int (if aw_in t = true then 1 else 0))) (h1 := am_h (aw_mt w ft wr wd ((n + 1) + 1) sh (aw_ph (aw_ph (aw_up T 42 a ((t - 31) + 2)) n 61 (Int32.ofNat a)) (n + 1) 60 (Int32.ofNat a))) g) (pc' := 347) rfl (aw_k111 _ _ _) rfl ?_
        refine am_R.ites 1 (P := (if aw_in t = true then 1 else 0) = 0) (T := 354) (F := 350) (lv' := [some (.ref 1021), some (.int 58), some (.int (Int32.ofNat a)), some (.int t)]) (st' := []) (h1 := am_h (aw_mt w ft wr wd ((n + 1) + 1) sh (aw_ph (aw_ph (aw_up T 42 a ((t - 31) + 2)) n 61 (Int32.ofNat a)) (n + 1) 60 (Int32.ofNat a))) g) rfl (fun b347 => ?_) (fun b347 => ?_)
        · refine am_R.nxs 1 (pc' := 355) (lv' := [some (.ref 1021), some (.int 58), some (.int (Int32.ofNat a)), some (.int t)]) (st' := [.int 0]) (h1 := am_h (aw_mt w ft wr wd ((n + 1) + 1) sh (aw_ph (aw_ph (aw_up T 42 a ((t - 31) + 2)) n 61 (Int32.ofNat a)) (n + 1) 60 (Int32.ofNat a))) g) rfl ?_
          rw [show aw_f58 a n T t = (0, ((n + 1) + 1), (aw_ph (aw_ph (aw_up T 42 a ((t - 31) + 2)) n 61 (Int32.ofNat a)) (n + 1) 60 (Int32.ofNat a))) from (if_neg b298).trans (by rw [aw_00 b347]; rfl)]
          exact am_R.reti rfl rfl rfl
        · refine am_R.nxs 2 (pc' := 355) (lv' := [some (.ref 1021), some (.int 58), some (.int (Int32.ofNat a)), some (.int t)]) (st' := [.int 1]) (h1 := am_h (aw_mt w ft wr wd ((n + 1) + 1) sh (aw_ph (aw_ph (aw_up T 42 a ((t - 31) + 2)) n 61 (Int32.ofNat a)) (n + 1) 60 (Int32.ofNat a))) g) rfl ?_
          rw [show aw_f58 a n T t = (1, ((n + 1) + 1), (aw_ph (aw_ph (aw_up T 42 a ((t - 31) + 2)) n 61 (Int32.ofNat a)) (n + 1) 60 (Int32.ofNat a))) from (if_neg b298).trans (by rw [aw_01 b347]; rfl)]
          exact am_R.reti rfl rfl rfl
    · exact absurd (Decidable.not_not.mp b323) b298
  · refine am_R.nxs 2 (pc' := 311) (lv' := [some (.ref 1021), some (.int 58), some (.int (Int32.ofNat a)), some (.int t)]) (st' := [.int 1, .int (Int32.ofNat a), .ref 1042]) (h1 := am_h (aw_mt w ft wr wd n sh T) g) rfl ?_
    refine am_R.sti (i := a) (xs := (aw_lT T 42)) (pc' := 312) rfl (am_wf 42 (by decide) (aw_mtk (by decide) (by decide) : (aw_mt w ft wr wd n sh T) 42 = _)) (aw_lT_b (show a < 160 by omega)) aw_lT_s (am_wsE (k := 42) (w' := (aw_mt w ft wr wd n sh (aw_up T 42 a 1))) (by decide) (by decide) (aw_mt_put (by decide) (by decide))) rfl ?_
    refine am_R.nxs 3 (pc' := 316) (lv' := [some (.ref 1021), some (.int 58), some (.int (Int32.ofNat a)), some (.int t)]) (st' := [.int (Int32.ofNat a), .int 61, .ref 1021]) (h1 := am_h (aw_mt w ft wr wd n sh (aw_up T 42 a 1)) g) rfl ?_
    refine am_R.cv (a := 1021) (as' := [.int 61, .int (Int32.ofNat a)]) (r := []) (v := none) (h1 := am_h (aw_mt w ft wr wd (n + 1) sh (aw_ph (aw_up T 42 a 1) n 61 (Int32.ofNat a))) g) (pc' := 319) rfl rfl rfl rfl (am_wf 21 (by decide) (aw_mt21 : (aw_mt w ft wr wd n sh (aw_up T 42 a 1)) 21 = _)) rfl rfl (aw_k105 (w := w) _ (n := n) (T := (aw_up T 42 a 1)) 61 (Int32.ofNat a) (by omega)) rfl ?_
    refine am_R.ites 4 (P := ¬ t = 17) (T := 331) (F := 326) (lv' := [some (.ref 1021), some (.int 58), some (.int (Int32.ofNat a)), some (.int t)]) (st' := [.ref 1021]) (h1 := am_h (aw_mt w ft wr wd (n + 1) sh (aw_ph (aw_up T 42 a 1) n 61 (Int32.ofNat a))) g) rfl (fun b323 => ?_) (fun b323 => ?_)
    · exact absurd (Decidable.not_not.mp b298) b323
    · refine am_R.nxs 3 (pc' := 334) (lv' := [some (.ref 1021), some (.int 58), some (.int (Int32.ofNat a)), some (.int t)]) (st' := [.int (Int32.ofNat a), .int 59, .ref 1021]) (h1 := am_h (aw_mt w ft wr wd (n + 1) sh (aw_ph (aw_up T 42 a 1) n 61 (Int32.ofNat a))) g) rfl ?_
      refine am_R.cv (a := 1021) (as' := [.int 59, .int (Int32.ofNat a)]) (r := []) (v := none) (h1 := am_h (aw_mt w ft wr wd ((n + 1) + 1) sh (aw_ph (aw_ph (aw_up T 42 a 1) n 61 (Int32.ofNat a)) (n + 1) 59 (Int32.ofNat a))) g) (pc' := 337) rfl rfl rfl rfl (am_wf 21 (by decide) (aw_mt21 : (aw_mt w ft wr wd (n + 1) sh (aw_ph (aw_up T 42 a 1) n 61 (Int32.ofNat a))) 21 = _)) rfl rfl (aw_k105 (w := w) _ (n := (n + 1)) (T := (aw_ph (aw_up T 42 a 1) n 61 (Int32.ofNat a))) 59 (Int32.ofNat a) (by omega)) rfl ?_
      refine am_R.ites 3 (P := t = 17) (T := 350) (F := 343) (lv' := [some (.ref 1021), some (.int 58), some (.int (Int32.ofNat a)), some (.int t)]) (st' := []) (h1 := am_h (aw_mt w ft wr wd ((n + 1) + 1) sh (aw_ph (aw_ph (aw_up T 42 a 1) n 61 (Int32.ofNat a)) (n + 1) 59 (Int32.ofNat a))) g) rfl (fun b340 => ?_) (fun b340 => ?_)
      · refine am_R.nxs 2 (pc' := 355) (lv' := [some (.ref 1021), some (.int 58), some (.int (Int32.ofNat a)), some (.int t)]) (st' := [.int 1]) (h1 := am_h (aw_mt w ft wr wd ((n + 1) + 1) sh (aw_ph (aw_ph (aw_up T 42 a 1) n 61 (Int32.ofNat a)) (n + 1) 59 (Int32.ofNat a))) g) rfl ?_
        rw [show aw_f58 a n T t = (1, ((n + 1) + 1), (aw_ph (aw_ph (aw_up T 42 a 1) n 61 (Int32.ofNat a)) (n + 1) 59 (Int32.ofNat a))) from if_pos (Decidable.not_not.mp b298)]
        exact am_R.reti rfl rfl rfl
      · exact absurd (Decidable.not_not.mp b298) b340
def aw_fe (e : Int32) (n : Nat) (T : aw_T) (t : Int32) : Int32 × Nat × aw_T := (if t = e then 1 else 0, n, T)
set_option maxRecDepth 100000 in
theorem aw_k106_14 {w : Nat → am_C} {g : am_H} (d : Nat) {ft wr wd : Int32} {n sh : Nat} {T : aw_T} (a : Nat) (t : Int32) : am_R (d + 3) 106 0 [some (.ref 1021), some (.int 14), some (.int (Int32.ofNat a)), some (.int t)] [] (am_h (aw_mt w ft wr wd n sh T) g) (.inl (some (.int (aw_fe 14 n T t).1))) (am_h (aw_mt w ft wr wd ((aw_fe 14 n T t).2.1) sh ((aw_fe 14 n T t).2.2)) g) := by
  refine am_R.ites 5 (P := ¬ t = 14) (T := 365) (F := 361) (lv' := [some (.ref 1021), some (.int 14), some (.int (Int32.ofNat a)), some (.int t)]) (st' := []) (h1 := am_h (aw_mt w ft wr wd n sh T) g) rfl (fun b358 => ?_) (fun b358 => ?_)
  · refine am_R.nxs 1 (pc' := 366) (lv' := [some (.ref 1021), some (.int 14), some (.int (Int32.ofNat a)), some (.int t)]) (st' := [.int 0]) (h1 := am_h (aw_mt w ft wr wd n sh T) g) rfl ?_
    rw [show aw_fe 14 n T t = (0, n, T) by simp [aw_fe, b358]]
    exact am_R.reti rfl rfl rfl
  · refine am_R.nxs 2 (pc' := 366) (lv' := [some (.ref 1021), some (.int 14), some (.int (Int32.ofNat a)), some (.int t)]) (st' := [.int 1]) (h1 := am_h (aw_mt w ft wr wd n sh T) g) rfl ?_
    rw [show aw_fe 14 n T t = (1, n, T) by simp [aw_fe, (Decidable.not_not.mp b358)]]
    exact am_R.reti rfl rfl rfl
set_option maxRecDepth 100000 in
theorem aw_k106_16 {w : Nat → am_C} {g : am_H} (d : Nat) {ft wr wd : Int32} {n sh : Nat} {T : aw_T} (a : Nat) (t : Int32) : am_R (d + 3) 106 0 [some (.ref 1021), some (.int 16), some (.int (Int32.ofNat a)), some (.int t)] [] (am_h (aw_mt w ft wr wd n sh T) g) (.inl (some (.int (aw_fe 16 n T t).1))) (am_h (aw_mt w ft wr wd ((aw_fe 16 n T t).2.1) sh ((aw_fe 16 n T t).2.2)) g) := by
  refine am_R.ites 5 (P := ¬ t = 16) (T := 365) (F := 361) (lv' := [some (.ref 1021), some (.int 16), some (.int (Int32.ofNat a)), some (.int t)]) (st' := []) (h1 := am_h (aw_mt w ft wr wd n sh T) g) rfl (fun b358 => ?_) (fun b358 => ?_)
  · refine am_R.nxs 1 (pc' := 366) (lv' := [some (.ref 1021), some (.int 16), some (.int (Int32.ofNat a)), some (.int t)]) (st' := [.int 0]) (h1 := am_h (aw_mt w ft wr wd n sh T) g) rfl ?_
    rw [show aw_fe 16 n T t = (0, n, T) by simp [aw_fe, b358]]
    exact am_R.reti rfl rfl rfl
  · refine am_R.nxs 2 (pc' := 366) (lv' := [some (.ref 1021), some (.int 16), some (.int (Int32.ofNat a)), some (.int t)]) (st' := [.int 1]) (h1 := am_h (aw_mt w ft wr wd n sh T) g) rfl ?_
    rw [show aw_fe 16 n T t = (1, n, T) by simp [aw_fe, (Decidable.not_not.mp b358)]]
    exact am_R.reti rfl rfl rfl
set_option maxRecDepth 100000 in
theorem aw_k106_24 {w : Nat → am_C} {g : am_H} (d : Nat) {ft wr wd : Int32} {n sh : Nat} {T : aw_T} (a : Nat) (t : Int32) : am_R (d + 3) 106 0 [some (.ref 1021), some (.int 24), some (.int (Int32.ofNat a)), some (.int t)] [] (am_h (aw_mt w ft wr wd n sh T) g) (.inl (some (.int (aw_fe 24 n T t).1))) (am_h (aw_mt w ft wr wd ((aw_fe 24 n T t).2.1) sh ((aw_fe 24 n T t).2.2)) g) := by
  refine am_R.ites 5 (P := ¬ t = 24) (T := 365) (F := 361) (lv' := [some (.ref 1021), some (.int 24), some (.int (Int32.ofNat a)), some (.int t)]) (st' := []) (h1 := am_h (aw_mt w ft wr wd n sh T) g) rfl (fun b358 => ?_) (fun b358 => ?_)
  · refine am_R.nxs 1 (pc' := 366) (lv' := [some (.ref 1021), some (.int 24), some (.int (Int32.ofNat a)), some (.int t)]) (st' := [.int 0]) (h1 := am_h (aw_mt w ft wr wd n sh T) g) rfl ?_
    rw [show aw_fe 24 n T t = (0, n, T) by simp [aw_fe, b358]]
    exact am_R.reti rfl rfl rfl
  · refine am_R.nxs 2 (pc' := 366) (lv' := [some (.ref 1021), some (.int 24), some (.int (Int32.ofNat a)), some (.int t)]) (st' := [.int 1]) (h1 := am_h (aw_mt w ft wr wd n sh T) g) rfl ?_
    rw [show aw_fe 24 n T t = (1, n, T) by simp [aw_fe, (Decidable.not_not.mp b358)]]
    exact am_R.reti rfl rfl rfl
/-- the reference's word at p -/
def aw_tt (js : List Nat) (p : Nat) : Int32 := if p < js.length then aw_tau (aw_w js p) else -2
/-- readAll goes on at p with n that wait -/
def aw_G (w : Nat → am_C) (g : am_H) (d : Nat) (ft wr : Int32) (js : List Nat) (p n sh : Nat) (T : aw_T) (o : am_O) (h' : am_H) : Prop := am_R (d + 4) 103 53 [some (.ref 1021), some (.int (Int32.ofNat p)), some (.int (aw_tt js p)), some (.int 2)] [] (am_h (aw_mt w ft wr (Int32.ofNat js.length) n sh T) g) o h'
theorem aw_wtau {js : List Nat} {WS : List Int32} {p : Nat} (h : p < js.length) : (js.map aw_tau ++ WS).getD p 0 = aw_tau (aw_w js p) := by
  rw [List.getD_eq_getElem?_getD, List.getElem?_append_left (by rw [List.length_map]; exact h), List.getElem?_map, aw_w_at h]
  rfl
theorem aw_s1 {w : Nat → am_C} {g : am_H} {d : Nat} {ft wr : Int32} {js : List Nat} (hj : js.length ≤ 120) {WS : List Int32} (h32 : w 32 = am_I 0 (js.map aw_tau ++ WS)) (hw : js.length + WS.length = 120) {p n sh : Nat} {T : aw_T} {e a : Int32} {n' sh' : Nat} {T' : aw_T} (he : T 33 n = e) (ha : T 34 n = a) {o : am_O} {h' : am_H} (hn : n < 300) (hp : p < js.length) (hc : am_R (d + 3) 106 0 [some (.ref 1021), some (.int e), some (.int a), some (.int (aw_tt js p))] [] (am_h (aw_mt w ft wr (Int32.ofNat js.length) n sh T) g) (.inl (some (.int 1))) (am_h (aw_mt w ft wr (Int32.ofNat js.length) n' sh' T') g)) (k : aw_G w g d ft wr js (p + 1) n' sh' T' o h') : aw_G w g d ft wr js p (n + 1) sh T o h' := by
  unfold aw_G at k ⊢
  have hlw : (js.map aw_tau ++ WS).length = 120 := by rw [List.length_append, List.length_map]; exact hw
  refine am_R.ites 3 (P := ¬ 2 = 2) (T := 102) (F := 58) (lv' := [some (.ref 1021), some (.int (Int32.ofNat p)), some (.int (aw_tt js p)), some (.int 2)]) (st' := []) (h1 := am_h (aw_mt w ft wr (Int32.ofNat js.length) (n + 1) sh T) g) rfl (fun b55 => ?_) (fun b55 => ?_)
  · exact absurd rfl b55
  · refine am_R.nxs 1 (pc' := 59) (lv' := [some (.ref 1021), some (.int (Int32.ofNat p)), some (.int (aw_tt js p)), some (.int 2)]) (st' := [.ref 1021]) (h1 := am_h (aw_mt w ft wr (Int32.ofNat js.length) (n + 1) sh T) g) rfl ?_
    refine am_R.gf (pc' := 62) (v := .int (Int32.ofNat (n + 1))) rfl (am_wf 21 (by decide) (aw_mt21 : (aw_mt w ft wr (Int32.ofNat js.length) (n + 1) sh T) 21 = _)) rfl rfl rfl ?_
    refine am_R.ites 1 (P := Int32.ofNat (n + 1) ≤ 0) (T := 102) (F := 65) (lv' := [some (.ref 1021), some (.int (Int32.ofNat p)), some (.int (aw_tt js p)), some (.int 2)]) (st' := []) (h1 := am_h (aw_mt w ft wr (Int32.ofNat js.length) (n + 1) sh T) g) rfl (fun b62 => ?_) (fun b62 => ?_)
    · have b62 : n + 1 ≤ 0 := (am_leN (i := n + 1) (n := 0) (by omega) (by omega)).mp b62
      omega
    · have b62 : ¬ n + 1 ≤ 0 := fun hq9 => b62 ((am_leN (i := n + 1) (n := 0) (by omega) (by omega)).mpr hq9)
      refine am_R.nxs 2 (pc' := 67) (lv' := [some (.ref 1021), some (.int (Int32.ofNat p)), some (.int (aw_tt js p)), some (.int 2)]) (st' := [.ref 1021, .ref 1021]) (h1 := am_h (aw_mt w ft wr (Int32.ofNat js.length) (n + 1) sh T) g) rfl ?_
      refine am_R.gf (pc' := 70) (v := .int (Int32.ofNat (n + 1))) rfl (am_wf 21 (by decide) (aw_mt21 : (aw_mt w ft wr (Int32.ofNat js.length) (n + 1) sh T) 21 = _)) rfl rfl rfl ?_
      refine am_R.nxs 2 (pc' := 72) (lv' := [some (.ref 1021), some (.int (Int32.ofNat p)), some (.int (aw_tt js p)), some (.int 2)]) (st' := [.int (Int32.ofNat (n + 1) - 1), .ref 1021]) (h1 := am_h (aw_mt w ft wr (Int32.ofNat js.length) (n + 1) sh T) g) rfl ?_
      rw [show (Int32.ofNat (n + 1) - 1 : Int32) = Int32.ofNat (n + 1 - 1) from am_sub (a := n + 1) (b := 1) (by omega)]
      refine am_R.pf (k := 15) (pc' := 75) rfl (am_wf 21 (by decide) (aw_mt21 : (aw_mt w ft wr (Int32.ofNat js.length) (n + 1) sh T) 21 = _)) rfl (Nat.le_of_ble_eq_true rfl) rfl (fun q => by cases q) (am_wsE (k := 21) (w' := (aw_mt w ft wr (Int32.ofNat js.length) n sh T)) (by decide) (by decide) aw_mt_put21) rfl ?_
      refine am_R.nxs 2 (pc' := 77) (lv' := [some (.ref 1021), some (.int (Int32.ofNat p)), some (.int (aw_tt js p)), some (.int 2)]) (st' := [.ref 1021, .ref 1021]) (h1 := am_h (aw_mt w ft wr (Int32.ofNat js.length) n sh T) g) rfl ?_
      refine am_R.gf (pc' := 80) (v := .ref 1033) rfl (am_wf 21 (by decide) (aw_mt21 : (aw_mt w ft wr (Int32.ofNat js.length) n sh T) 21 = _)) rfl rfl rfl ?_
      refine am_R.nxs 1 (pc' := 81) (lv' := [some (.ref 1021), some (.int (Int32.ofNat p)), some (.int (aw_tt js p)), some (.int 2)]) (st' := [.ref 1021, .ref 1033, .ref 1021]) (h1 := am_h (aw_mt w ft wr (Int32.ofNat js.length) n sh T) g) rfl ?_
      refine am_R.gf (pc' := 84) (v := .int (Int32.ofNat n)) rfl (am_wf 21 (by decide) (aw_mt21 : (aw_mt w ft wr (Int32.ofNat js.length) n sh T) 21 = _)) rfl rfl rfl ?_
      refine am_R.ldi (i := n) (xs := (aw_lT T 33)) (pc' := 85) rfl (am_wf 33 (by decide) (aw_mtk (by decide) (by decide) : (aw_mt w ft wr (Int32.ofNat js.length) n sh T) 33 = _)) (aw_lT_b (show n < 300 by omega)) aw_lT_s rfl ?_
      rw [aw_lT_get (show n < 300 by omega), he]
      refine am_R.nxs 1 (pc' := 86) (lv' := [some (.ref 1021), some (.int (Int32.ofNat p)), some (.int (aw_tt js p)), some (.int 2)]) (st' := [.ref 1021, .int e, .ref 1021]) (h1 := am_h (aw_mt w ft wr (Int32.ofNat js.length) n sh T) g) rfl ?_
      refine am_R.gf (pc' := 89) (v := .ref 1034) rfl (am_wf 21 (by decide) (aw_mt21 : (aw_mt w ft wr (Int32.ofNat js.length) n sh T) 21 = _)) rfl rfl rfl ?_
      refine am_R.nxs 1 (pc' := 90) (lv' := [some (.ref 1021), some (.int (Int32.ofNat p)), some (.int (aw_tt js p)), some (.int 2)]) (st' := [.ref 1021, .ref 1034, .int e, .ref 1021]) (h1 := am_h (aw_mt w ft wr (Int32.ofNat js.length) n sh T) g) rfl ?_
      refine am_R.gf (pc' := 93) (v := .int (Int32.ofNat n)) rfl (am_wf 21 (by decide) (aw_mt21 : (aw_mt w ft wr (Int32.ofNat js.length) n sh T) 21 = _)) rfl rfl rfl ?_
      refine am_R.ldi (i := n) (xs := (aw_lT T 34)) (pc' := 94) rfl (am_wf 34 (by decide) (aw_mtk (by decide) (by decide) : (aw_mt w ft wr (Int32.ofNat js.length) n sh T) 34 = _)) (aw_lT_b (show n < 300 by omega)) aw_lT_s rfl ?_
      rw [aw_lT_get (show n < 300 by omega), ha]
      refine am_R.nxs 1 (pc' := 95) (lv' := [some (.ref 1021), some (.int (Int32.ofNat p)), some (.int (aw_tt js p)), some (.int 2)]) (st' := [.int (aw_tt js p), .int a, .int e, .ref 1021]) (h1 := am_h (aw_mt w ft wr (Int32.ofNat js.length) n sh T) g) rfl ?_
      refine am_R.cv (a := 1021) (as' := [.int e, .int a, .int (aw_tt js p)]) (r := []) (v := some (.int 1)) (h1 := am_h (aw_mt w ft wr (Int32.ofNat js.length) n' sh' T') g) (pc' := 98) rfl rfl rfl rfl (am_wf 21 (by decide) (aw_mt21 : (aw_mt w ft wr (Int32.ofNat js.length) n sh T) 21 = _)) rfl rfl (hc) rfl ?_
      refine am_R.nxs 2 (pc' := 53) (lv' := [some (.ref 1021), some (.int (Int32.ofNat p)), some (.int (aw_tt js p)), some (.int 1)]) (st' := []) (h1 := am_h (aw_mt w ft wr (Int32.ofNat js.length) n' sh' T') g) rfl ?_
      refine am_R.ites 3 (P := ¬ 1 = 2) (T := 102) (F := 58) (lv' := [some (.ref 1021), some (.int (Int32.ofNat p)), some (.int (aw_tt js p)), some (.int 1)]) (st' := []) (h1 := am_h (aw_mt w ft wr (Int32.ofNat js.length) n' sh' T') g) rfl (fun b55 => ?_) (fun b55 => ?_)
      · refine am_R.nxs 2 (pc' := 104) (lv' := [some (.ref 1021), some (.int (Int32.ofNat p)), some (.int (aw_tt js p)), some (.int 1)]) (st' := [.ref 1021, .int (Int32.ofNat p)]) (h1 := am_h (aw_mt w ft wr (Int32.ofNat js.length) n' sh' T') g) rfl ?_
        refine am_R.gf (pc' := 107) (v := .int (Int32.ofNat js.length)) rfl (am_wf 21 (by decide) (aw_mt21 : (aw_mt w ft wr (Int32.ofNat js.length) n' sh' T') 21 = _)) rfl rfl rfl ?_
        refine am_R.ites 1 (P := Int32.ofNat js.length ≤ Int32.ofNat p) (T := 118) (F := 110) (lv' := [some (.ref 1021), some (.int (Int32.ofNat p)), some (.int (aw_tt js p)), some (.int 1)]) (st' := []) (h1 := am_h (aw_mt w ft wr (Int32.ofNat js.length) n' sh' T') g) rfl (fun b107 => ?_) (fun b107 => ?_)
        · have b107 : js.length ≤ p := (am_leN (i := js.length) (n := p) (by omega) (by omega)).mp b107
          omega
        · have b107 : ¬ js.length ≤ p := fun hq9 => b107 ((am_leN (i := js.length) (n := p) (by omega) (by omega)).mpr hq9)
          refine am_R.ites 3 (P := 1 = 1) (T := 132) (F := 115) (lv' := [some (.ref 1021), some (.int (Int32.ofNat p)), some (.int (aw_tt js p)), some (.int 1)]) (st' := []) (h1 := am_h (aw_mt w ft wr (Int32.ofNat js.length) n' sh' T') g) rfl (fun b112 => ?_) (fun b112 => ?_)
          · refine am_R.nxs 1 (pc' := 135) (lv' := [some (.ref 1021), some (.int (Int32.ofNat p + 1)), some (.int (aw_tt js p)), some (.int 1)]) (st' := []) (h1 := am_h (aw_mt w ft wr (Int32.ofNat js.length) n' sh' T') g) rfl ?_
            rw [show (Int32.ofNat p + 1 : Int32) = Int32.ofNat (p + 1) from am_add p 1]
            refine am_R.nxs 3 (pc' := 25) (lv' := [some (.ref 1021), some (.int (Int32.ofNat (p + 1))), some (.int (aw_tt js p)), some (.int 1)]) (st' := [.ref 1021, .int (Int32.ofNat (p + 1))]) (h1 := am_h (aw_mt w ft wr (Int32.ofNat js.length) n' sh' T') g) rfl ?_
            refine am_R.gf (pc' := 28) (v := .int (Int32.ofNat js.length)) rfl (am_wf 21 (by decide) (aw_mt21 : (aw_mt w ft wr (Int32.ofNat js.length) n' sh' T') 21 = _)) rfl rfl rfl ?_
            refine am_R.ites 1 (P := Int32.ofNat js.length < Int32.ofNat (p + 1)) (T := 138) (F := 31) (lv' := [some (.ref 1021), some (.int (Int32.ofNat (p + 1))), some (.int (aw_tt js p)), some (.int 1)]) (st' := []) (h1 := am_h (aw_mt w ft wr (Int32.ofNat js.length) n' sh' T') g) rfl (fun b28 => ?_) (fun b28 => ?_)
            · have b28 : js.length < (p + 1) := (am_ltN (i := js.length) (n := (p + 1)) (by omega) (by omega)).mp b28
              omega
            · have b28 : ¬ js.length < (p + 1) := fun hq9 => b28 ((am_ltN (i := js.length) (n := (p + 1)) (by omega) (by omega)).mpr hq9)
              refine am_R.nxs 2 (pc' := 33) (lv' := [some (.ref 1021), some (.int (Int32.ofNat (p + 1))), some (.int (aw_tt js p)), some (.int 1)]) (st' := [.ref 1021, .int (Int32.ofNat (p + 1))]) (h1 := am_h (aw_mt w ft wr (Int32.ofNat js.length) n' sh' T') g) rfl ?_
              refine am_R.gf (pc' := 36) (v := .int (Int32.ofNat js.length)) rfl (am_wf 21 (by decide) (aw_mt21 : (aw_mt w ft wr (Int32.ofNat js.length) n' sh' T') 21 = _)) rfl rfl rfl ?_
              refine am_R.ites 1 (P := Int32.ofNat js.length ≤ Int32.ofNat (p + 1)) (T := 48) (F := 39) (lv' := [some (.ref 1021), some (.int (Int32.ofNat (p + 1))), some (.int (aw_tt js p)), some (.int 1)]) (st' := []) (h1 := am_h (aw_mt w ft wr (Int32.ofNat js.length) n' sh' T') g) rfl (fun b36 => ?_) (fun b36 => ?_)
              · have b36 : js.length ≤ (p + 1) := (am_leN (i := js.length) (n := (p + 1)) (by omega) (by omega)).mp b36
                refine am_R.nxs 2 (pc' := 51) (lv' := [some (.ref 1021), some (.int (Int32.ofNat (p + 1))), some (.int (-2)), some (.int 1)]) (st' := []) (h1 := am_h (aw_mt w ft wr (Int32.ofNat js.length) n' sh' T') g) rfl ?_
                rw [show (-2) = aw_tt js (p + 1) from (if_neg (by omega)).symm]
                refine am_R.nxs 2 (pc' := 53) (lv' := [some (.ref 1021), some (.int (Int32.ofNat (p + 1))), some (.int (aw_tt js (p + 1))), some (.int 2)]) (st' := []) (h1 := am_h (aw_mt w ft wr (Int32.ofNat js.length) n' sh' T') g) rfl ?_
                exact k
              · have b36 : ¬ js.length ≤ (p + 1) := fun hq9 => b36 ((am_leN (i := js.length) (n := (p + 1)) (by omega) (by omega)).mpr hq9)
                refine am_R.nxs 1 (pc' := 40) (lv' := [some (.ref 1021), some (.int (Int32.ofNat (p + 1))), some (.int (aw_tt js p)), some (.int 1)]) (st' := [.ref 1021]) (h1 := am_h (aw_mt w ft wr (Int32.ofNat js.length) n' sh' T') g) rfl ?_
                refine am_R.gf (pc' := 43) (v := .ref 1032) rfl (am_wf 21 (by decide) (aw_mt21 : (aw_mt w ft wr (Int32.ofNat js.length) n' sh' T') 21 = _)) rfl rfl rfl ?_
                refine am_R.nxs 1 (pc' := 44) (lv' := [some (.ref 1021), some (.int (Int32.ofNat (p + 1))), some (.int (aw_tt js p)), some (.int 1)]) (st' := [.int (Int32.ofNat (p + 1)), .ref 1032]) (h1 := am_h (aw_mt w ft wr (Int32.ofNat js.length) n' sh' T') g) rfl ?_
                refine am_R.ldi (i := (p + 1)) (xs := (js.map aw_tau ++ WS)) (pc' := 45) rfl (am_wf 32 (by decide) ((aw_mt_other (by decide) (by decide)).trans h32 : (aw_mt w ft wr (Int32.ofNat js.length) n' sh' T') 32 = _)) (by omega) (by omega) rfl ?_
                rw [aw_wtau (by omega)]
                refine am_R.nxs 2 (pc' := 51) (lv' := [some (.ref 1021), some (.int (Int32.ofNat (p + 1))), some (.int (aw_tau (aw_w js (p + 1)))), some (.int 1)]) (st' := []) (h1 := am_h (aw_mt w ft wr (Int32.ofNat js.length) n' sh' T') g) rfl ?_
                rw [show (aw_tau (aw_w js (p + 1))) = aw_tt js (p + 1) from (if_pos (by omega)).symm]
                refine am_R.nxs 2 (pc' := 53) (lv' := [some (.ref 1021), some (.int (Int32.ofNat (p + 1))), some (.int (aw_tt js (p + 1))), some (.int 2)]) (st' := []) (h1 := am_h (aw_mt w ft wr (Int32.ofNat js.length) n' sh' T') g) rfl ?_
                exact k
          · exact absurd rfl b112
      · exact absurd (by decide) b55
theorem aw_s0 {w : Nat → am_C} {g : am_H} {d : Nat} {ft wr : Int32} {js : List Nat} (hj : js.length ≤ 120) {WS : List Int32} (h32 : w 32 = am_I 0 (js.map aw_tau ++ WS)) (hw : js.length + WS.length = 120) {p n sh : Nat} {T : aw_T} {e a : Int32} {n' sh' : Nat} {T' : aw_T} (he : T 33 n = e) (ha : T 34 n = a) (hn : n < 300) (hp : p ≤ js.length) (hc : am_R (d + 3) 106 0 [some (.ref 1021), some (.int e), some (.int a), some (.int (aw_tt js p))] [] (am_h (aw_mt w ft wr (Int32.ofNat js.length) n sh T) g) (.inl (some (.int 0))) (am_h (aw_mt w ft wr (Int32.ofNat js.length) n' sh' T') g)) : aw_G w g d ft wr js p (n + 1) sh T (.inl (some (.int (Int32.ofNat p)))) (am_h (aw_mt w ft wr (Int32.ofNat js.length) n' sh' T') g) := by
  unfold aw_G
  have hlw : (js.map aw_tau ++ WS).length = 120 := by rw [List.length_append, List.length_map]; exact hw
  refine am_R.ites 3 (P := ¬ 2 = 2) (T := 102) (F := 58) (lv' := [some (.ref 1021), some (.int (Int32.ofNat p)), some (.int (aw_tt js p)), some (.int 2)]) (st' := []) (h1 := am_h (aw_mt w ft wr (Int32.ofNat js.length) (n + 1) sh T) g) rfl (fun b55 => ?_) (fun b55 => ?_)
  · exact absurd rfl b55
  · refine am_R.nxs 1 (pc' := 59) (lv' := [some (.ref 1021), some (.int (Int32.ofNat p)), some (.int (aw_tt js p)), some (.int 2)]) (st' := [.ref 1021]) (h1 := am_h (aw_mt w ft wr (Int32.ofNat js.length) (n + 1) sh T) g) rfl ?_
    refine am_R.gf (pc' := 62) (v := .int (Int32.ofNat (n + 1))) rfl (am_wf 21 (by decide) (aw_mt21 : (aw_mt w ft wr (Int32.ofNat js.length) (n + 1) sh T) 21 = _)) rfl rfl rfl ?_
    refine am_R.ites 1 (P := Int32.ofNat (n + 1) ≤ 0) (T := 102) (F := 65) (lv' := [some (.ref 1021), some (.int (Int32.ofNat p)), some (.int (aw_tt js p)), some (.int 2)]) (st' := []) (h1 := am_h (aw_mt w ft wr (Int32.ofNat js.length) (n + 1) sh T) g) rfl (fun b62 => ?_) (fun b62 => ?_)
    · have b62 : n + 1 ≤ 0 := (am_leN (i := n + 1) (n := 0) (by omega) (by omega)).mp b62
      omega
    · have b62 : ¬ n + 1 ≤ 0 := fun hq9 => b62 ((am_leN (i := n + 1) (n := 0) (by omega) (by omega)).mpr hq9)
      refine am_R.nxs 2 (pc' := 67) (lv' := [some (.ref 1021), some (.int (Int32.ofNat p)), some (.int (aw_tt js p)), some (.int 2)]) (st' := [.ref 1021, .ref 1021]) (h1 := am_h (aw_mt w ft wr (Int32.ofNat js.length) (n + 1) sh T) g) rfl ?_
      refine am_R.gf (pc' := 70) (v := .int (Int32.ofNat (n + 1))) rfl (am_wf 21 (by decide) (aw_mt21 : (aw_mt w ft wr (Int32.ofNat js.length) (n + 1) sh T) 21 = _)) rfl rfl rfl ?_
      refine am_R.nxs 2 (pc' := 72) (lv' := [some (.ref 1021), some (.int (Int32.ofNat p)), some (.int (aw_tt js p)), some (.int 2)]) (st' := [.int (Int32.ofNat (n + 1) - 1), .ref 1021]) (h1 := am_h (aw_mt w ft wr (Int32.ofNat js.length) (n + 1) sh T) g) rfl ?_
      rw [show (Int32.ofNat (n + 1) - 1 : Int32) = Int32.ofNat (n + 1 - 1) from am_sub (a := n + 1) (b := 1) (by omega)]
      refine am_R.pf (k := 15) (pc' := 75) rfl (am_wf 21 (by decide) (aw_mt21 : (aw_mt w ft wr (Int32.ofNat js.length) (n + 1) sh T) 21 = _)) rfl (Nat.le_of_ble_eq_true rfl) rfl (fun q => by cases q) (am_wsE (k := 21) (w' := (aw_mt w ft wr (Int32.ofNat js.length) n sh T)) (by decide) (by decide) aw_mt_put21) rfl ?_
      refine am_R.nxs 2 (pc' := 77) (lv' := [some (.ref 1021), some (.int (Int32.ofNat p)), some (.int (aw_tt js p)), some (.int 2)]) (st' := [.ref 1021, .ref 1021]) (h1 := am_h (aw_mt w ft wr (Int32.ofNat js.length) n sh T) g) rfl ?_
      refine am_R.gf (pc' := 80) (v := .ref 1033) rfl (am_wf 21 (by decide) (aw_mt21 : (aw_mt w ft wr (Int32.ofNat js.length) n sh T) 21 = _)) rfl rfl rfl ?_
      refine am_R.nxs 1 (pc' := 81) (lv' := [some (.ref 1021), some (.int (Int32.ofNat p)), some (.int (aw_tt js p)), some (.int 2)]) (st' := [.ref 1021, .ref 1033, .ref 1021]) (h1 := am_h (aw_mt w ft wr (Int32.ofNat js.length) n sh T) g) rfl ?_
      refine am_R.gf (pc' := 84) (v := .int (Int32.ofNat n)) rfl (am_wf 21 (by decide) (aw_mt21 : (aw_mt w ft wr (Int32.ofNat js.length) n sh T) 21 = _)) rfl rfl rfl ?_
      refine am_R.ldi (i := n) (xs := (aw_lT T 33)) (pc' := 85) rfl (am_wf 33 (by decide) (aw_mtk (by decide) (by decide) : (aw_mt w ft wr (Int32.ofNat js.length) n sh T) 33 = _)) (aw_lT_b (show n < 300 by omega)) aw_lT_s rfl ?_
      rw [aw_lT_get (show n < 300 by omega), he]
      refine am_R.nxs 1 (pc' := 86) (lv' := [some (.ref 1021), some (.int (Int32.ofNat p)), some (.int (aw_tt js p)), some (.int 2)]) (st' := [.ref 1021, .int e, .ref 1021]) (h1 := am_h (aw_mt w ft wr (Int32.ofNat js.length) n sh T) g) rfl ?_
      refine am_R.gf (pc' := 89) (v := .ref 1034) rfl (am_wf 21 (by decide) (aw_mt21 : (aw_mt w ft wr (Int32.ofNat js.length) n sh T) 21 = _)) rfl rfl rfl ?_
      refine am_R.nxs 1 (pc' := 90) (lv' := [some (.ref 1021), some (.int (Int32.ofNat p)), some (.int (aw_tt js p)), some (.int 2)]) (st' := [.ref 1021, .ref 1034, .int e, .ref 1021]) (h1 := am_h (aw_mt w ft wr (Int32.ofNat js.length) n sh T) g) rfl ?_
      refine am_R.gf (pc' := 93) (v := .int (Int32.ofNat n)) rfl (am_wf 21 (by decide) (aw_mt21 : (aw_mt w ft wr (Int32.ofNat js.length) n sh T) 21 = _)) rfl rfl rfl ?_
      refine am_R.ldi (i := n) (xs := (aw_lT T 34)) (pc' := 94) rfl (am_wf 34 (by decide) (aw_mtk (by decide) (by decide) : (aw_mt w ft wr (Int32.ofNat js.length) n sh T) 34 = _)) (aw_lT_b (show n < 300 by omega)) aw_lT_s rfl ?_
      rw [aw_lT_get (show n < 300 by omega), ha]
      refine am_R.nxs 1 (pc' := 95) (lv' := [some (.ref 1021), some (.int (Int32.ofNat p)), some (.int (aw_tt js p)), some (.int 2)]) (st' := [.int (aw_tt js p), .int a, .int e, .ref 1021]) (h1 := am_h (aw_mt w ft wr (Int32.ofNat js.length) n sh T) g) rfl ?_
      refine am_R.cv (a := 1021) (as' := [.int e, .int a, .int (aw_tt js p)]) (r := []) (v := some (.int 0)) (h1 := am_h (aw_mt w ft wr (Int32.ofNat js.length) n' sh' T') g) (pc' := 98) rfl rfl rfl rfl (am_wf 21 (by decide) (aw_mt21 : (aw_mt w ft wr (Int32.ofNat js.length) n sh T) 21 = _)) rfl rfl (hc) rfl ?_
      refine am_R.nxs 2 (pc' := 53) (lv' := [some (.ref 1021), some (.int (Int32.ofNat p)), some (.int (aw_tt js p)), some (.int 0)]) (st' := []) (h1 := am_h (aw_mt w ft wr (Int32.ofNat js.length) n' sh' T') g) rfl ?_
      refine am_R.ites 3 (P := ¬ 0 = 2) (T := 102) (F := 58) (lv' := [some (.ref 1021), some (.int (Int32.ofNat p)), some (.int (aw_tt js p)), some (.int 0)]) (st' := []) (h1 := am_h (aw_mt w ft wr (Int32.ofNat js.length) n' sh' T') g) rfl (fun b55 => ?_) (fun b55 => ?_)
      · refine am_R.nxs 2 (pc' := 104) (lv' := [some (.ref 1021), some (.int (Int32.ofNat p)), some (.int (aw_tt js p)), some (.int 0)]) (st' := [.ref 1021, .int (Int32.ofNat p)]) (h1 := am_h (aw_mt w ft wr (Int32.ofNat js.length) n' sh' T') g) rfl ?_
        refine am_R.gf (pc' := 107) (v := .int (Int32.ofNat js.length)) rfl (am_wf 21 (by decide) (aw_mt21 : (aw_mt w ft wr (Int32.ofNat js.length) n' sh' T') 21 = _)) rfl rfl rfl ?_
        refine am_R.ites 1 (P := Int32.ofNat js.length ≤ Int32.ofNat p) (T := 118) (F := 110) (lv' := [some (.ref 1021), some (.int (Int32.ofNat p)), some (.int (aw_tt js p)), some (.int 0)]) (st' := []) (h1 := am_h (aw_mt w ft wr (Int32.ofNat js.length) n' sh' T') g) rfl (fun b107 => ?_) (fun b107 => ?_)
        · have b107 : js.length ≤ p := (am_leN (i := js.length) (n := p) (by omega) (by omega)).mp b107
          refine am_R.ites 3 (P := ¬ 0 = 2) (T := 130) (F := 123) (lv' := [some (.ref 1021), some (.int (Int32.ofNat p)), some (.int (aw_tt js p)), some (.int 0)]) (st' := []) (h1 := am_h (aw_mt w ft wr (Int32.ofNat js.length) n' sh' T') g) rfl (fun b120 => ?_) (fun b120 => ?_)
          · refine am_R.nxs 1 (pc' := 131) (lv' := [some (.ref 1021), some (.int (Int32.ofNat p)), some (.int (aw_tt js p)), some (.int 0)]) (st' := [.int (Int32.ofNat p)]) (h1 := am_h (aw_mt w ft wr (Int32.ofNat js.length) n' sh' T') g) rfl ?_
            exact am_R.reti rfl rfl rfl
          · exact absurd (by decide) b120
        · have b107 : ¬ js.length ≤ p := fun hq9 => b107 ((am_leN (i := js.length) (n := p) (by omega) (by omega)).mpr hq9)
          refine am_R.ites 3 (P := 0 = 1) (T := 132) (F := 115) (lv' := [some (.ref 1021), some (.int (Int32.ofNat p)), some (.int (aw_tt js p)), some (.int 0)]) (st' := []) (h1 := am_h (aw_mt w ft wr (Int32.ofNat js.length) n' sh' T') g) rfl (fun b112 => ?_) (fun b112 => ?_)
          · exact absurd b112 (by decide)
          · refine am_R.nxs 2 (pc' := 131) (lv' := [some (.ref 1021), some (.int (Int32.ofNat p)), some (.int (aw_tt js p)), some (.int 0)]) (st' := [.int (Int32.ofNat p)]) (h1 := am_h (aw_mt w ft wr (Int32.ofNat js.length) n' sh' T') g) rfl ?_
            exact am_R.reti rfl rfl rfl
      · exact absurd (by decide) b55
theorem aw_s2 {w : Nat → am_C} {g : am_H} {d : Nat} {ft wr : Int32} {js : List Nat} (hj : js.length ≤ 120) {WS : List Int32} (h32 : w 32 = am_I 0 (js.map aw_tau ++ WS)) (hw : js.length + WS.length = 120) {p n sh : Nat} {T : aw_T} {e a : Int32} (he : T 33 n = e) (ha : T 34 n = a) {o : am_O} {h' : am_H} (hn : n < 300) (hp : p ≤ js.length) (hc : am_R (d + 3) 106 0 [some (.ref 1021), some (.int e), some (.int a), some (.int (aw_tt js p))] [] (am_h (aw_mt w ft wr (Int32.ofNat js.length) n sh T) g) (.inl (some (.int 2))) (am_h (aw_mt w ft wr (Int32.ofNat js.length) n sh T) g)) (k : aw_G w g d ft wr js p n sh T o h') : aw_G w g d ft wr js p (n + 1) sh T o h' := by
  unfold aw_G at k ⊢
  have hlw : (js.map aw_tau ++ WS).length = 120 := by rw [List.length_append, List.length_map]; exact hw
  refine am_R.ites 3 (P := ¬ 2 = 2) (T := 102) (F := 58) (lv' := [some (.ref 1021), some (.int (Int32.ofNat p)), some (.int (aw_tt js p)), some (.int 2)]) (st' := []) (h1 := am_h (aw_mt w ft wr (Int32.ofNat js.length) (n + 1) sh T) g) rfl (fun b55 => ?_) (fun b55 => ?_)
  · exact absurd rfl b55
  · refine am_R.nxs 1 (pc' := 59) (lv' := [some (.ref 1021), some (.int (Int32.ofNat p)), some (.int (aw_tt js p)), some (.int 2)]) (st' := [.ref 1021]) (h1 := am_h (aw_mt w ft wr (Int32.ofNat js.length) (n + 1) sh T) g) rfl ?_
    refine am_R.gf (pc' := 62) (v := .int (Int32.ofNat (n + 1))) rfl (am_wf 21 (by decide) (aw_mt21 : (aw_mt w ft wr (Int32.ofNat js.length) (n + 1) sh T) 21 = _)) rfl rfl rfl ?_
    refine am_R.ites 1 (P := Int32.ofNat (n + 1) ≤ 0) (T := 102) (F := 65) (lv' := [some (.ref 1021), some (.int (Int32.ofNat p)), some (.int (aw_tt js p)), some (.int 2)]) (st' := []) (h1 := am_h (aw_mt w ft wr (Int32.ofNat js.length) (n + 1) sh T) g) rfl (fun b62 => ?_) (fun b62 => ?_)
    · have b62 : n + 1 ≤ 0 := (am_leN (i := n + 1) (n := 0) (by omega) (by omega)).mp b62
      omega
    · have b62 : ¬ n + 1 ≤ 0 := fun hq9 => b62 ((am_leN (i := n + 1) (n := 0) (by omega) (by omega)).mpr hq9)
      refine am_R.nxs 2 (pc' := 67) (lv' := [some (.ref 1021), some (.int (Int32.ofNat p)), some (.int (aw_tt js p)), some (.int 2)]) (st' := [.ref 1021, .ref 1021]) (h1 := am_h (aw_mt w ft wr (Int32.ofNat js.length) (n + 1) sh T) g) rfl ?_
      refine am_R.gf (pc' := 70) (v := .int (Int32.ofNat (n + 1))) rfl (am_wf 21 (by decide) (aw_mt21 : (aw_mt w ft wr (Int32.ofNat js.length) (n + 1) sh T) 21 = _)) rfl rfl rfl ?_
      refine am_R.nxs 2 (pc' := 72) (lv' := [some (.ref 1021), some (.int (Int32.ofNat p)), some (.int (aw_tt js p)), some (.int 2)]) (st' := [.int (Int32.ofNat (n + 1) - 1), .ref 1021]) (h1 := am_h (aw_mt w ft wr (Int32.ofNat js.length) (n + 1) sh T) g) rfl ?_
      rw [show (Int32.ofNat (n + 1) - 1 : Int32) = Int32.ofNat (n + 1 - 1) from am_sub (a := n + 1) (b := 1) (by omega)]
      refine am_R.pf (k := 15) (pc' := 75) rfl (am_wf 21 (by decide) (aw_mt21 : (aw_mt w ft wr (Int32.ofNat js.length) (n + 1) sh T) 21 = _)) rfl (Nat.le_of_ble_eq_true rfl) rfl (fun q => by cases q) (am_wsE (k := 21) (w' := (aw_mt w ft wr (Int32.ofNat js.length) n sh T)) (by decide) (by decide) aw_mt_put21) rfl ?_
      refine am_R.nxs 2 (pc' := 77) (lv' := [some (.ref 1021), some (.int (Int32.ofNat p)), some (.int (aw_tt js p)), some (.int 2)]) (st' := [.ref 1021, .ref 1021]) (h1 := am_h (aw_mt w ft wr (Int32.ofNat js.length) n sh T) g) rfl ?_
      refine am_R.gf (pc' := 80) (v := .ref 1033) rfl (am_wf 21 (by decide) (aw_mt21 : (aw_mt w ft wr (Int32.ofNat js.length) n sh T) 21 = _)) rfl rfl rfl ?_
      refine am_R.nxs 1 (pc' := 81) (lv' := [some (.ref 1021), some (.int (Int32.ofNat p)), some (.int (aw_tt js p)), some (.int 2)]) (st' := [.ref 1021, .ref 1033, .ref 1021]) (h1 := am_h (aw_mt w ft wr (Int32.ofNat js.length) n sh T) g) rfl ?_
      refine am_R.gf (pc' := 84) (v := .int (Int32.ofNat n)) rfl (am_wf 21 (by decide) (aw_mt21 : (aw_mt w ft wr (Int32.ofNat js.length) n sh T) 21 = _)) rfl rfl rfl ?_
      refine am_R.ldi (i := n) (xs := (aw_lT T 33)) (pc' := 85) rfl (am_wf 33 (by decide) (aw_mtk (by decide) (by decide) : (aw_mt w ft wr (Int32.ofNat js.length) n sh T) 33 = _)) (aw_lT_b (show n < 300 by omega)) aw_lT_s rfl ?_
      rw [aw_lT_get (show n < 300 by omega), he]
      refine am_R.nxs 1 (pc' := 86) (lv' := [some (.ref 1021), some (.int (Int32.ofNat p)), some (.int (aw_tt js p)), some (.int 2)]) (st' := [.ref 1021, .int e, .ref 1021]) (h1 := am_h (aw_mt w ft wr (Int32.ofNat js.length) n sh T) g) rfl ?_
      refine am_R.gf (pc' := 89) (v := .ref 1034) rfl (am_wf 21 (by decide) (aw_mt21 : (aw_mt w ft wr (Int32.ofNat js.length) n sh T) 21 = _)) rfl rfl rfl ?_
      refine am_R.nxs 1 (pc' := 90) (lv' := [some (.ref 1021), some (.int (Int32.ofNat p)), some (.int (aw_tt js p)), some (.int 2)]) (st' := [.ref 1021, .ref 1034, .int e, .ref 1021]) (h1 := am_h (aw_mt w ft wr (Int32.ofNat js.length) n sh T) g) rfl ?_
      refine am_R.gf (pc' := 93) (v := .int (Int32.ofNat n)) rfl (am_wf 21 (by decide) (aw_mt21 : (aw_mt w ft wr (Int32.ofNat js.length) n sh T) 21 = _)) rfl rfl rfl ?_
      refine am_R.ldi (i := n) (xs := (aw_lT T 34)) (pc' := 94) rfl (am_wf 34 (by decide) (aw_mtk (by decide) (by decide) : (aw_mt w ft wr (Int32.ofNat js.length) n sh T) 34 = _)) (aw_lT_b (show n < 300 by omega)) aw_lT_s rfl ?_
      rw [aw_lT_get (show n < 300 by omega), ha]
      refine am_R.nxs 1 (pc' := 95) (lv' := [some (.ref 1021), some (.int (Int32.ofNat p)), some (.int (aw_tt js p)), some (.int 2)]) (st' := [.int (aw_tt js p), .int a, .int e, .ref 1021]) (h1 := am_h (aw_mt w ft wr (Int32.ofNat js.length) n sh T) g) rfl ?_
      refine am_R.cv (a := 1021) (as' := [.int e, .int a, .int (aw_tt js p)]) (r := []) (v := some (.int 2)) (h1 := am_h (aw_mt w ft wr (Int32.ofNat js.length) n sh T) g) (pc' := 98) rfl rfl rfl rfl (am_wf 21 (by decide) (aw_mt21 : (aw_mt w ft wr (Int32.ofNat js.length) n sh T) 21 = _)) rfl rfl (hc) rfl ?_
      refine am_R.nxs 2 (pc' := 53) (lv' := [some (.ref 1021), some (.int (Int32.ofNat p)), some (.int (aw_tt js p)), some (.int 2)]) (st' := []) (h1 := am_h (aw_mt w ft wr (Int32.ofNat js.length) n sh T) g) rfl ?_
      exact k
theorem aw_e0 {w : Nat → am_C} {g : am_H} {d : Nat} {ft wr : Int32} {js : List Nat} (hj : js.length ≤ 120) {WS : List Int32} (h32 : w 32 = am_I 0 (js.map aw_tau ++ WS)) (hw : js.length + WS.length = 120) {p sh : Nat} {T : aw_T} (hp : p < js.length) : aw_G w g d ft wr js p 0 sh T (.inl (some (.int (Int32.ofNat p)))) (am_h (aw_mt w ft wr (Int32.ofNat js.length) 0 sh T) g) := by
  unfold aw_G
  refine am_R.ites 3 (P := ¬ 2 = 2) (T := 102) (F := 58) (lv' := [some (.ref 1021), some (.int (Int32.ofNat p)), some (.int (aw_tt js p)), some (.int 2)]) (st' := []) (h1 := am_h (aw_mt w ft wr (Int32.ofNat js.length) 0 sh T) g) rfl (fun b55 => ?_) (fun b55 => ?_)
  · exact absurd rfl b55
  · refine am_R.nxs 1 (pc' := 59) (lv' := [some (.ref 1021), some (.int (Int32.ofNat p)), some (.int (aw_tt js p)), some (.int 2)]) (st' := [.ref 1021]) (h1 := am_h (aw_mt w ft wr (Int32.ofNat js.length) 0 sh T) g) rfl ?_
    refine am_R.gf (pc' := 62) (v := .int (Int32.ofNat 0)) rfl (am_wf 21 (by decide) (aw_mt21 : (aw_mt w ft wr (Int32.ofNat js.length) 0 sh T) 21 = _)) rfl rfl rfl ?_
    refine am_R.ites 1 (P := Int32.ofNat 0 ≤ 0) (T := 102) (F := 65) (lv' := [some (.ref 1021), some (.int (Int32.ofNat p)), some (.int (aw_tt js p)), some (.int 2)]) (st' := []) (h1 := am_h (aw_mt w ft wr (Int32.ofNat js.length) 0 sh T) g) rfl (fun b62 => ?_) (fun b62 => ?_)
    · refine am_R.nxs 2 (pc' := 104) (lv' := [some (.ref 1021), some (.int (Int32.ofNat p)), some (.int (aw_tt js p)), some (.int 2)]) (st' := [.ref 1021, .int (Int32.ofNat p)]) (h1 := am_h (aw_mt w ft wr (Int32.ofNat js.length) 0 sh T) g) rfl ?_
      refine am_R.gf (pc' := 107) (v := .int (Int32.ofNat js.length)) rfl (am_wf 21 (by decide) (aw_mt21 : (aw_mt w ft wr (Int32.ofNat js.length) 0 sh T) 21 = _)) rfl rfl rfl ?_
      refine am_R.ites 1 (P := Int32.ofNat js.length ≤ Int32.ofNat p) (T := 118) (F := 110) (lv' := [some (.ref 1021), some (.int (Int32.ofNat p)), some (.int (aw_tt js p)), some (.int 2)]) (st' := []) (h1 := am_h (aw_mt w ft wr (Int32.ofNat js.length) 0 sh T) g) rfl (fun b107 => ?_) (fun b107 => ?_)
      · have b107 : js.length ≤ p := (am_leN (i := js.length) (n := p) (by omega) (by omega)).mp b107
        omega
      · have b107 : ¬ js.length ≤ p := fun hq9 => b107 ((am_leN (i := js.length) (n := p) (by omega) (by omega)).mpr hq9)
        refine am_R.ites 3 (P := 2 = 1) (T := 132) (F := 115) (lv' := [some (.ref 1021), some (.int (Int32.ofNat p)), some (.int (aw_tt js p)), some (.int 2)]) (st' := []) (h1 := am_h (aw_mt w ft wr (Int32.ofNat js.length) 0 sh T) g) rfl (fun b112 => ?_) (fun b112 => ?_)
        · exact absurd b112 (by decide)
        · refine am_R.nxs 2 (pc' := 131) (lv' := [some (.ref 1021), some (.int (Int32.ofNat p)), some (.int (aw_tt js p)), some (.int 2)]) (st' := [.int (Int32.ofNat p)]) (h1 := am_h (aw_mt w ft wr (Int32.ofNat js.length) 0 sh T) g) rfl ?_
          exact am_R.reti rfl rfl rfl
    · exact absurd (Int32.le_refl _) b62
theorem aw_e1 {w : Nat → am_C} {g : am_H} {d : Nat} {ft wr : Int32} {js : List Nat} (hj : js.length ≤ 120) {WS : List Int32} (h32 : w 32 = am_I 0 (js.map aw_tau ++ WS)) (hw : js.length + WS.length = 120) {p sh : Nat} {T : aw_T} (hp : p = js.length) : aw_G w g d ft wr js p 0 sh T (.inl (some (.int (-1)))) (am_h (aw_mt w ft wr (Int32.ofNat js.length) 0 sh T) g) := by
  unfold aw_G
  refine am_R.ites 3 (P := ¬ 2 = 2) (T := 102) (F := 58) (lv' := [some (.ref 1021), some (.int (Int32.ofNat p)), some (.int (aw_tt js p)), some (.int 2)]) (st' := []) (h1 := am_h (aw_mt w ft wr (Int32.ofNat js.length) 0 sh T) g) rfl (fun b55 => ?_) (fun b55 => ?_)
  · exact absurd rfl b55
  · refine am_R.nxs 1 (pc' := 59) (lv' := [some (.ref 1021), some (.int (Int32.ofNat p)), some (.int (aw_tt js p)), some (.int 2)]) (st' := [.ref 1021]) (h1 := am_h (aw_mt w ft wr (Int32.ofNat js.length) 0 sh T) g) rfl ?_
    refine am_R.gf (pc' := 62) (v := .int (Int32.ofNat 0)) rfl (am_wf 21 (by decide) (aw_mt21 : (aw_mt w ft wr (Int32.ofNat js.length) 0 sh T) 21 = _)) rfl rfl rfl ?_
    refine am_R.ites 1 (P := Int32.ofNat 0 ≤ 0) (T := 102) (F := 65) (lv' := [some (.ref 1021), some (.int (Int32.ofNat p)), some (.int (aw_tt js p)), some (.int 2)]) (st' := []) (h1 := am_h (aw_mt w ft wr (Int32.ofNat js.length) 0 sh T) g) rfl (fun b62 => ?_) (fun b62 => ?_)
    · refine am_R.nxs 2 (pc' := 104) (lv' := [some (.ref 1021), some (.int (Int32.ofNat p)), some (.int (aw_tt js p)), some (.int 2)]) (st' := [.ref 1021, .int (Int32.ofNat p)]) (h1 := am_h (aw_mt w ft wr (Int32.ofNat js.length) 0 sh T) g) rfl ?_
      refine am_R.gf (pc' := 107) (v := .int (Int32.ofNat js.length)) rfl (am_wf 21 (by decide) (aw_mt21 : (aw_mt w ft wr (Int32.ofNat js.length) 0 sh T) 21 = _)) rfl rfl rfl ?_
      refine am_R.ites 1 (P := Int32.ofNat js.length ≤ Int32.ofNat p) (T := 118) (F := 110) (lv' := [some (.ref 1021), some (.int (Int32.ofNat p)), some (.int (aw_tt js p)), some (.int 2)]) (st' := []) (h1 := am_h (aw_mt w ft wr (Int32.ofNat js.length) 0 sh T) g) rfl (fun b107 => ?_) (fun b107 => ?_)
      · have b107 : js.length ≤ p := (am_leN (i := js.length) (n := p) (by omega) (by omega)).mp b107
        refine am_R.ites 3 (P := ¬ 2 = 2) (T := 130) (F := 123) (lv' := [some (.ref 1021), some (.int (Int32.ofNat p)), some (.int (aw_tt js p)), some (.int 2)]) (st' := []) (h1 := am_h (aw_mt w ft wr (Int32.ofNat js.length) 0 sh T) g) rfl (fun b120 => ?_) (fun b120 => ?_)
        · exact absurd rfl b120
        · refine am_R.nxs 1 (pc' := 124) (lv' := [some (.ref 1021), some (.int (Int32.ofNat p)), some (.int (aw_tt js p)), some (.int 2)]) (st' := [.ref 1021]) (h1 := am_h (aw_mt w ft wr (Int32.ofNat js.length) 0 sh T) g) rfl ?_
          refine am_R.gf (pc' := 127) (v := .int (Int32.ofNat 0)) rfl (am_wf 21 (by decide) (aw_mt21 : (aw_mt w ft wr (Int32.ofNat js.length) 0 sh T) 21 = _)) rfl rfl rfl ?_
          refine am_R.ites 1 (P := Int32.ofNat 0 ≤ 0) (T := 132) (F := 130) (lv' := [some (.ref 1021), some (.int (Int32.ofNat p)), some (.int (aw_tt js p)), some (.int 2)]) (st' := []) (h1 := am_h (aw_mt w ft wr (Int32.ofNat js.length) 0 sh T) g) rfl (fun b127 => ?_) (fun b127 => ?_)
          · refine am_R.nxs 1 (pc' := 135) (lv' := [some (.ref 1021), some (.int (Int32.ofNat p + 1)), some (.int (aw_tt js p)), some (.int 2)]) (st' := []) (h1 := am_h (aw_mt w ft wr (Int32.ofNat js.length) 0 sh T) g) rfl ?_
            rw [show (Int32.ofNat p + 1 : Int32) = Int32.ofNat (p + 1) from am_add p 1]
            refine am_R.nxs 3 (pc' := 25) (lv' := [some (.ref 1021), some (.int (Int32.ofNat (p + 1))), some (.int (aw_tt js p)), some (.int 2)]) (st' := [.ref 1021, .int (Int32.ofNat (p + 1))]) (h1 := am_h (aw_mt w ft wr (Int32.ofNat js.length) 0 sh T) g) rfl ?_
            refine am_R.gf (pc' := 28) (v := .int (Int32.ofNat js.length)) rfl (am_wf 21 (by decide) (aw_mt21 : (aw_mt w ft wr (Int32.ofNat js.length) 0 sh T) 21 = _)) rfl rfl rfl ?_
            refine am_R.ites 1 (P := Int32.ofNat js.length < Int32.ofNat (p + 1)) (T := 138) (F := 31) (lv' := [some (.ref 1021), some (.int (Int32.ofNat (p + 1))), some (.int (aw_tt js p)), some (.int 2)]) (st' := []) (h1 := am_h (aw_mt w ft wr (Int32.ofNat js.length) 0 sh T) g) rfl (fun b28 => ?_) (fun b28 => ?_)
            · have b28 : js.length < (p + 1) := (am_ltN (i := js.length) (n := (p + 1)) (by omega) (by omega)).mp b28
              refine am_R.nxs 1 (pc' := 139) (lv' := [some (.ref 1021), some (.int (Int32.ofNat (p + 1))), some (.int (aw_tt js p)), some (.int 2)]) (st' := [.int (-1)]) (h1 := am_h (aw_mt w ft wr (Int32.ofNat js.length) 0 sh T) g) rfl ?_
              exact am_R.reti rfl rfl rfl
            · have b28 : ¬ js.length < (p + 1) := fun hq9 => b28 ((am_ltN (i := js.length) (n := (p + 1)) (by omega) (by omega)).mpr hq9)
              omega
          · exact absurd (Int32.le_refl _) b127
      · have b107 : ¬ js.length ≤ p := fun hq9 => b107 ((am_leN (i := js.length) (n := p) (by omega) (by omega)).mpr hq9)
        omega
    · exact absurd (Int32.le_refl _) b62
