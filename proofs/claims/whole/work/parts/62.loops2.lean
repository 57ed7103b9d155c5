/-! row, differ: loops of both sides, and their calls in the law. -/
theorem aw_k71l {w : Nat → am_C} {g : am_H} (d : Nat) {r : Nat} (hr : r < 4) {pc : List Int32} (hP : w (7 + 4 * r) = am_I 0 pc) (hpl : pc.length = 576) {y : Nat} (hy : y < 24) (t : Int32) (x1 : Option Value) : ∀ m i : Nat, i + m = 24 → am_R d 71 21 [some (.ref 1001), x1, some (.int (Int32.ofNat y)), some (.int t), some (.ref (1007 + 4 * r)), some (.int (aw_bitA (fun j => decide (pc.getD (y * 24 + j) 0 = t)) i)), some (.int (Int32.ofNat i))] [] (am_h w g) (.inl (some (.int (aw_bitA (fun j => decide (pc.getD (y * 24 + j) 0 = t)) 24)))) (am_h w g) := by
  intro m
  induction m with
  | zero =>
    intro i hi
    have hi9 : i = 24 := by omega
    subst hi9
    refine am_R.ites 3 (P := 24 ≤ Int32.ofNat 24) (T := 57) (F := 28) (lv' := [some (.ref 1001), x1, some (.int (Int32.ofNat y)), some (.int t), some (.ref (1007 + 4 * r)), some (.int (aw_bitA (fun j => decide (pc.getD (y * 24 + j) 0 = t)) 24)), some (.int (Int32.ofNat 24))]) (st' := []) (h1 := am_h w g) rfl (fun b25 => ?_) (fun b25 => ?_)
    · have b25 : 24 ≤ 24 := (am_leN (i := 24) (n := 24) (by omega) (by omega)).mp b25
      refine am_R.nxs 1 (pc' := 59) (lv' := [some (.ref 1001), x1, some (.int (Int32.ofNat y)), some (.int t), some (.ref (1007 + 4 * r)), some (.int (aw_bitA (fun j => decide (pc.getD (y * 24 + j) 0 = t)) 24)), some (.int (Int32.ofNat 24))]) (st' := [.int (aw_bitA (fun j => decide (pc.getD (y * 24 + j) 0 = t)) 24)]) (h1 := am_h w g) rfl ?_
      exact am_R.reti rfl rfl rfl
    · have b25 : ¬ 24 ≤ 24 := fun hq9 => b25 ((am_leN (i := 24) (n := 24) (by omega) (by omega)).mpr hq9)
      omega
  | succ m ih =>
    intro i hi
    refine am_R.ites 3 (P := 24 ≤ Int32.ofNat i) (T := 57) (F := 28) (lv' := [some (.ref 1001), x1, some (.int (Int32.ofNat y)), some (.int t), some (.ref (1007 + 4 * r)), some (.int (aw_bitA (fun j => decide (pc.getD (y * 24 + j) 0 = t)) i)), some (.int (Int32.ofNat i))]) (st' := []) (h1 := am_h w g) rfl (fun b25 => ?_) (fun b25 => ?_)
    · have b25 : 24 ≤ i := (am_leN (i := 24) (n := i) (by omega) (by omega)).mp b25
      omega
    · have b25 : ¬ 24 ≤ i := fun hq9 => b25 ((am_leN (i := 24) (n := i) (by omega) (by omega)).mpr hq9)
      refine am_R.nxs 4 (pc' := 34) (lv' := [some (.ref 1001), x1, some (.int (Int32.ofNat y)), some (.int t), some (.ref (1007 + 4 * r)), some (.int (aw_bitA (fun j => decide (pc.getD (y * 24 + j) 0 = t)) i)), some (.int (Int32.ofNat i))]) (st' := [.int (Int32.ofNat y * 24), .ref (1007 + 4 * r)]) (h1 := am_h w g) rfl ?_
      rw [show (Int32.ofNat y * 24 : Int32) = Int32.ofNat (y * 24) from am_mul y 24]
      refine am_R.nxs 2 (pc' := 37) (lv' := [some (.ref 1001), x1, some (.int (Int32.ofNat y)), some (.int t), some (.ref (1007 + 4 * r)), some (.int (aw_bitA (fun j => decide (pc.getD (y * 24 + j) 0 = t)) i)), some (.int (Int32.ofNat i))]) (st' := [.int (Int32.ofNat (y * 24) + Int32.ofNat i), .ref (1007 + 4 * r)]) (h1 := am_h w g) rfl ?_
      rw [show (Int32.ofNat (y * 24) + Int32.ofNat i : Int32) = Int32.ofNat ((y * 24) + i) from am_add (y * 24) i]
      refine am_R.ldi (i := ((y * 24) + i)) (xs := pc) (pc' := 38) rfl (aw_at7 hr hP) (by omega) (by omega) rfl ?_
      refine am_R.ites 2 (P := ¬ (pc.getD ((y * 24) + i) 0) = t) (T := 51) (F := 42) (lv' := [some (.ref 1001), x1, some (.int (Int32.ofNat y)), some (.int t), some (.ref (1007 + 4 * r)), some (.int (aw_bitA (fun j => decide (pc.getD (y * 24 + j) 0 = t)) i)), some (.int (Int32.ofNat i))]) (st' := []) (h1 := am_h w g) rfl (fun b39 => ?_) (fun b39 => ?_)
      · refine am_R.nxs 1 (pc' := 54) (lv' := [some (.ref 1001), x1, some (.int (Int32.ofNat y)), some (.int t), some (.ref (1007 + 4 * r)), some (.int (aw_bitA (fun j => decide (pc.getD (y * 24 + j) 0 = t)) i)), some (.int (Int32.ofNat i + 1))]) (st' := []) (h1 := am_h w g) rfl ?_
        rw [show (Int32.ofNat i + 1 : Int32) = Int32.ofNat (i + 1) from am_add i 1]
        refine am_R.nxs 1 (pc' := 21) (lv' := [some (.ref 1001), x1, some (.int (Int32.ofNat y)), some (.int t), some (.ref (1007 + 4 * r)), some (.int (aw_bitA (fun j => decide (pc.getD (y * 24 + j) 0 = t)) i)), some (.int (Int32.ofNat (i + 1)))]) (st' := []) (h1 := am_h w g) rfl ?_
        have e9 : (aw_bitA (fun j => decide (pc.getD (y * 24 + j) 0 = t)) (i + 1)) = (aw_bitA (fun j => decide (pc.getD (y * 24 + j) 0 = t)) i) := if_neg (by rw [decide_eq_true_eq]; first | exact b39 | exact fun q => q b39 | exact fun q => b39 q)
        rw [← e9]
        exact ih (i + 1) (by omega)
      · refine am_R.nxs 7 (pc' := 54) (lv' := [some (.ref 1001), x1, some (.int (Int32.ofNat y)), some (.int t), some (.ref (1007 + 4 * r)), some (.int ((aw_bitA (fun j => decide (pc.getD (y * 24 + j) 0 = t)) i) + (1 <<< (Int32.ofNat i &&& 31)))), some (.int (Int32.ofNat i + 1))]) (st' := []) (h1 := am_h w g) rfl ?_
        rw [show (Int32.ofNat i + 1 : Int32) = Int32.ofNat (i + 1) from am_add i 1]
        refine am_R.nxs 1 (pc' := 21) (lv' := [some (.ref 1001), x1, some (.int (Int32.ofNat y)), some (.int t), some (.ref (1007 + 4 * r)), some (.int ((aw_bitA (fun j => decide (pc.getD (y * 24 + j) 0 = t)) i) + (1 <<< (Int32.ofNat i &&& 31)))), some (.int (Int32.ofNat (i + 1)))]) (st' := []) (h1 := am_h w g) rfl ?_
        have e9 : (aw_bitA (fun j => decide (pc.getD (y * 24 + j) 0 = t)) (i + 1)) = (aw_bitA (fun j => decide (pc.getD (y * 24 + j) 0 = t)) i) + (1 <<< (Int32.ofNat i &&& 31)) := if_pos (decide_eq_true (by first | exact b39 | exact Decidable.not_not.mp b39))
        rw [← e9]
        exact ih (i + 1) (by omega)
theorem aw_k71a {w : Nat → am_C} {g : am_H} (d : Nat) {tl pl sp : Nat} (h1 : w 1 = aw_c1 tl pl sp) {rs : List Value} (h4 : w 4 = .inr (5, rs)) (hl : rs.length = 3) {k r : Nat} (hk : k < 3) (hr : r < 4) (hrs : rs[k]? = some (.ref (1005 + 4 * r))) {wc bc sc ic cc dp rd : Int32} (hT : w (5 + 4 * r) = aw_cT r wc bc sc ic cc dp rd) {pc : List Int32} (hP : w (7 + 4 * r) = am_I 0 pc) (hpl : pc.length = 576) {y : Nat} (hy : y < 24) (hd : rd = 1) (t : Int32) : am_R (d + 2) 71 0 [some (.ref 1001), some (.int (Int32.ofNat k)), some (.int (Int32.ofNat y)), some (.int t), none, none, none] [] (am_h w g) (.inl (some (.int (aw_bitA (fun j => decide (pc.getD (y * 24 + j) 0 = t)) 24)))) (am_h w g) := by
  refine am_R.nxs 2 (pc' := 2) (lv' := [some (.ref 1001), some (.int (Int32.ofNat k)), some (.int (Int32.ofNat y)), some (.int t), none, none, none]) (st' := [.int (Int32.ofNat y), .ref 1001]) (h1 := am_h w g) rfl ?_
  refine am_R.cv (a := 1001) (as' := [.int (Int32.ofNat y)]) (r := []) (v := none) (h1 := am_h w g) (pc' := 5) rfl rfl rfl rfl (am_wf 1 (by decide) h1) rfl rfl (aw_k68a (d + 1) _ _ (aw_nn y) ((am_ltN (n := 24) (by omega) (by decide)).mpr hy)) rfl ?_
  refine am_R.nxs 2 (pc' := 7) (lv' := [some (.ref 1001), some (.int (Int32.ofNat k)), some (.int (Int32.ofNat y)), some (.int t), none, none, none]) (st' := [.int (Int32.ofNat k), .ref 1001]) (h1 := am_h w g) rfl ?_
  refine am_R.cv (a := 1001) (as' := [.int (Int32.ofNat k)]) (r := []) (v := some (.ref (1005 + 4 * r))) (h1 := am_h w g) (pc' := 10) rfl rfl rfl rfl (am_wf 1 (by decide) h1) rfl rfl (aw_k69a d h1 h4 hl hk hr hrs hT hd) rfl ?_
  refine am_R.gf (pc' := 13) (v := .ref (1007 + 4 * r)) rfl (aw_at5 hr hT) rfl rfl rfl ?_
  refine am_R.nxs 5 (pc' := 21) (lv' := [some (.ref 1001), some (.int (Int32.ofNat k)), some (.int (Int32.ofNat y)), some (.int t), some (.ref (1007 + 4 * r)), some (.int 0), some (.int 0)]) (st' := []) (h1 := am_h w g) rfl ?_
  exact aw_k71l (d + 2) hr hP hpl hy t _ 24 0 rfl
theorem aw_k71b {w : Nat → am_C} {g : am_H} (d : Nat) {tl pl sp : Nat} (h1 : w 1 = aw_c1 tl pl sp) {rs : List Value} (h4 : w 4 = .inr (5, rs)) (hl : rs.length = 3) {k r : Nat} (hk : k < 3) (hr : r < 4) (hrs : rs[k]? = some (.ref (1005 + 4 * r))) {wc bc sc ic cc dp rd : Int32} (hT : w (5 + 4 * r) = aw_cT r wc bc sc ic cc dp rd) {y : Int32} (hy : ¬ y < 0 ∧ y < 24) (hd : rd = 0) (t : Int32) : am_R (d + 2) 71 0 [some (.ref 1001), some (.int (Int32.ofNat k)), some (.int y), some (.int t), none, none, none] [] (am_h w g) (.inr (1000 + (am_h w g).length)) (am_h w (g ++ [.inl (9, [])])) := by
  refine am_R.nxs 2 (pc' := 2) (lv' := [some (.ref 1001), some (.int (Int32.ofNat k)), some (.int y), some (.int t), none, none, none]) (st' := [.int y, .ref 1001]) (h1 := am_h w g) rfl ?_
  refine am_R.cv (a := 1001) (as' := [.int y]) (r := []) (v := none) (h1 := am_h w g) (pc' := 5) rfl rfl rfl rfl (am_wf 1 (by decide) h1) rfl rfl (aw_k68a (d + 1) _ _ hy.1 hy.2) rfl ?_
  refine am_R.nxs 2 (pc' := 7) (lv' := [some (.ref 1001), some (.int (Int32.ofNat k)), some (.int y), some (.int t), none, none, none]) (st' := [.int (Int32.ofNat k), .ref 1001]) (h1 := am_h w g) rfl ?_
  exact am_R.cvp (a := 1001) (as' := [.int (Int32.ofNat k)]) (r := []) rfl rfl rfl rfl (am_wf 1 (by decide) h1) rfl rfl (aw_k69b d h1 h4 hl hk hr hrs hT hd) rfl
theorem aw_k71c {w : Nat → am_C} {g : am_H} (d : Nat) {tl pl sp : Nat} (h1 : w 1 = aw_c1 tl pl sp) {y : Int32} (hy : ¬ y < 0 ∧ y < 24) {s : Int32} (t : Int32) (hs : s < 0 ∨ ¬ s < 3) : am_R (d + 2) 71 0 [some (.ref 1001), some (.int s), some (.int y), some (.int t), none, none, none] [] (am_h w g) (.inr (1000 + (am_h w g).length)) (am_h w (g ++ [.inl (8, [])])) := by
  refine am_R.nxs 2 (pc' := 2) (lv' := [some (.ref 1001), some (.int s), some (.int y), some (.int t), none, none, none]) (st' := [.int y, .ref 1001]) (h1 := am_h w g) rfl ?_
  refine am_R.cv (a := 1001) (as' := [.int y]) (r := []) (v := none) (h1 := am_h w g) (pc' := 5) rfl rfl rfl rfl (am_wf 1 (by decide) h1) rfl rfl (aw_k68a (d + 1) _ _ hy.1 hy.2) rfl ?_
  refine am_R.nxs 2 (pc' := 7) (lv' := [some (.ref 1001), some (.int s), some (.int y), some (.int t), none, none, none]) (st' := [.int s, .ref 1001]) (h1 := am_h w g) rfl ?_
  exact am_R.cvp (a := 1001) (as' := [.int s]) (r := []) rfl rfl rfl rfl (am_wf 1 (by decide) h1) rfl rfl (aw_k69c d h1 s hs) rfl
theorem aw_k71e {w : Nat → am_C} {g : am_H} (d : Nat) {tl pl sp : Nat} (h1 : w 1 = aw_c1 tl pl sp) {s y : Int32} (t : Int32) (hy : y < 0 ∨ ¬ y < 24) : am_R (d + 2) 71 0 [some (.ref 1001), some (.int s), some (.int y), some (.int t), none, none, none] [] (am_h w g) (.inr (1000 + (am_h w g).length)) (am_h w (g ++ [.inl (8, [])])) := by
  refine am_R.nxs 2 (pc' := 2) (lv' := [some (.ref 1001), some (.int s), some (.int y), some (.int t), none, none, none]) (st' := [.int y, .ref 1001]) (h1 := am_h w g) rfl ?_
  exact am_R.cvp (a := 1001) (as' := [.int y]) (r := []) rfl rfl rfl rfl (am_wf 1 (by decide) h1) rfl rfl (aw_k68b (d + 1) _ _ hy) rfl
theorem aw_k134l {w : Nat → am_C} {g : am_H} (d : Nat) {ft ty wr wd wt sn : Int32} (h21 : w 21 = aw_c21 ft ty wr wd wt sn) {pi : List Int32} (h28 : w 28 = am_I 0 pi) (l28 : pi.length = 1728) {k : Nat} (hk : k < 3) {y : Nat} (hy : y < 24) (t : Int32) : ∀ m i : Nat, i + m = 24 → am_R d 134 35 [some (.ref 1021), some (.int (Int32.ofNat k)), some (.int (Int32.ofNat y)), some (.int t), some (.int (aw_bitO (fun j => decide (pi.getD (576 * k + 24 * y + j) 0 = t)) i)), some (.int (Int32.ofNat i))] [] (am_h w g) (.inl (some (.int (aw_bitO (fun j => decide (pi.getD (576 * k + 24 * y + j) 0 = t)) 24)))) (am_h w g) := by
  intro m
  induction m with
  | zero =>
    intro i hi
    have hi9 : i = 24 := by omega
    subst hi9
    refine am_R.ites 3 (P := 24 ≤ Int32.ofNat 24) (T := 84) (F := 42) (lv' := [some (.ref 1021), some (.int (Int32.ofNat k)), some (.int (Int32.ofNat y)), some (.int t), some (.int (aw_bitO (fun j => decide (pi.getD (576 * k + 24 * y + j) 0 = t)) 24)), some (.int (Int32.ofNat 24))]) (st' := []) (h1 := am_h w g) rfl (fun b39 => ?_) (fun b39 => ?_)
    · have b39 : 24 ≤ 24 := (am_leN (i := 24) (n := 24) (by omega) (by omega)).mp b39
      refine am_R.nxs 1 (pc' := 86) (lv' := [some (.ref 1021), some (.int (Int32.ofNat k)), some (.int (Int32.ofNat y)), some (.int t), some (.int (aw_bitO (fun j => decide (pi.getD (576 * k + 24 * y + j) 0 = t)) 24)), some (.int (Int32.ofNat 24))]) (st' := [.int (aw_bitO (fun j => decide (pi.getD (576 * k + 24 * y + j) 0 = t)) 24)]) (h1 := am_h w g) rfl ?_
      exact am_R.reti rfl rfl rfl
    · have b39 : ¬ 24 ≤ 24 := fun hq9 => b39 ((am_leN (i := 24) (n := 24) (by omega) (by omega)).mpr hq9)
      omega
  | succ m ih =>
    intro i hi
    refine am_R.ites 3 (P := 24 ≤ Int32.ofNat i) (T := 84) (F := 42) (lv' := [some (.ref 1021), some (.int (Int32.ofNat k)), some (.int (Int32.ofNat y)), some (.int t), some (.int (aw_bitO (fun j => decide (pi.getD (576 * k + 24 * y + j) 0 = t)) i)), some (.int (Int32.ofNat i))]) (st' := []) (h1 := am_h w g) rfl (fun b39 => ?_) (fun b39 => ?_)
    · have b39 : 24 ≤ i := (am_leN (i := 24) (n := i) (by omega) (by omega)).mp b39
      omega
    · have b39 : ¬ 24 ≤ i := fun hq9 => b39 ((am_leN (i := 24) (n := i) (by omega) (by omega)).mpr hq9)
      refine am_R.nxs 1 (pc' := 43) (lv' := [some (.ref 1021), some (.int (Int32.ofNat k)), some (.int (Int32.ofNat y)), some (.int t), some (.int (aw_bitO (fun j => decide (pi.getD (576 * k + 24 * y + j) 0 = t)) i)), some (.int (Int32.ofNat i))]) (st' := [.ref 1021]) (h1 := am_h w g) rfl ?_
      refine am_R.gf (pc' := 46) (v := .ref 1028) rfl (am_wf 21 (by decide) h21) rfl rfl rfl ?_
      refine am_R.nxs 3 (pc' := 51) (lv' := [some (.ref 1021), some (.int (Int32.ofNat k)), some (.int (Int32.ofNat y)), some (.int t), some (.int (aw_bitO (fun j => decide (pi.getD (576 * k + 24 * y + j) 0 = t)) i)), some (.int (Int32.ofNat i))]) (st' := [.int (576 * Int32.ofNat k), .ref 1028]) (h1 := am_h w g) rfl ?_
      rw [show (576 * Int32.ofNat k : Int32) = Int32.ofNat (576 * k) from am_mul 576 k]
      refine am_R.nxs 3 (pc' := 55) (lv' := [some (.ref 1021), some (.int (Int32.ofNat k)), some (.int (Int32.ofNat y)), some (.int t), some (.int (aw_bitO (fun j => decide (pi.getD (576 * k + 24 * y + j) 0 = t)) i)), some (.int (Int32.ofNat i))]) (st' := [.int (24 * Int32.ofNat y), .int (Int32.ofNat (576 * k)), .ref 1028]) (h1 := am_h w g) rfl ?_
      rw [show (24 * Int32.ofNat y : Int32) = Int32.ofNat (24 * y) from am_mul 24 y]
      refine am_R.nxs 1 (pc' := 56) (lv' := [some (.ref 1021), some (.int (Int32.ofNat k)), some (.int (Int32.ofNat y)), some (.int t), some (.int (aw_bitO (fun j => decide (pi.getD (576 * k + 24 * y + j) 0 = t)) i)), some (.int (Int32.ofNat i))]) (st' := [.int (Int32.ofNat (576 * k) + Int32.ofNat (24 * y)), .ref 1028]) (h1 := am_h w g) rfl ?_
      rw [show (Int32.ofNat (576 * k) + Int32.ofNat (24 * y) : Int32) = Int32.ofNat ((576 * k) + (24 * y)) from am_add (576 * k) (24 * y)]
      refine am_R.nxs 2 (pc' := 59) (lv' := [some (.ref 1021), some (.int (Int32.ofNat k)), some (.int (Int32.ofNat y)), some (.int t), some (.int (aw_bitO (fun j => decide (pi.getD (576 * k + 24 * y + j) 0 = t)) i)), some (.int (Int32.ofNat i))]) (st' := [.int (Int32.ofNat ((576 * k) + (24 * y)) + Int32.ofNat i), .ref 1028]) (h1 := am_h w g) rfl ?_
      rw [show (Int32.ofNat ((576 * k) + (24 * y)) + Int32.ofNat i : Int32) = Int32.ofNat (((576 * k) + (24 * y)) + i) from am_add ((576 * k) + (24 * y)) i]
      refine am_R.ldi (i := (((576 * k) + (24 * y)) + i)) (xs := pi) (pc' := 60) rfl (am_wf 28 (by decide) h28) (by omega) (by omega) rfl ?_
      refine am_R.ites 2 (P := ¬ (pi.getD (((576 * k) + (24 * y)) + i) 0) = t) (T := 74) (F := 64) (lv' := [some (.ref 1021), some (.int (Int32.ofNat k)), some (.int (Int32.ofNat y)), some (.int t), some (.int (aw_bitO (fun j => decide (pi.getD (576 * k + 24 * y + j) 0 = t)) i)), some (.int (Int32.ofNat i))]) (st' := []) (h1 := am_h w g) rfl (fun b61 => ?_) (fun b61 => ?_)
      · refine am_R.nxs 3 (pc' := 81) (lv' := [some (.ref 1021), some (.int (Int32.ofNat k)), some (.int (Int32.ofNat y)), some (.int t), some (.int (aw_bitO (fun j => decide (pi.getD (576 * k + 24 * y + j) 0 = t)) i)), some (.int (Int32.ofNat i + 1))]) (st' := []) (h1 := am_h w g) rfl ?_
        rw [show (Int32.ofNat i + 1 : Int32) = Int32.ofNat (i + 1) from am_add i 1]
        refine am_R.nxs 1 (pc' := 35) (lv' := [some (.ref 1021), some (.int (Int32.ofNat k)), some (.int (Int32.ofNat y)), some (.int t), some (.int (aw_bitO (fun j => decide (pi.getD (576 * k + 24 * y + j) 0 = t)) i)), some (.int (Int32.ofNat (i + 1)))]) (st' := []) (h1 := am_h w g) rfl ?_
        have e9 : (aw_bitO (fun j => decide (pi.getD (576 * k + 24 * y + j) 0 = t)) (i + 1)) = (aw_bitO (fun j => decide (pi.getD (576 * k + 24 * y + j) 0 = t)) i) := if_neg (by rw [decide_eq_true_eq]; first | exact b61 | exact fun q => q b61 | exact fun q => b61 q)
        rw [← e9]
        exact ih (i + 1) (by omega)
      · refine am_R.nxs 8 (pc' := 81) (lv' := [some (.ref 1021), some (.int (Int32.ofNat k)), some (.int (Int32.ofNat y)), some (.int t), some (.int ((aw_bitO (fun j => decide (pi.getD (576 * k + 24 * y + j) 0 = t)) i) ||| (1 <<< (Int32.ofNat i &&& 31)))), some (.int (Int32.ofNat i + 1))]) (st' := []) (h1 := am_h w g) rfl ?_
        rw [show (Int32.ofNat i + 1 : Int32) = Int32.ofNat (i + 1) from am_add i 1]
        refine am_R.nxs 1 (pc' := 35) (lv' := [some (.ref 1021), some (.int (Int32.ofNat k)), some (.int (Int32.ofNat y)), some (.int t), some (.int ((aw_bitO (fun j => decide (pi.getD (576 * k + 24 * y + j) 0 = t)) i) ||| (1 <<< (Int32.ofNat i &&& 31)))), some (.int (Int32.ofNat (i + 1)))]) (st' := []) (h1 := am_h w g) rfl ?_
        have e9 : (aw_bitO (fun j => decide (pi.getD (576 * k + 24 * y + j) 0 = t)) (i + 1)) = (aw_bitO (fun j => decide (pi.getD (576 * k + 24 * y + j) 0 = t)) i) ||| (1 <<< (Int32.ofNat i &&& 31)) := if_pos (decide_eq_true (by first | exact b61 | exact Decidable.not_not.mp b61))
        rw [← e9]
        exact ih (i + 1) (by omega)
theorem aw_k134a {w : Nat → am_C} {g : am_H} (d : Nat) {ft ty wr wd wt sn : Int32} (h21 : w 21 = aw_c21 ft ty wr wd wt sn) {ma : List Int32} (h27 : w 27 = am_I 0 ma) (l27 : ma.length = 3) {pi : List Int32} (h28 : w 28 = am_I 0 pi) (l28 : pi.length = 1728) {k : Nat} (hk : k < 3) {y : Nat} (hy : y < 24) (hm : ¬ ma.getD k 0 = 0) (t : Int32) : am_R (d + 1) 134 0 [some (.ref 1021), some (.int (Int32.ofNat k)), some (.int (Int32.ofNat y)), some (.int t), none, none] [] (am_h w g) (.inl (some (.int (aw_bitO (fun j => decide (pi.getD (576 * k + 24 * y + j) 0 = t)) 24)))) (am_h (am_pu w 21 (aw_c21 0 ty wr wd wt sn)) g) := by
  refine am_R.ites 5 (P := Int32.ofNat y < 0) (T := 17) (F := 7) (lv' := [some (.ref 1021), some (.int (Int32.ofNat k)), some (.int (Int32.ofNat y)), some (.int t), none, none]) (st' := [.int (Int32.ofNat k), .ref 1021, .ref 1021]) (h1 := am_h w g) rfl (fun b4 => ?_) (fun b4 => ?_)
  · exact absurd b4 (aw_nn y)
  · refine am_R.ites 3 (P := 24 ≤ Int32.ofNat y) (T := 17) (F := 13) (lv' := [some (.ref 1021), some (.int (Int32.ofNat k)), some (.int (Int32.ofNat y)), some (.int t), none, none]) (st' := [.int (Int32.ofNat k), .ref 1021, .ref 1021]) (h1 := am_h w g) rfl (fun b10 => ?_) (fun b10 => ?_)
    · have b10 : 24 ≤ y := (am_leN (i := 24) (n := y) (by omega) (by omega)).mp b10
      omega
    · have b10 : ¬ 24 ≤ y := fun hq9 => b10 ((am_leN (i := 24) (n := y) (by omega) (by omega)).mpr hq9)
      refine am_R.nxs 2 (pc' := 18) (lv' := [some (.ref 1021), some (.int (Int32.ofNat k)), some (.int (Int32.ofNat y)), some (.int t), none, none]) (st' := [.int 1, .int (Int32.ofNat k), .ref 1021, .ref 1021]) (h1 := am_h w g) rfl ?_
      refine am_R.cv (a := 1021) (as' := [.int (Int32.ofNat k), .int 1]) (r := [.ref 1021]) (v := some (.int 0)) (h1 := am_h w g) (pc' := 21) rfl rfl rfl rfl (am_wf 21 (by decide) h21) rfl rfl (aw_k133a d h21 h27 l27 hk hm) rfl ?_
      refine am_R.cv (a := 1021) (as' := [.int 0]) (r := []) (v := some (.int 0)) (h1 := am_h (am_pu w 21 (aw_c21 0 ty wr wd wt sn)) g) (pc' := 24) rfl rfl rfl rfl (am_wf 21 (by decide) h21) rfl rfl (aw_k99a (w := w) d h21 0 (by decide)) rfl ?_
      refine am_R.ites 1 (P := 0 = 0) (T := 29) (F := 27) (lv' := [some (.ref 1021), some (.int (Int32.ofNat k)), some (.int (Int32.ofNat y)), some (.int t), none, none]) (st' := []) (h1 := am_h (am_pu w 21 (aw_c21 0 ty wr wd wt sn)) g) rfl (fun b24 => ?_) (fun b24 => ?_)
      · refine am_R.nxs 4 (pc' := 35) (lv' := [some (.ref 1021), some (.int (Int32.ofNat k)), some (.int (Int32.ofNat y)), some (.int t), some (.int 0), some (.int 0)]) (st' := []) (h1 := am_h (am_pu w 21 (aw_c21 0 ty wr wd wt sn)) g) rfl ?_
        exact aw_k134l (w := am_pu w 21 (aw_c21 0 ty wr wd wt sn)) (d + 1) rfl h28 l28 hk hy t 24 0 rfl
      · exact absurd rfl b24
theorem aw_k134b {w : Nat → am_C} {g : am_H} (d : Nat) {ft ty wr wd wt sn : Int32} (h21 : w 21 = aw_c21 ft ty wr wd wt sn) {ma : List Int32} (h27 : w 27 = am_I 0 ma) (l27 : ma.length = 3) {k : Nat} (hk : k < 3) {y : Int32} (hy : ¬ y < 0 ∧ y < 24) (hm : ma.getD k 0 = 0) (t : Int32) : am_R (d + 1) 134 0 [some (.ref 1021), some (.int (Int32.ofNat k)), some (.int y), some (.int t), none, none] [] (am_h w g) (.inl (some (.int 0))) (am_h (am_pu w 21 (aw_c21 2 ty wr wd wt sn)) g) := by
  refine am_R.ites 5 (P := y < 0) (T := 17) (F := 7) (lv' := [some (.ref 1021), some (.int (Int32.ofNat k)), some (.int y), some (.int t), none, none]) (st' := [.int (Int32.ofNat k), .ref 1021, .ref 1021]) (h1 := am_h w g) rfl (fun b4 => ?_) (fun b4 => ?_)
  · exact absurd b4 hy.1
  · refine am_R.ites 3 (P := 24 ≤ y) (T := 17) (F := 13) (lv' := [some (.ref 1021), some (.int (Int32.ofNat k)), some (.int y), some (.int t), none, none]) (st' := [.int (Int32.ofNat k), .ref 1021, .ref 1021]) (h1 := am_h w g) rfl (fun b10 => ?_) (fun b10 => ?_)
    · exact absurd hy.2 (Int32.not_lt.mpr b10)
    · refine am_R.nxs 2 (pc' := 18) (lv' := [some (.ref 1021), some (.int (Int32.ofNat k)), some (.int y), some (.int t), none, none]) (st' := [.int 1, .int (Int32.ofNat k), .ref 1021, .ref 1021]) (h1 := am_h w g) rfl ?_
      refine am_R.cv (a := 1021) (as' := [.int (Int32.ofNat k), .int 1]) (r := [.ref 1021]) (v := some (.int 2)) (h1 := am_h w g) (pc' := 21) rfl rfl rfl rfl (am_wf 21 (by decide) h21) rfl rfl (aw_k133b d h21 h27 l27 hk hm) rfl ?_
      refine am_R.cv (a := 1021) (as' := [.int 2]) (r := []) (v := some (.int 1)) (h1 := am_h (am_pu w 21 (aw_c21 2 ty wr wd wt sn)) g) (pc' := 24) rfl rfl rfl rfl (am_wf 21 (by decide) h21) rfl rfl (aw_k99b (w := w) d h21 2 (by decide)) rfl ?_
      refine am_R.ites 1 (P := 1 = 0) (T := 29) (F := 27) (lv' := [some (.ref 1021), some (.int (Int32.ofNat k)), some (.int y), some (.int t), none, none]) (st' := []) (h1 := am_h (am_pu w 21 (aw_c21 2 ty wr wd wt sn)) g) rfl (fun b24 => ?_) (fun b24 => ?_)
      · exact absurd b24 (by decide)
      · refine am_R.nxs 1 (pc' := 28) (lv' := [some (.ref 1021), some (.int (Int32.ofNat k)), some (.int y), some (.int t), none, none]) (st' := [.int 0]) (h1 := am_h (am_pu w 21 (aw_c21 2 ty wr wd wt sn)) g) rfl ?_
        exact am_R.reti rfl rfl rfl
theorem aw_k134c {w : Nat → am_C} {g : am_H} (d : Nat) {ft ty wr wd wt sn : Int32} (h21 : w 21 = aw_c21 ft ty wr wd wt sn) {y : Int32} (hy : ¬ y < 0 ∧ y < 24) {s : Int32} (t : Int32) (hs : s < 0 ∨ 2 < s) : am_R (d + 1) 134 0 [some (.ref 1021), some (.int s), some (.int y), some (.int t), none, none] [] (am_h w g) (.inl (some (.int 0))) (am_h (am_pu w 21 (aw_c21 1 ty wr wd wt sn)) g) := by
  refine am_R.ites 5 (P := y < 0) (T := 17) (F := 7) (lv' := [some (.ref 1021), some (.int s), some (.int y), some (.int t), none, none]) (st' := [.int s, .ref 1021, .ref 1021]) (h1 := am_h w g) rfl (fun b4 => ?_) (fun b4 => ?_)
  · exact absurd b4 hy.1
  · refine am_R.ites 3 (P := 24 ≤ y) (T := 17) (F := 13) (lv' := [some (.ref 1021), some (.int s), some (.int y), some (.int t), none, none]) (st' := [.int s, .ref 1021, .ref 1021]) (h1 := am_h w g) rfl (fun b10 => ?_) (fun b10 => ?_)
    · exact absurd hy.2 (Int32.not_lt.mpr b10)
    · refine am_R.nxs 2 (pc' := 18) (lv' := [some (.ref 1021), some (.int s), some (.int y), some (.int t), none, none]) (st' := [.int 1, .int s, .ref 1021, .ref 1021]) (h1 := am_h w g) rfl ?_
      refine am_R.cv (a := 1021) (as' := [.int s, .int 1]) (r := [.ref 1021]) (v := some (.int 1)) (h1 := am_h w g) (pc' := 21) rfl rfl rfl rfl (am_wf 21 (by decide) h21) rfl rfl (aw_k133c d h21 s 1 (hs.elim Or.inl (fun q => Or.inr (Or.inl q)))) rfl ?_
      refine am_R.cv (a := 1021) (as' := [.int 1]) (r := []) (v := some (.int 1)) (h1 := am_h (am_pu w 21 (aw_c21 1 ty wr wd wt sn)) g) (pc' := 24) rfl rfl rfl rfl (am_wf 21 (by decide) h21) rfl rfl (aw_k99b (w := w) d h21 1 (by decide)) rfl ?_
      refine am_R.ites 1 (P := 1 = 0) (T := 29) (F := 27) (lv' := [some (.ref 1021), some (.int s), some (.int y), some (.int t), none, none]) (st' := []) (h1 := am_h (am_pu w 21 (aw_c21 1 ty wr wd wt sn)) g) rfl (fun b24 => ?_) (fun b24 => ?_)
      · exact absurd b24 (by decide)
      · refine am_R.nxs 1 (pc' := 28) (lv' := [some (.ref 1021), some (.int s), some (.int y), some (.int t), none, none]) (st' := [.int 0]) (h1 := am_h (am_pu w 21 (aw_c21 1 ty wr wd wt sn)) g) rfl ?_
        exact am_R.reti rfl rfl rfl
theorem aw_k134e {w : Nat → am_C} {g : am_H} (d : Nat) {ft ty wr wd wt sn : Int32} (h21 : w 21 = aw_c21 ft ty wr wd wt sn) {s y : Int32} (t : Int32) (hy : y < 0 ∨ ¬ y < 24) : am_R (d + 1) 134 0 [some (.ref 1021), some (.int s), some (.int y), some (.int t), none, none] [] (am_h w g) (.inl (some (.int 0))) (am_h (am_pu w 21 (aw_c21 1 ty wr wd wt sn)) g) := by
  refine am_R.ites 5 (P := y < 0) (T := 17) (F := 7) (lv' := [some (.ref 1021), some (.int s), some (.int y), some (.int t), none, none]) (st' := [.int s, .ref 1021, .ref 1021]) (h1 := am_h w g) rfl (fun b4 => ?_) (fun b4 => ?_)
  · refine am_R.nxs 1 (pc' := 18) (lv' := [some (.ref 1021), some (.int s), some (.int y), some (.int t), none, none]) (st' := [.int 0, .int s, .ref 1021, .ref 1021]) (h1 := am_h w g) rfl ?_
    refine am_R.cv (a := 1021) (as' := [.int s, .int 0]) (r := [.ref 1021]) (v := some (.int 1)) (h1 := am_h w g) (pc' := 21) rfl rfl rfl rfl (am_wf 21 (by decide) h21) rfl rfl (aw_k133c d h21 s 0 (Or.inr (Or.inr rfl))) rfl ?_
    refine am_R.cv (a := 1021) (as' := [.int 1]) (r := []) (v := some (.int 1)) (h1 := am_h (am_pu w 21 (aw_c21 1 ty wr wd wt sn)) g) (pc' := 24) rfl rfl rfl rfl (am_wf 21 (by decide) h21) rfl rfl (aw_k99b (w := w) d h21 1 (by decide)) rfl ?_
    refine am_R.ites 1 (P := 1 = 0) (T := 29) (F := 27) (lv' := [some (.ref 1021), some (.int s), some (.int y), some (.int t), none, none]) (st' := []) (h1 := am_h (am_pu w 21 (aw_c21 1 ty wr wd wt sn)) g) rfl (fun b24 => ?_) (fun b24 => ?_)
    · exact absurd b24 (by decide)
    · refine am_R.nxs 1 (pc' := 28) (lv' := [some (.ref 1021), some (.int s), some (.int y), some (.int t), none, none]) (st' := [.int 0]) (h1 := am_h (am_pu w 21 (aw_c21 1 ty wr wd wt sn)) g) rfl ?_
      exact am_R.reti rfl rfl rfl
  · refine am_R.ites 3 (P := 24 ≤ y) (T := 17) (F := 13) (lv' := [some (.ref 1021), some (.int s), some (.int y), some (.int t), none, none]) (st' := [.int s, .ref 1021, .ref 1021]) (h1 := am_h w g) rfl (fun b10 => ?_) (fun b10 => ?_)
    · refine am_R.nxs 1 (pc' := 18) (lv' := [some (.ref 1021), some (.int s), some (.int y), some (.int t), none, none]) (st' := [.int 0, .int s, .ref 1021, .ref 1021]) (h1 := am_h w g) rfl ?_
      refine am_R.cv (a := 1021) (as' := [.int s, .int 0]) (r := [.ref 1021]) (v := some (.int 1)) (h1 := am_h w g) (pc' := 21) rfl rfl rfl rfl (am_wf 21 (by decide) h21) rfl rfl (aw_k133c d h21 s 0 (Or.inr (Or.inr rfl))) rfl ?_
      refine am_R.cv (a := 1021) (as' := [.int 1]) (r := []) (v := some (.int 1)) (h1 := am_h (am_pu w 21 (aw_c21 1 ty wr wd wt sn)) g) (pc' := 24) rfl rfl rfl rfl (am_wf 21 (by decide) h21) rfl rfl (aw_k99b (w := w) d h21 1 (by decide)) rfl ?_
      refine am_R.ites 1 (P := 1 = 0) (T := 29) (F := 27) (lv' := [some (.ref 1021), some (.int s), some (.int y), some (.int t), none, none]) (st' := []) (h1 := am_h (am_pu w 21 (aw_c21 1 ty wr wd wt sn)) g) rfl (fun b24 => ?_) (fun b24 => ?_)
      · exact absurd b24 (by decide)
      · refine am_R.nxs 1 (pc' := 28) (lv' := [some (.ref 1021), some (.int s), some (.int y), some (.int t), none, none]) (st' := [.int 0]) (h1 := am_h (am_pu w 21 (aw_c21 1 ty wr wd wt sn)) g) rfl ?_
        exact am_R.reti rfl rfl rfl
    · exact absurd hy (fun q => q.elim b4 (fun q => q (Int32.not_le.mp b10)))
set_option maxRecDepth 100000 in
theorem aw_o4 : aw_Op 288 := by
  intro d i w g x5 x6 xs hI h0 hi hx
  obtain ⟨tl, pl, sp, ft, wd, wt, sn, h1, h21, hT, hP, hS, hC, u, hO⟩ := hI
  by_cases hy1 : xs.getD (i + 2) 0 < 0 ∨ ¬ xs.getD (i + 2) 0 < 24
  · refine ⟨am_pu w 21 (aw_c21 1 (Int32.ofNat tl) (Int32.ofNat pl) wd wt sn), g ++ [.inl (8, [])], some (.int 1), some (.int 0), ⟨tl, pl, sp, 1, wd, wt, sn, h1, rfl, hT, hP, aw_Shs_up (by omega) hS, hC, u, hO⟩, h0, by simp, aw_sz1 rfl, fun o h' K => ?_⟩
    exact aw_L4 d i x5 x6 h0 hi hx (aw_W70t8 (d + 38) h1 _ _ _ (aw_k71e (d + 36) h1 _ hy1)) h0 h21 (aw_k134e (d + 38) h21 _ hy1) rfl (fun q => absurd q (by decide)) K
  by_cases hs : xs.getD (i + 1) 0 < 0 ∨ ¬ xs.getD (i + 1) 0 < 3
  · refine ⟨am_pu w 21 (aw_c21 1 (Int32.ofNat tl) (Int32.ofNat pl) wd wt sn), g ++ [.inl (8, [])], some (.int 1), some (.int 0), ⟨tl, pl, sp, 1, wd, wt, sn, h1, rfl, hT, hP, aw_Shs_up (by omega) hS, hC, u, hO⟩, h0, by simp, aw_sz1 rfl, fun o h' K => ?_⟩
    exact aw_L4 d i x5 x6 h0 hi hx (aw_W70t8 (d + 38) h1 _ _ _ (aw_k71c (d + 36) h1 (aw_bad24 hy1) _ hs)) h0 h21 (aw_k134c (d + 38) h21 (aw_bad24 hy1) _ (aw_gt2 hs)) rfl (fun q => absurd q (by decide)) K
  · obtain ⟨k, hk, hke⟩ := aw_sh3 hs
    obtain ⟨rs, r, to, ma, pi, br, bk, co, h4, hl, hr, hrs, ⟨m1, m2, m3, m4, m5, m6, m7, m8, m9, m10, m11, m12⟩, wc, bc, sc, ic, cc, dp, rd, ws, pc, bw, ⟨t1, t2, t3, t4, t5, t6, t7⟩, hsh⟩ := aw_get hS hk
    rcases hsh with ⟨hd, hm⟩ | ⟨hd, js, b, j1, j2, j3, j4, j5, j6, b1, b2, b3, b4, q1, q2, q3, q4, q5⟩
    · refine ⟨am_pu w 21 (aw_c21 2 (Int32.ofNat tl) (Int32.ofNat pl) wd wt sn), g ++ [.inl (9, [])], some (.int 2), some (.int 0), ⟨tl, pl, sp, 2, wd, wt, sn, h1, rfl, hT, hP, aw_Shs_up (by omega) hS, hC, u, hO⟩, h0, by simp, aw_sz1 rfl, fun o h' K => ?_⟩
      exact aw_L4 d i x5 x6 h0 hi hx (aw_W70t9 (d + 38) h1 _ _ _ (by rw [hke]; exact aw_k71b (d + 36) h1 h4 hl hk hr hrs t1 (aw_bad24 hy1) hd _)) h0 h21 (by rw [hke]; exact aw_k134b (d + 38) h21 m2 m8 hk (aw_bad24 hy1) hm _) rfl (fun q => absurd q (by decide)) K
    · obtain ⟨y, hyl, hye⟩ := aw_pl24 (aw_bad24 hy1)
      have e6 : aw_bitA (fun j => decide (pc.getD (y * 24 + j) 0 = xs.getD (i + 3) 0)) 24 = aw_bitO (fun j => decide (pi.getD (576 * k + 24 * y + j) 0 = xs.getD (i + 3) 0)) 24 := by
        rw [aw_bit_eq _ 24 (by decide)]
        exact aw_bitO_cong (fun j hj => by rw [j6 _ (by omega), show 576 * k + (y * 24 + j) = 576 * k + 24 * y + j by omega])
      refine ⟨am_pu (am_pu w 44 (.inr (3, [.long (aw_bitA (fun j => decide (pc.getD (y * 24 + j) 0 = xs.getD (i + 3) 0)) 24).toInt64]))) 21 (aw_c21 0 (Int32.ofNat tl) (Int32.ofNat pl) wd wt sn), g, some (.int 0), some (.int (aw_bitA (fun j => decide (pc.getD (y * 24 + j) 0 = xs.getD (i + 3) 0)) 24)), ⟨tl, pl, sp, 0, wd, wt, sn, h1, rfl, hT, hP, aw_Shs_up (by omega) (aw_Shs_up (by omega) hS), hC, _, rfl⟩, h0, by omega, by omega, fun o h' K => ?_⟩
      exact aw_L4 d i x5 x6 h0 hi hx (aw_W70a (d + 38) h1 _ _ _ (by rw [hke, hye]; exact aw_k71a (d + 36) h1 h4 hl hk hr hrs t1 t3 t6 hyl hd _) hO) h0 h21 (by rw [hke, hye, e6]; exact aw_k134a (w := am_pu w 44 _) (d + 38) h21 m2 m8 m3 m9 hk hyl (by rw [j4]; exact aw_nz j1 j2) _) rfl (fun _ => rfl) K
theorem aw_k75l {w : Nat → am_C} {g : am_H} (d : Nat) {r : Nat} (hr : r < 4) {pc : List Int32} (hP : w (7 + 4 * r) = am_I 0 pc) (hpl : pc.length = 576) {q : Nat} (hq : q < 4) {pd : List Int32} (hP1 : w (7 + 4 * q) = am_I 0 pd) (hpl1 : pd.length = 576) (x1 x2 : Option Value) : ∀ m i : Nat, i + m = 576 → am_R d 75 35 [some (.ref 1001), x1, x2, some (.ref (1007 + 4 * r)), some (.ref (1007 + 4 * q)), some (.int (aw_cnt (fun z => decide (¬ pc.getD z 0 = pd.getD z 0)) i)), some (.int (Int32.ofNat i))] [] (am_h w g) (.inl (some (.int (aw_cnt (fun z => decide (¬ pc.getD z 0 = pd.getD z 0)) 576)))) (am_h w g) := by
  intro m
  induction m with
  | zero =>
    intro i hi
    have hi9 : i = 576 := by omega
    subst hi9
    refine am_R.ites 3 (P := 576 ≤ Int32.ofNat 576) (T := 64) (F := 43) (lv' := [some (.ref 1001), x1, x2, some (.ref (1007 + 4 * r)), some (.ref (1007 + 4 * q)), some (.int (aw_cnt (fun z => decide (¬ pc.getD z 0 = pd.getD z 0)) 576)), some (.int (Int32.ofNat 576))]) (st' := []) (h1 := am_h w g) rfl (fun b40 => ?_) (fun b40 => ?_)
    · have b40 : 576 ≤ 576 := (am_leN (i := 576) (n := 576) (by omega) (by omega)).mp b40
      refine am_R.nxs 1 (pc' := 66) (lv' := [some (.ref 1001), x1, x2, some (.ref (1007 + 4 * r)), some (.ref (1007 + 4 * q)), some (.int (aw_cnt (fun z => decide (¬ pc.getD z 0 = pd.getD z 0)) 576)), some (.int (Int32.ofNat 576))]) (st' := [.int (aw_cnt (fun z => decide (¬ pc.getD z 0 = pd.getD z 0)) 576)]) (h1 := am_h w g) rfl ?_
      exact am_R.reti rfl rfl rfl
    · have b40 : ¬ 576 ≤ 576 := fun hq9 => b40 ((am_leN (i := 576) (n := 576) (by omega) (by omega)).mpr hq9)
      omega
  | succ m ih =>
    intro i hi
    refine am_R.ites 3 (P := 576 ≤ Int32.ofNat i) (T := 64) (F := 43) (lv' := [some (.ref 1001), x1, x2, some (.ref (1007 + 4 * r)), some (.ref (1007 + 4 * q)), some (.int (aw_cnt (fun z => decide (¬ pc.getD z 0 = pd.getD z 0)) i)), some (.int (Int32.ofNat i))]) (st' := []) (h1 := am_h w g) rfl (fun b40 => ?_) (fun b40 => ?_)
    · have b40 : 576 ≤ i := (am_leN (i := 576) (n := i) (by omega) (by omega)).mp b40
      omega
    · have b40 : ¬ 576 ≤ i := fun hq9 => b40 ((am_leN (i := 576) (n := i) (by omega) (by omega)).mpr hq9)
      refine am_R.nxs 2 (pc' := 46) (lv' := [some (.ref 1001), x1, x2, some (.ref (1007 + 4 * r)), some (.ref (1007 + 4 * q)), some (.int (aw_cnt (fun z => decide (¬ pc.getD z 0 = pd.getD z 0)) i)), some (.int (Int32.ofNat i))]) (st' := [.int (Int32.ofNat i), .ref (1007 + 4 * r)]) (h1 := am_h w g) rfl ?_
      refine am_R.ldi (i := i) (xs := pc) (pc' := 47) rfl (aw_at7 hr hP) (by omega) (by omega) rfl ?_
      refine am_R.nxs 2 (pc' := 51) (lv' := [some (.ref 1001), x1, x2, some (.ref (1007 + 4 * r)), some (.ref (1007 + 4 * q)), some (.int (aw_cnt (fun z => decide (¬ pc.getD z 0 = pd.getD z 0)) i)), some (.int (Int32.ofNat i))]) (st' := [.int (Int32.ofNat i), .ref (1007 + 4 * q), .int (pc.getD i 0)]) (h1 := am_h w g) rfl ?_
      refine am_R.ldi (i := i) (xs := pd) (pc' := 52) rfl (aw_at7 hq hP1) (by omega) (by omega) rfl ?_
      refine am_R.ites 1 (P := (pc.getD i 0) = (pd.getD i 0)) (T := 58) (F := 55) (lv' := [some (.ref 1001), x1, x2, some (.ref (1007 + 4 * r)), some (.ref (1007 + 4 * q)), some (.int (aw_cnt (fun z => decide (¬ pc.getD z 0 = pd.getD z 0)) i)), some (.int (Int32.ofNat i))]) (st' := []) (h1 := am_h w g) rfl (fun b52 => ?_) (fun b52 => ?_)
      · refine am_R.nxs 1 (pc' := 61) (lv' := [some (.ref 1001), x1, x2, some (.ref (1007 + 4 * r)), some (.ref (1007 + 4 * q)), some (.int (aw_cnt (fun z => decide (¬ pc.getD z 0 = pd.getD z 0)) i)), some (.int (Int32.ofNat i + 1))]) (st' := []) (h1 := am_h w g) rfl ?_
        rw [show (Int32.ofNat i + 1 : Int32) = Int32.ofNat (i + 1) from am_add i 1]
        refine am_R.nxs 1 (pc' := 35) (lv' := [some (.ref 1001), x1, x2, some (.ref (1007 + 4 * r)), some (.ref (1007 + 4 * q)), some (.int (aw_cnt (fun z => decide (¬ pc.getD z 0 = pd.getD z 0)) i)), some (.int (Int32.ofNat (i + 1)))]) (st' := []) (h1 := am_h w g) rfl ?_
        have e9 : (aw_cnt (fun z => decide (¬ pc.getD z 0 = pd.getD z 0)) (i + 1)) = (aw_cnt (fun z => decide (¬ pc.getD z 0 = pd.getD z 0)) i) := if_neg (by rw [decide_eq_true_eq]; first | exact b52 | exact fun q => q b52 | exact fun q => b52 q)
        rw [← e9]
        exact ih (i + 1) (by omega)
      · refine am_R.nxs 2 (pc' := 61) (lv' := [some (.ref 1001), x1, x2, some (.ref (1007 + 4 * r)), some (.ref (1007 + 4 * q)), some (.int ((aw_cnt (fun z => decide (¬ pc.getD z 0 = pd.getD z 0)) i) + 1)), some (.int (Int32.ofNat i + 1))]) (st' := []) (h1 := am_h w g) rfl ?_
        rw [show (Int32.ofNat i + 1 : Int32) = Int32.ofNat (i + 1) from am_add i 1]
        refine am_R.nxs 1 (pc' := 35) (lv' := [some (.ref 1001), x1, x2, some (.ref (1007 + 4 * r)), some (.ref (1007 + 4 * q)), some (.int ((aw_cnt (fun z => decide (¬ pc.getD z 0 = pd.getD z 0)) i) + 1)), some (.int (Int32.ofNat (i + 1)))]) (st' := []) (h1 := am_h w g) rfl ?_
        have e9 : (aw_cnt (fun z => decide (¬ pc.getD z 0 = pd.getD z 0)) (i + 1)) = (aw_cnt (fun z => decide (¬ pc.getD z 0 = pd.getD z 0)) i) + 1 := if_pos (decide_eq_true (by first | exact b52 | exact Decidable.not_not.mp b52))
        rw [← e9]
        exact ih (i + 1) (by omega)
theorem aw_k75a {w : Nat → am_C} {g : am_H} (d : Nat) {tl pl sp : Nat} (h1 : w 1 = aw_c1 tl pl sp) {rs : List Value} (h4 : w 4 = .inr (5, rs)) (hl : rs.length = 3) {k r : Nat} (hk : k < 3) (hr : r < 4) (hrs : rs[k]? = some (.ref (1005 + 4 * r))) {j q : Nat} (hj : j < 3) (hq : q < 4) (hqs : rs[j]? = some (.ref (1005 + 4 * q))) {wc bc sc ic cc dp rd : Int32} (hT : w (5 + 4 * r) = aw_cT r wc bc sc ic cc dp rd) {wc1 bc1 sc1 ic1 cc1 dp1 rd1 : Int32} (hT1 : w (5 + 4 * q) = aw_cT q wc1 bc1 sc1 ic1 cc1 dp1 rd1) {pc : List Int32} (hP : w (7 + 4 * r) = am_I 0 pc) (hpl : pc.length = 576) {pd : List Int32} (hP1 : w (7 + 4 * q) = am_I 0 pd) (hpl1 : pd.length = 576) (hd : rd = 1) (hd1 : rd1 = 1) : am_R (d + 2) 75 0 [some (.ref 1001), some (.int (Int32.ofNat k)), some (.int (Int32.ofNat j)), none, none, none, none] [] (am_h w g) (.inl (some (.int (aw_cnt (fun z => decide (¬ pc.getD z 0 = pd.getD z 0)) 576)))) (am_h w g) := by
  refine am_R.nxs 2 (pc' := 2) (lv' := [some (.ref 1001), some (.int (Int32.ofNat k)), some (.int (Int32.ofNat j)), none, none, none, none]) (st' := [.int (Int32.ofNat k), .ref 1001]) (h1 := am_h w g) rfl ?_
  refine am_R.cv (a := 1001) (as' := [.int (Int32.ofNat k)]) (r := []) (v := none) (h1 := am_h w g) (pc' := 5) rfl rfl rfl rfl (am_wf 1 (by decide) h1) rfl rfl (aw_k9a (d + 1) _ _ (aw_nn k) ((am_ltN (n := 3) (by omega) (by decide)).mpr hk)) rfl ?_
  refine am_R.nxs 2 (pc' := 7) (lv' := [some (.ref 1001), some (.int (Int32.ofNat k)), some (.int (Int32.ofNat j)), none, none, none, none]) (st' := [.int (Int32.ofNat j), .ref 1001]) (h1 := am_h w g) rfl ?_
  refine am_R.cv (a := 1001) (as' := [.int (Int32.ofNat j)]) (r := []) (v := none) (h1 := am_h w g) (pc' := 10) rfl rfl rfl rfl (am_wf 1 (by decide) h1) rfl rfl (aw_k9a (d + 1) _ _ (aw_nn j) ((am_ltN (n := 3) (by omega) (by decide)).mpr hj)) rfl ?_
  refine am_R.nxs 2 (pc' := 12) (lv' := [some (.ref 1001), some (.int (Int32.ofNat k)), some (.int (Int32.ofNat j)), none, none, none, none]) (st' := [.int (Int32.ofNat k), .ref 1001]) (h1 := am_h w g) rfl ?_
  refine am_R.cv (a := 1001) (as' := [.int (Int32.ofNat k)]) (r := []) (v := some (.ref (1005 + 4 * r))) (h1 := am_h w g) (pc' := 15) rfl rfl rfl rfl (am_wf 1 (by decide) h1) rfl rfl (aw_k69a d h1 h4 hl hk hr hrs hT hd) rfl ?_
  refine am_R.gf (pc' := 18) (v := .ref (1007 + 4 * r)) rfl (aw_at5 hr hT) rfl rfl rfl ?_
  refine am_R.nxs 3 (pc' := 21) (lv' := [some (.ref 1001), some (.int (Int32.ofNat k)), some (.int (Int32.ofNat j)), some (.ref (1007 + 4 * r)), none, none, none]) (st' := [.int (Int32.ofNat j), .ref 1001]) (h1 := am_h w g) rfl ?_
  refine am_R.cv (a := 1001) (as' := [.int (Int32.ofNat j)]) (r := []) (v := some (.ref (1005 + 4 * q))) (h1 := am_h w g) (pc' := 24) rfl rfl rfl rfl (am_wf 1 (by decide) h1) rfl rfl (aw_k69a d h1 h4 hl hj hq hqs hT1 hd1) rfl ?_
  refine am_R.gf (pc' := 27) (v := .ref (1007 + 4 * q)) rfl (aw_at5 hq hT1) rfl rfl rfl ?_
  refine am_R.nxs 5 (pc' := 35) (lv' := [some (.ref 1001), some (.int (Int32.ofNat k)), some (.int (Int32.ofNat j)), some (.ref (1007 + 4 * r)), some (.ref (1007 + 4 * q)), some (.int 0), some (.int 0)]) (st' := []) (h1 := am_h w g) rfl ?_
  exact aw_k75l (d + 2) hr hP hpl hq hP1 hpl1 _ _ 576 0 rfl
theorem aw_k75b {w : Nat → am_C} {g : am_H} (d : Nat) {tl pl sp : Nat} (h1 : w 1 = aw_c1 tl pl sp) {rs : List Value} (h4 : w 4 = .inr (5, rs)) (hl : rs.length = 3) {k r : Nat} (hk : k < 3) (hr : r < 4) (hrs : rs[k]? = some (.ref (1005 + 4 * r))) {wc bc sc ic cc dp rd : Int32} (hT : w (5 + 4 * r) = aw_cT r wc bc sc ic cc dp rd) {j : Nat} (hj : j < 3) (hd : rd = 0) : am_R (d + 2) 75 0 [some (.ref 1001), some (.int (Int32.ofNat k)), some (.int (Int32.ofNat j)), none, none, none, none] [] (am_h w g) (.inr (1000 + (am_h w g).length)) (am_h w (g ++ [.inl (9, [])])) := by
  refine am_R.nxs 2 (pc' := 2) (lv' := [some (.ref 1001), some (.int (Int32.ofNat k)), some (.int (Int32.ofNat j)), none, none, none, none]) (st' := [.int (Int32.ofNat k), .ref 1001]) (h1 := am_h w g) rfl ?_
  refine am_R.cv (a := 1001) (as' := [.int (Int32.ofNat k)]) (r := []) (v := none) (h1 := am_h w g) (pc' := 5) rfl rfl rfl rfl (am_wf 1 (by decide) h1) rfl rfl (aw_k9a (d + 1) _ _ (aw_nn k) ((am_ltN (n := 3) (by omega) (by decide)).mpr hk)) rfl ?_
  refine am_R.nxs 2 (pc' := 7) (lv' := [some (.ref 1001), some (.int (Int32.ofNat k)), some (.int (Int32.ofNat j)), none, none, none, none]) (st' := [.int (Int32.ofNat j), .ref 1001]) (h1 := am_h w g) rfl ?_
  refine am_R.cv (a := 1001) (as' := [.int (Int32.ofNat j)]) (r := []) (v := none) (h1 := am_h w g) (pc' := 10) rfl rfl rfl rfl (am_wf 1 (by decide) h1) rfl rfl (aw_k9a (d + 1) _ _ (aw_nn j) ((am_ltN (n := 3) (by omega) (by decide)).mpr hj)) rfl ?_
  refine am_R.nxs 2 (pc' := 12) (lv' := [some (.ref 1001), some (.int (Int32.ofNat k)), some (.int (Int32.ofNat j)), none, none, none, none]) (st' := [.int (Int32.ofNat k), .ref 1001]) (h1 := am_h w g) rfl ?_
  exact am_R.cvp (a := 1001) (as' := [.int (Int32.ofNat k)]) (r := []) rfl rfl rfl rfl (am_wf 1 (by decide) h1) rfl rfl (aw_k69b d h1 h4 hl hk hr hrs hT hd) rfl
theorem aw_k75f {w : Nat → am_C} {g : am_H} (d : Nat) {tl pl sp : Nat} (h1 : w 1 = aw_c1 tl pl sp) {rs : List Value} (h4 : w 4 = .inr (5, rs)) (hl : rs.length = 3) {k r : Nat} (hk : k < 3) (hr : r < 4) (hrs : rs[k]? = some (.ref (1005 + 4 * r))) {j q : Nat} (hj : j < 3) (hq : q < 4) (hqs : rs[j]? = some (.ref (1005 + 4 * q))) {wc bc sc ic cc dp rd : Int32} (hT : w (5 + 4 * r) = aw_cT r wc bc sc ic cc dp rd) {wc1 bc1 sc1 ic1 cc1 dp1 rd1 : Int32} (hT1 : w (5 + 4 * q) = aw_cT q wc1 bc1 sc1 ic1 cc1 dp1 rd1) (hd : rd = 1) (hd1 : rd1 = 0) : am_R (d + 2) 75 0 [some (.ref 1001), some (.int (Int32.ofNat k)), some (.int (Int32.ofNat j)), none, none, none, none] [] (am_h w g) (.inr (1000 + (am_h w g).length)) (am_h w (g ++ [.inl (9, [])])) := by
  refine am_R.nxs 2 (pc' := 2) (lv' := [some (.ref 1001), some (.int (Int32.ofNat k)), some (.int (Int32.ofNat j)), none, none, none, none]) (st' := [.int (Int32.ofNat k), .ref 1001]) (h1 := am_h w g) rfl ?_
  refine am_R.cv (a := 1001) (as' := [.int (Int32.ofNat k)]) (r := []) (v := none) (h1 := am_h w g) (pc' := 5) rfl rfl rfl rfl (am_wf 1 (by decide) h1) rfl rfl (aw_k9a (d + 1) _ _ (aw_nn k) ((am_ltN (n := 3) (by omega) (by decide)).mpr hk)) rfl ?_
  refine am_R.nxs 2 (pc' := 7) (lv' := [some (.ref 1001), some (.int (Int32.ofNat k)), some (.int (Int32.ofNat j)), none, none, none, none]) (st' := [.int (Int32.ofNat j), .ref 1001]) (h1 := am_h w g) rfl ?_
  refine am_R.cv (a := 1001) (as' := [.int (Int32.ofNat j)]) (r := []) (v := none) (h1 := am_h w g) (pc' := 10) rfl rfl rfl rfl (am_wf 1 (by decide) h1) rfl rfl (aw_k9a (d + 1) _ _ (aw_nn j) ((am_ltN (n := 3) (by omega) (by decide)).mpr hj)) rfl ?_
  refine am_R.nxs 2 (pc' := 12) (lv' := [some (.ref 1001), some (.int (Int32.ofNat k)), some (.int (Int32.ofNat j)), none, none, none, none]) (st' := [.int (Int32.ofNat k), .ref 1001]) (h1 := am_h w g) rfl ?_
  refine am_R.cv (a := 1001) (as' := [.int (Int32.ofNat k)]) (r := []) (v := some (.ref (1005 + 4 * r))) (h1 := am_h w g) (pc' := 15) rfl rfl rfl rfl (am_wf 1 (by decide) h1) rfl rfl (aw_k69a d h1 h4 hl hk hr hrs hT hd) rfl ?_
  refine am_R.gf (pc' := 18) (v := .ref (1007 + 4 * r)) rfl (aw_at5 hr hT) rfl rfl rfl ?_
  refine am_R.nxs 3 (pc' := 21) (lv' := [some (.ref 1001), some (.int (Int32.ofNat k)), some (.int (Int32.ofNat j)), some (.ref (1007 + 4 * r)), none, none, none]) (st' := [.int (Int32.ofNat j), .ref 1001]) (h1 := am_h w g) rfl ?_
  exact am_R.cvp (a := 1001) (as' := [.int (Int32.ofNat j)]) (r := []) rfl rfl rfl rfl (am_wf 1 (by decide) h1) rfl rfl (aw_k69b d h1 h4 hl hj hq hqs hT1 hd1) rfl
theorem aw_k75c {w : Nat → am_C} {g : am_H} (d : Nat) {tl pl sp : Nat} (h1 : w 1 = aw_c1 tl pl sp) {s : Int32} (t : Int32) (hs : s < 0 ∨ ¬ s < 3) : am_R (d + 2) 75 0 [some (.ref 1001), some (.int s), some (.int t), none, none, none, none] [] (am_h w g) (.inr (1000 + (am_h w g).length)) (am_h w (g ++ [.inl (8, [])])) := by
  refine am_R.nxs 2 (pc' := 2) (lv' := [some (.ref 1001), some (.int s), some (.int t), none, none, none, none]) (st' := [.int s, .ref 1001]) (h1 := am_h w g) rfl ?_
  exact am_R.cvp (a := 1001) (as' := [.int s]) (r := []) rfl rfl rfl rfl (am_wf 1 (by decide) h1) rfl rfl (aw_k9b (d + 1) _ s hs) rfl
theorem aw_k75e {w : Nat → am_C} {g : am_H} (d : Nat) {tl pl sp : Nat} (h1 : w 1 = aw_c1 tl pl sp) {k : Nat} (hk : k < 3) {t : Int32} (ht : t < 0 ∨ ¬ t < 3) : am_R (d + 2) 75 0 [some (.ref 1001), some (.int (Int32.ofNat k)), some (.int t), none, none, none, none] [] (am_h w g) (.inr (1000 + (am_h w g).length)) (am_h w (g ++ [.inl (8, [])])) := by
  refine am_R.nxs 2 (pc' := 2) (lv' := [some (.ref 1001), some (.int (Int32.ofNat k)), some (.int t), none, none, none, none]) (st' := [.int (Int32.ofNat k), .ref 1001]) (h1 := am_h w g) rfl ?_
  refine am_R.cv (a := 1001) (as' := [.int (Int32.ofNat k)]) (r := []) (v := none) (h1 := am_h w g) (pc' := 5) rfl rfl rfl rfl (am_wf 1 (by decide) h1) rfl rfl (aw_k9a (d + 1) _ _ (aw_nn k) ((am_ltN (n := 3) (by omega) (by decide)).mpr hk)) rfl ?_
  refine am_R.nxs 2 (pc' := 7) (lv' := [some (.ref 1001), some (.int (Int32.ofNat k)), some (.int t), none, none, none, none]) (st' := [.int t, .ref 1001]) (h1 := am_h w g) rfl ?_
  exact am_R.cvp (a := 1001) (as' := [.int t]) (r := []) rfl rfl rfl rfl (am_wf 1 (by decide) h1) rfl rfl (aw_k9b (d + 1) _ t ht) rfl
theorem aw_k137a {w : Nat → am_C} {g : am_H} (d : Nat) {ft ty wr wd wt sn : Int32} (h21 : w 21 = aw_c21 ft ty wr wd wt sn) {ma : List Int32} (h27 : w 27 = am_I 0 ma) (l27 : ma.length = 3) {k : Nat} (hk : k < 3) {j : Nat} (hj : j < 3) (hm : ¬ ma.getD k 0 = 0) (hm1 : ¬ ma.getD j 0 = 0) : am_R d 137 0 [some (.ref 1021), some (.int (Int32.ofNat k)), some (.int (Int32.ofNat j)), none] [] (am_h w g) (.inl (some (.int 0))) (am_h w g) := by
  refine am_R.ites 2 (P := Int32.ofNat k < 0) (T := 22) (F := 4) (lv' := [some (.ref 1021), some (.int (Int32.ofNat k)), some (.int (Int32.ofNat j)), none]) (st' := []) (h1 := am_h w g) rfl (fun b1 => ?_) (fun b1 => ?_)
  · exact absurd b1 (aw_nn k)
  · refine am_R.ites 3 (P := 3 ≤ Int32.ofNat k) (T := 22) (F := 9) (lv' := [some (.ref 1021), some (.int (Int32.ofNat k)), some (.int (Int32.ofNat j)), none]) (st' := []) (h1 := am_h w g) rfl (fun b6 => ?_) (fun b6 => ?_)
    · have b6 : 3 ≤ k := (am_leN (i := 3) (n := k) (by omega) (by omega)).mp b6
      omega
    · have b6 : ¬ 3 ≤ k := fun hq9 => b6 ((am_leN (i := 3) (n := k) (by omega) (by omega)).mpr hq9)
      refine am_R.ites 2 (P := Int32.ofNat j < 0) (T := 22) (F := 13) (lv' := [some (.ref 1021), some (.int (Int32.ofNat k)), some (.int (Int32.ofNat j)), none]) (st' := []) (h1 := am_h w g) rfl (fun b10 => ?_) (fun b10 => ?_)
      · exact absurd b10 (aw_nn j)
      · refine am_R.ites 3 (P := 3 ≤ Int32.ofNat j) (T := 22) (F := 18) (lv' := [some (.ref 1021), some (.int (Int32.ofNat k)), some (.int (Int32.ofNat j)), none]) (st' := []) (h1 := am_h w g) rfl (fun b15 => ?_) (fun b15 => ?_)
        · have b15 : 3 ≤ j := (am_leN (i := 3) (n := j) (by omega) (by omega)).mp b15
          omega
        · have b15 : ¬ 3 ≤ j := fun hq9 => b15 ((am_leN (i := 3) (n := j) (by omega) (by omega)).mpr hq9)
          refine am_R.ites 5 (P := ¬ 1 = 0) (T := 32) (F := 28) (lv' := [some (.ref 1021), some (.int (Int32.ofNat k)), some (.int (Int32.ofNat j)), some (.int 1)]) (st' := []) (h1 := am_h w g) rfl (fun b25 => ?_) (fun b25 => ?_)
          · refine am_R.nxs 1 (pc' := 33) (lv' := [some (.ref 1021), some (.int (Int32.ofNat k)), some (.int (Int32.ofNat j)), some (.int 1)]) (st' := [.ref 1021]) (h1 := am_h w g) rfl ?_
            refine am_R.gf (pc' := 36) (v := .ref 1027) rfl (am_wf 21 (by decide) h21) rfl rfl rfl ?_
            refine am_R.nxs 1 (pc' := 37) (lv' := [some (.ref 1021), some (.int (Int32.ofNat k)), some (.int (Int32.ofNat j)), some (.int 1)]) (st' := [.int (Int32.ofNat k), .ref 1027]) (h1 := am_h w g) rfl ?_
            refine am_R.ldi (i := k) (xs := ma) (pc' := 38) rfl (am_wf 27 (by decide) h27) (by omega) (by omega) rfl ?_
            refine am_R.ites 1 (P := (ma.getD k 0) = 0) (T := 50) (F := 41) (lv' := [some (.ref 1021), some (.int (Int32.ofNat k)), some (.int (Int32.ofNat j)), some (.int 1)]) (st' := []) (h1 := am_h w g) rfl (fun b38 => ?_) (fun b38 => ?_)
            · exact absurd b38 hm
            · refine am_R.nxs 1 (pc' := 42) (lv' := [some (.ref 1021), some (.int (Int32.ofNat k)), some (.int (Int32.ofNat j)), some (.int 1)]) (st' := [.ref 1021]) (h1 := am_h w g) rfl ?_
              refine am_R.gf (pc' := 45) (v := .ref 1027) rfl (am_wf 21 (by decide) h21) rfl rfl rfl ?_
              refine am_R.nxs 1 (pc' := 46) (lv' := [some (.ref 1021), some (.int (Int32.ofNat k)), some (.int (Int32.ofNat j)), some (.int 1)]) (st' := [.int (Int32.ofNat j), .ref 1027]) (h1 := am_h w g) rfl ?_
              refine am_R.ldi (i := j) (xs := ma) (pc' := 47) rfl (am_wf 27 (by decide) h27) (by omega) (by omega) rfl ?_
              refine am_R.ites 1 (P := ¬ (ma.getD j 0) = 0) (T := 54) (F := 50) (lv' := [some (.ref 1021), some (.int (Int32.ofNat k)), some (.int (Int32.ofNat j)), some (.int 1)]) (st' := []) (h1 := am_h w g) rfl (fun b47 => ?_) (fun b47 => ?_)
              · refine am_R.nxs 1 (pc' := 55) (lv' := [some (.ref 1021), some (.int (Int32.ofNat k)), some (.int (Int32.ofNat j)), some (.int 1)]) (st' := [.int 0]) (h1 := am_h w g) rfl ?_
                exact am_R.reti rfl rfl rfl
              · exact absurd hm1 b47
          · exact absurd (by decide) b25
theorem aw_k137b {w : Nat → am_C} {g : am_H} (d : Nat) {ft ty wr wd wt sn : Int32} (h21 : w 21 = aw_c21 ft ty wr wd wt sn) {ma : List Int32} (h27 : w 27 = am_I 0 ma) (l27 : ma.length = 3) {k : Nat} (hk : k < 3) {j : Nat} (hj : j < 3) (hm : ma.getD k 0 = 0) : am_R d 137 0 [some (.ref 1021), some (.int (Int32.ofNat k)), some (.int (Int32.ofNat j)), none] [] (am_h w g) (.inl (some (.int 2))) (am_h w g) := by
  refine am_R.ites 2 (P := Int32.ofNat k < 0) (T := 22) (F := 4) (lv' := [some (.ref 1021), some (.int (Int32.ofNat k)), some (.int (Int32.ofNat j)), none]) (st' := []) (h1 := am_h w g) rfl (fun b1 => ?_) (fun b1 => ?_)
  · exact absurd b1 (aw_nn k)
  · refine am_R.ites 3 (P := 3 ≤ Int32.ofNat k) (T := 22) (F := 9) (lv' := [some (.ref 1021), some (.int (Int32.ofNat k)), some (.int (Int32.ofNat j)), none]) (st' := []) (h1 := am_h w g) rfl (fun b6 => ?_) (fun b6 => ?_)
    · have b6 : 3 ≤ k := (am_leN (i := 3) (n := k) (by omega) (by omega)).mp b6
      omega
    · have b6 : ¬ 3 ≤ k := fun hq9 => b6 ((am_leN (i := 3) (n := k) (by omega) (by omega)).mpr hq9)
      refine am_R.ites 2 (P := Int32.ofNat j < 0) (T := 22) (F := 13) (lv' := [some (.ref 1021), some (.int (Int32.ofNat k)), some (.int (Int32.ofNat j)), none]) (st' := []) (h1 := am_h w g) rfl (fun b10 => ?_) (fun b10 => ?_)
      · exact absurd b10 (aw_nn j)
      · refine am_R.ites 3 (P := 3 ≤ Int32.ofNat j) (T := 22) (F := 18) (lv' := [some (.ref 1021), some (.int (Int32.ofNat k)), some (.int (Int32.ofNat j)), none]) (st' := []) (h1 := am_h w g) rfl (fun b15 => ?_) (fun b15 => ?_)
        · have b15 : 3 ≤ j := (am_leN (i := 3) (n := j) (by omega) (by omega)).mp b15
          omega
        · have b15 : ¬ 3 ≤ j := fun hq9 => b15 ((am_leN (i := 3) (n := j) (by omega) (by omega)).mpr hq9)
          refine am_R.ites 5 (P := ¬ 1 = 0) (T := 32) (F := 28) (lv' := [some (.ref 1021), some (.int (Int32.ofNat k)), some (.int (Int32.ofNat j)), some (.int 1)]) (st' := []) (h1 := am_h w g) rfl (fun b25 => ?_) (fun b25 => ?_)
          · refine am_R.nxs 1 (pc' := 33) (lv' := [some (.ref 1021), some (.int (Int32.ofNat k)), some (.int (Int32.ofNat j)), some (.int 1)]) (st' := [.ref 1021]) (h1 := am_h w g) rfl ?_
            refine am_R.gf (pc' := 36) (v := .ref 1027) rfl (am_wf 21 (by decide) h21) rfl rfl rfl ?_
            refine am_R.nxs 1 (pc' := 37) (lv' := [some (.ref 1021), some (.int (Int32.ofNat k)), some (.int (Int32.ofNat j)), some (.int 1)]) (st' := [.int (Int32.ofNat k), .ref 1027]) (h1 := am_h w g) rfl ?_
            refine am_R.ldi (i := k) (xs := ma) (pc' := 38) rfl (am_wf 27 (by decide) h27) (by omega) (by omega) rfl ?_
            refine am_R.ites 1 (P := (ma.getD k 0) = 0) (T := 50) (F := 41) (lv' := [some (.ref 1021), some (.int (Int32.ofNat k)), some (.int (Int32.ofNat j)), some (.int 1)]) (st' := []) (h1 := am_h w g) rfl (fun b38 => ?_) (fun b38 => ?_)
            · refine am_R.nxs 2 (pc' := 55) (lv' := [some (.ref 1021), some (.int (Int32.ofNat k)), some (.int (Int32.ofNat j)), some (.int 1)]) (st' := [.int 2]) (h1 := am_h w g) rfl ?_
              exact am_R.reti rfl rfl rfl
            · exact absurd hm b38
          · exact absurd (by decide) b25
theorem aw_k137f {w : Nat → am_C} {g : am_H} (d : Nat) {ft ty wr wd wt sn : Int32} (h21 : w 21 = aw_c21 ft ty wr wd wt sn) {ma : List Int32} (h27 : w 27 = am_I 0 ma) (l27 : ma.length = 3) {k : Nat} (hk : k < 3) {j : Nat} (hj : j < 3) (hm : ¬ ma.getD k 0 = 0) (hm1 : ma.getD j 0 = 0) : am_R d 137 0 [some (.ref 1021), some (.int (Int32.ofNat k)), some (.int (Int32.ofNat j)), none] [] (am_h w g) (.inl (some (.int 2))) (am_h w g) := by
  refine am_R.ites 2 (P := Int32.ofNat k < 0) (T := 22) (F := 4) (lv' := [some (.ref 1021), some (.int (Int32.ofNat k)), some (.int (Int32.ofNat j)), none]) (st' := []) (h1 := am_h w g) rfl (fun b1 => ?_) (fun b1 => ?_)
  · exact absurd b1 (aw_nn k)
  · refine am_R.ites 3 (P := 3 ≤ Int32.ofNat k) (T := 22) (F := 9) (lv' := [some (.ref 1021), some (.int (Int32.ofNat k)), some (.int (Int32.ofNat j)), none]) (st' := []) (h1 := am_h w g) rfl (fun b6 => ?_) (fun b6 => ?_)
    · have b6 : 3 ≤ k := (am_leN (i := 3) (n := k) (by omega) (by omega)).mp b6
      omega
    · have b6 : ¬ 3 ≤ k := fun hq9 => b6 ((am_leN (i := 3) (n := k) (by omega) (by omega)).mpr hq9)
      refine am_R.ites 2 (P := Int32.ofNat j < 0) (T := 22) (F := 13) (lv' := [some (.ref 1021), some (.int (Int32.ofNat k)), some (.int (Int32.ofNat j)), none]) (st' := []) (h1 := am_h w g) rfl (fun b10 => ?_) (fun b10 => ?_)
      · exact absurd b10 (aw_nn j)
      · refine am_R.ites 3 (P := 3 ≤ Int32.ofNat j) (T := 22) (F := 18) (lv' := [some (.ref 1021), some (.int (Int32.ofNat k)), some (.int (Int32.ofNat j)), none]) (st' := []) (h1 := am_h w g) rfl (fun b15 => ?_) (fun b15 => ?_)
        · have b15 : 3 ≤ j := (am_leN (i := 3) (n := j) (by omega) (by omega)).mp b15
          omega
        · have b15 : ¬ 3 ≤ j := fun hq9 => b15 ((am_leN (i := 3) (n := j) (by omega) (by omega)).mpr hq9)
          refine am_R.ites 5 (P := ¬ 1 = 0) (T := 32) (F := 28) (lv' := [some (.ref 1021), some (.int (Int32.ofNat k)), some (.int (Int32.ofNat j)), some (.int 1)]) (st' := []) (h1 := am_h w g) rfl (fun b25 => ?_) (fun b25 => ?_)
          · refine am_R.nxs 1 (pc' := 33) (lv' := [some (.ref 1021), some (.int (Int32.ofNat k)), some (.int (Int32.ofNat j)), some (.int 1)]) (st' := [.ref 1021]) (h1 := am_h w g) rfl ?_
            refine am_R.gf (pc' := 36) (v := .ref 1027) rfl (am_wf 21 (by decide) h21) rfl rfl rfl ?_
            refine am_R.nxs 1 (pc' := 37) (lv' := [some (.ref 1021), some (.int (Int32.ofNat k)), some (.int (Int32.ofNat j)), some (.int 1)]) (st' := [.int (Int32.ofNat k), .ref 1027]) (h1 := am_h w g) rfl ?_
            refine am_R.ldi (i := k) (xs := ma) (pc' := 38) rfl (am_wf 27 (by decide) h27) (by omega) (by omega) rfl ?_
            refine am_R.ites 1 (P := (ma.getD k 0) = 0) (T := 50) (F := 41) (lv' := [some (.ref 1021), some (.int (Int32.ofNat k)), some (.int (Int32.ofNat j)), some (.int 1)]) (st' := []) (h1 := am_h w g) rfl (fun b38 => ?_) (fun b38 => ?_)
            · exact absurd b38 hm
            · refine am_R.nxs 1 (pc' := 42) (lv' := [some (.ref 1021), some (.int (Int32.ofNat k)), some (.int (Int32.ofNat j)), some (.int 1)]) (st' := [.ref 1021]) (h1 := am_h w g) rfl ?_
              refine am_R.gf (pc' := 45) (v := .ref 1027) rfl (am_wf 21 (by decide) h21) rfl rfl rfl ?_
              refine am_R.nxs 1 (pc' := 46) (lv' := [some (.ref 1021), some (.int (Int32.ofNat k)), some (.int (Int32.ofNat j)), some (.int 1)]) (st' := [.int (Int32.ofNat j), .ref 1027]) (h1 := am_h w g) rfl ?_
              refine am_R.ldi (i := j) (xs := ma) (pc' := 47) rfl (am_wf 27 (by decide) h27) (by omega) (by omega) rfl ?_
              refine am_R.ites 1 (P := ¬ (ma.getD j 0) = 0) (T := 54) (F := 50) (lv' := [some (.ref 1021), some (.int (Int32.ofNat k)), some (.int (Int32.ofNat j)), some (.int 1)]) (st' := []) (h1 := am_h w g) rfl (fun b47 => ?_) (fun b47 => ?_)
              · exact absurd hm1 b47
              · refine am_R.nxs 2 (pc' := 55) (lv' := [some (.ref 1021), some (.int (Int32.ofNat k)), some (.int (Int32.ofNat j)), some (.int 1)]) (st' := [.int 2]) (h1 := am_h w g) rfl ?_
                exact am_R.reti rfl rfl rfl
          · exact absurd (by decide) b25
theorem aw_k137c {w : Nat → am_C} {g : am_H} (d : Nat) {ft ty wr wd wt sn : Int32} (h21 : w 21 = aw_c21 ft ty wr wd wt sn) {s t : Int32} (hs : (s < 0 ∨ ¬ s < 3) ∨ (t < 0 ∨ ¬ t < 3)) : am_R d 137 0 [some (.ref 1021), some (.int s), some (.int t), none] [] (am_h w g) (.inl (some (.int 1))) (am_h w g) := by
  refine am_R.ites 2 (P := s < 0) (T := 22) (F := 4) (lv' := [some (.ref 1021), some (.int s), some (.int t), none]) (st' := []) (h1 := am_h w g) rfl (fun b1 => ?_) (fun b1 => ?_)
  · refine am_R.ites 4 (P := ¬ 0 = 0) (T := 32) (F := 28) (lv' := [some (.ref 1021), some (.int s), some (.int t), some (.int 0)]) (st' := []) (h1 := am_h w g) rfl (fun b25 => ?_) (fun b25 => ?_)
    · exact absurd b25 (by decide)
    · refine am_R.nxs 2 (pc' := 55) (lv' := [some (.ref 1021), some (.int s), some (.int t), some (.int 0)]) (st' := [.int 1]) (h1 := am_h w g) rfl ?_
      exact am_R.reti rfl rfl rfl
  · refine am_R.ites 3 (P := 3 ≤ s) (T := 22) (F := 9) (lv' := [some (.ref 1021), some (.int s), some (.int t), none]) (st' := []) (h1 := am_h w g) rfl (fun b6 => ?_) (fun b6 => ?_)
    · refine am_R.ites 4 (P := ¬ 0 = 0) (T := 32) (F := 28) (lv' := [some (.ref 1021), some (.int s), some (.int t), some (.int 0)]) (st' := []) (h1 := am_h w g) rfl (fun b25 => ?_) (fun b25 => ?_)
      · exact absurd b25 (by decide)
      · refine am_R.nxs 2 (pc' := 55) (lv' := [some (.ref 1021), some (.int s), some (.int t), some (.int 0)]) (st' := [.int 1]) (h1 := am_h w g) rfl ?_
        exact am_R.reti rfl rfl rfl
    · refine am_R.ites 2 (P := t < 0) (T := 22) (F := 13) (lv' := [some (.ref 1021), some (.int s), some (.int t), none]) (st' := []) (h1 := am_h w g) rfl (fun b10 => ?_) (fun b10 => ?_)
      · refine am_R.ites 4 (P := ¬ 0 = 0) (T := 32) (F := 28) (lv' := [some (.ref 1021), some (.int s), some (.int t), some (.int 0)]) (st' := []) (h1 := am_h w g) rfl (fun b25 => ?_) (fun b25 => ?_)
        · exact absurd b25 (by decide)
        · refine am_R.nxs 2 (pc' := 55) (lv' := [some (.ref 1021), some (.int s), some (.int t), some (.int 0)]) (st' := [.int 1]) (h1 := am_h w g) rfl ?_
          exact am_R.reti rfl rfl rfl
      · refine am_R.ites 3 (P := 3 ≤ t) (T := 22) (F := 18) (lv' := [some (.ref 1021), some (.int s), some (.int t), none]) (st' := []) (h1 := am_h w g) rfl (fun b15 => ?_) (fun b15 => ?_)
        · refine am_R.ites 4 (P := ¬ 0 = 0) (T := 32) (F := 28) (lv' := [some (.ref 1021), some (.int s), some (.int t), some (.int 0)]) (st' := []) (h1 := am_h w g) rfl (fun b25 => ?_) (fun b25 => ?_)
          · exact absurd b25 (by decide)
          · refine am_R.nxs 2 (pc' := 55) (lv' := [some (.ref 1021), some (.int s), some (.int t), some (.int 0)]) (st' := [.int 1]) (h1 := am_h w g) rfl ?_
            exact am_R.reti rfl rfl rfl
        · exact absurd hs (fun q => q.elim (fun q => q.elim b1 (fun q => q (Int32.not_le.mp b6))) (fun q => q.elim b10 (fun q => q (Int32.not_le.mp b15))))
theorem aw_k136l {w : Nat → am_C} {g : am_H} (d : Nat) {ft ty wr wd wt sn : Int32} (h21 : w 21 = aw_c21 ft ty wr wd wt sn) {pi : List Int32} (h28 : w 28 = am_I 0 pi) (l28 : pi.length = 1728) {k : Nat} (hk : k < 3) {j : Nat} (hj : j < 3) : ∀ m i : Nat, i + m = 576 → am_R d 136 20 [some (.ref 1021), some (.int (Int32.ofNat k)), some (.int (Int32.ofNat j)), some (.int (aw_cnt (fun z => decide (¬ pi.getD (576 * k + z) 0 = pi.getD (576 * j + z) 0)) i)), some (.int (Int32.ofNat i))] [] (am_h w g) (.inl (some (.int (aw_cnt (fun z => decide (¬ pi.getD (576 * k + z) 0 = pi.getD (576 * j + z) 0)) 576)))) (am_h w g) := by
  intro m
  induction m with
  | zero =>
    intro i hi
    have hi9 : i = 576 := by omega
    subst hi9
    refine am_R.ites 3 (P := 576 ≤ Int32.ofNat 576) (T := 71) (F := 28) (lv' := [some (.ref 1021), some (.int (Int32.ofNat k)), some (.int (Int32.ofNat j)), some (.int (aw_cnt (fun z => decide (¬ pi.getD (576 * k + z) 0 = pi.getD (576 * j + z) 0)) 576)), some (.int (Int32.ofNat 576))]) (st' := []) (h1 := am_h w g) rfl (fun b25 => ?_) (fun b25 => ?_)
    · have b25 : 576 ≤ 576 := (am_leN (i := 576) (n := 576) (by omega) (by omega)).mp b25
      refine am_R.nxs 1 (pc' := 72) (lv' := [some (.ref 1021), some (.int (Int32.ofNat k)), some (.int (Int32.ofNat j)), some (.int (aw_cnt (fun z => decide (¬ pi.getD (576 * k + z) 0 = pi.getD (576 * j + z) 0)) 576)), some (.int (Int32.ofNat 576))]) (st' := [.int (aw_cnt (fun z => decide (¬ pi.getD (576 * k + z) 0 = pi.getD (576 * j + z) 0)) 576)]) (h1 := am_h w g) rfl ?_
      exact am_R.reti rfl rfl rfl
    · have b25 : ¬ 576 ≤ 576 := fun hq9 => b25 ((am_leN (i := 576) (n := 576) (by omega) (by omega)).mpr hq9)
      omega
  | succ m ih =>
    intro i hi
    refine am_R.ites 3 (P := 576 ≤ Int32.ofNat i) (T := 71) (F := 28) (lv' := [some (.ref 1021), some (.int (Int32.ofNat k)), some (.int (Int32.ofNat j)), some (.int (aw_cnt (fun z => decide (¬ pi.getD (576 * k + z) 0 = pi.getD (576 * j + z) 0)) i)), some (.int (Int32.ofNat i))]) (st' := []) (h1 := am_h w g) rfl (fun b25 => ?_) (fun b25 => ?_)
    · have b25 : 576 ≤ i := (am_leN (i := 576) (n := i) (by omega) (by omega)).mp b25
      omega
    · have b25 : ¬ 576 ≤ i := fun hq9 => b25 ((am_leN (i := 576) (n := i) (by omega) (by omega)).mpr hq9)
      refine am_R.nxs 1 (pc' := 29) (lv' := [some (.ref 1021), some (.int (Int32.ofNat k)), some (.int (Int32.ofNat j)), some (.int (aw_cnt (fun z => decide (¬ pi.getD (576 * k + z) 0 = pi.getD (576 * j + z) 0)) i)), some (.int (Int32.ofNat i))]) (st' := [.ref 1021]) (h1 := am_h w g) rfl ?_
      refine am_R.gf (pc' := 32) (v := .ref 1028) rfl (am_wf 21 (by decide) h21) rfl rfl rfl ?_
      refine am_R.nxs 3 (pc' := 37) (lv' := [some (.ref 1021), some (.int (Int32.ofNat k)), some (.int (Int32.ofNat j)), some (.int (aw_cnt (fun z => decide (¬ pi.getD (576 * k + z) 0 = pi.getD (576 * j + z) 0)) i)), some (.int (Int32.ofNat i))]) (st' := [.int (576 * Int32.ofNat k), .ref 1028]) (h1 := am_h w g) rfl ?_
      rw [show (576 * Int32.ofNat k : Int32) = Int32.ofNat (576 * k) from am_mul 576 k]
      refine am_R.nxs 2 (pc' := 40) (lv' := [some (.ref 1021), some (.int (Int32.ofNat k)), some (.int (Int32.ofNat j)), some (.int (aw_cnt (fun z => decide (¬ pi.getD (576 * k + z) 0 = pi.getD (576 * j + z) 0)) i)), some (.int (Int32.ofNat i))]) (st' := [.int (Int32.ofNat (576 * k) + Int32.ofNat i), .ref 1028]) (h1 := am_h w g) rfl ?_
      rw [show (Int32.ofNat (576 * k) + Int32.ofNat i : Int32) = Int32.ofNat ((576 * k) + i) from am_add (576 * k) i]
      refine am_R.ldi (i := ((576 * k) + i)) (xs := pi) (pc' := 41) rfl (am_wf 28 (by decide) h28) (by omega) (by omega) rfl ?_
      refine am_R.nxs 1 (pc' := 42) (lv' := [some (.ref 1021), some (.int (Int32.ofNat k)), some (.int (Int32.ofNat j)), some (.int (aw_cnt (fun z => decide (¬ pi.getD (576 * k + z) 0 = pi.getD (576 * j + z) 0)) i)), some (.int (Int32.ofNat i))]) (st' := [.ref 1021, .int (pi.getD ((576 * k) + i) 0)]) (h1 := am_h w g) rfl ?_
      refine am_R.gf (pc' := 45) (v := .ref 1028) rfl (am_wf 21 (by decide) h21) rfl rfl rfl ?_
      refine am_R.nxs 3 (pc' := 50) (lv' := [some (.ref 1021), some (.int (Int32.ofNat k)), some (.int (Int32.ofNat j)), some (.int (aw_cnt (fun z => decide (¬ pi.getD (576 * k + z) 0 = pi.getD (576 * j + z) 0)) i)), some (.int (Int32.ofNat i))]) (st' := [.int (576 * Int32.ofNat j), .ref 1028, .int (pi.getD ((576 * k) + i) 0)]) (h1 := am_h w g) rfl ?_
      rw [show (576 * Int32.ofNat j : Int32) = Int32.ofNat (576 * j) from am_mul 576 j]
      refine am_R.nxs 2 (pc' := 53) (lv' := [some (.ref 1021), some (.int (Int32.ofNat k)), some (.int (Int32.ofNat j)), some (.int (aw_cnt (fun z => decide (¬ pi.getD (576 * k + z) 0 = pi.getD (576 * j + z) 0)) i)), some (.int (Int32.ofNat i))]) (st' := [.int (Int32.ofNat (576 * j) + Int32.ofNat i), .ref 1028, .int (pi.getD ((576 * k) + i) 0)]) (h1 := am_h w g) rfl ?_
      rw [show (Int32.ofNat (576 * j) + Int32.ofNat i : Int32) = Int32.ofNat ((576 * j) + i) from am_add (576 * j) i]
      refine am_R.ldi (i := ((576 * j) + i)) (xs := pi) (pc' := 54) rfl (am_wf 28 (by decide) h28) (by omega) (by omega) rfl ?_
      refine am_R.ites 1 (P := (pi.getD ((576 * k) + i) 0) = (pi.getD ((576 * j) + i) 0)) (T := 63) (F := 57) (lv' := [some (.ref 1021), some (.int (Int32.ofNat k)), some (.int (Int32.ofNat j)), some (.int (aw_cnt (fun z => decide (¬ pi.getD (576 * k + z) 0 = pi.getD (576 * j + z) 0)) i)), some (.int (Int32.ofNat i))]) (st' := []) (h1 := am_h w g) rfl (fun b54 => ?_) (fun b54 => ?_)
      · refine am_R.nxs 3 (pc' := 68) (lv' := [some (.ref 1021), some (.int (Int32.ofNat k)), some (.int (Int32.ofNat j)), some (.int (aw_cnt (fun z => decide (¬ pi.getD (576 * k + z) 0 = pi.getD (576 * j + z) 0)) i)), some (.int (Int32.ofNat i + 1))]) (st' := []) (h1 := am_h w g) rfl ?_
        rw [show (Int32.ofNat i + 1 : Int32) = Int32.ofNat (i + 1) from am_add i 1]
        refine am_R.nxs 1 (pc' := 20) (lv' := [some (.ref 1021), some (.int (Int32.ofNat k)), some (.int (Int32.ofNat j)), some (.int (aw_cnt (fun z => decide (¬ pi.getD (576 * k + z) 0 = pi.getD (576 * j + z) 0)) i)), some (.int (Int32.ofNat (i + 1)))]) (st' := []) (h1 := am_h w g) rfl ?_
        have e9 : (aw_cnt (fun z => decide (¬ pi.getD (576 * k + z) 0 = pi.getD (576 * j + z) 0)) (i + 1)) = (aw_cnt (fun z => decide (¬ pi.getD (576 * k + z) 0 = pi.getD (576 * j + z) 0)) i) := if_neg (by rw [decide_eq_true_eq]; first | exact b54 | exact fun q => q b54 | exact fun q => b54 q)
        rw [← e9]
        exact ih (i + 1) (by omega)
      · refine am_R.nxs 6 (pc' := 68) (lv' := [some (.ref 1021), some (.int (Int32.ofNat k)), some (.int (Int32.ofNat j)), some (.int ((aw_cnt (fun z => decide (¬ pi.getD (576 * k + z) 0 = pi.getD (576 * j + z) 0)) i) + 1)), some (.int (Int32.ofNat i + 1))]) (st' := []) (h1 := am_h w g) rfl ?_
        rw [show (Int32.ofNat i + 1 : Int32) = Int32.ofNat (i + 1) from am_add i 1]
        refine am_R.nxs 1 (pc' := 20) (lv' := [some (.ref 1021), some (.int (Int32.ofNat k)), some (.int (Int32.ofNat j)), some (.int ((aw_cnt (fun z => decide (¬ pi.getD (576 * k + z) 0 = pi.getD (576 * j + z) 0)) i) + 1)), some (.int (Int32.ofNat (i + 1)))]) (st' := []) (h1 := am_h w g) rfl ?_
        have e9 : (aw_cnt (fun z => decide (¬ pi.getD (576 * k + z) 0 = pi.getD (576 * j + z) 0)) (i + 1)) = (aw_cnt (fun z => decide (¬ pi.getD (576 * k + z) 0 = pi.getD (576 * j + z) 0)) i) + 1 := if_pos (decide_eq_true (by first | exact b54 | exact Decidable.not_not.mp b54))
        rw [← e9]
        exact ih (i + 1) (by omega)
theorem aw_k136a {w : Nat → am_C} {g : am_H} (d : Nat) {ft ty wr wd wt sn : Int32} (h21 : w 21 = aw_c21 ft ty wr wd wt sn) {ma : List Int32} (h27 : w 27 = am_I 0 ma) (l27 : ma.length = 3) {pi : List Int32} (h28 : w 28 = am_I 0 pi) (l28 : pi.length = 1728) {k : Nat} (hk : k < 3) {j : Nat} (hj : j < 3) (hm : ¬ ma.getD k 0 = 0) (hm1 : ¬ ma.getD j 0 = 0)  : am_R (d + 1) 136 0 [some (.ref 1021), some (.int (Int32.ofNat k)), some (.int (Int32.ofNat j)), none, none] [] (am_h w g) (.inl (some (.int (aw_cnt (fun z => decide (¬ pi.getD (576 * k + z) 0 = pi.getD (576 * j + z) 0)) 576)))) (am_h (am_pu w 21 (aw_c21 0 ty wr wd wt sn)) g) := by
  refine am_R.nxs 4 (pc' := 4) (lv' := [some (.ref 1021), some (.int (Int32.ofNat k)), some (.int (Int32.ofNat j)), none, none]) (st' := [.int (Int32.ofNat j), .int (Int32.ofNat k), .ref 1021, .ref 1021]) (h1 := am_h w g) rfl ?_
  refine am_R.cv (a := 1021) (as' := [.int (Int32.ofNat k), .int (Int32.ofNat j)]) (r := [.ref 1021]) (v := some (.int 0)) (h1 := am_h w g) (pc' := 7) rfl rfl rfl rfl (am_wf 21 (by decide) h21) rfl rfl (aw_k137a d h21 h27 l27 hk hj hm hm1) rfl ?_
  refine am_R.cv (a := 1021) (as' := [.int 0]) (r := []) (v := some (.int 0)) (h1 := am_h (am_pu w 21 (aw_c21 0 ty wr wd wt sn)) g) (pc' := 10) rfl rfl rfl rfl (am_wf 21 (by decide) h21) rfl rfl (aw_k99a (w := w) d h21 0 (by decide)) rfl ?_
  refine am_R.ites 1 (P := 0 = 0) (T := 15) (F := 13) (lv' := [some (.ref 1021), some (.int (Int32.ofNat k)), some (.int (Int32.ofNat j)), none, none]) (st' := []) (h1 := am_h (am_pu w 21 (aw_c21 0 ty wr wd wt sn)) g) rfl (fun b10 => ?_) (fun b10 => ?_)
  · refine am_R.nxs 4 (pc' := 20) (lv' := [some (.ref 1021), some (.int (Int32.ofNat k)), some (.int (Int32.ofNat j)), some (.int 0), some (.int 0)]) (st' := []) (h1 := am_h (am_pu w 21 (aw_c21 0 ty wr wd wt sn)) g) rfl ?_
    exact aw_k136l (w := am_pu w 21 (aw_c21 0 ty wr wd wt sn)) (d + 1) rfl h28 l28 hk hj 576 0 rfl
  · exact absurd rfl b10
theorem aw_k136b {w : Nat → am_C} {g : am_H} (d : Nat) {ft ty wr wd wt sn : Int32} (h21 : w 21 = aw_c21 ft ty wr wd wt sn) {ma : List Int32} (h27 : w 27 = am_I 0 ma) (l27 : ma.length = 3) {k : Nat} (hk : k < 3) {j : Nat} (hj : j < 3) (hm : ma.getD k 0 = 0) : am_R (d + 1) 136 0 [some (.ref 1021), some (.int (Int32.ofNat k)), some (.int (Int32.ofNat j)), none, none] [] (am_h w g) (.inl (some (.int 0))) (am_h (am_pu w 21 (aw_c21 2 ty wr wd wt sn)) g) := by
  refine am_R.nxs 4 (pc' := 4) (lv' := [some (.ref 1021), some (.int (Int32.ofNat k)), some (.int (Int32.ofNat j)), none, none]) (st' := [.int (Int32.ofNat j), .int (Int32.ofNat k), .ref 1021, .ref 1021]) (h1 := am_h w g) rfl ?_
  refine am_R.cv (a := 1021) (as' := [.int (Int32.ofNat k), .int (Int32.ofNat j)]) (r := [.ref 1021]) (v := some (.int 2)) (h1 := am_h w g) (pc' := 7) rfl rfl rfl rfl (am_wf 21 (by decide) h21) rfl rfl (aw_k137b d h21 h27 l27 hk hj hm) rfl ?_
  refine am_R.cv (a := 1021) (as' := [.int 2]) (r := []) (v := some (.int 1)) (h1 := am_h (am_pu w 21 (aw_c21 2 ty wr wd wt sn)) g) (pc' := 10) rfl rfl rfl rfl (am_wf 21 (by decide) h21) rfl rfl (aw_k99b (w := w) d h21 2 (by decide)) rfl ?_
  refine am_R.ites 1 (P := 1 = 0) (T := 15) (F := 13) (lv' := [some (.ref 1021), some (.int (Int32.ofNat k)), some (.int (Int32.ofNat j)), none, none]) (st' := []) (h1 := am_h (am_pu w 21 (aw_c21 2 ty wr wd wt sn)) g) rfl (fun b10 => ?_) (fun b10 => ?_)
  · exact absurd b10 (by decide)
  · refine am_R.nxs 1 (pc' := 14) (lv' := [some (.ref 1021), some (.int (Int32.ofNat k)), some (.int (Int32.ofNat j)), none, none]) (st' := [.int 0]) (h1 := am_h (am_pu w 21 (aw_c21 2 ty wr wd wt sn)) g) rfl ?_
    exact am_R.reti rfl rfl rfl
theorem aw_k136f {w : Nat → am_C} {g : am_H} (d : Nat) {ft ty wr wd wt sn : Int32} (h21 : w 21 = aw_c21 ft ty wr wd wt sn) {ma : List Int32} (h27 : w 27 = am_I 0 ma) (l27 : ma.length = 3) {k : Nat} (hk : k < 3) {j : Nat} (hj : j < 3) (hm : ¬ ma.getD k 0 = 0) (hm1 : ma.getD j 0 = 0) : am_R (d + 1) 136 0 [some (.ref 1021), some (.int (Int32.ofNat k)), some (.int (Int32.ofNat j)), none, none] [] (am_h w g) (.inl (some (.int 0))) (am_h (am_pu w 21 (aw_c21 2 ty wr wd wt sn)) g) := by
  refine am_R.nxs 4 (pc' := 4) (lv' := [some (.ref 1021), some (.int (Int32.ofNat k)), some (.int (Int32.ofNat j)), none, none]) (st' := [.int (Int32.ofNat j), .int (Int32.ofNat k), .ref 1021, .ref 1021]) (h1 := am_h w g) rfl ?_
  refine am_R.cv (a := 1021) (as' := [.int (Int32.ofNat k), .int (Int32.ofNat j)]) (r := [.ref 1021]) (v := some (.int 2)) (h1 := am_h w g) (pc' := 7) rfl rfl rfl rfl (am_wf 21 (by decide) h21) rfl rfl (aw_k137f d h21 h27 l27 hk hj hm hm1) rfl ?_
  refine am_R.cv (a := 1021) (as' := [.int 2]) (r := []) (v := some (.int 1)) (h1 := am_h (am_pu w 21 (aw_c21 2 ty wr wd wt sn)) g) (pc' := 10) rfl rfl rfl rfl (am_wf 21 (by decide) h21) rfl rfl (aw_k99b (w := w) d h21 2 (by decide)) rfl ?_
  refine am_R.ites 1 (P := 1 = 0) (T := 15) (F := 13) (lv' := [some (.ref 1021), some (.int (Int32.ofNat k)), some (.int (Int32.ofNat j)), none, none]) (st' := []) (h1 := am_h (am_pu w 21 (aw_c21 2 ty wr wd wt sn)) g) rfl (fun b10 => ?_) (fun b10 => ?_)
  · exact absurd b10 (by decide)
  · refine am_R.nxs 1 (pc' := 14) (lv' := [some (.ref 1021), some (.int (Int32.ofNat k)), some (.int (Int32.ofNat j)), none, none]) (st' := [.int 0]) (h1 := am_h (am_pu w 21 (aw_c21 2 ty wr wd wt sn)) g) rfl ?_
    exact am_R.reti rfl rfl rfl
theorem aw_k136c {w : Nat → am_C} {g : am_H} (d : Nat) {ft ty wr wd wt sn : Int32} (h21 : w 21 = aw_c21 ft ty wr wd wt sn) {s t : Int32} (hs : (s < 0 ∨ ¬ s < 3) ∨ (t < 0 ∨ ¬ t < 3)) : am_R (d + 1) 136 0 [some (.ref 1021), some (.int s), some (.int t), none, none] [] (am_h w g) (.inl (some (.int 0))) (am_h (am_pu w 21 (aw_c21 1 ty wr wd wt sn)) g) := by
  refine am_R.nxs 4 (pc' := 4) (lv' := [some (.ref 1021), some (.int s), some (.int t), none, none]) (st' := [.int t, .int s, .ref 1021, .ref 1021]) (h1 := am_h w g) rfl ?_
  refine am_R.cv (a := 1021) (as' := [.int s, .int t]) (r := [.ref 1021]) (v := some (.int 1)) (h1 := am_h w g) (pc' := 7) rfl rfl rfl rfl (am_wf 21 (by decide) h21) rfl rfl (aw_k137c d h21 hs) rfl ?_
  refine am_R.cv (a := 1021) (as' := [.int 1]) (r := []) (v := some (.int 1)) (h1 := am_h (am_pu w 21 (aw_c21 1 ty wr wd wt sn)) g) (pc' := 10) rfl rfl rfl rfl (am_wf 21 (by decide) h21) rfl rfl (aw_k99b (w := w) d h21 1 (by decide)) rfl ?_
  refine am_R.ites 1 (P := 1 = 0) (T := 15) (F := 13) (lv' := [some (.ref 1021), some (.int s), some (.int t), none, none]) (st' := []) (h1 := am_h (am_pu w 21 (aw_c21 1 ty wr wd wt sn)) g) rfl (fun b10 => ?_) (fun b10 => ?_)
  · exact absurd b10 (by decide)
  · refine am_R.nxs 1 (pc' := 14) (lv' := [some (.ref 1021), some (.int s), some (.int t), none, none]) (st' := [.int 0]) (h1 := am_h (am_pu w 21 (aw_c21 1 ty wr wd wt sn)) g) rfl ?_
    exact am_R.reti rfl rfl rfl
theorem aw_Iinj {t : Nat} {l k : List Int32} (h : am_I t l = am_I t k) : l = k := by
  unfold am_I at h
  have h2 := congrArg (fun c : am_C => match c with
    | .inl _ => []
    | .inr z => z.2) h
  have h3 : l.map Value.int = k.map Value.int := h2
  exact List.map_inj_right (fun a b e => Value.int.inj e) |>.mp h3
set_option maxRecDepth 100000 in
theorem aw_o6 : aw_Op 436 := by
  intro d i w g x5 x6 xs hI h0 hi hx
  obtain ⟨tl, pl, sp, ft, wd, wt, sn, h1, h21, hT, hP, hS, hC, u, hO⟩ := hI
  by_cases hs : xs.getD (i + 1) 0 < 0 ∨ ¬ xs.getD (i + 1) 0 < 3
  · refine ⟨am_pu w 21 (aw_c21 1 (Int32.ofNat tl) (Int32.ofNat pl) wd wt sn), g ++ [.inl (8, [])], some (.int 1), some (.int 0), ⟨tl, pl, sp, 1, wd, wt, sn, h1, rfl, hT, hP, aw_Shs_up (by omega) hS, hC, u, hO⟩, h0, by simp, aw_sz1 rfl, fun o h' K => ?_⟩
    exact aw_L6 d i x5 x6 h0 hi hx (aw_W74t8 (d + 38) h1 _ _ (aw_k75c (d + 36) h1 _ hs)) h0 h21 (aw_k136c (d + 38) h21 (Or.inl hs)) rfl (fun q => absurd q (by decide)) K
  obtain ⟨k, hk, hke⟩ := aw_sh3 hs
  obtain ⟨rs, r, to, ma, pi, br, bk, co, h4, hl, hr, hrs, ⟨m1, m2, m3, m4, m5, m6, m7, m8, m9, m10, m11, m12⟩, wc, bc, sc, ic, cc, dp, rd, ws, pc, bw, ⟨t1, t2, t3, t4, t5, t6, t7⟩, hsh⟩ := aw_get hS hk
  by_cases ht : xs.getD (i + 2) 0 < 0 ∨ ¬ xs.getD (i + 2) 0 < 3
  · refine ⟨am_pu w 21 (aw_c21 1 (Int32.ofNat tl) (Int32.ofNat pl) wd wt sn), g ++ [.inl (8, [])], some (.int 1), some (.int 0), ⟨tl, pl, sp, 1, wd, wt, sn, h1, rfl, hT, hP, aw_Shs_up (by omega) hS, hC, u, hO⟩, h0, by simp, aw_sz1 rfl, fun o h' K => ?_⟩
    exact aw_L6 d i x5 x6 h0 hi hx (aw_W74t8 (d + 38) h1 _ _ (by rw [hke]; exact aw_k75e (d + 36) h1 hk ht)) h0 h21 (aw_k136c (d + 38) h21 (Or.inr ht)) rfl (fun q => absurd q (by decide)) K
  · obtain ⟨j, hj, hje⟩ := aw_sh3 ht
    obtain ⟨rs', q, to', ma', pi', br', bk', co', h4', hl', hq, hqs, ⟨n1, n2, n3, n4, n5, n6, n7, n8, n9, n10, n11, n12⟩, wc1, bc1, sc1, ic1, cc1, dp1, rd1, ws1, pd, bw1, ⟨u1, u2, u3, u4, u5, u6, u7⟩, hsq⟩ := aw_get hS hj
    cases h4.symm.trans h4'
    cases m1.symm.trans n1 |> aw_Iinj
    cases m2.symm.trans n2 |> aw_Iinj
    cases m3.symm.trans n3 |> aw_Iinj
    cases m4.symm.trans n4 |> aw_Iinj
    cases m5.symm.trans n5 |> aw_Iinj
    cases m6.symm.trans n6 |> aw_Iinj
    rcases hsh with ⟨hd, hm⟩ | ⟨hd, js, b, j1, j2, j3, j4, j5, j6, b1, b2, b3, b4, q1, q2, q3, q4, q5⟩
    · refine ⟨am_pu w 21 (aw_c21 2 (Int32.ofNat tl) (Int32.ofNat pl) wd wt sn), g ++ [.inl (9, [])], some (.int 2), some (.int 0), ⟨tl, pl, sp, 2, wd, wt, sn, h1, rfl, hT, hP, aw_Shs_up (by omega) hS, hC, u, hO⟩, h0, by simp, aw_sz1 rfl, fun o h' K => ?_⟩
      exact aw_L6 d i x5 x6 h0 hi hx (aw_W74t9 (d + 38) h1 _ _ (by rw [hke, hje]; exact aw_k75b (d + 36) h1 h4 hl hk hr hrs t1 hj hd)) h0 h21 (by rw [hke, hje]; exact aw_k136b (d + 38) h21 m2 m8 hk hj hm) rfl (fun q => absurd q (by decide)) K
    · rcases hsq with ⟨hd1, hm1⟩ | ⟨hd1, js1, b9, k1, k2, k3, k4, k5, k6, -⟩
      · refine ⟨am_pu w 21 (aw_c21 2 (Int32.ofNat tl) (Int32.ofNat pl) wd wt sn), g ++ [.inl (9, [])], some (.int 2), some (.int 0), ⟨tl, pl, sp, 2, wd, wt, sn, h1, rfl, hT, hP, aw_Shs_up (by omega) hS, hC, u, hO⟩, h0, by simp, aw_sz1 rfl, fun o h' K => ?_⟩
        exact aw_L6 d i x5 x6 h0 hi hx (aw_W74t9 (d + 38) h1 _ _ (by rw [hke, hje]; exact aw_k75f (d + 36) h1 h4 hl hk hr hrs hj hq hqs t1 u1 hd hd1)) h0 h21 (by rw [hke, hje]; exact aw_k136f (d + 38) h21 m2 m8 hk hj (by rw [j4]; exact aw_nz j1 j2) hm1) rfl (fun q => absurd q (by decide)) K
      · have e6 : aw_cnt (fun z => decide (¬ pc.getD z 0 = pd.getD z 0)) 576 = aw_cnt (fun z => decide (¬ pi.getD (576 * k + z) 0 = pi.getD (576 * j + z) 0)) 576 := aw_cnt_cong (fun z hz => by rw [j6 z hz, k6 z hz])
        refine ⟨am_pu (am_pu w 44 (.inr (3, [.long (aw_cnt (fun z => decide (¬ pc.getD z 0 = pd.getD z 0)) 576).toInt64]))) 21 (aw_c21 0 (Int32.ofNat tl) (Int32.ofNat pl) wd wt sn), g, some (.int 0), some (.int (aw_cnt (fun z => decide (¬ pc.getD z 0 = pd.getD z 0)) 576)), ⟨tl, pl, sp, 0, wd, wt, sn, h1, rfl, hT, hP, aw_Shs_up (by omega) (aw_Shs_up (by omega) hS), hC, _, rfl⟩, h0, by omega, by omega, fun o h' K => ?_⟩
        exact aw_L6 d i x5 x6 h0 hi hx (aw_W74a (d + 38) h1 _ _ (by rw [hke, hje]; exact aw_k75a (d + 36) h1 h4 hl hk hr hrs hj hq hqs t1 u1 t3 t6 u3 u6 hd hd1) hO) h0 h21 (by rw [hke, hje, e6]; exact aw_k136a (w := am_pu w 44 _) (d + 38) h21 m2 m8 m3 m9 hk hj (by rw [j4]; exact aw_nz j1 j2) (by rw [k4]; exact aw_nz k1 k2)) rfl (fun _ => rfl) K
