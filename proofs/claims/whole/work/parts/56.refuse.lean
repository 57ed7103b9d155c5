/-! Refusals; the Told of a shield; the wrappers of the law, and its cases, out of what the two sides answer. -/
theorem aw_k9a (d : Nat) (h : am_H) (s : Int32) (h1 : ¬ s < 0) (h2 : s < 3) : am_R d 9 0 [some (.ref 1001), some (.int s)] [] h (.inl none) h := by
  refine am_R.ites 2 (P := s < 0) (T := 9) (F := 4) (lv' := [some (.ref 1001), some (.int s)]) (st' := []) (h1 := h) rfl (fun c1 => ?_) (fun c1 => ?_)
  · exact absurd c1 h1
  · refine am_R.ites 3 (P := s < 3) (T := 19) (F := 9) (lv' := [some (.ref 1001), some (.int s)]) (st' := []) (h1 := h) rfl (fun c2 => ?_) (fun c2 => ?_)
    · exact am_R.ret rfl rfl
    · exact absurd h2 c2
theorem aw_k9b (d : Nat) (h : am_H) (s : Int32) (hs : s < 0 ∨ ¬ s < 3) : am_R d 9 0 [some (.ref 1001), some (.int s)] [] h (.inr (1000 + h.length)) (h ++ [.inl (8, [])]) := by
  refine am_R.ites 2 (P := s < 0) (T := 9) (F := 4) (lv' := [some (.ref 1001), some (.int s)]) (st' := []) (h1 := h) rfl (fun c1 => ?_) (fun c1 => ?_)
  · exact am_R.tw rfl rfl
  · refine am_R.ites 3 (P := s < 3) (T := 19) (F := 9) (lv' := [some (.ref 1001), some (.int s)]) (st' := []) (h1 := h) rfl (fun c2 => ?_) (fun c2 => ?_)
    · exact absurd hs (fun q => q.elim c1 (fun q => q c2))
    · exact am_R.tw rfl rfl
theorem aw_k68a (d : Nat) (h : am_H) (s : Int32) (h1 : ¬ s < 0) (h2 : s < 24) : am_R d 68 0 [some (.ref 1001), some (.int s)] [] h (.inl none) h := by
  refine am_R.ites 2 (P := s < 0) (T := 10) (F := 4) (lv' := [some (.ref 1001), some (.int s)]) (st' := []) (h1 := h) rfl (fun c1 => ?_) (fun c1 => ?_)
  · exact absurd c1 h1
  · refine am_R.ites 3 (P := s < 24) (T := 20) (F := 10) (lv' := [some (.ref 1001), some (.int s)]) (st' := []) (h1 := h) rfl (fun c2 => ?_) (fun c2 => ?_)
    · exact am_R.ret rfl rfl
    · exact absurd h2 c2
theorem aw_k68b (d : Nat) (h : am_H) (s : Int32) (hs : s < 0 ∨ ¬ s < 24) : am_R d 68 0 [some (.ref 1001), some (.int s)] [] h (.inr (1000 + h.length)) (h ++ [.inl (8, [])]) := by
  refine am_R.ites 2 (P := s < 0) (T := 10) (F := 4) (lv' := [some (.ref 1001), some (.int s)]) (st' := []) (h1 := h) rfl (fun c1 => ?_) (fun c1 => ?_)
  · exact am_R.tw rfl rfl
  · refine am_R.ites 3 (P := s < 24) (T := 20) (F := 10) (lv' := [some (.ref 1001), some (.int s)]) (st' := []) (h1 := h) rfl (fun c2 => ?_) (fun c2 => ?_)
    · exact absurd hs (fun q => q.elim c1 (fun q => q c2))
    · exact am_R.tw rfl rfl
theorem aw_nn (k : Nat) (h : k < 2 ^ 31 := by omega) : ¬ Int32.ofNat k < 0 := Int32.not_lt.mpr ((am_leN (i := 0) (by decide) h).mpr (Nat.zero_le _))
theorem aw_k69a {w : Nat → am_C} {g : am_H} (d : Nat) {tl pl sp : Nat} (h1 : w 1 = aw_c1 tl pl sp) {rs : List Value} (h4 : w 4 = .inr (5, rs)) (hl : rs.length = 3) {k r : Nat} (hk : k < 3) (hr : r < 4) (hrs : rs[k]? = some (.ref (1005 + 4 * r))) {wc bc sc ic cc dp rd : Int32} (hT : w (5 + 4 * r) = aw_cT r wc bc sc ic cc dp rd) (hd : rd = 1) : am_R (d + 1) 69 0 [some (.ref 1001), some (.int (Int32.ofNat k)), none] [] (am_h w g) (.inl (some (.ref (1005 + 4 * r)))) (am_h w g) := by
  refine am_R.nxs 2 (pc' := 2) (lv' := [some (.ref 1001), some (.int (Int32.ofNat k)), none]) (st' := [.int (Int32.ofNat k), .ref 1001]) (h1 := am_h w g) rfl ?_
  refine am_R.cv (a := 1001) (as' := [.int (Int32.ofNat k)]) (r := []) (v := none) (h1 := am_h w g) (pc' := 5) rfl rfl rfl rfl (am_wf 1 (by decide) h1) rfl rfl (aw_k9a d _ _ (aw_nn k) ((am_ltN (n := 3) (by omega) (by decide)).mpr hk)) rfl ?_
  refine am_R.nxs 1 (pc' := 6) (lv' := [some (.ref 1001), some (.int (Int32.ofNat k)), none]) (st' := [.ref 1001]) (h1 := am_h w g) rfl ?_
  refine am_R.gf (pc' := 9) (v := .ref 1004) rfl (am_wf 1 (by decide) h1) rfl rfl rfl ?_
  refine am_R.nxs 1 (pc' := 10) (lv' := [some (.ref 1001), some (.int (Int32.ofNat k)), none]) (st' := [.int (Int32.ofNat k), .ref 1004]) (h1 := am_h w g) rfl ?_
  refine am_R.lda (i := k) (xs := rs) (v := .ref (1005 + 4 * r)) (pc' := 11) rfl (am_wf 4 (by decide) h4) (by decide) (by omega) (by omega) (hrs) rfl ?_
  refine am_R.nxs 2 (pc' := 13) (lv' := [some (.ref 1001), some (.int (Int32.ofNat k)), some (.ref (1005 + 4 * r))]) (st' := [.ref (1005 + 4 * r)]) (h1 := am_h w g) rfl ?_
  refine am_R.gf (pc' := 16) (v := .int rd) rfl (aw_at5 hr hT) rfl rfl rfl ?_
  refine am_R.ites 1 (P := ¬ rd = 0) (T := 29) (F := 19) (lv' := [some (.ref 1001), some (.int (Int32.ofNat k)), some (.ref (1005 + 4 * r))]) (st' := []) (h1 := am_h w g) rfl (fun c1 => ?_) (fun c1 => ?_)
  · refine am_R.nxs 1 (pc' := 30) (lv' := [some (.ref 1001), some (.int (Int32.ofNat k)), some (.ref (1005 + 4 * r))]) (st' := [.ref (1005 + 4 * r)]) (h1 := am_h w g) rfl ?_
    exact am_R.ret rfl rfl
  · exact absurd (by rw [hd]; decide) c1
theorem aw_k69b {w : Nat → am_C} {g : am_H} (d : Nat) {tl pl sp : Nat} (h1 : w 1 = aw_c1 tl pl sp) {rs : List Value} (h4 : w 4 = .inr (5, rs)) (hl : rs.length = 3) {k r : Nat} (hk : k < 3) (hr : r < 4) (hrs : rs[k]? = some (.ref (1005 + 4 * r))) {wc bc sc ic cc dp rd : Int32} (hT : w (5 + 4 * r) = aw_cT r wc bc sc ic cc dp rd) (hd : rd = 0) : am_R (d + 1) 69 0 [some (.ref 1001), some (.int (Int32.ofNat k)), none] [] (am_h w g) (.inr (1000 + (am_h w g).length)) (am_h w (g ++ [.inl (9, [])])) := by
  refine am_R.nxs 2 (pc' := 2) (lv' := [some (.ref 1001), some (.int (Int32.ofNat k)), none]) (st' := [.int (Int32.ofNat k), .ref 1001]) (h1 := am_h w g) rfl ?_
  refine am_R.cv (a := 1001) (as' := [.int (Int32.ofNat k)]) (r := []) (v := none) (h1 := am_h w g) (pc' := 5) rfl rfl rfl rfl (am_wf 1 (by decide) h1) rfl rfl (aw_k9a d _ _ (aw_nn k) ((am_ltN (n := 3) (by omega) (by decide)).mpr hk)) rfl ?_
  refine am_R.nxs 1 (pc' := 6) (lv' := [some (.ref 1001), some (.int (Int32.ofNat k)), none]) (st' := [.ref 1001]) (h1 := am_h w g) rfl ?_
  refine am_R.gf (pc' := 9) (v := .ref 1004) rfl (am_wf 1 (by decide) h1) rfl rfl rfl ?_
  refine am_R.nxs 1 (pc' := 10) (lv' := [some (.ref 1001), some (.int (Int32.ofNat k)), none]) (st' := [.int (Int32.ofNat k), .ref 1004]) (h1 := am_h w g) rfl ?_
  refine am_R.lda (i := k) (xs := rs) (v := .ref (1005 + 4 * r)) (pc' := 11) rfl (am_wf 4 (by decide) h4) (by decide) (by omega) (by omega) (hrs) rfl ?_
  refine am_R.nxs 2 (pc' := 13) (lv' := [some (.ref 1001), some (.int (Int32.ofNat k)), some (.ref (1005 + 4 * r))]) (st' := [.ref (1005 + 4 * r)]) (h1 := am_h w g) rfl ?_
  refine am_R.gf (pc' := 16) (v := .int rd) rfl (aw_at5 hr hT) rfl rfl rfl ?_
  refine am_R.ites 1 (P := ¬ rd = 0) (T := 29) (F := 19) (lv' := [some (.ref 1001), some (.int (Int32.ofNat k)), some (.ref (1005 + 4 * r))]) (st' := []) (h1 := am_h w g) rfl (fun c1 => ?_) (fun c1 => ?_)
  · exact absurd hd c1
  · exact am_R.tw rfl rfl
theorem aw_k69c {w : Nat → am_C} {g : am_H} (d : Nat) {tl pl sp : Nat} (h1 : w 1 = aw_c1 tl pl sp) (s : Int32) (hs : s < 0 ∨ ¬ s < 3) : am_R (d + 1) 69 0 [some (.ref 1001), some (.int s), none] [] (am_h w g) (.inr (1000 + (am_h w g).length)) (am_h w (g ++ [.inl (8, [])])) := by
  refine am_R.nxs 2 (pc' := 2) (lv' := [some (.ref 1001), some (.int s), none]) (st' := [.int s, .ref 1001]) (h1 := am_h w g) rfl ?_
  exact am_R.cvp (a := 1001) (as' := [.int s]) (r := []) rfl rfl rfl rfl (am_wf 1 (by decide) h1) rfl rfl (aw_k9b d _ _ hs) rfl
theorem aw_k77a {w : Nat → am_C} {g : am_H} (d : Nat) {tl pl sp : Nat} (h1 : w 1 = aw_c1 tl pl sp) {rs : List Value} (h4 : w 4 = .inr (5, rs)) (hl : rs.length = 3) {k r : Nat} (hk : k < 3) (hr : r < 4) (hrs : rs[k]? = some (.ref (1005 + 4 * r))) {wc bc sc ic cc dp rd : Int32} (hT : w (5 + 4 * r) = aw_cT r wc bc sc ic cc dp rd) (hd : rd = 1) : am_R (d + 2) 77 0 [some (.ref 1001), some (.int (Int32.ofNat k))] [] (am_h w g) (.inl (some (.int bc))) (am_h w g) := by
  refine am_R.nxs 2 (pc' := 2) (lv' := [some (.ref 1001), some (.int (Int32.ofNat k))]) (st' := [.int (Int32.ofNat k), .ref 1001]) (h1 := am_h w g) rfl ?_
  refine am_R.cv (a := 1001) (as' := [.int (Int32.ofNat k)]) (r := []) (v := some (.ref (1005 + 4 * r))) (h1 := am_h w g) (pc' := 5) rfl rfl rfl rfl (am_wf 1 (by decide) h1) rfl rfl (aw_k69a d h1 h4 hl hk hr hrs hT hd) rfl ?_
  refine am_R.gf (pc' := 8) (v := .int bc) rfl (aw_at5 hr hT) rfl rfl rfl ?_
  exact am_R.reti rfl rfl rfl
theorem aw_k77b {w : Nat → am_C} {g : am_H} (d : Nat) {tl pl sp : Nat} (h1 : w 1 = aw_c1 tl pl sp) {rs : List Value} (h4 : w 4 = .inr (5, rs)) (hl : rs.length = 3) {k r : Nat} (hk : k < 3) (hr : r < 4) (hrs : rs[k]? = some (.ref (1005 + 4 * r))) {wc bc sc ic cc dp rd : Int32} (hT : w (5 + 4 * r) = aw_cT r wc bc sc ic cc dp rd) (hd : rd = 0) : am_R (d + 2) 77 0 [some (.ref 1001), some (.int (Int32.ofNat k))] [] (am_h w g) (.inr (1000 + (am_h w g).length)) (am_h w (g ++ [.inl (9, [])])) := by
  refine am_R.nxs 2 (pc' := 2) (lv' := [some (.ref 1001), some (.int (Int32.ofNat k))]) (st' := [.int (Int32.ofNat k), .ref 1001]) (h1 := am_h w g) rfl ?_
  exact am_R.cvp (a := 1001) (as' := [.int (Int32.ofNat k)]) (r := []) rfl rfl rfl rfl (am_wf 1 (by decide) h1) rfl rfl (aw_k69b d h1 h4 hl hk hr hrs hT hd) rfl
theorem aw_k77c {w : Nat → am_C} {g : am_H} (d : Nat) {tl pl sp : Nat} (h1 : w 1 = aw_c1 tl pl sp) (s : Int32) (hs : s < 0 ∨ ¬ s < 3) : am_R (d + 2) 77 0 [some (.ref 1001), some (.int s)] [] (am_h w g) (.inr (1000 + (am_h w g).length)) (am_h w (g ++ [.inl (8, [])])) := by
  refine am_R.nxs 2 (pc' := 2) (lv' := [some (.ref 1001), some (.int s)]) (st' := [.int s, .ref 1001]) (h1 := am_h w g) rfl ?_
  exact am_R.cvp (a := 1001) (as' := [.int s]) (r := []) rfl rfl rfl rfl (am_wf 1 (by decide) h1) rfl rfl (aw_k69c d h1 s hs) rfl
theorem aw_k79a {w : Nat → am_C} {g : am_H} (d : Nat) {tl pl sp : Nat} (h1 : w 1 = aw_c1 tl pl sp) {rs : List Value} (h4 : w 4 = .inr (5, rs)) (hl : rs.length = 3) {k r : Nat} (hk : k < 3) (hr : r < 4) (hrs : rs[k]? = some (.ref (1005 + 4 * r))) {b : Nat} {wc sc ic cc dp rd : Int32} (hT : w (5 + 4 * r) = aw_cT r wc (Int32.ofNat b) sc ic cc dp rd) {bw : List Int32} (hB : w (8 + 4 * r) = am_I 0 bw) (hbl : bw.length = 120) (hd : rd = 1) (i : Nat) (hi : i < b) (hb : b ≤ 120) : am_R (d + 2) 79 0 [some (.ref 1001), some (.int (Int32.ofNat k)), some (.int (Int32.ofNat i)), none] [] (am_h w g) (.inl (some (.int (bw.getD i 0)))) (am_h w g) := by
  refine am_R.nxs 2 (pc' := 2) (lv' := [some (.ref 1001), some (.int (Int32.ofNat k)), some (.int (Int32.ofNat i)), none]) (st' := [.int (Int32.ofNat k), .ref 1001]) (h1 := am_h w g) rfl ?_
  refine am_R.cv (a := 1001) (as' := [.int (Int32.ofNat k)]) (r := []) (v := some (.ref (1005 + 4 * r))) (h1 := am_h w g) (pc' := 5) rfl rfl rfl rfl (am_wf 1 (by decide) h1) rfl rfl (aw_k69a d h1 h4 hl hk hr hrs hT hd) rfl ?_
  refine am_R.ites 3 (P := Int32.ofNat i < 0) (T := 27) (F := 10) (lv' := [some (.ref 1001), some (.int (Int32.ofNat k)), some (.int (Int32.ofNat i)), some (.ref (1005 + 4 * r))]) (st' := []) (h1 := am_h w g) rfl (fun c1 => ?_) (fun c1 => ?_)
  · have c1 : i < 0 := (am_ltN (i := i) (n := 0) (by omega) (by omega)).mp c1
    omega
  · have c1 : ¬ i < 0 := fun hq9 => c1 ((am_ltN (i := i) (n := 0) (by omega) (by omega)).mpr hq9)
    refine am_R.nxs 2 (pc' := 12) (lv' := [some (.ref 1001), some (.int (Int32.ofNat k)), some (.int (Int32.ofNat i)), some (.ref (1005 + 4 * r))]) (st' := [.ref (1005 + 4 * r), .int (Int32.ofNat i)]) (h1 := am_h w g) rfl ?_
    refine am_R.gf (pc' := 15) (v := .int (Int32.ofNat b)) rfl (aw_at5 hr hT) rfl rfl rfl ?_
    refine am_R.ites 1 (P := Int32.ofNat b ≤ Int32.ofNat i) (T := 27) (F := 18) (lv' := [some (.ref 1001), some (.int (Int32.ofNat k)), some (.int (Int32.ofNat i)), some (.ref (1005 + 4 * r))]) (st' := []) (h1 := am_h w g) rfl (fun c2 => ?_) (fun c2 => ?_)
    · have c2 : b ≤ i := (am_leN (i := b) (n := i) (by omega) (by omega)).mp c2
      omega
    · have c2 : ¬ b ≤ i := fun hq9 => c2 ((am_leN (i := b) (n := i) (by omega) (by omega)).mpr hq9)
      refine am_R.nxs 1 (pc' := 19) (lv' := [some (.ref 1001), some (.int (Int32.ofNat k)), some (.int (Int32.ofNat i)), some (.ref (1005 + 4 * r))]) (st' := [.ref (1005 + 4 * r)]) (h1 := am_h w g) rfl ?_
      refine am_R.gf (pc' := 22) (v := .ref (1008 + 4 * r)) rfl (aw_at5 hr hT) rfl rfl rfl ?_
      refine am_R.nxs 1 (pc' := 23) (lv' := [some (.ref 1001), some (.int (Int32.ofNat k)), some (.int (Int32.ofNat i)), some (.ref (1005 + 4 * r))]) (st' := [.int (Int32.ofNat i), .ref (1008 + 4 * r)]) (h1 := am_h w g) rfl ?_
      refine am_R.ldi (i := i) (xs := bw) (pc' := 24) rfl (aw_at8 hr hB) (by omega) (by omega) rfl ?_
      refine am_R.nxs 1 (pc' := 28) (lv' := [some (.ref 1001), some (.int (Int32.ofNat k)), some (.int (Int32.ofNat i)), some (.ref (1005 + 4 * r))]) (st' := [.int (bw.getD i 0)]) (h1 := am_h w g) rfl ?_
      exact am_R.reti rfl rfl rfl
theorem aw_k79e {w : Nat → am_C} {g : am_H} (d : Nat) {tl pl sp : Nat} (h1 : w 1 = aw_c1 tl pl sp) {rs : List Value} (h4 : w 4 = .inr (5, rs)) (hl : rs.length = 3) {k r : Nat} (hk : k < 3) (hr : r < 4) (hrs : rs[k]? = some (.ref (1005 + 4 * r))) {b : Nat} {wc sc ic cc dp rd : Int32} (hT : w (5 + 4 * r) = aw_cT r wc (Int32.ofNat b) sc ic cc dp rd) (hd : rd = 1) (v : Int32) (hv : v < 0 ∨ Int32.ofNat b ≤ v) : am_R (d + 2) 79 0 [some (.ref 1001), some (.int (Int32.ofNat k)), some (.int v), none] [] (am_h w g) (.inl (some (.int (-1)))) (am_h w g) := by
  refine am_R.nxs 2 (pc' := 2) (lv' := [some (.ref 1001), some (.int (Int32.ofNat k)), some (.int v), none]) (st' := [.int (Int32.ofNat k), .ref 1001]) (h1 := am_h w g) rfl ?_
  refine am_R.cv (a := 1001) (as' := [.int (Int32.ofNat k)]) (r := []) (v := some (.ref (1005 + 4 * r))) (h1 := am_h w g) (pc' := 5) rfl rfl rfl rfl (am_wf 1 (by decide) h1) rfl rfl (aw_k69a d h1 h4 hl hk hr hrs hT hd) rfl ?_
  refine am_R.ites 3 (P := v < 0) (T := 27) (F := 10) (lv' := [some (.ref 1001), some (.int (Int32.ofNat k)), some (.int v), some (.ref (1005 + 4 * r))]) (st' := []) (h1 := am_h w g) rfl (fun c1 => ?_) (fun c1 => ?_)
  · refine am_R.nxs 1 (pc' := 28) (lv' := [some (.ref 1001), some (.int (Int32.ofNat k)), some (.int v), some (.ref (1005 + 4 * r))]) (st' := [.int (-1)]) (h1 := am_h w g) rfl ?_
    exact am_R.reti rfl rfl rfl
  · refine am_R.nxs 2 (pc' := 12) (lv' := [some (.ref 1001), some (.int (Int32.ofNat k)), some (.int v), some (.ref (1005 + 4 * r))]) (st' := [.ref (1005 + 4 * r), .int v]) (h1 := am_h w g) rfl ?_
    refine am_R.gf (pc' := 15) (v := .int (Int32.ofNat b)) rfl (aw_at5 hr hT) rfl rfl rfl ?_
    refine am_R.ites 1 (P := Int32.ofNat b ≤ v) (T := 27) (F := 18) (lv' := [some (.ref 1001), some (.int (Int32.ofNat k)), some (.int v), some (.ref (1005 + 4 * r))]) (st' := []) (h1 := am_h w g) rfl (fun c2 => ?_) (fun c2 => ?_)
    · refine am_R.nxs 1 (pc' := 28) (lv' := [some (.ref 1001), some (.int (Int32.ofNat k)), some (.int v), some (.ref (1005 + 4 * r))]) (st' := [.int (-1)]) (h1 := am_h w g) rfl ?_
      exact am_R.reti rfl rfl rfl
    · exact absurd hv (fun q => q.elim c1 c2)
theorem aw_k79b {w : Nat → am_C} {g : am_H} (d : Nat) {tl pl sp : Nat} (h1 : w 1 = aw_c1 tl pl sp) {rs : List Value} (h4 : w 4 = .inr (5, rs)) (hl : rs.length = 3) {k r : Nat} (hk : k < 3) (hr : r < 4) (hrs : rs[k]? = some (.ref (1005 + 4 * r))) {wc bc sc ic cc dp rd : Int32} (hT : w (5 + 4 * r) = aw_cT r wc bc sc ic cc dp rd) (hd : rd = 0) (v : Int32) : am_R (d + 2) 79 0 [some (.ref 1001), some (.int (Int32.ofNat k)), some (.int v), none] [] (am_h w g) (.inr (1000 + (am_h w g).length)) (am_h w (g ++ [.inl (9, [])])) := by
  refine am_R.nxs 2 (pc' := 2) (lv' := [some (.ref 1001), some (.int (Int32.ofNat k)), some (.int v), none]) (st' := [.int (Int32.ofNat k), .ref 1001]) (h1 := am_h w g) rfl ?_
  exact am_R.cvp (a := 1001) (as' := [.int (Int32.ofNat k)]) (r := []) rfl rfl rfl rfl (am_wf 1 (by decide) h1) rfl rfl (aw_k69b d h1 h4 hl hk hr hrs hT hd) rfl
theorem aw_k79c {w : Nat → am_C} {g : am_H} (d : Nat) {tl pl sp : Nat} (h1 : w 1 = aw_c1 tl pl sp) (s v : Int32) (hs : s < 0 ∨ ¬ s < 3) : am_R (d + 2) 79 0 [some (.ref 1001), some (.int s), some (.int v), none] [] (am_h w g) (.inr (1000 + (am_h w g).length)) (am_h w (g ++ [.inl (8, [])])) := by
  refine am_R.nxs 2 (pc' := 2) (lv' := [some (.ref 1001), some (.int s), some (.int v), none]) (st' := [.int s, .ref 1001]) (h1 := am_h w g) rfl ?_
  exact am_R.cvp (a := 1001) (as' := [.int s]) (r := []) rfl rfl rfl rfl (am_wf 1 (by decide) h1) rfl rfl (aw_k69c d h1 s hs) rfl
theorem aw_k81a0 {w : Nat → am_C} {g : am_H} (d : Nat) {tl pl sp : Nat} (h1 : w 1 = aw_c1 tl pl sp) {rs : List Value} (h4 : w 4 = .inr (5, rs)) (hl : rs.length = 3) {k r : Nat} (hk : k < 3) (hr : r < 4) (hrs : rs[k]? = some (.ref (1005 + 4 * r))) {wc bc sc ic cc dp rd : Int32} (hT : w (5 + 4 * r) = aw_cT r wc bc sc ic cc dp rd) (hd : rd = 1) : am_R (d + 2) 81 0 [some (.ref 1001), some (.int (Int32.ofNat k)), some (.int 0), none] [] (am_h w g) (.inl (some (.int sc))) (am_h w g) := by
  refine am_R.nxs 2 (pc' := 2) (lv' := [some (.ref 1001), some (.int (Int32.ofNat k)), some (.int 0), none]) (st' := [.int (Int32.ofNat k), .ref 1001]) (h1 := am_h w g) rfl ?_
  refine am_R.cv (a := 1001) (as' := [.int (Int32.ofNat k)]) (r := []) (v := none) (h1 := am_h w g) (pc' := 5) rfl rfl rfl rfl (am_wf 1 (by decide) h1) rfl rfl (aw_k9a (d + 1) _ _ (aw_nn k) ((am_ltN (n := 3) (by omega) (by decide)).mpr hk)) rfl ?_
  refine am_R.ites 2 (P := 0 < 0) (T := 14) (F := 9) (lv' := [some (.ref 1001), some (.int (Int32.ofNat k)), some (.int 0), none]) (st' := []) (h1 := am_h w g) rfl (fun c1 => ?_) (fun c1 => ?_)
  · exact absurd c1 (by decide)
  · refine am_R.ites 3 (P := 0 ≤ 3) (T := 24) (F := 14) (lv' := [some (.ref 1001), some (.int (Int32.ofNat k)), some (.int 0), none]) (st' := []) (h1 := am_h w g) rfl (fun c2 => ?_) (fun c2 => ?_)
    · refine am_R.nxs 2 (pc' := 26) (lv' := [some (.ref 1001), some (.int (Int32.ofNat k)), some (.int 0), none]) (st' := [.int (Int32.ofNat k), .ref 1001]) (h1 := am_h w g) rfl ?_
      refine am_R.cv (a := 1001) (as' := [.int (Int32.ofNat k)]) (r := []) (v := some (.ref (1005 + 4 * r))) (h1 := am_h w g) (pc' := 29) rfl rfl rfl rfl (am_wf 1 (by decide) h1) rfl rfl (aw_k69a d h1 h4 hl hk hr hrs hT hd) rfl ?_
      refine am_R.nxs 2 (pc' := 31) (lv' := [some (.ref 1001), some (.int (Int32.ofNat k)), some (.int 0), some (.ref (1005 + 4 * r))]) (st' := [.int 0]) (h1 := am_h w g) rfl ?_
      refine am_R.nx (pc' := 56) (lv' := [some (.ref 1001), some (.int (Int32.ofNat k)), some (.int 0), some (.ref (1005 + 4 * r))]) (st' := []) (h1 := am_h w g) rfl ?_
      refine am_R.nxs 1 (pc' := 57) (lv' := [some (.ref 1001), some (.int (Int32.ofNat k)), some (.int 0), some (.ref (1005 + 4 * r))]) (st' := [.ref (1005 + 4 * r)]) (h1 := am_h w g) rfl ?_
      refine am_R.gf (pc' := 60) (v := .int sc) rfl (aw_at5 hr hT) rfl rfl rfl ?_
      exact am_R.reti rfl rfl rfl
    · exact absurd (by decide) c2
theorem aw_k81a1 {w : Nat → am_C} {g : am_H} (d : Nat) {tl pl sp : Nat} (h1 : w 1 = aw_c1 tl pl sp) {rs : List Value} (h4 : w 4 = .inr (5, rs)) (hl : rs.length = 3) {k r : Nat} (hk : k < 3) (hr : r < 4) (hrs : rs[k]? = some (.ref (1005 + 4 * r))) {wc bc sc ic cc dp rd : Int32} (hT : w (5 + 4 * r) = aw_cT r wc bc sc ic cc dp rd) (hd : rd = 1) : am_R (d + 2) 81 0 [some (.ref 1001), some (.int (Int32.ofNat k)), some (.int 1), none] [] (am_h w g) (.inl (some (.int ic))) (am_h w g) := by
  refine am_R.nxs 2 (pc' := 2) (lv' := [some (.ref 1001), some (.int (Int32.ofNat k)), some (.int 1), none]) (st' := [.int (Int32.ofNat k), .ref 1001]) (h1 := am_h w g) rfl ?_
  refine am_R.cv (a := 1001) (as' := [.int (Int32.ofNat k)]) (r := []) (v := none) (h1 := am_h w g) (pc' := 5) rfl rfl rfl rfl (am_wf 1 (by decide) h1) rfl rfl (aw_k9a (d + 1) _ _ (aw_nn k) ((am_ltN (n := 3) (by omega) (by decide)).mpr hk)) rfl ?_
  refine am_R.ites 2 (P := 1 < 0) (T := 14) (F := 9) (lv' := [some (.ref 1001), some (.int (Int32.ofNat k)), some (.int 1), none]) (st' := []) (h1 := am_h w g) rfl (fun c1 => ?_) (fun c1 => ?_)
  · exact absurd c1 (by decide)
  · refine am_R.ites 3 (P := 1 ≤ 3) (T := 24) (F := 14) (lv' := [some (.ref 1001), some (.int (Int32.ofNat k)), some (.int 1), none]) (st' := []) (h1 := am_h w g) rfl (fun c2 => ?_) (fun c2 => ?_)
    · refine am_R.nxs 2 (pc' := 26) (lv' := [some (.ref 1001), some (.int (Int32.ofNat k)), some (.int 1), none]) (st' := [.int (Int32.ofNat k), .ref 1001]) (h1 := am_h w g) rfl ?_
      refine am_R.cv (a := 1001) (as' := [.int (Int32.ofNat k)]) (r := []) (v := some (.ref (1005 + 4 * r))) (h1 := am_h w g) (pc' := 29) rfl rfl rfl rfl (am_wf 1 (by decide) h1) rfl rfl (aw_k69a d h1 h4 hl hk hr hrs hT hd) rfl ?_
      refine am_R.nxs 2 (pc' := 31) (lv' := [some (.ref 1001), some (.int (Int32.ofNat k)), some (.int 1), some (.ref (1005 + 4 * r))]) (st' := [.int 1]) (h1 := am_h w g) rfl ?_
      refine am_R.nx (pc' := 61) (lv' := [some (.ref 1001), some (.int (Int32.ofNat k)), some (.int 1), some (.ref (1005 + 4 * r))]) (st' := []) (h1 := am_h w g) rfl ?_
      refine am_R.nxs 1 (pc' := 62) (lv' := [some (.ref 1001), some (.int (Int32.ofNat k)), some (.int 1), some (.ref (1005 + 4 * r))]) (st' := [.ref (1005 + 4 * r)]) (h1 := am_h w g) rfl ?_
      refine am_R.gf (pc' := 65) (v := .int ic) rfl (aw_at5 hr hT) rfl rfl rfl ?_
      exact am_R.reti rfl rfl rfl
    · exact absurd (by decide) c2
theorem aw_k81a2 {w : Nat → am_C} {g : am_H} (d : Nat) {tl pl sp : Nat} (h1 : w 1 = aw_c1 tl pl sp) {rs : List Value} (h4 : w 4 = .inr (5, rs)) (hl : rs.length = 3) {k r : Nat} (hk : k < 3) (hr : r < 4) (hrs : rs[k]? = some (.ref (1005 + 4 * r))) {wc bc sc ic cc dp rd : Int32} (hT : w (5 + 4 * r) = aw_cT r wc bc sc ic cc dp rd) (hd : rd = 1) : am_R (d + 2) 81 0 [some (.ref 1001), some (.int (Int32.ofNat k)), some (.int 2), none] [] (am_h w g) (.inl (some (.int cc))) (am_h w g) := by
  refine am_R.nxs 2 (pc' := 2) (lv' := [some (.ref 1001), some (.int (Int32.ofNat k)), some (.int 2), none]) (st' := [.int (Int32.ofNat k), .ref 1001]) (h1 := am_h w g) rfl ?_
  refine am_R.cv (a := 1001) (as' := [.int (Int32.ofNat k)]) (r := []) (v := none) (h1 := am_h w g) (pc' := 5) rfl rfl rfl rfl (am_wf 1 (by decide) h1) rfl rfl (aw_k9a (d + 1) _ _ (aw_nn k) ((am_ltN (n := 3) (by omega) (by decide)).mpr hk)) rfl ?_
  refine am_R.ites 2 (P := 2 < 0) (T := 14) (F := 9) (lv' := [some (.ref 1001), some (.int (Int32.ofNat k)), some (.int 2), none]) (st' := []) (h1 := am_h w g) rfl (fun c1 => ?_) (fun c1 => ?_)
  · exact absurd c1 (by decide)
  · refine am_R.ites 3 (P := 2 ≤ 3) (T := 24) (F := 14) (lv' := [some (.ref 1001), some (.int (Int32.ofNat k)), some (.int 2), none]) (st' := []) (h1 := am_h w g) rfl (fun c2 => ?_) (fun c2 => ?_)
    · refine am_R.nxs 2 (pc' := 26) (lv' := [some (.ref 1001), some (.int (Int32.ofNat k)), some (.int 2), none]) (st' := [.int (Int32.ofNat k), .ref 1001]) (h1 := am_h w g) rfl ?_
      refine am_R.cv (a := 1001) (as' := [.int (Int32.ofNat k)]) (r := []) (v := some (.ref (1005 + 4 * r))) (h1 := am_h w g) (pc' := 29) rfl rfl rfl rfl (am_wf 1 (by decide) h1) rfl rfl (aw_k69a d h1 h4 hl hk hr hrs hT hd) rfl ?_
      refine am_R.nxs 2 (pc' := 31) (lv' := [some (.ref 1001), some (.int (Int32.ofNat k)), some (.int 2), some (.ref (1005 + 4 * r))]) (st' := [.int 2]) (h1 := am_h w g) rfl ?_
      refine am_R.nx (pc' := 66) (lv' := [some (.ref 1001), some (.int (Int32.ofNat k)), some (.int 2), some (.ref (1005 + 4 * r))]) (st' := []) (h1 := am_h w g) rfl ?_
      refine am_R.nxs 1 (pc' := 67) (lv' := [some (.ref 1001), some (.int (Int32.ofNat k)), some (.int 2), some (.ref (1005 + 4 * r))]) (st' := [.ref (1005 + 4 * r)]) (h1 := am_h w g) rfl ?_
      refine am_R.gf (pc' := 70) (v := .int cc) rfl (aw_at5 hr hT) rfl rfl rfl ?_
      exact am_R.reti rfl rfl rfl
    · exact absurd (by decide) c2
theorem aw_k81a3 {w : Nat → am_C} {g : am_H} (d : Nat) {tl pl sp : Nat} (h1 : w 1 = aw_c1 tl pl sp) {rs : List Value} (h4 : w 4 = .inr (5, rs)) (hl : rs.length = 3) {k r : Nat} (hk : k < 3) (hr : r < 4) (hrs : rs[k]? = some (.ref (1005 + 4 * r))) {wc bc sc ic cc dp rd : Int32} (hT : w (5 + 4 * r) = aw_cT r wc bc sc ic cc dp rd) (hd : rd = 1) : am_R (d + 2) 81 0 [some (.ref 1001), some (.int (Int32.ofNat k)), some (.int 3), none] [] (am_h w g) (.inl (some (.int dp))) (am_h w g) := by
  refine am_R.nxs 2 (pc' := 2) (lv' := [some (.ref 1001), some (.int (Int32.ofNat k)), some (.int 3), none]) (st' := [.int (Int32.ofNat k), .ref 1001]) (h1 := am_h w g) rfl ?_
  refine am_R.cv (a := 1001) (as' := [.int (Int32.ofNat k)]) (r := []) (v := none) (h1 := am_h w g) (pc' := 5) rfl rfl rfl rfl (am_wf 1 (by decide) h1) rfl rfl (aw_k9a (d + 1) _ _ (aw_nn k) ((am_ltN (n := 3) (by omega) (by decide)).mpr hk)) rfl ?_
  refine am_R.ites 2 (P := 3 < 0) (T := 14) (F := 9) (lv' := [some (.ref 1001), some (.int (Int32.ofNat k)), some (.int 3), none]) (st' := []) (h1 := am_h w g) rfl (fun c1 => ?_) (fun c1 => ?_)
  · exact absurd c1 (by decide)
  · refine am_R.ites 3 (P := 3 ≤ 3) (T := 24) (F := 14) (lv' := [some (.ref 1001), some (.int (Int32.ofNat k)), some (.int 3), none]) (st' := []) (h1 := am_h w g) rfl (fun c2 => ?_) (fun c2 => ?_)
    · refine am_R.nxs 2 (pc' := 26) (lv' := [some (.ref 1001), some (.int (Int32.ofNat k)), some (.int 3), none]) (st' := [.int (Int32.ofNat k), .ref 1001]) (h1 := am_h w g) rfl ?_
      refine am_R.cv (a := 1001) (as' := [.int (Int32.ofNat k)]) (r := []) (v := some (.ref (1005 + 4 * r))) (h1 := am_h w g) (pc' := 29) rfl rfl rfl rfl (am_wf 1 (by decide) h1) rfl rfl (aw_k69a d h1 h4 hl hk hr hrs hT hd) rfl ?_
      refine am_R.nxs 2 (pc' := 31) (lv' := [some (.ref 1001), some (.int (Int32.ofNat k)), some (.int 3), some (.ref (1005 + 4 * r))]) (st' := [.int 3]) (h1 := am_h w g) rfl ?_
      refine am_R.nx (pc' := 71) (lv' := [some (.ref 1001), some (.int (Int32.ofNat k)), some (.int 3), some (.ref (1005 + 4 * r))]) (st' := []) (h1 := am_h w g) rfl ?_
      refine am_R.nxs 1 (pc' := 72) (lv' := [some (.ref 1001), some (.int (Int32.ofNat k)), some (.int 3), some (.ref (1005 + 4 * r))]) (st' := [.ref (1005 + 4 * r)]) (h1 := am_h w g) rfl ?_
      refine am_R.gf (pc' := 75) (v := .int dp) rfl (aw_at5 hr hT) rfl rfl rfl ?_
      exact am_R.reti rfl rfl rfl
    · exact absurd (by decide) c2
theorem aw_k81b {w : Nat → am_C} {g : am_H} (d : Nat) {tl pl sp : Nat} (h1 : w 1 = aw_c1 tl pl sp) {rs : List Value} (h4 : w 4 = .inr (5, rs)) (hl : rs.length = 3) {k r : Nat} (hk : k < 3) (hr : r < 4) (hrs : rs[k]? = some (.ref (1005 + 4 * r))) {wc bc sc ic cc dp rd : Int32} (hT : w (5 + 4 * r) = aw_cT r wc bc sc ic cc dp rd) (hd : rd = 0) (v : Int32) (h5 : ¬ v < 0) (h6 : v ≤ 3) : am_R (d + 2) 81 0 [some (.ref 1001), some (.int (Int32.ofNat k)), some (.int v), none] [] (am_h w g) (.inr (1000 + (am_h w g).length)) (am_h w (g ++ [.inl (9, [])])) := by
  refine am_R.nxs 2 (pc' := 2) (lv' := [some (.ref 1001), some (.int (Int32.ofNat k)), some (.int v), none]) (st' := [.int (Int32.ofNat k), .ref 1001]) (h1 := am_h w g) rfl ?_
  refine am_R.cv (a := 1001) (as' := [.int (Int32.ofNat k)]) (r := []) (v := none) (h1 := am_h w g) (pc' := 5) rfl rfl rfl rfl (am_wf 1 (by decide) h1) rfl rfl (aw_k9a (d + 1) _ _ (aw_nn k) ((am_ltN (n := 3) (by omega) (by decide)).mpr hk)) rfl ?_
  refine am_R.ites 2 (P := v < 0) (T := 14) (F := 9) (lv' := [some (.ref 1001), some (.int (Int32.ofNat k)), some (.int v), none]) (st' := []) (h1 := am_h w g) rfl (fun c1 => ?_) (fun c1 => ?_)
  · exact absurd c1 h5
  · refine am_R.ites 3 (P := v ≤ 3) (T := 24) (F := 14) (lv' := [some (.ref 1001), some (.int (Int32.ofNat k)), some (.int v), none]) (st' := []) (h1 := am_h w g) rfl (fun c2 => ?_) (fun c2 => ?_)
    · refine am_R.nxs 2 (pc' := 26) (lv' := [some (.ref 1001), some (.int (Int32.ofNat k)), some (.int v), none]) (st' := [.int (Int32.ofNat k), .ref 1001]) (h1 := am_h w g) rfl ?_
      exact am_R.cvp (a := 1001) (as' := [.int (Int32.ofNat k)]) (r := []) rfl rfl rfl rfl (am_wf 1 (by decide) h1) rfl rfl (aw_k69b d h1 h4 hl hk hr hrs hT hd) rfl
    · exact absurd h6 c2
theorem aw_k81d {w : Nat → am_C} {g : am_H} (d : Nat) {tl pl sp : Nat} (h1 : w 1 = aw_c1 tl pl sp) {k : Nat} (hk : k < 3) (v : Int32) (hv : v < 0 ∨ ¬ v ≤ 3) : am_R (d + 2) 81 0 [some (.ref 1001), some (.int (Int32.ofNat k)), some (.int v), none] [] (am_h w g) (.inr (1000 + (am_h w g).length)) (am_h w (g ++ [.inl (10, [])])) := by
  refine am_R.nxs 2 (pc' := 2) (lv' := [some (.ref 1001), some (.int (Int32.ofNat k)), some (.int v), none]) (st' := [.int (Int32.ofNat k), .ref 1001]) (h1 := am_h w g) rfl ?_
  refine am_R.cv (a := 1001) (as' := [.int (Int32.ofNat k)]) (r := []) (v := none) (h1 := am_h w g) (pc' := 5) rfl rfl rfl rfl (am_wf 1 (by decide) h1) rfl rfl (aw_k9a (d + 1) _ _ (aw_nn k) ((am_ltN (n := 3) (by omega) (by decide)).mpr hk)) rfl ?_
  refine am_R.ites 2 (P := v < 0) (T := 14) (F := 9) (lv' := [some (.ref 1001), some (.int (Int32.ofNat k)), some (.int v), none]) (st' := []) (h1 := am_h w g) rfl (fun c1 => ?_) (fun c1 => ?_)
  · exact am_R.tw rfl rfl
  · refine am_R.ites 3 (P := v ≤ 3) (T := 24) (F := 14) (lv' := [some (.ref 1001), some (.int (Int32.ofNat k)), some (.int v), none]) (st' := []) (h1 := am_h w g) rfl (fun c2 => ?_) (fun c2 => ?_)
    · exact absurd hv (fun q => q.elim c1 (fun q => q c2))
    · exact am_R.tw rfl rfl
theorem aw_k81c {w : Nat → am_C} {g : am_H} (d : Nat) {tl pl sp : Nat} (h1 : w 1 = aw_c1 tl pl sp) (s v : Int32) (hs : s < 0 ∨ ¬ s < 3) : am_R (d + 2) 81 0 [some (.ref 1001), some (.int s), some (.int v), none] [] (am_h w g) (.inr (1000 + (am_h w g).length)) (am_h w (g ++ [.inl (8, [])])) := by
  refine am_R.nxs 2 (pc' := 2) (lv' := [some (.ref 1001), some (.int s), some (.int v), none]) (st' := [.int s, .ref 1001]) (h1 := am_h w g) rfl ?_
  exact am_R.cvp (a := 1001) (as' := [.int s]) (r := []) rfl rfl rfl rfl (am_wf 1 (by decide) h1) rfl rfl (aw_k9b (d + 1) _ s hs) rfl
