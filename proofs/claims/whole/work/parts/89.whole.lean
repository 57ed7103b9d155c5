/-! readWhole of the class. -/
theorem am_pu_pu {w : Nat → am_C} {k : Nat} {c c' : am_C} : am_pu (am_pu w k c) k c' = am_pu w k c' := by
  funext j
  unfold am_pu
  split <;> rfl
theorem aw_k22 {w : Nat → am_C} {g : am_H} (d : Nat) {r : Nat} (hr : r < 4) {wc bc sc icc ccc dpp ir : Int32} (h5 : w (5 + 4 * r) = aw_cT r wc bc sc icc ccc dpp ir) : am_R d 22 0 [some (.ref (1005 + 4 * r))] [] (am_h w g) (.inl none) (am_h (am_pu w (5 + 4 * r) (aw_cT r wc 0 0 0 0 0 ir)) g) := by
  refine am_R.nxs 2 (pc' := 2) (lv' := [some (.ref (1005 + 4 * r))]) (st' := [.int 0, .ref (1005 + 4 * r)]) (h1 := am_h w g) rfl ?_
  refine am_R.pf (k := 4) (pc' := 5) rfl (aw_at5 hr h5) rfl (Nat.le_of_ble_eq_true rfl) rfl (fun q => by cases q) (aw_ws5 hr) rfl ?_
  refine am_R.nxs 2 (pc' := 7) (lv' := [some (.ref (1005 + 4 * r))]) (st' := [.int 0, .ref (1005 + 4 * r)]) (h1 := am_h (am_pu w (5 + 4 * r) (aw_cT r wc 0 sc icc ccc dpp ir)) g) rfl ?_
  refine am_R.pf (k := 5) (pc' := 10) rfl (aw_at5 hr (am_pu_eq _ _ _)) rfl (Nat.le_of_ble_eq_true rfl) rfl (fun q => by cases q) ((aw_ws5 hr).trans (by rw [am_pu_pu])) rfl ?_
  refine am_R.nxs 2 (pc' := 12) (lv' := [some (.ref (1005 + 4 * r))]) (st' := [.int 0, .ref (1005 + 4 * r)]) (h1 := am_h (am_pu w (5 + 4 * r) (aw_cT r wc 0 0 icc ccc dpp ir)) g) rfl ?_
  refine am_R.pf (k := 6) (pc' := 15) rfl (aw_at5 hr (am_pu_eq _ _ _)) rfl (Nat.le_of_ble_eq_true rfl) rfl (fun q => by cases q) ((aw_ws5 hr).trans (by rw [am_pu_pu])) rfl ?_
  refine am_R.nxs 2 (pc' := 17) (lv' := [some (.ref (1005 + 4 * r))]) (st' := [.int 0, .ref (1005 + 4 * r)]) (h1 := am_h (am_pu w (5 + 4 * r) (aw_cT r wc 0 0 0 ccc dpp ir)) g) rfl ?_
  refine am_R.pf (k := 7) (pc' := 20) rfl (aw_at5 hr (am_pu_eq _ _ _)) rfl (Nat.le_of_ble_eq_true rfl) rfl (fun q => by cases q) ((aw_ws5 hr).trans (by rw [am_pu_pu])) rfl ?_
  refine am_R.nxs 2 (pc' := 22) (lv' := [some (.ref (1005 + 4 * r))]) (st' := [.int 0, .ref (1005 + 4 * r)]) (h1 := am_h (am_pu w (5 + 4 * r) (aw_cT r wc 0 0 0 0 dpp ir)) g) rfl ?_
  refine am_R.pf (k := 8) (pc' := 25) rfl (aw_at5 hr (am_pu_eq _ _ _)) rfl (Nat.le_of_ble_eq_true rfl) rfl (fun q => by cases q) ((aw_ws5 hr).trans (by rw [am_pu_pu])) rfl ?_
  exact am_R.ret rfl rfl
theorem aw_k20 {w : Nat → am_C} {g : am_H} (d : Nat) {r L : Nat} (hL : g.length = L) : am_R d 20 0 [some (.ref (1045 + L)), some (.ref (1005 + 4 * r))] [] (am_h w (g ++ [.inl (3, [.null, .int 0])])) (.inl none) (am_h w (g ++ [aw_cR r 0])) := by
  refine am_R.nxs 4 (pc' := 6) (lv' := [some (.ref (1045 + L)), some (.ref (1005 + 4 * r))]) (st' := [.ref (1005 + 4 * r), .ref (1045 + L)]) (h1 := am_h w (g ++ [.inl (3, [.null, .int 0])])) rfl ?_
  refine am_R.pf (k := 0) (pc' := 9) rfl (am_gfn L (aw_ap_at hL)) rfl (Nat.le_of_ble_eq_true rfl) rfl (fun _ => rfl) (aw_ap_sto hL) rfl ?_
  exact am_R.ret rfl rfl
theorem aw_k21z {w : Nat → am_C} {g : am_H} (d : Nat) {r : Nat} (hr : r < 4) {js : List Nat} {WS : List Value} (h6 : w (6 + 4 * r) = .inr (4, js.map Value.ref ++ WS)) (hw : js.length + WS.length = 120) (h38 : ∀ p, aw_w js p < 38) {ir bc sc icc ccc dpp : Int32} (h5 : w (5 + 4 * r) = aw_cT r (Int32.ofNat js.length) bc sc icc ccc dpp ir) {bw : List Int32} (h8 : w (8 + 4 * r) = am_I 0 bw) (hbw : bw.length = 120) {rd : Nat} (hrd : g[rd]? = some (aw_cR r 0)) {sh1 ic1 cc1 dp1 : Nat} {br1 : List Nat} {BS1 : List Int32} {g1 : am_H} {p1 : Nat} (hr1 : g1[rd]? = some (aw_cR r p1)) (hp1 : p1 ≤ 140) (hk1 : am_R (d + 16) 23 0 [some (.ref (1045 + rd)), some (.int (Int32.ofNat 1)), none, none] [] (am_h (aw_rw w r js.length ir 0 0 0 0 ([]) bw) g) (.inl (some (.null))) (am_h (aw_rw w r js.length ir sh1 ic1 cc1 dp1 br1 BS1) g1)) : am_R (d + 17) 21 0 [some (.ref (1045 + rd)), none] [] (am_h w g) (.inl (some (.null))) (am_h (aw_rw w r js.length ir sh1 ic1 cc1 dp1 br1 BS1) g1) := by
  refine am_R.nxs 1 (pc' := 1) (lv' := [some (.ref (1045 + rd)), none]) (st' := [.ref (1045 + rd)]) (h1 := am_h w g) rfl ?_
  refine am_R.gf (pc' := 4) (v := .ref (1005 + 4 * r)) rfl (am_gfn rd (hrd)) rfl rfl rfl ?_
  refine am_R.cv (a := (1005 + 4 * r)) (as' := []) (r := []) (v := none) (h1 := am_h (aw_rw w r js.length ir 0 0 0 0 ([]) bw) g) (pc' := 7) rfl rfl rfl rfl (aw_at5 hr h5) rfl rfl (by have h9 := aw_k22 (d + 16) (g := g) hr h5; rw [aw_rw_zero (wc := 0) (br := []) h5 h8] at h9; exact h9) rfl ?_
  refine am_R.nxs 2 (pc' := 9) (lv' := [some (.ref (1045 + rd)), none]) (st' := [.int 1, .ref (1045 + rd)]) (h1 := am_h (aw_rw w r js.length ir 0 0 0 0 ([]) bw) g) rfl ?_
  refine am_R.cv (a := (1045 + rd)) (as' := [.int 1]) (r := []) (v := some (.null)) (h1 := am_h (aw_rw w r js.length ir sh1 ic1 cc1 dp1 br1 BS1) g1) (pc' := 12) rfl rfl rfl rfl (am_gfn rd (hrd)) rfl rfl (hk1) rfl ?_
  refine am_R.nxs 2 (pc' := 14) (lv' := [some (.ref (1045 + rd)), some (.null)]) (st' := [.ref (1045 + rd)]) (h1 := am_h (aw_rw w r js.length ir sh1 ic1 cc1 dp1 br1 BS1) g1) rfl ?_
  refine am_R.gf (pc' := 17) (v := .int (Int32.ofNat p1)) rfl (am_gfn rd (hr1)) rfl rfl rfl ?_
  refine am_R.nxs 1 (pc' := 18) (lv' := [some (.ref (1045 + rd)), some (.null)]) (st' := [.ref (1045 + rd), .int (Int32.ofNat p1)]) (h1 := am_h (aw_rw w r js.length ir sh1 ic1 cc1 dp1 br1 BS1) g1) rfl ?_
  refine am_R.gf (pc' := 21) (v := .ref (1005 + 4 * r)) rfl (am_gfn rd (hr1)) rfl rfl rfl ?_
  refine am_R.gf (pc' := 24) (v := .int (Int32.ofNat js.length)) rfl (aw_at5 hr aw_rw5) rfl rfl rfl ?_
  refine am_R.ites 1 (P := ¬ Int32.ofNat p1 = Int32.ofNat js.length) (T := 31) (F := 27) (lv' := [some (.ref (1045 + rd)), some (.null)]) (st' := []) (h1 := am_h (aw_rw w r js.length ir sh1 ic1 cc1 dp1 br1 BS1) g1) rfl (fun b24 => ?_) (fun b24 => ?_)
  · have b24 : ¬ p1 = js.length := fun hq9 => b24 ((am_eqN (i := p1) (n := js.length) (by omega) (by omega)).mpr hq9)
    refine am_R.nxs 1 (pc' := 32) (lv' := [some (.ref (1045 + rd)), some (.null)]) (st' := [.null]) (h1 := am_h (aw_rw w r js.length ir sh1 ic1 cc1 dp1 br1 BS1) g1) rfl ?_
    exact am_R.ret rfl rfl
  · have b24 : p1 = js.length := (am_eqN (i := p1) (n := js.length) (by omega) (by omega)).mp (Decidable.not_not.mp b24)
    refine am_R.nxs 2 (pc' := 32) (lv' := [some (.ref (1045 + rd)), some (.null)]) (st' := [.null]) (h1 := am_h (aw_rw w r js.length ir sh1 ic1 cc1 dp1 br1 BS1) g1) rfl ?_
    exact am_R.ret rfl rfl
theorem aw_k21n {w : Nat → am_C} {g : am_H} (d : Nat) {r : Nat} (hr : r < 4) {js : List Nat} {WS : List Value} (h6 : w (6 + 4 * r) = .inr (4, js.map Value.ref ++ WS)) (hw : js.length + WS.length = 120) (h38 : ∀ p, aw_w js p < 38) {ir bc sc icc ccc dpp : Int32} (h5 : w (5 + 4 * r) = aw_cT r (Int32.ofNat js.length) bc sc icc ccc dpp ir) {bw : List Int32} (h8 : w (8 + 4 * r) = am_I 0 bw) (hbw : bw.length = 120) {rd : Nat} (hrd : g[rd]? = some (aw_cR r 0)) {a : Nat} {sh1 ic1 cc1 dp1 : Nat} {br1 : List Nat} {BS1 : List Int32} {g1 : am_H} {p1 : Nat} (hr1 : g1[rd]? = some (aw_cR r p1)) (hp1 : p1 ≤ 140) (hk1 : am_R (d + 16) 23 0 [some (.ref (1045 + rd)), some (.int (Int32.ofNat 1)), none, none] [] (am_h (aw_rw w r js.length ir 0 0 0 0 ([]) bw) g) (.inl (some (.ref (1045 + a)))) (am_h (aw_rw w r js.length ir sh1 ic1 cc1 dp1 br1 BS1) g1)) (hq : ¬ p1 = js.length) : am_R (d + 17) 21 0 [some (.ref (1045 + rd)), none] [] (am_h w g) (.inl (some (.null))) (am_h (aw_rw w r js.length ir sh1 ic1 cc1 dp1 br1 BS1) g1) := by
  refine am_R.nxs 1 (pc' := 1) (lv' := [some (.ref (1045 + rd)), none]) (st' := [.ref (1045 + rd)]) (h1 := am_h w g) rfl ?_
  refine am_R.gf (pc' := 4) (v := .ref (1005 + 4 * r)) rfl (am_gfn rd (hrd)) rfl rfl rfl ?_
  refine am_R.cv (a := (1005 + 4 * r)) (as' := []) (r := []) (v := none) (h1 := am_h (aw_rw w r js.length ir 0 0 0 0 ([]) bw) g) (pc' := 7) rfl rfl rfl rfl (aw_at5 hr h5) rfl rfl (by have h9 := aw_k22 (d + 16) (g := g) hr h5; rw [aw_rw_zero (wc := 0) (br := []) h5 h8] at h9; exact h9) rfl ?_
  refine am_R.nxs 2 (pc' := 9) (lv' := [some (.ref (1045 + rd)), none]) (st' := [.int 1, .ref (1045 + rd)]) (h1 := am_h (aw_rw w r js.length ir 0 0 0 0 ([]) bw) g) rfl ?_
  refine am_R.cv (a := (1045 + rd)) (as' := [.int 1]) (r := []) (v := some (.ref (1045 + a))) (h1 := am_h (aw_rw w r js.length ir sh1 ic1 cc1 dp1 br1 BS1) g1) (pc' := 12) rfl rfl rfl rfl (am_gfn rd (hrd)) rfl rfl (hk1) rfl ?_
  refine am_R.nxs 2 (pc' := 14) (lv' := [some (.ref (1045 + rd)), some (.ref (1045 + a))]) (st' := [.ref (1045 + rd)]) (h1 := am_h (aw_rw w r js.length ir sh1 ic1 cc1 dp1 br1 BS1) g1) rfl ?_
  refine am_R.gf (pc' := 17) (v := .int (Int32.ofNat p1)) rfl (am_gfn rd (hr1)) rfl rfl rfl ?_
  refine am_R.nxs 1 (pc' := 18) (lv' := [some (.ref (1045 + rd)), some (.ref (1045 + a))]) (st' := [.ref (1045 + rd), .int (Int32.ofNat p1)]) (h1 := am_h (aw_rw w r js.length ir sh1 ic1 cc1 dp1 br1 BS1) g1) rfl ?_
  refine am_R.gf (pc' := 21) (v := .ref (1005 + 4 * r)) rfl (am_gfn rd (hr1)) rfl rfl rfl ?_
  refine am_R.gf (pc' := 24) (v := .int (Int32.ofNat js.length)) rfl (aw_at5 hr aw_rw5) rfl rfl rfl ?_
  refine am_R.ites 1 (P := ¬ Int32.ofNat p1 = Int32.ofNat js.length) (T := 31) (F := 27) (lv' := [some (.ref (1045 + rd)), some (.ref (1045 + a))]) (st' := []) (h1 := am_h (aw_rw w r js.length ir sh1 ic1 cc1 dp1 br1 BS1) g1) rfl (fun b24 => ?_) (fun b24 => ?_)
  · have b24 : ¬ p1 = js.length := fun hq9 => b24 ((am_eqN (i := p1) (n := js.length) (by omega) (by omega)).mpr hq9)
    refine am_R.nxs 1 (pc' := 32) (lv' := [some (.ref (1045 + rd)), some (.ref (1045 + a))]) (st' := [.null]) (h1 := am_h (aw_rw w r js.length ir sh1 ic1 cc1 dp1 br1 BS1) g1) rfl ?_
    exact am_R.ret rfl rfl
  · have b24 : p1 = js.length := (am_eqN (i := p1) (n := js.length) (by omega) (by omega)).mp (Decidable.not_not.mp b24)
    exact absurd b24 hq
theorem aw_k21o {w : Nat → am_C} {g : am_H} (d : Nat) {r : Nat} (hr : r < 4) {js : List Nat} {WS : List Value} (h6 : w (6 + 4 * r) = .inr (4, js.map Value.ref ++ WS)) (hw : js.length + WS.length = 120) (h38 : ∀ p, aw_w js p < 38) {ir bc sc icc ccc dpp : Int32} (h5 : w (5 + 4 * r) = aw_cT r (Int32.ofNat js.length) bc sc icc ccc dpp ir) {bw : List Int32} (h8 : w (8 + 4 * r) = am_I 0 bw) (hbw : bw.length = 120) {rd : Nat} (hrd : g[rd]? = some (aw_cR r 0)) {a : Nat} {sh1 ic1 cc1 dp1 : Nat} {br1 : List Nat} {BS1 : List Int32} {g1 : am_H} {p1 : Nat} (hr1 : g1[rd]? = some (aw_cR r p1)) (hp1 : p1 ≤ 140) (hk1 : am_R (d + 16) 23 0 [some (.ref (1045 + rd)), some (.int (Int32.ofNat 1)), none, none] [] (am_h (aw_rw w r js.length ir 0 0 0 0 ([]) bw) g) (.inl (some (.ref (1045 + a)))) (am_h (aw_rw w r js.length ir sh1 ic1 cc1 dp1 br1 BS1) g1)) (hq : p1 = js.length) : am_R (d + 17) 21 0 [some (.ref (1045 + rd)), none] [] (am_h w g) (.inl (some (.ref (1045 + a)))) (am_h (aw_rw w r js.length ir sh1 ic1 cc1 dp1 br1 BS1) g1) := by
  refine am_R.nxs 1 (pc' := 1) (lv' := [some (.ref (1045 + rd)), none]) (st' := [.ref (1045 + rd)]) (h1 := am_h w g) rfl ?_
  refine am_R.gf (pc' := 4) (v := .ref (1005 + 4 * r)) rfl (am_gfn rd (hrd)) rfl rfl rfl ?_
  refine am_R.cv (a := (1005 + 4 * r)) (as' := []) (r := []) (v := none) (h1 := am_h (aw_rw w r js.length ir 0 0 0 0 ([]) bw) g) (pc' := 7) rfl rfl rfl rfl (aw_at5 hr h5) rfl rfl (by have h9 := aw_k22 (d + 16) (g := g) hr h5; rw [aw_rw_zero (wc := 0) (br := []) h5 h8] at h9; exact h9) rfl ?_
  refine am_R.nxs 2 (pc' := 9) (lv' := [some (.ref (1045 + rd)), none]) (st' := [.int 1, .ref (1045 + rd)]) (h1 := am_h (aw_rw w r js.length ir 0 0 0 0 ([]) bw) g) rfl ?_
  refine am_R.cv (a := (1045 + rd)) (as' := [.int 1]) (r := []) (v := some (.ref (1045 + a))) (h1 := am_h (aw_rw w r js.length ir sh1 ic1 cc1 dp1 br1 BS1) g1) (pc' := 12) rfl rfl rfl rfl (am_gfn rd (hrd)) rfl rfl (hk1) rfl ?_
  refine am_R.nxs 2 (pc' := 14) (lv' := [some (.ref (1045 + rd)), some (.ref (1045 + a))]) (st' := [.ref (1045 + rd)]) (h1 := am_h (aw_rw w r js.length ir sh1 ic1 cc1 dp1 br1 BS1) g1) rfl ?_
  refine am_R.gf (pc' := 17) (v := .int (Int32.ofNat p1)) rfl (am_gfn rd (hr1)) rfl rfl rfl ?_
  refine am_R.nxs 1 (pc' := 18) (lv' := [some (.ref (1045 + rd)), some (.ref (1045 + a))]) (st' := [.ref (1045 + rd), .int (Int32.ofNat p1)]) (h1 := am_h (aw_rw w r js.length ir sh1 ic1 cc1 dp1 br1 BS1) g1) rfl ?_
  refine am_R.gf (pc' := 21) (v := .ref (1005 + 4 * r)) rfl (am_gfn rd (hr1)) rfl rfl rfl ?_
  refine am_R.gf (pc' := 24) (v := .int (Int32.ofNat js.length)) rfl (aw_at5 hr aw_rw5) rfl rfl rfl ?_
  refine am_R.ites 1 (P := ¬ Int32.ofNat p1 = Int32.ofNat js.length) (T := 31) (F := 27) (lv' := [some (.ref (1045 + rd)), some (.ref (1045 + a))]) (st' := []) (h1 := am_h (aw_rw w r js.length ir sh1 ic1 cc1 dp1 br1 BS1) g1) rfl (fun b24 => ?_) (fun b24 => ?_)
  · have b24 : ¬ p1 = js.length := fun hq9 => b24 ((am_eqN (i := p1) (n := js.length) (by omega) (by omega)).mpr hq9)
    exact absurd hq b24
  · have b24 : p1 = js.length := (am_eqN (i := p1) (n := js.length) (by omega) (by omega)).mp (Decidable.not_not.mp b24)
    refine am_R.nxs 2 (pc' := 32) (lv' := [some (.ref (1045 + rd)), some (.ref (1045 + a))]) (st' := [.ref (1045 + a)]) (h1 := am_h (aw_rw w r js.length ir sh1 ic1 cc1 dp1 br1 BS1) g1) rfl ?_
    exact am_R.ret rfl rfl
theorem aw_c_whole {w : Nat → am_C} {g : am_H} (d : Nat) {r : Nat} (hr : r < 4) {js : List Nat} {WS : List Value} (h6 : w (6 + 4 * r) = .inr (4, js.map Value.ref ++ WS)) (hw : js.length + WS.length = 120) (h38 : ∀ p, aw_w js p < 38) {ir bc sc icc ccc dpp : Int32} (h5 : w (5 + 4 * r) = aw_cT r (Int32.ofNat js.length) bc sc icc ccc dpp ir) {bw : List Int32} (h8 : w (8 + 4 * r) = am_I 0 bw) (hbw : bw.length = 120) {rd : Nat} (hrd : g[rd]? = some (aw_cR r 0)) (T : aw_T) : match aw_P js T with
    | .inl q => ∃ g' sh' ic' cc' dp' br' BS', am_R (d + 17) 21 0 [some (.ref (1045 + rd)), none] [] (am_h w g) (.inl (some .null)) (am_h (aw_rw w r js.length ir sh' ic' cc' dp' br' BS') g') ∧ g'[rd]? = some (aw_cR r q) ∧ br'.length + BS'.length = 120 ∧ g'.length ≤ g.length + 390 ∧ am_sz g' ≤ am_sz g + 1820 ∧ q ≤ 130
    | .inr (U', sh', ic', cc', dp', br') => ∃ g' BS' a, am_R (d + 17) 21 0 [some (.ref (1045 + rd)), none] [] (am_h w g) (.inl (some (.ref (1045 + a)))) (am_h (aw_rw w r js.length ir sh' ic' cc' dp' br' BS') g') ∧ br'.length + BS'.length = 120 ∧ g'.length ≤ g.length + 390 ∧ am_sz g' ≤ am_sz g + 1820 ∧ aw_RS g' U' g.length g'.length sh' 3 0 a 0 := by
  have key := aw_c_sh (w := w) (ir := ir) hr h6 hw h38 2 (by decide) d (g := g) (U := aw_nsT T 0 1) (sh := 0) (ic := 0) (cc := 0) (dp := 0) (br := []) (BS := bw) (rd := rd) (p := 0) hrd (Nat.zero_le _) (by unfold aw_nsT; rw [aw_up_eq]) (by unfold aw_nsT; rw [aw_up_ne (by omega), aw_up_ne (by omega), aw_up_eq]) (by decide) (by decide) (by rw [hbw]; rfl) (Nat.zero_le _)
  unfold aw_P
  dsimp only at key
  cases hr1 : aw_Psh js 2 0 (aw_nsT T 0 1, 1, 0, 0, 1, []) 0 with
  | inl q =>
    rw [show aw_Psh js 2 0 (aw_nsT T 0 1, 0 + 1, 0, 0, max 0 (3 - 2), []) 0 = .inl q from hr1] at key
    obtain ⟨g1, sh1, ic1, cc1, dp1, br1, BS1, v, k1, ⟨y1, y2, y3, y4⟩, k3, k4, k5⟩ := key
    rcases k5 with k5 | ⟨⟨a, k5⟩, k6⟩
    · subst k5
      exact ⟨g1, sh1, ic1, cc1, dp1, br1, BS1, aw_k21z d hr h6 hw h38 h5 h8 hbw hrd y1 (by omega) k1, y1, k3, by omega, by omega, k4⟩
    · subst k5
      have hq : ¬ q = js.length := by
        intro e
        rw [e, aw_w_end (Nat.le_refl _)] at k6
        exact absurd k6 (by decide)
      exact ⟨g1, sh1, ic1, cc1, dp1, br1, BS1, aw_k21n d hr h6 hw h38 h5 h8 hbw hrd y1 (by omega) k1 hq, y1, k3, by omega, by omega, k4⟩
  | inr z =>
    obtain ⟨p1, U1, sh1, ic1, cc1, dp1, br1⟩ := z
    rw [show aw_Psh js 2 0 (aw_nsT T 0 1, 0 + 1, 0, 0, max 0 (3 - 2), []) 0 = .inr (p1, U1, sh1, ic1, cc1, dp1, br1) from hr1] at key
    obtain ⟨g1, BS1, a, k1, ⟨y1, y2, y3, y4, y5⟩, k3, k4⟩ := key
    obtain ⟨a1, a2, a3, a4, a4', a5, a6, -⟩ := aw_Psh_f 2 (by decide) 0 (by decide) hr1
    have hp' := aw_w_le a1 a6
    dsimp only
    by_cases hl : p1 = js.length
    · rw [if_pos hl]
      exact ⟨g1, BS1, a, aw_k21o d hr h6 hw h38 h5 h8 hbw hrd y1 (by omega) k1 hl, k3, by omega, by omega, k4⟩
    · rw [if_neg hl]
      exact ⟨g1, sh1, ic1, cc1, dp1, br1, BS1, aw_k21n d hr h6 hw h38 h5 h8 hbw hrd y1 (by omega) k1 hl, y1, k3, by omega, by omega, by omega⟩
