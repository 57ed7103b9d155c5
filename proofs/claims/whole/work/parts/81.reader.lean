/-! The class's reader: its world, and its small methods. -/
section AmNew
variable {d mi pc pc' len : Nat} {lv : am_L} {st : List Value} {o : am_O} {h' : am_H} {w : Nat → am_C} {g : am_H}
theorem am_R.nw {ci L : Nat} {fs : List Value} (hc : am_code mi pc = some (.new ci, len)) (hm : am_new ci = some fs) (hL : g.length = L) (hq : pc + len = pc') (k : am_R d mi pc' lv (.ref (1045 + L) :: st) (am_h w (g ++ [.inl (ci, fs)])) o h') : am_R d mi pc lv st (am_h w g) o h' := by
  subst hq hL
  rw [← am_h_push] at k
  refine am_R.nx (pc' := pc + len) (lv' := lv) (st' := .ref (1045 + g.length) :: st) (h1 := am_h w g ++ [.inl (ci, fs)]) ?_ k
  have e : 1000 + (am_h w g).length = 1045 + g.length := by rw [am_h_len]; omega
  simp [am_nx, hc, am_ret, am_thr, am_inv, am_one, am_push, am_sto, am_ari, am_br, am_rd, am_wr, am_kind, am_mk, hm, e]
theorem am_R.na {t L n : Nat} (hc : am_code mi pc = some (.anewarray t, len)) (ht : 4 ≤ t) (hn : n ≤ 65536) (hL : g.length = L) (hq : pc + len = pc') (k : am_R d mi pc' lv (.ref (1045 + L) :: st) (am_h w (g ++ [.inr (t, List.replicate n .null)])) o h') : am_R d mi pc lv (.int (Int32.ofNat n) :: st) (am_h w g) o h' := by
  subst hq hL
  rw [← am_h_push] at k
  refine am_R.nx (pc' := pc + len) (lv' := lv) (st' := .ref (1045 + g.length) :: st) (h1 := am_h w g ++ [.inr (t, List.replicate n .null)]) ?_ k
  have e : 1000 + (am_h w g).length = 1045 + g.length := by rw [am_h_len]; omega
  have e2 : (Int32.ofNat n).toNatClampNeg = n := Int32.toNatClampNeg_ofNat_of_lt (by omega)
  have e3 : ¬ Int32.ofNat n < 0 := Int32.not_lt.mpr ((am_leN (i := 0) (by decide) (by omega)).mpr (Nat.zero_le _))
  simp [am_nx, hc, am_ret, am_thr, am_inv, am_one, am_push, am_sto, am_ari, am_br, am_rd, am_wr, am_kind, am_mk, e, e2, e3, hn, ht]
end AmNew
theorem aw_gl {g : am_H} {j : Nat} {c : am_C} (h : g[j]? = some c) : j < g.length := (List.getElem?_eq_some_iff.mp h).1
def aw_cR (r p : Nat) : am_C := .inl (3, [.ref (1005 + 4 * r), .int (Int32.ofNat p)])
def aw_at (g : am_H) (rd r p : Nat) : am_H := g.set rd (aw_cR r p)
theorem aw_at_rd {g : am_H} {rd r p : Nat} {c : am_C} (h : g[rd]? = some c) : (aw_at g rd r p)[rd]? = some (aw_cR r p) := List.getElem?_set_self (aw_gl h)
theorem aw_at_ne {g : am_H} {rd r p k : Nat} {c : am_C} (hk : k ≠ rd) (h : g[k]? = some c) : (aw_at g rd r p)[k]? = some c := (List.getElem?_set_ne (fun q => hk q.symm)).trans h
theorem aw_at_len {g : am_H} {rd r p : Nat} : (aw_at g rd r p).length = g.length := List.length_set
theorem aw_at_at {g : am_H} {rd r p p' : Nat} : aw_at (aw_at g rd r p) rd r p' = aw_at g rd r p' := List.set_set ..
theorem aw_at_sto {w : Nat → am_C} {g : am_H} {rd r p : Nat} {c : am_C} (h : g[rd]? = some c) : am_set (am_h w g) (1045 + rd) (aw_cR r p) = some (am_h w (aw_at g rd r p)) := am_gsn (aw_gl h)
theorem aw_at_sto2 {w : Nat → am_C} {g : am_H} {rd r p p' : Nat} {c : am_C} (h : g[rd]? = some c) : am_set (am_h w (aw_at g rd r p)) (1045 + rd) (aw_cR r p') = some (am_h w (aw_at g rd r p')) := by
  rw [aw_at_sto (aw_at_rd h), aw_at_at]
/-- the Told that is read into -/
def aw_rw (w : Nat → am_C) (r N : Nat) (ir : Int32) (sh ic cc dp : Nat) (br : List Nat) (BS : List Int32) : Nat → am_C := am_pu (am_pu w (8 + 4 * r) (am_I 0 (br.map Int32.ofNat ++ BS))) (5 + 4 * r) (aw_cT r (Int32.ofNat N) (Int32.ofNat br.length) (Int32.ofNat sh) (Int32.ofNat ic) (Int32.ofNat cc) (Int32.ofNat dp) ir)
section AwRw
variable {w : Nat → am_C} {r N : Nat} {ir : Int32} {sh ic cc dp sh' ic' cc' dp' : Nat} {br : List Nat} {BS : List Int32}
theorem aw_rw5 : aw_rw w r N ir sh ic cc dp br BS (5 + 4 * r) = aw_cT r (Int32.ofNat N) (Int32.ofNat br.length) (Int32.ofNat sh) (Int32.ofNat ic) (Int32.ofNat cc) (Int32.ofNat dp) ir := am_pu_eq _ _ _
theorem aw_rw8 : aw_rw w r N ir sh ic cc dp br BS (8 + 4 * r) = am_I 0 (br.map Int32.ofNat ++ BS) := by
  unfold aw_rw
  rw [am_pu_ne (by omega)]
  exact am_pu_eq _ _ _
theorem aw_rw_other {k : Nat} {c : am_C} (h5 : k ≠ 5 + 4 * r) (h8 : k ≠ 8 + 4 * r) (e : w k = c) : aw_rw w r N ir sh ic cc dp br BS k = c := by
  unfold aw_rw
  rw [am_pu_ne h5, am_pu_ne h8, e]
theorem aw_rw_put : am_pu (aw_rw w r N ir sh ic cc dp br BS) (5 + 4 * r) (aw_cT r (Int32.ofNat N) (Int32.ofNat br.length) (Int32.ofNat sh') (Int32.ofNat ic') (Int32.ofNat cc') (Int32.ofNat dp') ir) = aw_rw w r N ir sh' ic' cc' dp' br BS := by
  funext k
  simp only [aw_rw, am_pu]
  (repeat' split) <;> first | rfl | omega
theorem aw_rw_sto {g : am_H} (hr : r < 4) : am_set (am_h (aw_rw w r N ir sh ic cc dp br BS) g) (1005 + 4 * r) (aw_cT r (Int32.ofNat N) (Int32.ofNat br.length) (Int32.ofNat sh') (Int32.ofNat ic') (Int32.ofNat cc') (Int32.ofNat dp') ir) = some (am_h (aw_rw w r N ir sh' ic' cc' dp' br BS) g) := by
  rw [aw_ws5 hr, aw_rw_put]
theorem aw_rw_br {q : Nat} (hB : 0 < BS.length) : am_pu (am_pu (aw_rw w r N ir sh ic cc dp br BS) (8 + 4 * r) (am_I 0 ((br.map Int32.ofNat ++ BS).set br.length (Int32.ofNat q)))) (5 + 4 * r) (aw_cT r (Int32.ofNat N) (Int32.ofNat (br.length + 1)) (Int32.ofNat sh) (Int32.ofNat ic) (Int32.ofNat cc) (Int32.ofNat dp) ir) = aw_rw w r N ir sh ic cc dp (br ++ [q]) (BS.drop 1) := by
  have e : (br.map Int32.ofNat ++ BS).set br.length (Int32.ofNat q) = (br ++ [q]).map Int32.ofNat ++ BS.drop 1 := by
    have hq : br.length = (br.map Int32.ofNat).length := (List.length_map ..).symm
    cases BS with
    | nil => cases hB
    | cons a S =>
      rw [hq]
      simp
  rw [e]
  funext k
  simp only [aw_rw, am_pu, List.length_append, List.length_singleton]
  (repeat' split) <;> first | rfl | omega
end AwRw
theorem aw_ws8 {w : Nat → am_C} {g : am_H} {r : Nat} {c : am_C} (hr : r < 4) : am_set (am_h w g) (1008 + 4 * r) c = some (am_h (am_pu w (8 + 4 * r) c) g) := by
  rw [show 1008 + 4 * r = 1000 + (8 + 4 * r) by omega]
  exact am_ws (by omega) (by omega)
theorem aw_wref {js : List Nat} {WS : List Value} {i : Nat} (h : i < js.length) : (js.map Value.ref ++ WS)[i]? = some (.ref (aw_w js i)) := by
  rw [List.getElem?_append_left (by rw [List.length_map]; exact h), List.getElem?_map, aw_w_at h]
  rfl
/-- the kinds of the words -/
theorem aw_kdA : ∀ j, j < 38 → (aw_kd j = 1 ↔ j < 9) ∧ (aw_kd j = 2 ↔ 17 ≤ j ∧ j ≤ 24) ∧ (aw_kd j = 3 ↔ 25 ≤ j ∧ j ≤ 30) ∧ (aw_kd j = 4 ↔ 31 ≤ j ∧ j ≤ 33) ∧ (aw_kd j = 5 ↔ 34 ≤ j ∧ j ≤ 36) ∧ (j < 10 → aw_nu j = Int32.ofNat j) ∧ (25 ≤ j ∧ j ≤ 30 → aw_nu j = Int32.ofNat (j - 24)) := by decide +kernel
/-- a part: a tincture, or a shield -/
def aw_cP (v : Int32) : am_C := .inl (4, [.int v])
def aw_PT (g : am_H) (f : Nat) (v : Int32) : Prop := (∃ t, t < 9 ∧ v = Int32.ofNat t ∧ g[f]? = some (aw_cP v)) ∨ (∃ k fs, k < 8 ∧ v = Int32.ofNat (100 + k) ∧ g[f]? = some (.inl (5, fs)))
def aw_pl (v : Int32) : Int32 := if v < 100 then v else -1
def aw_cS (dv : Value) (f1 f2 la n : Nat) : am_C := .inl (5, [dv, .ref (1045 + f1), .ref (1045 + f2), .ref (1045 + la), .int (Int32.ofNat n)])
theorem aw_plA : ∀ t, t < 9 → aw_pl (Int32.ofNat t) = Int32.ofNat t ∧ ¬ Int32.ofNat t = -1 ∧ Int32.ofNat t < 100 := by decide +kernel
theorem aw_plB : ∀ k, k < 8 → aw_pl (Int32.ofNat (100 + k)) = -1 ∧ ¬ Int32.ofNat (100 + k) < 100 := by decide +kernel
theorem aw_k26 {w : Nat → am_C} {g : am_H} (d : Nat) {r : Nat} (hr : r < 4) {js : List Nat} {WS : List Value} (h6 : w (6 + 4 * r) = .inr (4, js.map Value.ref ++ WS)) (hw : js.length + WS.length = 120) (h38 : ∀ p, aw_w js p < 38) {ir : Int32} {sh ic cc dp : Nat} {br : List Nat} {BS : List Int32} {i : Nat} (hi : i ≤ 300) : am_R d 26 0 [some (.ref (1005 + 4 * r)), some (.int (Int32.ofNat i))] [] (am_h (aw_rw w r js.length ir sh ic cc dp br BS) g) (.inl (some (.ref (aw_w js i)))) (am_h (aw_rw w r js.length ir sh ic cc dp br BS) g) := by
  have hlw : (js.map Value.ref ++ WS).length = 120 := by rw [List.length_append, List.length_map]; exact hw
  refine am_R.ites 2 (P := Int32.ofNat i < 0) (T := 21) (F := 4) (lv' := [some (.ref (1005 + 4 * r)), some (.int (Int32.ofNat i))]) (st' := []) (h1 := am_h (aw_rw w r js.length ir sh ic cc dp br BS) g) rfl (fun b1 => ?_) (fun b1 => ?_)
  · exact absurd b1 (aw_nn i)
  · refine am_R.nxs 2 (pc' := 6) (lv' := [some (.ref (1005 + 4 * r)), some (.int (Int32.ofNat i))]) (st' := [.ref (1005 + 4 * r), .int (Int32.ofNat i)]) (h1 := am_h (aw_rw w r js.length ir sh ic cc dp br BS) g) rfl ?_
    refine am_R.gf (pc' := 9) (v := .int (Int32.ofNat js.length)) rfl (aw_at5 hr aw_rw5) rfl rfl rfl ?_
    refine am_R.ites 1 (P := Int32.ofNat js.length ≤ Int32.ofNat i) (T := 21) (F := 12) (lv' := [some (.ref (1005 + 4 * r)), some (.int (Int32.ofNat i))]) (st' := []) (h1 := am_h (aw_rw w r js.length ir sh ic cc dp br BS) g) rfl (fun b9 => ?_) (fun b9 => ?_)
    · have b9 : js.length ≤ i := (am_leN (i := js.length) (n := i) (by omega) (by omega)).mp b9
      refine am_R.nxs 1 (pc' := 24) (lv' := [some (.ref (1005 + 4 * r)), some (.int (Int32.ofNat i))]) (st' := [.ref 37]) (h1 := am_h (aw_rw w r js.length ir sh ic cc dp br BS) g) rfl ?_
      rw [aw_w_end (by omega : js.length ≤ i)]
      exact am_R.ret rfl rfl
    · have b9 : ¬ js.length ≤ i := fun hq9 => b9 ((am_leN (i := js.length) (n := i) (by omega) (by omega)).mpr hq9)
      refine am_R.nxs 1 (pc' := 13) (lv' := [some (.ref (1005 + 4 * r)), some (.int (Int32.ofNat i))]) (st' := [.ref (1005 + 4 * r)]) (h1 := am_h (aw_rw w r js.length ir sh ic cc dp br BS) g) rfl ?_
      refine am_R.gf (pc' := 16) (v := .ref (1006 + 4 * r)) rfl (aw_at5 hr aw_rw5) rfl rfl rfl ?_
      refine am_R.nxs 1 (pc' := 17) (lv' := [some (.ref (1005 + 4 * r)), some (.int (Int32.ofNat i))]) (st' := [.int (Int32.ofNat i), .ref (1006 + 4 * r)]) (h1 := am_h (aw_rw w r js.length ir sh ic cc dp br BS) g) rfl ?_
      refine am_R.lda (i := i) (xs := (js.map Value.ref ++ WS)) (v := .ref (aw_w js i)) (pc' := 18) rfl (aw_at6 hr (aw_rw_other (by omega) (by omega) h6)) (by decide) (by omega) (by omega) (aw_wref (by omega)) rfl ?_
      refine am_R.nxs 1 (pc' := 24) (lv' := [some (.ref (1005 + 4 * r)), some (.int (Int32.ofNat i))]) (st' := [.ref (aw_w js i)]) (h1 := am_h (aw_rw w r js.length ir sh ic cc dp br BS) g) rfl ?_
      exact am_R.ret rfl rfl
theorem aw_k30y {w : Nat → am_C} {g : am_H} (d : Nat) {r : Nat} (hr : r < 4) {js : List Nat} {WS : List Value} (h6 : w (6 + 4 * r) = .inr (4, js.map Value.ref ++ WS)) (hw : js.length + WS.length = 120) (h38 : ∀ p, aw_w js p < 38) {ir : Int32} {sh ic cc dp : Nat} {br : List Nat} {BS : List Int32} {rd p : Nat} (hrd : g[rd]? = some (aw_cR r p)) (hp : p ≤ 200) {j : Nat} (hj : j < 38) (h : aw_w js p = j) : am_R (d + 1) 30 0 [some (.ref (1045 + rd)), some (.ref j)] [] (am_h (aw_rw w r js.length ir sh ic cc dp br BS) g) (.inl (some (.int 1))) (am_h (aw_rw w r js.length ir sh ic cc dp br BS) (aw_at g rd r (p + 1))) := by
  refine am_R.nxs 1 (pc' := 1) (lv' := [some (.ref (1045 + rd)), some (.ref j)]) (st' := [.ref (1045 + rd)]) (h1 := am_h (aw_rw w r js.length ir sh ic cc dp br BS) g) rfl ?_
  refine am_R.gf (pc' := 4) (v := .ref (1005 + 4 * r)) rfl (am_gfn rd (hrd)) rfl rfl rfl ?_
  refine am_R.nxs 1 (pc' := 5) (lv' := [some (.ref (1045 + rd)), some (.ref j)]) (st' := [.ref (1045 + rd), .ref (1005 + 4 * r)]) (h1 := am_h (aw_rw w r js.length ir sh ic cc dp br BS) g) rfl ?_
  refine am_R.gf (pc' := 8) (v := .int (Int32.ofNat p)) rfl (am_gfn rd (hrd)) rfl rfl rfl ?_
  refine am_R.cv (a := (1005 + 4 * r)) (as' := [.int (Int32.ofNat p)]) (r := []) (v := some (.ref (aw_w js p))) (h1 := am_h (aw_rw w r js.length ir sh ic cc dp br BS) g) (pc' := 11) rfl rfl rfl rfl (aw_at5 hr aw_rw5) rfl rfl (aw_k26 d (g := g) hr h6 hw h38 (by omega)) rfl ?_
  refine am_R.nxs 1 (pc' := 12) (lv' := [some (.ref (1045 + rd)), some (.ref j)]) (st' := [.ref j, .ref (aw_w js p)]) (h1 := am_h (aw_rw w r js.length ir sh ic cc dp br BS) g) rfl ?_
  refine am_R.ac (j1 := (aw_w js p)) (j2 := j) (T := 17) (F := 15) rfl (h38 _) (by omega) rfl rfl (fun b12 => ?_) (fun b12 => ?_)
  · refine am_R.nxs 2 (pc' := 19) (lv' := [some (.ref (1045 + rd)), some (.ref j)]) (st' := [.ref (1045 + rd), .ref (1045 + rd)]) (h1 := am_h (aw_rw w r js.length ir sh ic cc dp br BS) g) rfl ?_
    refine am_R.gf (pc' := 22) (v := .int (Int32.ofNat p)) rfl (am_gfn rd (hrd)) rfl rfl rfl ?_
    refine am_R.nxs 2 (pc' := 24) (lv' := [some (.ref (1045 + rd)), some (.ref j)]) (st' := [.int (Int32.ofNat p + 1), .ref (1045 + rd)]) (h1 := am_h (aw_rw w r js.length ir sh ic cc dp br BS) g) rfl ?_
    rw [show (Int32.ofNat p + 1 : Int32) = Int32.ofNat (p + 1) from am_add p 1]
    refine am_R.pf (k := 1) (pc' := 27) rfl (am_gfn rd (hrd)) rfl (Nat.le_of_ble_eq_true rfl) rfl (fun q => by cases q) (aw_at_sto (hrd)) rfl ?_
    refine am_R.nxs 1 (pc' := 28) (lv' := [some (.ref (1045 + rd)), some (.ref j)]) (st' := [.int 1]) (h1 := am_h (aw_rw w r js.length ir sh ic cc dp br BS) (aw_at g rd r (p + 1))) rfl ?_
    exact am_R.reti rfl rfl rfl
  · exact absurd h b12
theorem aw_k30n {w : Nat → am_C} {g : am_H} (d : Nat) {r : Nat} (hr : r < 4) {js : List Nat} {WS : List Value} (h6 : w (6 + 4 * r) = .inr (4, js.map Value.ref ++ WS)) (hw : js.length + WS.length = 120) (h38 : ∀ p, aw_w js p < 38) {ir : Int32} {sh ic cc dp : Nat} {br : List Nat} {BS : List Int32} {rd p : Nat} (hrd : g[rd]? = some (aw_cR r p)) (hp : p ≤ 200) {j : Nat} (hj : j < 38) (h : ¬ aw_w js p = j) : am_R (d + 1) 30 0 [some (.ref (1045 + rd)), some (.ref j)] [] (am_h (aw_rw w r js.length ir sh ic cc dp br BS) g) (.inl (some (.int 0))) (am_h (aw_rw w r js.length ir sh ic cc dp br BS) g) := by
  refine am_R.nxs 1 (pc' := 1) (lv' := [some (.ref (1045 + rd)), some (.ref j)]) (st' := [.ref (1045 + rd)]) (h1 := am_h (aw_rw w r js.length ir sh ic cc dp br BS) g) rfl ?_
  refine am_R.gf (pc' := 4) (v := .ref (1005 + 4 * r)) rfl (am_gfn rd (hrd)) rfl rfl rfl ?_
  refine am_R.nxs 1 (pc' := 5) (lv' := [some (.ref (1045 + rd)), some (.ref j)]) (st' := [.ref (1045 + rd), .ref (1005 + 4 * r)]) (h1 := am_h (aw_rw w r js.length ir sh ic cc dp br BS) g) rfl ?_
  refine am_R.gf (pc' := 8) (v := .int (Int32.ofNat p)) rfl (am_gfn rd (hrd)) rfl rfl rfl ?_
  refine am_R.cv (a := (1005 + 4 * r)) (as' := [.int (Int32.ofNat p)]) (r := []) (v := some (.ref (aw_w js p))) (h1 := am_h (aw_rw w r js.length ir sh ic cc dp br BS) g) (pc' := 11) rfl rfl rfl rfl (aw_at5 hr aw_rw5) rfl rfl (aw_k26 d (g := g) hr h6 hw h38 (by omega)) rfl ?_
  refine am_R.nxs 1 (pc' := 12) (lv' := [some (.ref (1045 + rd)), some (.ref j)]) (st' := [.ref j, .ref (aw_w js p)]) (h1 := am_h (aw_rw w r js.length ir sh ic cc dp br BS) g) rfl ?_
  refine am_R.ac (j1 := (aw_w js p)) (j2 := j) (T := 17) (F := 15) rfl (h38 _) (by omega) rfl rfl (fun b12 => ?_) (fun b12 => ?_)
  · exact absurd b12 h
  · refine am_R.nxs 1 (pc' := 16) (lv' := [some (.ref (1045 + rd)), some (.ref j)]) (st' := [.int 0]) (h1 := am_h (aw_rw w r js.length ir sh ic cc dp br BS) g) rfl ?_
    exact am_R.reti rfl rfl rfl
theorem aw_k31 (d : Nat) (h : am_H) {j : Nat} (hj : j < 38) : am_R d 31 0 [some (.ref j)] [] h (.inl (some (.int (if 18 ≤ j ∧ j ≤ 20 then 1 else 0)))) h := by
  refine am_R.nxs 2 (pc' := 4) (lv' := [some (.ref j)]) (st' := [.ref 19, .ref j]) (h1 := h) rfl ?_
  refine am_R.ac (j1 := j) (j2 := 19) (T := 21) (F := 7) rfl (hj) (by decide) rfl rfl (fun b4 => ?_) (fun b4 => ?_)
  · refine am_R.nxs 2 (pc' := 26) (lv' := [some (.ref j)]) (st' := [.int 1]) (h1 := h) rfl ?_
    rw [if_pos (by omega)]
    exact am_R.reti rfl rfl rfl
  · refine am_R.nxs 2 (pc' := 11) (lv' := [some (.ref j)]) (st' := [.ref 18, .ref j]) (h1 := h) rfl ?_
    refine am_R.ac (j1 := j) (j2 := 18) (T := 21) (F := 14) rfl (hj) (by decide) rfl rfl (fun b11 => ?_) (fun b11 => ?_)
    · refine am_R.nxs 2 (pc' := 26) (lv' := [some (.ref j)]) (st' := [.int 1]) (h1 := h) rfl ?_
      rw [if_pos (by omega)]
      exact am_R.reti rfl rfl rfl
    · refine am_R.nxs 2 (pc' := 18) (lv' := [some (.ref j)]) (st' := [.ref 20, .ref j]) (h1 := h) rfl ?_
      refine am_R.acn (j1 := j) (j2 := 20) (T := 25) (F := 21) rfl (hj) (by decide) rfl rfl (fun b18 => ?_) (fun b18 => ?_)
      · refine am_R.nxs 1 (pc' := 26) (lv' := [some (.ref j)]) (st' := [.int 0]) (h1 := h) rfl ?_
        rw [if_neg (by omega)]
        exact am_R.reti rfl rfl rfl
      · refine am_R.nxs 2 (pc' := 26) (lv' := [some (.ref j)]) (st' := [.int 1]) (h1 := h) rfl ?_
        rw [if_pos (by omega)]
        exact am_R.reti rfl rfl rfl
theorem aw_k47 (d : Nat) (h : am_H) {j : Nat} (hj : j < 38) : am_R d 47 0 [some (.ref j)] [] h (.inl (some (.int (if 17 ≤ j ∧ j ≤ 19 then 1 else 0)))) h := by
  refine am_R.nxs 2 (pc' := 4) (lv' := [some (.ref j)]) (st' := [.ref 17, .ref j]) (h1 := h) rfl ?_
  refine am_R.ac (j1 := j) (j2 := 17) (T := 21) (F := 7) rfl (hj) (by decide) rfl rfl (fun b4 => ?_) (fun b4 => ?_)
  · refine am_R.nxs 2 (pc' := 26) (lv' := [some (.ref j)]) (st' := [.int 1]) (h1 := h) rfl ?_
    rw [if_pos (by omega)]
    exact am_R.reti rfl rfl rfl
  · refine am_R.nxs 2 (pc' := 11) (lv' := [some (.ref j)]) (st' := [.ref 18, .ref j]) (h1 := h) rfl ?_
    refine am_R.ac (j1 := j) (j2 := 18) (T := 21) (F := 14) rfl (hj) (by decide) rfl rfl (fun b11 => ?_) (fun b11 => ?_)
    · refine am_R.nxs 2 (pc' := 26) (lv' := [some (.ref j)]) (st' := [.int 1]) (h1 := h) rfl ?_
      rw [if_pos (by omega)]
      exact am_R.reti rfl rfl rfl
    · refine am_R.nxs 2 (pc' := 18) (lv' := [some (.ref j)]) (st' := [.ref 19, .ref j]) (h1 := h) rfl ?_
      refine am_R.acn (j1 := j) (j2 := 19) (T := 25) (F := 21) rfl (hj) (by decide) rfl rfl (fun b18 => ?_) (fun b18 => ?_)
      · refine am_R.nxs 1 (pc' := 26) (lv' := [some (.ref j)]) (st' := [.int 0]) (h1 := h) rfl ?_
        rw [if_neg (by omega)]
        exact am_R.reti rfl rfl rfl
      · refine am_R.nxs 2 (pc' := 26) (lv' := [some (.ref j)]) (st' := [.int 1]) (h1 := h) rfl ?_
        rw [if_pos (by omega)]
        exact am_R.reti rfl rfl rfl
/-- tincture and ground are of one kind -/
def aw_bl (t v : Int32) : Bool := decide (¬ aw_cl t = 0 ∧ aw_cl t = aw_cl v)
theorem aw_cl0 {t : Int32} (h : t < 0) : aw_cl t = 0 := if_pos (.inl h)
theorem aw_cl7 {t : Int32} (h : 7 ≤ t) : aw_cl t = 0 := if_pos (.inr (Int32.lt_of_lt_of_le (by decide) h))
theorem aw_cl_le6 {t : Int32} (h : t < 7) : ¬ 6 < t := by
  intro q
  have h1 := Int32.lt_iff_toInt_lt.mp h
  have h2 := Int32.lt_iff_toInt_lt.mp q
  have e1 : (7 : Int32).toInt = 7 := by decide
  have e2 : (6 : Int32).toInt = 6 := by decide
  omega
theorem aw_cl1 {t : Int32} (h0 : ¬ t < 0) (h7 : t < 7) (h : t < 2) : aw_cl t = 1 := (if_neg (fun q => q.elim h0 (aw_cl_le6 h7))).trans (if_pos h)
theorem aw_cl2 {t : Int32} (h0 : ¬ t < 0) (h7 : t < 7) (h : 2 ≤ t) : aw_cl t = 2 := (if_neg (fun q => q.elim h0 (aw_cl_le6 h7))).trans (if_neg (Int32.not_lt.mpr h))
theorem aw_k40 (d : Nat) (h : am_H) (t v : Int32) : am_R d 40 0 [some (.int t), some (.int v)] [] h (.inl (some (.int (if aw_bl t v = true then 1 else 0)))) h := by
  refine am_R.ites 2 (P := t < 0) (T := 20) (F := 4) (lv' := [some (.int t), some (.int v)]) (st' := []) (h1 := h) rfl (fun b1 => ?_) (fun b1 => ?_)
  · refine am_R.nxs 1 (pc' := 21) (lv' := [some (.int t), some (.int v)]) (st' := [.int 0]) (h1 := h) rfl ?_
    rw [show aw_bl t v = false by simp [aw_bl, aw_cl0 b1]]
    exact am_R.reti rfl rfl rfl
  · refine am_R.ites 3 (P := 7 ≤ t) (T := 20) (F := 10) (lv' := [some (.int t), some (.int v)]) (st' := []) (h1 := h) rfl (fun b7 => ?_) (fun b7 => ?_)
    · refine am_R.nxs 1 (pc' := 21) (lv' := [some (.int t), some (.int v)]) (st' := [.int 0]) (h1 := h) rfl ?_
      rw [show aw_bl t v = false by simp [aw_bl, aw_cl7 b7]]
      exact am_R.reti rfl rfl rfl
    · refine am_R.ites 2 (P := v < 0) (T := 20) (F := 14) (lv' := [some (.int t), some (.int v)]) (st' := []) (h1 := h) rfl (fun b11 => ?_) (fun b11 => ?_)
      · refine am_R.nxs 1 (pc' := 21) (lv' := [some (.int t), some (.int v)]) (st' := [.int 0]) (h1 := h) rfl ?_
        rw [show aw_bl t v = false by simp only [aw_bl, aw_cl0 b11]; exact decide_eq_false (fun z => z.1 z.2)]
        exact am_R.reti rfl rfl rfl
      · refine am_R.ites 3 (P := v < 7) (T := 22) (F := 20) (lv' := [some (.int t), some (.int v)]) (st' := []) (h1 := h) rfl (fun b17 => ?_) (fun b17 => ?_)
        · refine am_R.ites 3 (P := 2 ≤ t) (T := 31) (F := 27) (lv' := [some (.int t), some (.int v)]) (st' := []) (h1 := h) rfl (fun b24 => ?_) (fun b24 => ?_)
          · refine am_R.ites 4 (P := 2 ≤ v) (T := 41) (F := 37) (lv' := [some (.int t), some (.int v)]) (st' := [.int 0]) (h1 := h) rfl (fun b34 => ?_) (fun b34 => ?_)
            · refine am_R.nxs 1 (pc' := 42) (lv' := [some (.int t), some (.int v)]) (st' := [.int 0, .int 0]) (h1 := h) rfl ?_
              refine am_R.ites 1 (P := ¬ 0 = 0) (T := 49) (F := 45) (lv' := [some (.int t), some (.int v)]) (st' := []) (h1 := h) rfl (fun b42 => ?_) (fun b42 => ?_)
              · exact absurd rfl b42
              · refine am_R.nxs 2 (pc' := 50) (lv' := [some (.int t), some (.int v)]) (st' := [.int 1]) (h1 := h) rfl ?_
                rw [show aw_bl t v = true by simp [aw_bl, aw_cl2 b1 (Int32.not_le.mp b7) b24, aw_cl2 b11 b17 b34]]
                exact am_R.reti rfl rfl rfl
            · refine am_R.nxs 2 (pc' := 42) (lv' := [some (.int t), some (.int v)]) (st' := [.int 1, .int 0]) (h1 := h) rfl ?_
              refine am_R.ites 1 (P := ¬ 0 = 1) (T := 49) (F := 45) (lv' := [some (.int t), some (.int v)]) (st' := []) (h1 := h) rfl (fun b42 => ?_) (fun b42 => ?_)
              · refine am_R.nxs 1 (pc' := 50) (lv' := [some (.int t), some (.int v)]) (st' := [.int 0]) (h1 := h) rfl ?_
                rw [show aw_bl t v = false by simp [aw_bl, aw_cl2 b1 (Int32.not_le.mp b7) b24, aw_cl1 b11 b17 (Int32.not_le.mp b34)]]
                exact am_R.reti rfl rfl rfl
              · exact absurd (by decide) b42
          · refine am_R.ites 5 (P := 2 ≤ v) (T := 41) (F := 37) (lv' := [some (.int t), some (.int v)]) (st' := [.int 1]) (h1 := h) rfl (fun b34 => ?_) (fun b34 => ?_)
            · refine am_R.nxs 1 (pc' := 42) (lv' := [some (.int t), some (.int v)]) (st' := [.int 0, .int 1]) (h1 := h) rfl ?_
              refine am_R.ites 1 (P := ¬ 1 = 0) (T := 49) (F := 45) (lv' := [some (.int t), some (.int v)]) (st' := []) (h1 := h) rfl (fun b42 => ?_) (fun b42 => ?_)
              · refine am_R.nxs 1 (pc' := 50) (lv' := [some (.int t), some (.int v)]) (st' := [.int 0]) (h1 := h) rfl ?_
                rw [show aw_bl t v = false by simp [aw_bl, aw_cl1 b1 (Int32.not_le.mp b7) (Int32.not_le.mp b24), aw_cl2 b11 b17 b34]]
                exact am_R.reti rfl rfl rfl
              · exact absurd (by decide) b42
            · refine am_R.nxs 2 (pc' := 42) (lv' := [some (.int t), some (.int v)]) (st' := [.int 1, .int 1]) (h1 := h) rfl ?_
              refine am_R.ites 1 (P := ¬ 1 = 1) (T := 49) (F := 45) (lv' := [some (.int t), some (.int v)]) (st' := []) (h1 := h) rfl (fun b42 => ?_) (fun b42 => ?_)
              · exact absurd rfl b42
              · refine am_R.nxs 2 (pc' := 50) (lv' := [some (.int t), some (.int v)]) (st' := [.int 1]) (h1 := h) rfl ?_
                rw [show aw_bl t v = true by simp [aw_bl, aw_cl1 b1 (Int32.not_le.mp b7) (Int32.not_le.mp b24), aw_cl1 b11 b17 (Int32.not_le.mp b34)]]
                exact am_R.reti rfl rfl rfl
        · refine am_R.nxs 1 (pc' := 21) (lv' := [some (.int t), some (.int v)]) (st' := [.int 0]) (h1 := h) rfl ?_
          rw [show aw_bl t v = false by simp only [aw_bl, aw_cl7 (Int32.not_lt.mp b17)]; exact decide_eq_false (fun z => z.1 z.2)]
          exact am_R.reti rfl rfl rfl
theorem aw_k36 {w : Nat → am_C} {g : am_H} (d : Nat) {f : Nat} {v : Int32} (h : g[f]? = some (aw_cP v)) : am_R d 36 0 [some (.ref (1045 + f))] [] (am_h w g) (.inl (some (.int v))) (am_h w g) := by
  refine am_R.nxs 1 (pc' := 1) (lv' := [some (.ref (1045 + f))]) (st' := [.ref (1045 + f)]) (h1 := am_h w g) rfl ?_
  refine am_R.gf (pc' := 4) (v := .int v) rfl (am_gfn f h) rfl rfl rfl ?_
  exact am_R.reti rfl rfl rfl
theorem aw_k37 {h : am_H} (d : Nat) {f : Nat} : am_R d 37 0 [some (.ref f)] [] h (.inl (some (.int (-1)))) h := by
  refine am_R.nxs 1 (pc' := 1) (lv' := [some (.ref f)]) (st' := [.int (-1)]) (h1 := h) rfl ?_
  exact am_R.reti rfl rfl rfl
/-- what kind of part it is, for a call of plainTincture -/
theorem aw_cPT {w : Nat → am_C} {g : am_H} {d mi pc pc' len : Nat} {lv : am_L} {r : List Value} {f : Nat} {v : Int32} {o : am_O} {h' : am_H} {y : Nat} (hc : am_code mi pc = some (.invokeinterface 70 y, len)) (h : aw_PT g f v) (hs : (r.map fun v => v.category).sum ≤ 8) (hq : pc + len = pc') (k : am_R (d + 1) mi pc' lv (.int (aw_pl v) :: r) (am_h w g) o h') : am_R (d + 1) mi pc lv (.ref (1045 + f) :: r) (am_h w g) o h' := by
  rcases h with ⟨t, h1, h2, h3⟩ | ⟨n, fs, h1, h2, h3⟩
  · have e : aw_pl v = v := by
      rw [h2]
      exact (aw_plA t h1).1
    rw [e] at k
    exact am_R.cv (a := 1045 + f) (as' := []) (r := r) (v := some (.int v)) hc rfl rfl rfl (am_gfn f h3) rfl (by simp only [am_fit, hs]; rfl) (aw_k36 d h3) hq k
  · have e : aw_pl v = -1 := by
      rw [h2]
      exact (aw_plB n h1).1
    rw [e] at k
    exact am_R.cv (a := 1045 + f) (as' := []) (r := r) (v := some (.int (-1))) hc rfl rfl rfl (am_gfn f h3) rfl (by simp only [am_fit, hs]; rfl) (aw_k37 d) hq k
