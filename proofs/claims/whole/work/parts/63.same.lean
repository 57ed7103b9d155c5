/-! same: both sides, and its call in the law. -/
section AmAc
variable {d mi pc len T F : Nat} {lv : am_L} {st : List Value} {h h' : am_H} {o : am_O}
theorem aw_rf {j : Nat} (hj : j < 38) : am_rf h (.ref j) = some (some j) := by
  have h1 : (am_at h j).isSome = true := by
    unfold am_at
    rw [if_pos (by omega), List.getElem?_eq_getElem (by rw [am_stat116]; omega)]
    rfl
  simp only [am_rf]
  rw [if_pos ⟨h1, Or.inl hj⟩]
theorem am_R.ac {t : Int} {j1 j2 : Nat} (hc : am_code mi pc = some (.if_acmp .eq t, len)) (h1 : j1 < 38) (h2 : j2 < 38) (hT : t.toNat = T) (hF : pc + len = F) (k1 : j1 = j2 → am_R d mi T lv st h o h') (k2 : ¬ j1 = j2 → am_R d mi F lv st h o h') : am_R d mi pc lv (.ref j2 :: .ref j1 :: st) h o h' := by
  subst hT hF
  have e : am_nx mi pc lv (.ref j2 :: .ref j1 :: st) h = some (if some j1 = some j2 then t.toNat else pc + len, lv, st, h) := by
    simp only [am_nx, hc, am_ret, am_thr, am_inv, am_one, am_push, am_sto, am_ari, am_br, aw_rf h1, aw_rf h2]
  by_cases hq : j1 = j2
  · rw [if_pos (by rw [hq])] at e
    exact am_R.nx e (k1 hq)
  · rw [if_neg (fun z => hq (Option.some.inj z))] at e
    exact am_R.nx e (k2 hq)
theorem am_R.acn {t : Int} {j1 j2 : Nat} (hc : am_code mi pc = some (.if_acmp .ne t, len)) (h1 : j1 < 38) (h2 : j2 < 38) (hT : t.toNat = T) (hF : pc + len = F) (k1 : ¬ j1 = j2 → am_R d mi T lv st h o h') (k2 : j1 = j2 → am_R d mi F lv st h o h') : am_R d mi pc lv (.ref j2 :: .ref j1 :: st) h o h' := by
  subst hT hF
  have e : am_nx mi pc lv (.ref j2 :: .ref j1 :: st) h = some (if ¬ some j1 = some j2 then t.toNat else pc + len, lv, st, h) := by
    simp only [am_nx, hc, am_ret, am_thr, am_inv, am_one, am_push, am_sto, am_ari, am_br, aw_rf h1, aw_rf h2]
  by_cases hq : j1 = j2
  · rw [if_neg (fun z => z (by rw [hq]))] at e
    exact am_R.nx e (k2 hq)
  · rw [if_pos (fun z => hq (Option.some.inj z))] at e
    exact am_R.nx e (k1 hq)
end AmAc
/-- the words of a Told -/
def aw_ws (ws : List Value) (js : List Nat) : Prop := js.length ≤ 120 ∧ ∀ k j : Nat, js[k]? = some j → j < 37 ∧ ws[k]? = some (Value.ref j)
theorem aw_ext {js js1 : List Nat} {n : Nat} (h1 : js.length = n) (h2 : js1.length = n) (h : ∀ k, k < n → js[k]? = js1[k]?) : js = js1 := by
  apply List.ext_getElem?
  intro k
  by_cases hk : k < n
  · exact h k hk
  · rw [List.getElem?_eq_none (by omega), List.getElem?_eq_none (by omega)]
theorem aw_k84l {w : Nat → am_C} {g : am_H} (d : Nat) {r q : Nat} (hr : r < 4) (hq : q < 4) {js js1 : List Nat} {bc sc ic cc dp rd bc1 sc1 ic1 cc1 dp1 rd1 : Int32} (hT : w (5 + 4 * r) = aw_cT r (Int32.ofNat js.length) bc sc ic cc dp rd) (hT1 : w (5 + 4 * q) = aw_cT q (Int32.ofNat js1.length) bc1 sc1 ic1 cc1 dp1 rd1) {ws ws1 : List Value} (hW : w (6 + 4 * r) = .inr (4, ws)) (hW1 : w (6 + 4 * q) = .inr (4, ws1)) (hl : ws.length = 120) (hl1 : ws1.length = 120) (hj : aw_ws ws js) (hj1 : aw_ws ws1 js1) (hn : js.length = js1.length) : ∀ m i : Nat, i + m = js.length → (∀ k, k < i → js[k]? = js1[k]?) → am_R d 84 15 [some (.ref (1005 + 4 * r)), some (.ref (1005 + 4 * q)), some (.int (Int32.ofNat i))] [] (am_h w g) (.inl (some (.int (if js = js1 then 1 else 0)))) (am_h w g) := by
  have hjl := hj.1
  intro m
  induction m with
  | zero =>
    intro i hi hk
    have hi9 : i = js.length := by omega
    subst hi9
    refine am_R.nxs 2 (pc' := 17) (lv' := [some (.ref (1005 + 4 * r)), some (.ref (1005 + 4 * q)), some (.int (Int32.ofNat js.length))]) (st' := [.ref (1005 + 4 * r), .int (Int32.ofNat js.length)]) (h1 := am_h w g) rfl ?_
    refine am_R.gf (pc' := 20) (v := .int (Int32.ofNat js.length)) rfl (aw_at5 hr hT) rfl rfl rfl ?_
    refine am_R.ites 1 (P := Int32.ofNat js.length ≤ Int32.ofNat js.length) (T := 46) (F := 23) (lv' := [some (.ref (1005 + 4 * r)), some (.ref (1005 + 4 * q)), some (.int (Int32.ofNat js.length))]) (st' := []) (h1 := am_h w g) rfl (fun b20 => ?_) (fun b20 => ?_)
    · have b20 : js.length ≤ js.length := (am_leN (i := js.length) (n := js.length) (by omega) (by omega)).mp b20
      refine am_R.nxs 1 (pc' := 47) (lv' := [some (.ref (1005 + 4 * r)), some (.ref (1005 + 4 * q)), some (.int (Int32.ofNat js.length))]) (st' := [.int 1]) (h1 := am_h w g) rfl ?_
      rw [if_pos (aw_ext rfl hn.symm hk)]
      exact am_R.reti rfl rfl rfl
    · have b20 : ¬ js.length ≤ js.length := fun hq9 => b20 ((am_leN (i := js.length) (n := js.length) (by omega) (by omega)).mpr hq9)
      omega
  | succ m ih =>
    intro i hi hk
    obtain ⟨a, ha⟩ : ∃ a, js[i]? = some a := ⟨_, List.getElem?_eq_getElem (by omega)⟩
    obtain ⟨a1, ha1⟩ : ∃ a1, js1[i]? = some a1 := ⟨_, List.getElem?_eq_getElem (by omega)⟩
    refine am_R.nxs 2 (pc' := 17) (lv' := [some (.ref (1005 + 4 * r)), some (.ref (1005 + 4 * q)), some (.int (Int32.ofNat i))]) (st' := [.ref (1005 + 4 * r), .int (Int32.ofNat i)]) (h1 := am_h w g) rfl ?_
    refine am_R.gf (pc' := 20) (v := .int (Int32.ofNat js.length)) rfl (aw_at5 hr hT) rfl rfl rfl ?_
    refine am_R.ites 1 (P := Int32.ofNat js.length ≤ Int32.ofNat i) (T := 46) (F := 23) (lv' := [some (.ref (1005 + 4 * r)), some (.ref (1005 + 4 * q)), some (.int (Int32.ofNat i))]) (st' := []) (h1 := am_h w g) rfl (fun b20 => ?_) (fun b20 => ?_)
    · have b20 : js.length ≤ i := (am_leN (i := js.length) (n := i) (by omega) (by omega)).mp b20
      omega
    · have b20 : ¬ js.length ≤ i := fun hq9 => b20 ((am_leN (i := js.length) (n := i) (by omega) (by omega)).mpr hq9)
      refine am_R.nxs 1 (pc' := 24) (lv' := [some (.ref (1005 + 4 * r)), some (.ref (1005 + 4 * q)), some (.int (Int32.ofNat i))]) (st' := [.ref (1005 + 4 * r)]) (h1 := am_h w g) rfl ?_
      refine am_R.gf (pc' := 27) (v := .ref (1006 + 4 * r)) rfl (aw_at5 hr hT) rfl rfl rfl ?_
      refine am_R.nxs 1 (pc' := 28) (lv' := [some (.ref (1005 + 4 * r)), some (.ref (1005 + 4 * q)), some (.int (Int32.ofNat i))]) (st' := [.int (Int32.ofNat i), .ref (1006 + 4 * r)]) (h1 := am_h w g) rfl ?_
      refine am_R.lda (i := i) (xs := ws) (v := .ref a) (pc' := 29) rfl (aw_at6 hr hW) (by decide) (by omega) (by omega) ((hj.2 _ _ ha).2) rfl ?_
      refine am_R.nxs 1 (pc' := 30) (lv' := [some (.ref (1005 + 4 * r)), some (.ref (1005 + 4 * q)), some (.int (Int32.ofNat i))]) (st' := [.ref (1005 + 4 * q), .ref a]) (h1 := am_h w g) rfl ?_
      refine am_R.gf (pc' := 33) (v := .ref (1006 + 4 * q)) rfl (aw_at5 hq hT1) rfl rfl rfl ?_
      refine am_R.nxs 1 (pc' := 34) (lv' := [some (.ref (1005 + 4 * r)), some (.ref (1005 + 4 * q)), some (.int (Int32.ofNat i))]) (st' := [.int (Int32.ofNat i), .ref (1006 + 4 * q), .ref a]) (h1 := am_h w g) rfl ?_
      refine am_R.lda (i := i) (xs := ws1) (v := .ref a1) (pc' := 35) rfl (aw_at6 hq hW1) (by decide) (by omega) (by omega) ((hj1.2 _ _ ha1).2) rfl ?_
      refine am_R.ac (j1 := a) (j2 := a1) (T := 40) (F := 38) rfl (by have := (hj.2 _ _ ha).1; omega) (by have := (hj1.2 _ _ ha1).1; omega) rfl rfl (fun e => ?_) (fun e => ?_)
      · refine am_R.nxs 1 (pc' := 43) (lv' := [some (.ref (1005 + 4 * r)), some (.ref (1005 + 4 * q)), some (.int (Int32.ofNat i + 1))]) (st' := []) (h1 := am_h w g) rfl ?_
        rw [show (Int32.ofNat i + 1 : Int32) = Int32.ofNat (i + 1) from am_add i 1]
        refine am_R.nxs 1 (pc' := 15) (lv' := [some (.ref (1005 + 4 * r)), some (.ref (1005 + 4 * q)), some (.int (Int32.ofNat (i + 1)))]) (st' := []) (h1 := am_h w g) rfl ?_
        refine ih (i + 1) (by omega) (fun k hk9 => ?_)
        by_cases hki : k = i
        · subst hki
          rw [ha, ha1, e]
        · exact hk k (by omega)
      · refine am_R.nxs 1 (pc' := 39) (lv' := [some (.ref (1005 + 4 * r)), some (.ref (1005 + 4 * q)), some (.int (Int32.ofNat i))]) (st' := [.int 0]) (h1 := am_h w g) rfl ?_
        rw [if_neg (fun z => e (by rw [z] at ha; exact Option.some.inj (ha.symm.trans ha1)))]
        exact am_R.reti rfl rfl rfl
theorem aw_k84 {w : Nat → am_C} {g : am_H} (d : Nat) {r q : Nat} (hr : r < 4) (hq : q < 4) {js js1 : List Nat} {bc sc ic cc dp rd bc1 sc1 ic1 cc1 dp1 rd1 : Int32} (hT : w (5 + 4 * r) = aw_cT r (Int32.ofNat js.length) bc sc ic cc dp rd) (hT1 : w (5 + 4 * q) = aw_cT q (Int32.ofNat js1.length) bc1 sc1 ic1 cc1 dp1 rd1) {ws ws1 : List Value} (hW : w (6 + 4 * r) = .inr (4, ws)) (hW1 : w (6 + 4 * q) = .inr (4, ws1)) (hl : ws.length = 120) (hl1 : ws1.length = 120) (hj : aw_ws ws js) (hj1 : aw_ws ws1 js1) : am_R d 84 0 [some (.ref (1005 + 4 * r)), some (.ref (1005 + 4 * q)), none] [] (am_h w g) (.inl (some (.int (if js = js1 then 1 else 0)))) (am_h w g) := by
  have hjl := hj.1
  have hjl1 := hj1.1
  refine am_R.nxs 1 (pc' := 1) (lv' := [some (.ref (1005 + 4 * r)), some (.ref (1005 + 4 * q)), none]) (st' := [.ref (1005 + 4 * r)]) (h1 := am_h w g) rfl ?_
  refine am_R.gf (pc' := 4) (v := .int (Int32.ofNat js.length)) rfl (aw_at5 hr hT) rfl rfl rfl ?_
  refine am_R.nxs 1 (pc' := 5) (lv' := [some (.ref (1005 + 4 * r)), some (.ref (1005 + 4 * q)), none]) (st' := [.ref (1005 + 4 * q), .int (Int32.ofNat js.length)]) (h1 := am_h w g) rfl ?_
  refine am_R.gf (pc' := 8) (v := .int (Int32.ofNat js1.length)) rfl (aw_at5 hq hT1) rfl rfl rfl ?_
  refine am_R.ites 1 (P := Int32.ofNat js.length = Int32.ofNat js1.length) (T := 13) (F := 11) (lv' := [some (.ref (1005 + 4 * r)), some (.ref (1005 + 4 * q)), none]) (st' := []) (h1 := am_h w g) rfl (fun b8 => ?_) (fun b8 => ?_)
  · have b8 : js.length = js1.length := (am_eqN (i := js.length) (n := js1.length) (by omega) (by omega)).mp b8
    refine am_R.nxs 2 (pc' := 15) (lv' := [some (.ref (1005 + 4 * r)), some (.ref (1005 + 4 * q)), some (.int 0)]) (st' := []) (h1 := am_h w g) rfl ?_
    exact aw_k84l d hr hq hT hT1 hW hW1 hl hl1 hj hj1 b8 js.length 0 (Nat.zero_add _) (fun k hk => absurd hk (Nat.not_lt_zero k))
  · have b8 : ¬ js.length = js1.length := fun hq9 => b8 ((am_eqN (i := js.length) (n := js1.length) (by omega) (by omega)).mpr hq9)
    refine am_R.nxs 1 (pc' := 12) (lv' := [some (.ref (1005 + 4 * r)), some (.ref (1005 + 4 * q)), none]) (st' := [.int 0]) (h1 := am_h w g) rfl ?_
    rw [if_neg (fun z => b8 (by rw [z]))]
    exact am_R.reti rfl rfl rfl
theorem aw_k83a {w : Nat → am_C} {g : am_H} (d : Nat) {tl pl sp : Nat} (h1 : w 1 = aw_c1 tl pl sp) {rs : List Value} (h4 : w 4 = .inr (5, rs)) (hl : rs.length = 3) {k r : Nat} (hk : k < 3) (hr : r < 4) (hrs : rs[k]? = some (.ref (1005 + 4 * r))) {j q : Nat} (hj : j < 3) (hq : q < 4) (hqs : rs[j]? = some (.ref (1005 + 4 * q))) {js : List Nat} {bc sc ic cc dp rd : Int32} (hT : w (5 + 4 * r) = aw_cT r (Int32.ofNat js.length) bc sc ic cc dp rd) {js1 : List Nat} {bc1 sc1 ic1 cc1 dp1 rd1 : Int32} (hT1 : w (5 + 4 * q) = aw_cT q (Int32.ofNat js1.length) bc1 sc1 ic1 cc1 dp1 rd1) {ws ws1 : List Value} (hW : w (6 + 4 * r) = .inr (4, ws)) (hW1 : w (6 + 4 * q) = .inr (4, ws1)) (hwl : ws.length = 120) (hwl1 : ws1.length = 120) (hjs : aw_ws ws js) (hjs1 : aw_ws ws1 js1) (hd : rd = 1) (hd1 : rd1 = 1) : am_R (d + 2) 83 0 [some (.ref 1001), some (.int (Int32.ofNat k)), some (.int (Int32.ofNat j))] [] (am_h w g) (.inl (some (.int (if js = js1 then 1 else 0)))) (am_h w g) := by
  refine am_R.nxs 2 (pc' := 2) (lv' := [some (.ref 1001), some (.int (Int32.ofNat k)), some (.int (Int32.ofNat j))]) (st' := [.int (Int32.ofNat k), .ref 1001]) (h1 := am_h w g) rfl ?_
  refine am_R.cv (a := 1001) (as' := [.int (Int32.ofNat k)]) (r := []) (v := none) (h1 := am_h w g) (pc' := 5) rfl rfl rfl rfl (am_wf 1 (by decide) h1) rfl rfl (aw_k9a (d + 1) _ _ (aw_nn k) ((am_ltN (n := 3) (by omega) (by decide)).mpr hk)) rfl ?_
  refine am_R.nxs 2 (pc' := 7) (lv' := [some (.ref 1001), some (.int (Int32.ofNat k)), some (.int (Int32.ofNat j))]) (st' := [.int (Int32.ofNat j), .ref 1001]) (h1 := am_h w g) rfl ?_
  refine am_R.cv (a := 1001) (as' := [.int (Int32.ofNat j)]) (r := []) (v := none) (h1 := am_h w g) (pc' := 10) rfl rfl rfl rfl (am_wf 1 (by decide) h1) rfl rfl (aw_k9a (d + 1) _ _ (aw_nn j) ((am_ltN (n := 3) (by omega) (by decide)).mpr hj)) rfl ?_
  refine am_R.nxs 2 (pc' := 12) (lv' := [some (.ref 1001), some (.int (Int32.ofNat k)), some (.int (Int32.ofNat j))]) (st' := [.int (Int32.ofNat k), .ref 1001]) (h1 := am_h w g) rfl ?_
  refine am_R.cv (a := 1001) (as' := [.int (Int32.ofNat k)]) (r := []) (v := some (.ref (1005 + 4 * r))) (h1 := am_h w g) (pc' := 15) rfl rfl rfl rfl (am_wf 1 (by decide) h1) rfl rfl (aw_k69a d h1 h4 hl hk hr hrs hT hd) rfl ?_
  refine am_R.nxs 2 (pc' := 17) (lv' := [some (.ref 1001), some (.int (Int32.ofNat k)), some (.int (Int32.ofNat j))]) (st' := [.int (Int32.ofNat j), .ref 1001, .ref (1005 + 4 * r)]) (h1 := am_h w g) rfl ?_
  refine am_R.cv (a := 1001) (as' := [.int (Int32.ofNat j)]) (r := [.ref (1005 + 4 * r)]) (v := some (.ref (1005 + 4 * q))) (h1 := am_h w g) (pc' := 20) rfl rfl rfl rfl (am_wf 1 (by decide) h1) rfl rfl (aw_k69a d h1 h4 hl hj hq hqs hT1 hd1) rfl ?_
  refine am_R.cv (a := (1005 + 4 * r)) (as' := [.ref (1005 + 4 * q)]) (r := []) (v := some (.int (if js = js1 then 1 else 0))) (h1 := am_h w g) (pc' := 23) rfl rfl rfl rfl (aw_at5 hr hT) rfl rfl (aw_k84 (d + 1) hr hq hT hT1 hW hW1 hwl hwl1 hjs hjs1) rfl ?_
  exact am_R.reti rfl rfl (by split <;> rfl)
theorem aw_k83b {w : Nat → am_C} {g : am_H} (d : Nat) {tl pl sp : Nat} (h1 : w 1 = aw_c1 tl pl sp) {rs : List Value} (h4 : w 4 = .inr (5, rs)) (hl : rs.length = 3) {k r : Nat} (hk : k < 3) (hr : r < 4) (hrs : rs[k]? = some (.ref (1005 + 4 * r))) {wc bc sc ic cc dp rd : Int32} (hT : w (5 + 4 * r) = aw_cT r wc bc sc ic cc dp rd) {j : Nat} (hj : j < 3) (hd : rd = 0) : am_R (d + 2) 83 0 [some (.ref 1001), some (.int (Int32.ofNat k)), some (.int (Int32.ofNat j))] [] (am_h w g) (.inr (1000 + (am_h w g).length)) (am_h w (g ++ [.inl (9, [])])) := by
  refine am_R.nxs 2 (pc' := 2) (lv' := [some (.ref 1001), some (.int (Int32.ofNat k)), some (.int (Int32.ofNat j))]) (st' := [.int (Int32.ofNat k), .ref 1001]) (h1 := am_h w g) rfl ?_
  refine am_R.cv (a := 1001) (as' := [.int (Int32.ofNat k)]) (r := []) (v := none) (h1 := am_h w g) (pc' := 5) rfl rfl rfl rfl (am_wf 1 (by decide) h1) rfl rfl (aw_k9a (d + 1) _ _ (aw_nn k) ((am_ltN (n := 3) (by omega) (by decide)).mpr hk)) rfl ?_
  refine am_R.nxs 2 (pc' := 7) (lv' := [some (.ref 1001), some (.int (Int32.ofNat k)), some (.int (Int32.ofNat j))]) (st' := [.int (Int32.ofNat j), .ref 1001]) (h1 := am_h w g) rfl ?_
  refine am_R.cv (a := 1001) (as' := [.int (Int32.ofNat j)]) (r := []) (v := none) (h1 := am_h w g) (pc' := 10) rfl rfl rfl rfl (am_wf 1 (by decide) h1) rfl rfl (aw_k9a (d + 1) _ _ (aw_nn j) ((am_ltN (n := 3) (by omega) (by decide)).mpr hj)) rfl ?_
  refine am_R.nxs 2 (pc' := 12) (lv' := [some (.ref 1001), some (.int (Int32.ofNat k)), some (.int (Int32.ofNat j))]) (st' := [.int (Int32.ofNat k), .ref 1001]) (h1 := am_h w g) rfl ?_
  exact am_R.cvp (a := 1001) (as' := [.int (Int32.ofNat k)]) (r := []) rfl rfl rfl rfl (am_wf 1 (by decide) h1) rfl rfl (aw_k69b d h1 h4 hl hk hr hrs hT hd) rfl
theorem aw_k83f {w : Nat → am_C} {g : am_H} (d : Nat) {tl pl sp : Nat} (h1 : w 1 = aw_c1 tl pl sp) {rs : List Value} (h4 : w 4 = .inr (5, rs)) (hl : rs.length = 3) {k r : Nat} (hk : k < 3) (hr : r < 4) (hrs : rs[k]? = some (.ref (1005 + 4 * r))) {j q : Nat} (hj : j < 3) (hq : q < 4) (hqs : rs[j]? = some (.ref (1005 + 4 * q))) {wc bc sc ic cc dp rd : Int32} (hT : w (5 + 4 * r) = aw_cT r wc bc sc ic cc dp rd) {wc1 bc1 sc1 ic1 cc1 dp1 rd1 : Int32} (hT1 : w (5 + 4 * q) = aw_cT q wc1 bc1 sc1 ic1 cc1 dp1 rd1) (hd : rd = 1) (hd1 : rd1 = 0) : am_R (d + 2) 83 0 [some (.ref 1001), some (.int (Int32.ofNat k)), some (.int (Int32.ofNat j))] [] (am_h w g) (.inr (1000 + (am_h w g).length)) (am_h w (g ++ [.inl (9, [])])) := by
  refine am_R.nxs 2 (pc' := 2) (lv' := [some (.ref 1001), some (.int (Int32.ofNat k)), some (.int (Int32.ofNat j))]) (st' := [.int (Int32.ofNat k), .ref 1001]) (h1 := am_h w g) rfl ?_
  refine am_R.cv (a := 1001) (as' := [.int (Int32.ofNat k)]) (r := []) (v := none) (h1 := am_h w g) (pc' := 5) rfl rfl rfl rfl (am_wf 1 (by decide) h1) rfl rfl (aw_k9a (d + 1) _ _ (aw_nn k) ((am_ltN (n := 3) (by omega) (by decide)).mpr hk)) rfl ?_
  refine am_R.nxs 2 (pc' := 7) (lv' := [some (.ref 1001), some (.int (Int32.ofNat k)), some (.int (Int32.ofNat j))]) (st' := [.int (Int32.ofNat j), .ref 1001]) (h1 := am_h w g) rfl ?_
  refine am_R.cv (a := 1001) (as' := [.int (Int32.ofNat j)]) (r := []) (v := none) (h1 := am_h w g) (pc' := 10) rfl rfl rfl rfl (am_wf 1 (by decide) h1) rfl rfl (aw_k9a (d + 1) _ _ (aw_nn j) ((am_ltN (n := 3) (by omega) (by decide)).mpr hj)) rfl ?_
  refine am_R.nxs 2 (pc' := 12) (lv' := [some (.ref 1001), some (.int (Int32.ofNat k)), some (.int (Int32.ofNat j))]) (st' := [.int (Int32.ofNat k), .ref 1001]) (h1 := am_h w g) rfl ?_
  refine am_R.cv (a := 1001) (as' := [.int (Int32.ofNat k)]) (r := []) (v := some (.ref (1005 + 4 * r))) (h1 := am_h w g) (pc' := 15) rfl rfl rfl rfl (am_wf 1 (by decide) h1) rfl rfl (aw_k69a d h1 h4 hl hk hr hrs hT hd) rfl ?_
  refine am_R.nxs 2 (pc' := 17) (lv' := [some (.ref 1001), some (.int (Int32.ofNat k)), some (.int (Int32.ofNat j))]) (st' := [.int (Int32.ofNat j), .ref 1001, .ref (1005 + 4 * r)]) (h1 := am_h w g) rfl ?_
  exact am_R.cvp (a := 1001) (as' := [.int (Int32.ofNat j)]) (r := [.ref (1005 + 4 * r)]) rfl rfl rfl rfl (am_wf 1 (by decide) h1) rfl rfl (aw_k69b d h1 h4 hl hj hq hqs hT1 hd1) rfl
theorem aw_k83c {w : Nat → am_C} {g : am_H} (d : Nat) {tl pl sp : Nat} (h1 : w 1 = aw_c1 tl pl sp) {s : Int32} (t : Int32) (hs : s < 0 ∨ ¬ s < 3) : am_R (d + 2) 83 0 [some (.ref 1001), some (.int s), some (.int t)] [] (am_h w g) (.inr (1000 + (am_h w g).length)) (am_h w (g ++ [.inl (8, [])])) := by
  refine am_R.nxs 2 (pc' := 2) (lv' := [some (.ref 1001), some (.int s), some (.int t)]) (st' := [.int s, .ref 1001]) (h1 := am_h w g) rfl ?_
  exact am_R.cvp (a := 1001) (as' := [.int s]) (r := []) rfl rfl rfl rfl (am_wf 1 (by decide) h1) rfl rfl (aw_k9b (d + 1) _ s hs) rfl
theorem aw_k83e {w : Nat → am_C} {g : am_H} (d : Nat) {tl pl sp : Nat} (h1 : w 1 = aw_c1 tl pl sp) {k : Nat} (hk : k < 3) {t : Int32} (ht : t < 0 ∨ ¬ t < 3) : am_R (d + 2) 83 0 [some (.ref 1001), some (.int (Int32.ofNat k)), some (.int t)] [] (am_h w g) (.inr (1000 + (am_h w g).length)) (am_h w (g ++ [.inl (8, [])])) := by
  refine am_R.nxs 2 (pc' := 2) (lv' := [some (.ref 1001), some (.int (Int32.ofNat k)), some (.int t)]) (st' := [.int (Int32.ofNat k), .ref 1001]) (h1 := am_h w g) rfl ?_
  refine am_R.cv (a := 1001) (as' := [.int (Int32.ofNat k)]) (r := []) (v := none) (h1 := am_h w g) (pc' := 5) rfl rfl rfl rfl (am_wf 1 (by decide) h1) rfl rfl (aw_k9a (d + 1) _ _ (aw_nn k) ((am_ltN (n := 3) (by omega) (by decide)).mpr hk)) rfl ?_
  refine am_R.nxs 2 (pc' := 7) (lv' := [some (.ref 1001), some (.int (Int32.ofNat k)), some (.int t)]) (st' := [.int t, .ref 1001]) (h1 := am_h w g) rfl ?_
  exact am_R.cvp (a := 1001) (as' := [.int t]) (r := []) rfl rfl rfl rfl (am_wf 1 (by decide) h1) rfl rfl (aw_k9b (d + 1) _ t ht) rfl
theorem aw_W82a0 {w : Nat → am_C} {g : am_H} (d : Nat) {tl pl sp : Nat} (h1 : w 1 = aw_c1 tl pl sp) (a0 a1 : Int32) {w1 : Nat → am_C} {g1 : am_H} {u : Int64} (c : am_R d 83 0 [some (.ref 1001), some (.int a0), some (.int a1)] [] (am_h w g) (.inl (some (.int 0))) (am_h w1 g1)) (e44 : w1 44 = .inr (3, [.long u])) : am_R (d + 1) 82 0 [some (.ref 1001), some (.int a0), some (.int a1), some (.ref 1044), none] [] (am_h w g) (.inl (some (.int 0))) (am_h (am_pu w1 44 (.inr (3, [.long 0]))) g1) := by
  refine am_R.nxs 5 (pc' := 5) (lv' := [some (.ref 1001), some (.int a0), some (.int a1), some (.ref 1044), none]) (st' := [.int a1, .int a0, .ref 1001, .int 0, .ref 1044]) (h1 := am_h w g) rfl ?_
  refine am_R.cv (a := 1001) (as' := [.int a0, .int a1]) (r := [.int 0, .ref 1044]) (v := some (.int 0)) (h1 := am_h w1 g1) (pc' := 8) rfl rfl rfl rfl (am_wf 1 (by decide) h1) rfl rfl (c) rfl ?_
  refine am_R.ites 1 (P := 0 = 0) (T := 15) (F := 11) (lv' := [some (.ref 1001), some (.int a0), some (.int a1), some (.ref 1044), none]) (st' := [.int 0, .ref 1044]) (h1 := am_h w1 g1) rfl (fun c1 => ?_) (fun c1 => ?_)
  · refine am_R.nxs 1 (pc' := 16) (lv' := [some (.ref 1001), some (.int a0), some (.int a1), some (.ref 1044), none]) (st' := [.long 0, .int 0, .ref 1044]) (h1 := am_h w1 g1) rfl ?_
    refine am_R.stl (v := 0) (pc' := 17) rfl (am_wf 44 (by decide) e44) (am_ws (k := 44) (by decide) (by decide)) rfl ?_
    refine am_R.nxs 2 (pc' := 29) (lv' := [some (.ref 1001), some (.int a0), some (.int a1), some (.ref 1044), none]) (st' := [.int 0]) (h1 := am_h (am_pu w1 44 (.inr (3, [.long 0]))) g1) rfl ?_
    exact am_R.reti rfl rfl rfl
  · exact absurd rfl c1
theorem aw_W82a1 {w : Nat → am_C} {g : am_H} (d : Nat) {tl pl sp : Nat} (h1 : w 1 = aw_c1 tl pl sp) (a0 a1 : Int32) {w1 : Nat → am_C} {g1 : am_H} {u : Int64} (c : am_R d 83 0 [some (.ref 1001), some (.int a0), some (.int a1)] [] (am_h w g) (.inl (some (.int 1))) (am_h w1 g1)) (e44 : w1 44 = .inr (3, [.long u])) : am_R (d + 1) 82 0 [some (.ref 1001), some (.int a0), some (.int a1), some (.ref 1044), none] [] (am_h w g) (.inl (some (.int 0))) (am_h (am_pu w1 44 (.inr (3, [.long 1]))) g1) := by
  refine am_R.nxs 5 (pc' := 5) (lv' := [some (.ref 1001), some (.int a0), some (.int a1), some (.ref 1044), none]) (st' := [.int a1, .int a0, .ref 1001, .int 0, .ref 1044]) (h1 := am_h w g) rfl ?_
  refine am_R.cv (a := 1001) (as' := [.int a0, .int a1]) (r := [.int 0, .ref 1044]) (v := some (.int 1)) (h1 := am_h w1 g1) (pc' := 8) rfl rfl rfl rfl (am_wf 1 (by decide) h1) rfl rfl (c) rfl ?_
  refine am_R.ites 1 (P := 1 = 0) (T := 15) (F := 11) (lv' := [some (.ref 1001), some (.int a0), some (.int a1), some (.ref 1044), none]) (st' := [.int 0, .ref 1044]) (h1 := am_h w1 g1) rfl (fun c1 => ?_) (fun c1 => ?_)
  · exact absurd c1 (by decide)
  · refine am_R.nxs 2 (pc' := 16) (lv' := [some (.ref 1001), some (.int a0), some (.int a1), some (.ref 1044), none]) (st' := [.long 1, .int 0, .ref 1044]) (h1 := am_h w1 g1) rfl ?_
    refine am_R.stl (v := 1) (pc' := 17) rfl (am_wf 44 (by decide) e44) (am_ws (k := 44) (by decide) (by decide)) rfl ?_
    refine am_R.nxs 2 (pc' := 29) (lv' := [some (.ref 1001), some (.int a0), some (.int a1), some (.ref 1044), none]) (st' := [.int 0]) (h1 := am_h (am_pu w1 44 (.inr (3, [.long 1]))) g1) rfl ?_
    exact am_R.reti rfl rfl rfl
theorem aw_W82t8 {w : Nat → am_C} {g : am_H} (d : Nat) {tl pl sp : Nat} (h1 : w 1 = aw_c1 tl pl sp) (a0 a1 : Int32) (c : am_R d 83 0 [some (.ref 1001), some (.int a0), some (.int a1)] [] (am_h w g) (.inr (1000 + (am_h w g).length)) (am_h w (g ++ [.inl (8, [])]))) : am_R (d + 1) 82 0 [some (.ref 1001), some (.int a0), some (.int a1), some (.ref 1044), none] [] (am_h w g) (.inl (some (.int 1))) (am_h w (g ++ [.inl (8, [])])) := by
  refine am_R.nxs 5 (pc' := 5) (lv' := [some (.ref 1001), some (.int a0), some (.int a1), some (.ref 1044), none]) (st' := [.int a1, .int a0, .ref 1001, .int 0, .ref 1044]) (h1 := am_h w g) rfl ?_
  refine am_R.cvc (y := 8) (a := 1001) (as' := [.int a0, .int a1]) (r := [.int 0, .ref 1044]) (pc' := 20) rfl rfl rfl rfl (am_wf 1 (by decide) h1) rfl rfl (c) (aw_thrown) rfl ?_
  refine am_R.nxs 2 (pc' := 23) (lv' := [some (.ref 1001), some (.int a0), some (.int a1), some (.ref 1044), some (.ref (1000 + (am_h w g).length))]) (st' := [.int 1]) (h1 := am_h w (g ++ [.inl (8, [])])) rfl ?_
  exact am_R.reti rfl rfl rfl
theorem aw_W82t9 {w : Nat → am_C} {g : am_H} (d : Nat) {tl pl sp : Nat} (h1 : w 1 = aw_c1 tl pl sp) (a0 a1 : Int32) (c : am_R d 83 0 [some (.ref 1001), some (.int a0), some (.int a1)] [] (am_h w g) (.inr (1000 + (am_h w g).length)) (am_h w (g ++ [.inl (9, [])]))) : am_R (d + 1) 82 0 [some (.ref 1001), some (.int a0), some (.int a1), some (.ref 1044), none] [] (am_h w g) (.inl (some (.int 2))) (am_h w (g ++ [.inl (9, [])])) := by
  refine am_R.nxs 5 (pc' := 5) (lv' := [some (.ref 1001), some (.int a0), some (.int a1), some (.ref 1044), none]) (st' := [.int a1, .int a0, .ref 1001, .int 0, .ref 1044]) (h1 := am_h w g) rfl ?_
  refine am_R.cvc (y := 9) (a := 1001) (as' := [.int a0, .int a1]) (r := [.int 0, .ref 1044]) (pc' := 24) rfl rfl rfl rfl (am_wf 1 (by decide) h1) rfl rfl (c) (aw_thrown) rfl ?_
  refine am_R.nxs 2 (pc' := 27) (lv' := [some (.ref 1001), some (.int a0), some (.int a1), some (.ref 1044), some (.ref (1000 + (am_h w g).length))]) (st' := [.int 2]) (h1 := am_h w (g ++ [.inl (9, [])])) rfl ?_
  exact am_R.reti rfl rfl rfl
theorem aw_tau_inj : ∀ a, a < 37 → ∀ b, b < 37 → aw_tau a = aw_tau b → a = b := by decide
theorem aw_k141n {w : Nat → am_C} {g : am_H} (d : Nat) {ft ty wr wd wt sn : Int32} (h21 : w 21 = aw_c21 ft ty wr wd wt sn) {ma : List Int32} (h27 : w 27 = am_I 0 ma) (l27 : ma.length = 3) {to : List Int32} (h26 : w 26 = am_I 0 to) (l26 : to.length = 360) {k : Nat} (hk : k < 3) {j : Nat} (hj : j < 3) {js js1 : List Nat} (hmk : ma.getD k 0 = Int32.ofNat js.length) (hmj : ma.getD j 0 = Int32.ofNat js1.length) (hl2 : js.length ≤ 120) (hl3 : js1.length ≤ 120) (ht : ∀ z a, js[z]? = some a → a < 37 ∧ to.getD (120 * k + z) 0 = aw_tau a) (ht1 : ∀ z a, js1[z]? = some a → a < 37 ∧ to.getD (120 * j + z) 0 = aw_tau a) (i : Nat) (hi : i < 2 ^ 31) : am_R d 141 39 [some (.ref 1021), some (.int (Int32.ofNat k)), some (.int (Int32.ofNat j)), some (.int 0), some (.int (Int32.ofNat i))] [] (am_h w g) (.inl (some (.int 0))) (am_h w g) := by
  refine am_R.nxs 2 (pc' := 42) (lv' := [some (.ref 1021), some (.int (Int32.ofNat k)), some (.int (Int32.ofNat j)), some (.int 0), some (.int (Int32.ofNat i))]) (st' := [.ref 1021, .int (Int32.ofNat i)]) (h1 := am_h w g) rfl ?_
  refine am_R.gf (pc' := 45) (v := .ref 1027) rfl (am_wf 21 (by decide) h21) rfl rfl rfl ?_
  refine am_R.nxs 1 (pc' := 46) (lv' := [some (.ref 1021), some (.int (Int32.ofNat k)), some (.int (Int32.ofNat j)), some (.int 0), some (.int (Int32.ofNat i))]) (st' := [.int (Int32.ofNat k), .ref 1027, .int (Int32.ofNat i)]) (h1 := am_h w g) rfl ?_
  refine am_R.ldi (i := k) (xs := ma) (pc' := 47) rfl (am_wf 27 (by decide) h27) (by omega) (by omega) rfl ?_
  rw [hmk]
  refine am_R.ites 1 (P := Int32.ofNat js.length ≤ Int32.ofNat i) (T := 93) (F := 50) (lv' := [some (.ref 1021), some (.int (Int32.ofNat k)), some (.int (Int32.ofNat j)), some (.int 0), some (.int (Int32.ofNat i))]) (st' := []) (h1 := am_h w g) rfl (fun b47 => ?_) (fun b47 => ?_)
  · have b47 : js.length ≤ i := (am_leN (i := js.length) (n := i) (by omega) (by omega)).mp b47
    refine am_R.nxs 1 (pc' := 94) (lv' := [some (.ref 1021), some (.int (Int32.ofNat k)), some (.int (Int32.ofNat j)), some (.int 0), some (.int (Int32.ofNat i))]) (st' := [.int 0]) (h1 := am_h w g) rfl ?_
    exact am_R.reti rfl rfl rfl
  · have b47 : ¬ js.length ≤ i := fun hq9 => b47 ((am_leN (i := js.length) (n := i) (by omega) (by omega)).mpr hq9)
    refine am_R.ites 2 (P := 0 = 0) (T := 93) (F := 54) (lv' := [some (.ref 1021), some (.int (Int32.ofNat k)), some (.int (Int32.ofNat j)), some (.int 0), some (.int (Int32.ofNat i))]) (st' := []) (h1 := am_h w g) rfl (fun b51 => ?_) (fun b51 => ?_)
    · refine am_R.nxs 1 (pc' := 94) (lv' := [some (.ref 1021), some (.int (Int32.ofNat k)), some (.int (Int32.ofNat j)), some (.int 0), some (.int (Int32.ofNat i))]) (st' := [.int 0]) (h1 := am_h w g) rfl ?_
      exact am_R.reti rfl rfl rfl
    · exact absurd rfl b51
theorem aw_k141l {w : Nat → am_C} {g : am_H} (d : Nat) {ft ty wr wd wt sn : Int32} (h21 : w 21 = aw_c21 ft ty wr wd wt sn) {ma : List Int32} (h27 : w 27 = am_I 0 ma) (l27 : ma.length = 3) {to : List Int32} (h26 : w 26 = am_I 0 to) (l26 : to.length = 360) {k : Nat} (hk : k < 3) {j : Nat} (hj : j < 3) {js js1 : List Nat} (hmk : ma.getD k 0 = Int32.ofNat js.length) (hmj : ma.getD j 0 = Int32.ofNat js1.length) (hl2 : js.length ≤ 120) (hl3 : js1.length ≤ 120) (ht : ∀ z a, js[z]? = some a → a < 37 ∧ to.getD (120 * k + z) 0 = aw_tau a) (ht1 : ∀ z a, js1[z]? = some a → a < 37 ∧ to.getD (120 * j + z) 0 = aw_tau a) (hn : js.length = js1.length) : ∀ m i : Nat, i + m = js.length → (∀ z, z < i → js[z]? = js1[z]?) → am_R d 141 39 [some (.ref 1021), some (.int (Int32.ofNat k)), some (.int (Int32.ofNat j)), some (.int 1), some (.int (Int32.ofNat i))] [] (am_h w g) (.inl (some (.int (if js = js1 then 1 else 0)))) (am_h w g) := by
  intro m
  induction m with
  | zero =>
    intro i hi hz
    have hi9 : i = js.length := by omega
    subst hi9
    refine am_R.nxs 2 (pc' := 42) (lv' := [some (.ref 1021), some (.int (Int32.ofNat k)), some (.int (Int32.ofNat j)), some (.int 1), some (.int (Int32.ofNat js.length))]) (st' := [.ref 1021, .int (Int32.ofNat js.length)]) (h1 := am_h w g) rfl ?_
    refine am_R.gf (pc' := 45) (v := .ref 1027) rfl (am_wf 21 (by decide) h21) rfl rfl rfl ?_
    refine am_R.nxs 1 (pc' := 46) (lv' := [some (.ref 1021), some (.int (Int32.ofNat k)), some (.int (Int32.ofNat j)), some (.int 1), some (.int (Int32.ofNat js.length))]) (st' := [.int (Int32.ofNat k), .ref 1027, .int (Int32.ofNat js.length)]) (h1 := am_h w g) rfl ?_
    refine am_R.ldi (i := k) (xs := ma) (pc' := 47) rfl (am_wf 27 (by decide) h27) (by omega) (by omega) rfl ?_
    rw [hmk]
    refine am_R.ites 1 (P := Int32.ofNat js.length ≤ Int32.ofNat js.length) (T := 93) (F := 50) (lv' := [some (.ref 1021), some (.int (Int32.ofNat k)), some (.int (Int32.ofNat j)), some (.int 1), some (.int (Int32.ofNat js.length))]) (st' := []) (h1 := am_h w g) rfl (fun b47 => ?_) (fun b47 => ?_)
    · have b47 : js.length ≤ js.length := (am_leN (i := js.length) (n := js.length) (by omega) (by omega)).mp b47
      refine am_R.nxs 1 (pc' := 94) (lv' := [some (.ref 1021), some (.int (Int32.ofNat k)), some (.int (Int32.ofNat j)), some (.int 1), some (.int (Int32.ofNat js.length))]) (st' := [.int 1]) (h1 := am_h w g) rfl ?_
      rw [if_pos (aw_ext rfl hn.symm hz)]
      exact am_R.reti rfl rfl rfl
    · have b47 : ¬ js.length ≤ js.length := fun hq9 => b47 ((am_leN (i := js.length) (n := js.length) (by omega) (by omega)).mpr hq9)
      omega
  | succ m ih =>
    intro i hi hz
    obtain ⟨a, ha⟩ : ∃ a, js[i]? = some a := ⟨_, List.getElem?_eq_getElem (by omega)⟩
    obtain ⟨a1, ha1⟩ : ∃ a1, js1[i]? = some a1 := ⟨_, List.getElem?_eq_getElem (by omega)⟩
    refine am_R.nxs 2 (pc' := 42) (lv' := [some (.ref 1021), some (.int (Int32.ofNat k)), some (.int (Int32.ofNat j)), some (.int 1), some (.int (Int32.ofNat i))]) (st' := [.ref 1021, .int (Int32.ofNat i)]) (h1 := am_h w g) rfl ?_
    refine am_R.gf (pc' := 45) (v := .ref 1027) rfl (am_wf 21 (by decide) h21) rfl rfl rfl ?_
    refine am_R.nxs 1 (pc' := 46) (lv' := [some (.ref 1021), some (.int (Int32.ofNat k)), some (.int (Int32.ofNat j)), some (.int 1), some (.int (Int32.ofNat i))]) (st' := [.int (Int32.ofNat k), .ref 1027, .int (Int32.ofNat i)]) (h1 := am_h w g) rfl ?_
    refine am_R.ldi (i := k) (xs := ma) (pc' := 47) rfl (am_wf 27 (by decide) h27) (by omega) (by omega) rfl ?_
    rw [hmk]
    refine am_R.ites 1 (P := Int32.ofNat js.length ≤ Int32.ofNat i) (T := 93) (F := 50) (lv' := [some (.ref 1021), some (.int (Int32.ofNat k)), some (.int (Int32.ofNat j)), some (.int 1), some (.int (Int32.ofNat i))]) (st' := []) (h1 := am_h w g) rfl (fun b47 => ?_) (fun b47 => ?_)
    · have b47 : js.length ≤ i := (am_leN (i := js.length) (n := i) (by omega) (by omega)).mp b47
      omega
    · have b47 : ¬ js.length ≤ i := fun hq9 => b47 ((am_leN (i := js.length) (n := i) (by omega) (by omega)).mpr hq9)
      refine am_R.ites 2 (P := 1 = 0) (T := 93) (F := 54) (lv' := [some (.ref 1021), some (.int (Int32.ofNat k)), some (.int (Int32.ofNat j)), some (.int 1), some (.int (Int32.ofNat i))]) (st' := []) (h1 := am_h w g) rfl (fun b51 => ?_) (fun b51 => ?_)
      · exact absurd b51 (by decide)
      · refine am_R.nxs 1 (pc' := 55) (lv' := [some (.ref 1021), some (.int (Int32.ofNat k)), some (.int (Int32.ofNat j)), some (.int 1), some (.int (Int32.ofNat i))]) (st' := [.ref 1021]) (h1 := am_h w g) rfl ?_
        refine am_R.gf (pc' := 58) (v := .ref 1026) rfl (am_wf 21 (by decide) h21) rfl rfl rfl ?_
        refine am_R.nxs 3 (pc' := 62) (lv' := [some (.ref 1021), some (.int (Int32.ofNat k)), some (.int (Int32.ofNat j)), some (.int 1), some (.int (Int32.ofNat i))]) (st' := [.int (120 * Int32.ofNat k), .ref 1026]) (h1 := am_h w g) rfl ?_
        rw [show (120 * Int32.ofNat k : Int32) = Int32.ofNat (120 * k) from am_mul 120 k]
        refine am_R.nxs 2 (pc' := 65) (lv' := [some (.ref 1021), some (.int (Int32.ofNat k)), some (.int (Int32.ofNat j)), some (.int 1), some (.int (Int32.ofNat i))]) (st' := [.int (Int32.ofNat (120 * k) + Int32.ofNat i), .ref 1026]) (h1 := am_h w g) rfl ?_
        rw [show (Int32.ofNat (120 * k) + Int32.ofNat i : Int32) = Int32.ofNat ((120 * k) + i) from am_add (120 * k) i]
        refine am_R.ldi (i := ((120 * k) + i)) (xs := to) (pc' := 66) rfl (am_wf 26 (by decide) h26) (by omega) (by omega) rfl ?_
        refine am_R.nxs 1 (pc' := 67) (lv' := [some (.ref 1021), some (.int (Int32.ofNat k)), some (.int (Int32.ofNat j)), some (.int 1), some (.int (Int32.ofNat i))]) (st' := [.ref 1021, .int (to.getD ((120 * k) + i) 0)]) (h1 := am_h w g) rfl ?_
        refine am_R.gf (pc' := 70) (v := .ref 1026) rfl (am_wf 21 (by decide) h21) rfl rfl rfl ?_
        refine am_R.nxs 3 (pc' := 74) (lv' := [some (.ref 1021), some (.int (Int32.ofNat k)), some (.int (Int32.ofNat j)), some (.int 1), some (.int (Int32.ofNat i))]) (st' := [.int (120 * Int32.ofNat j), .ref 1026, .int (to.getD ((120 * k) + i) 0)]) (h1 := am_h w g) rfl ?_
        rw [show (120 * Int32.ofNat j : Int32) = Int32.ofNat (120 * j) from am_mul 120 j]
        refine am_R.nxs 2 (pc' := 77) (lv' := [some (.ref 1021), some (.int (Int32.ofNat k)), some (.int (Int32.ofNat j)), some (.int 1), some (.int (Int32.ofNat i))]) (st' := [.int (Int32.ofNat (120 * j) + Int32.ofNat i), .ref 1026, .int (to.getD ((120 * k) + i) 0)]) (h1 := am_h w g) rfl ?_
        rw [show (Int32.ofNat (120 * j) + Int32.ofNat i : Int32) = Int32.ofNat ((120 * j) + i) from am_add (120 * j) i]
        refine am_R.ldi (i := ((120 * j) + i)) (xs := to) (pc' := 78) rfl (am_wf 26 (by decide) h26) (by omega) (by omega) rfl ?_
        refine am_R.ites 1 (P := ¬ (to.getD ((120 * k) + i) 0) = (to.getD ((120 * j) + i) 0)) (T := 85) (F := 81) (lv' := [some (.ref 1021), some (.int (Int32.ofNat k)), some (.int (Int32.ofNat j)), some (.int 1), some (.int (Int32.ofNat i))]) (st' := []) (h1 := am_h w g) rfl (fun b78 => ?_) (fun b78 => ?_)
        · refine am_R.nxs 3 (pc' := 90) (lv' := [some (.ref 1021), some (.int (Int32.ofNat k)), some (.int (Int32.ofNat j)), some (.int 0), some (.int (Int32.ofNat i + 1))]) (st' := []) (h1 := am_h w g) rfl ?_
          rw [show (Int32.ofNat i + 1 : Int32) = Int32.ofNat (i + 1) from am_add i 1]
          refine am_R.nxs 1 (pc' := 39) (lv' := [some (.ref 1021), some (.int (Int32.ofNat k)), some (.int (Int32.ofNat j)), some (.int 0), some (.int (Int32.ofNat (i + 1)))]) (st' := []) (h1 := am_h w g) rfl ?_
          rw [if_neg (fun z => b78 (by rw [(ht i a ha).2, (ht1 i a1 ha1).2]; rw [z] at ha; rw [Option.some.inj (ha.symm.trans ha1)]))]
          exact aw_k141n d h21 h27 l27 h26 l26 hk hj hmk hmj hl2 hl3 ht ht1 (i + 1) (by omega)
        · refine am_R.nxs 4 (pc' := 90) (lv' := [some (.ref 1021), some (.int (Int32.ofNat k)), some (.int (Int32.ofNat j)), some (.int 1), some (.int (Int32.ofNat i + 1))]) (st' := []) (h1 := am_h w g) rfl ?_
          rw [show (Int32.ofNat i + 1 : Int32) = Int32.ofNat (i + 1) from am_add i 1]
          refine am_R.nxs 1 (pc' := 39) (lv' := [some (.ref 1021), some (.int (Int32.ofNat k)), some (.int (Int32.ofNat j)), some (.int 1), some (.int (Int32.ofNat (i + 1)))]) (st' := []) (h1 := am_h w g) rfl ?_
          refine ih (i + 1) (by omega) (fun z hz9 => ?_)
          by_cases hki : z = i
          · subst hki
            have e := Decidable.not_not.mp b78
            rw [(ht z a ha).2, (ht1 z a1 ha1).2] at e
            rw [ha, ha1, aw_tau_inj a (ht z a ha).1 a1 (ht1 z a1 ha1).1 e]
          · exact hz z (by omega)
theorem aw_k141a {w : Nat → am_C} {g : am_H} (d : Nat) {ft ty wr wd wt sn : Int32} (h21 : w 21 = aw_c21 ft ty wr wd wt sn) {ma : List Int32} (h27 : w 27 = am_I 0 ma) (l27 : ma.length = 3) {to : List Int32} (h26 : w 26 = am_I 0 to) (l26 : to.length = 360) {k : Nat} (hk : k < 3) {j : Nat} (hj : j < 3) {js js1 : List Nat} (hmk : ma.getD k 0 = Int32.ofNat js.length) (hmj : ma.getD j 0 = Int32.ofNat js1.length) (hl2 : js.length ≤ 120) (hl3 : js1.length ≤ 120) (ht : ∀ z a, js[z]? = some a → a < 37 ∧ to.getD (120 * k + z) 0 = aw_tau a) (ht1 : ∀ z a, js1[z]? = some a → a < 37 ∧ to.getD (120 * j + z) 0 = aw_tau a) (hm : ¬ ma.getD k 0 = 0) (hm1 : ¬ ma.getD j 0 = 0) : am_R (d + 1) 141 0 [some (.ref 1021), some (.int (Int32.ofNat k)), some (.int (Int32.ofNat j)), none, none] [] (am_h w g) (.inl (some (.int (if js = js1 then 1 else 0)))) (am_h (am_pu w 21 (aw_c21 0 ty wr wd wt sn)) g) := by
  refine am_R.nxs 4 (pc' := 4) (lv' := [some (.ref 1021), some (.int (Int32.ofNat k)), some (.int (Int32.ofNat j)), none, none]) (st' := [.int (Int32.ofNat j), .int (Int32.ofNat k), .ref 1021, .ref 1021]) (h1 := am_h w g) rfl ?_
  refine am_R.cv (a := 1021) (as' := [.int (Int32.ofNat k), .int (Int32.ofNat j)]) (r := [.ref 1021]) (v := some (.int 0)) (h1 := am_h w g) (pc' := 7) rfl rfl rfl rfl (am_wf 21 (by decide) h21) rfl rfl (aw_k137a d h21 h27 l27 hk hj hm hm1) rfl ?_
  refine am_R.cv (a := 1021) (as' := [.int 0]) (r := []) (v := some (.int 0)) (h1 := am_h (am_pu w 21 (aw_c21 0 ty wr wd wt sn)) g) (pc' := 10) rfl rfl rfl rfl (am_wf 21 (by decide) h21) rfl rfl (aw_k99a (w := w) d h21 0 (by decide)) rfl ?_
  refine am_R.ites 1 (P := 0 = 0) (T := 15) (F := 13) (lv' := [some (.ref 1021), some (.int (Int32.ofNat k)), some (.int (Int32.ofNat j)), none, none]) (st' := []) (h1 := am_h (am_pu w 21 (aw_c21 0 ty wr wd wt sn)) g) rfl (fun b10 => ?_) (fun b10 => ?_)
  · refine am_R.nxs 1 (pc' := 16) (lv' := [some (.ref 1021), some (.int (Int32.ofNat k)), some (.int (Int32.ofNat j)), none, none]) (st' := [.ref 1021]) (h1 := am_h (am_pu w 21 (aw_c21 0 ty wr wd wt sn)) g) rfl ?_
    refine am_R.gf (pc' := 19) (v := .ref 1027) rfl (am_wf 21 (by decide) (rfl : (am_pu w 21 (aw_c21 0 ty wr wd wt sn)) 21 = _)) rfl rfl rfl ?_
    refine am_R.nxs 1 (pc' := 20) (lv' := [some (.ref 1021), some (.int (Int32.ofNat k)), some (.int (Int32.ofNat j)), none, none]) (st' := [.int (Int32.ofNat k), .ref 1027]) (h1 := am_h (am_pu w 21 (aw_c21 0 ty wr wd wt sn)) g) rfl ?_
    refine am_R.ldi (i := k) (xs := ma) (pc' := 21) rfl (am_wf 27 (by decide) h27) (by omega) (by omega) rfl ?_
    rw [hmk]
    refine am_R.nxs 1 (pc' := 22) (lv' := [some (.ref 1021), some (.int (Int32.ofNat k)), some (.int (Int32.ofNat j)), none, none]) (st' := [.ref 1021, .int (Int32.ofNat js.length)]) (h1 := am_h (am_pu w 21 (aw_c21 0 ty wr wd wt sn)) g) rfl ?_
    refine am_R.gf (pc' := 25) (v := .ref 1027) rfl (am_wf 21 (by decide) (rfl : (am_pu w 21 (aw_c21 0 ty wr wd wt sn)) 21 = _)) rfl rfl rfl ?_
    refine am_R.nxs 1 (pc' := 26) (lv' := [some (.ref 1021), some (.int (Int32.ofNat k)), some (.int (Int32.ofNat j)), none, none]) (st' := [.int (Int32.ofNat j), .ref 1027, .int (Int32.ofNat js.length)]) (h1 := am_h (am_pu w 21 (aw_c21 0 ty wr wd wt sn)) g) rfl ?_
    refine am_R.ldi (i := j) (xs := ma) (pc' := 27) rfl (am_wf 27 (by decide) h27) (by omega) (by omega) rfl ?_
    rw [hmj]
    refine am_R.ites 1 (P := ¬ Int32.ofNat js.length = Int32.ofNat js1.length) (T := 34) (F := 30) (lv' := [some (.ref 1021), some (.int (Int32.ofNat k)), some (.int (Int32.ofNat j)), none, none]) (st' := []) (h1 := am_h (am_pu w 21 (aw_c21 0 ty wr wd wt sn)) g) rfl (fun b27 => ?_) (fun b27 => ?_)
    · have b27 : ¬ js.length = js1.length := fun hq9 => b27 ((am_eqN (i := js.length) (n := js1.length) (by omega) (by omega)).mpr hq9)
      refine am_R.nxs 4 (pc' := 39) (lv' := [some (.ref 1021), some (.int (Int32.ofNat k)), some (.int (Int32.ofNat j)), some (.int 0), some (.int 0)]) (st' := []) (h1 := am_h (am_pu w 21 (aw_c21 0 ty wr wd wt sn)) g) rfl ?_
      rw [if_neg (fun z => b27 (by rw [z]))]
      exact aw_k141n (w := am_pu w 21 (aw_c21 0 ty wr wd wt sn)) (d + 1) rfl h27 l27 h26 l26 hk hj hmk hmj hl2 hl3 ht ht1 0 (by decide)
    · have b27 : js.length = js1.length := (am_eqN (i := js.length) (n := js1.length) (by omega) (by omega)).mp (Decidable.not_not.mp b27)
      refine am_R.nxs 5 (pc' := 39) (lv' := [some (.ref 1021), some (.int (Int32.ofNat k)), some (.int (Int32.ofNat j)), some (.int 1), some (.int 0)]) (st' := []) (h1 := am_h (am_pu w 21 (aw_c21 0 ty wr wd wt sn)) g) rfl ?_
      exact aw_k141l (w := am_pu w 21 (aw_c21 0 ty wr wd wt sn)) (d + 1) rfl h27 l27 h26 l26 hk hj hmk hmj hl2 hl3 ht ht1 b27 js.length 0 (Nat.zero_add _) (fun z hz => absurd hz (Nat.not_lt_zero z))
  · exact absurd rfl b10
theorem aw_k141b {w : Nat → am_C} {g : am_H} (d : Nat) {ft ty wr wd wt sn : Int32} (h21 : w 21 = aw_c21 ft ty wr wd wt sn) {ma : List Int32} (h27 : w 27 = am_I 0 ma) (l27 : ma.length = 3) {k : Nat} (hk : k < 3) {j : Nat} (hj : j < 3) (hm : ma.getD k 0 = 0) : am_R (d + 1) 141 0 [some (.ref 1021), some (.int (Int32.ofNat k)), some (.int (Int32.ofNat j)), none, none] [] (am_h w g) (.inl (some (.int 0))) (am_h (am_pu w 21 (aw_c21 2 ty wr wd wt sn)) g) := by
  refine am_R.nxs 4 (pc' := 4) (lv' := [some (.ref 1021), some (.int (Int32.ofNat k)), some (.int (Int32.ofNat j)), none, none]) (st' := [.int (Int32.ofNat j), .int (Int32.ofNat k), .ref 1021, .ref 1021]) (h1 := am_h w g) rfl ?_
  refine am_R.cv (a := 1021) (as' := [.int (Int32.ofNat k), .int (Int32.ofNat j)]) (r := [.ref 1021]) (v := some (.int 2)) (h1 := am_h w g) (pc' := 7) rfl rfl rfl rfl (am_wf 21 (by decide) h21) rfl rfl (aw_k137b d h21 h27 l27 hk hj hm) rfl ?_
  refine am_R.cv (a := 1021) (as' := [.int 2]) (r := []) (v := some (.int 1)) (h1 := am_h (am_pu w 21 (aw_c21 2 ty wr wd wt sn)) g) (pc' := 10) rfl rfl rfl rfl (am_wf 21 (by decide) h21) rfl rfl (aw_k99b (w := w) d h21 2 (by decide)) rfl ?_
  refine am_R.ites 1 (P := 1 = 0) (T := 15) (F := 13) (lv' := [some (.ref 1021), some (.int (Int32.ofNat k)), some (.int (Int32.ofNat j)), none, none]) (st' := []) (h1 := am_h (am_pu w 21 (aw_c21 2 ty wr wd wt sn)) g) rfl (fun b10 => ?_) (fun b10 => ?_)
  · exact absurd b10 (by decide)
  · refine am_R.nxs 1 (pc' := 14) (lv' := [some (.ref 1021), some (.int (Int32.ofNat k)), some (.int (Int32.ofNat j)), none, none]) (st' := [.int 0]) (h1 := am_h (am_pu w 21 (aw_c21 2 ty wr wd wt sn)) g) rfl ?_
    exact am_R.reti rfl rfl rfl
theorem aw_k141f {w : Nat → am_C} {g : am_H} (d : Nat) {ft ty wr wd wt sn : Int32} (h21 : w 21 = aw_c21 ft ty wr wd wt sn) {ma : List Int32} (h27 : w 27 = am_I 0 ma) (l27 : ma.length = 3) {k : Nat} (hk : k < 3) {j : Nat} (hj : j < 3) (hm : ¬ ma.getD k 0 = 0) (hm1 : ma.getD j 0 = 0) : am_R (d + 1) 141 0 [some (.ref 1021), some (.int (Int32.ofNat k)), some (.int (Int32.ofNat j)), none, none] [] (am_h w g) (.inl (some (.int 0))) (am_h (am_pu w 21 (aw_c21 2 ty wr wd wt sn)) g) := by
  refine am_R.nxs 4 (pc' := 4) (lv' := [some (.ref 1021), some (.int (Int32.ofNat k)), some (.int (Int32.ofNat j)), none, none]) (st' := [.int (Int32.ofNat j), .int (Int32.ofNat k), .ref 1021, .ref 1021]) (h1 := am_h w g) rfl ?_
  refine am_R.cv (a := 1021) (as' := [.int (Int32.ofNat k), .int (Int32.ofNat j)]) (r := [.ref 1021]) (v := some (.int 2)) (h1 := am_h w g) (pc' := 7) rfl rfl rfl rfl (am_wf 21 (by decide) h21) rfl rfl (aw_k137f d h21 h27 l27 hk hj hm hm1) rfl ?_
  refine am_R.cv (a := 1021) (as' := [.int 2]) (r := []) (v := some (.int 1)) (h1 := am_h (am_pu w 21 (aw_c21 2 ty wr wd wt sn)) g) (pc' := 10) rfl rfl rfl rfl (am_wf 21 (by decide) h21) rfl rfl (aw_k99b (w := w) d h21 2 (by decide)) rfl ?_
  refine am_R.ites 1 (P := 1 = 0) (T := 15) (F := 13) (lv' := [some (.ref 1021), some (.int (Int32.ofNat k)), some (.int (Int32.ofNat j)), none, none]) (st' := []) (h1 := am_h (am_pu w 21 (aw_c21 2 ty wr wd wt sn)) g) rfl (fun b10 => ?_) (fun b10 => ?_)
  · exact absurd b10 (by decide)
  · refine am_R.nxs 1 (pc' := 14) (lv' := [some (.ref 1021), some (.int (Int32.ofNat k)), some (.int (Int32.ofNat j)), none, none]) (st' := [.int 0]) (h1 := am_h (am_pu w 21 (aw_c21 2 ty wr wd wt sn)) g) rfl ?_
    exact am_R.reti rfl rfl rfl
theorem aw_k141c {w : Nat → am_C} {g : am_H} (d : Nat) {ft ty wr wd wt sn : Int32} (h21 : w 21 = aw_c21 ft ty wr wd wt sn) {s t : Int32} (hs : (s < 0 ∨ ¬ s < 3) ∨ (t < 0 ∨ ¬ t < 3)) : am_R (d + 1) 141 0 [some (.ref 1021), some (.int s), some (.int t), none, none] [] (am_h w g) (.inl (some (.int 0))) (am_h (am_pu w 21 (aw_c21 1 ty wr wd wt sn)) g) := by
  refine am_R.nxs 4 (pc' := 4) (lv' := [some (.ref 1021), some (.int s), some (.int t), none, none]) (st' := [.int t, .int s, .ref 1021, .ref 1021]) (h1 := am_h w g) rfl ?_
  refine am_R.cv (a := 1021) (as' := [.int s, .int t]) (r := [.ref 1021]) (v := some (.int 1)) (h1 := am_h w g) (pc' := 7) rfl rfl rfl rfl (am_wf 21 (by decide) h21) rfl rfl (aw_k137c d h21 hs) rfl ?_
  refine am_R.cv (a := 1021) (as' := [.int 1]) (r := []) (v := some (.int 1)) (h1 := am_h (am_pu w 21 (aw_c21 1 ty wr wd wt sn)) g) (pc' := 10) rfl rfl rfl rfl (am_wf 21 (by decide) h21) rfl rfl (aw_k99b (w := w) d h21 1 (by decide)) rfl ?_
  refine am_R.ites 1 (P := 1 = 0) (T := 15) (F := 13) (lv' := [some (.ref 1021), some (.int s), some (.int t), none, none]) (st' := []) (h1 := am_h (am_pu w 21 (aw_c21 1 ty wr wd wt sn)) g) rfl (fun b10 => ?_) (fun b10 => ?_)
  · exact absurd b10 (by decide)
  · refine am_R.nxs 1 (pc' := 14) (lv' := [some (.ref 1021), some (.int s), some (.int t), none, none]) (st' := [.int 0]) (h1 := am_h (am_pu w 21 (aw_c21 1 ty wr wd wt sn)) g) rfl ?_
    exact am_R.reti rfl rfl rfl
set_option maxRecDepth 100000 in
theorem aw_L10b0 {w w1 w2 : Nat → am_C} {g g1 g2 : am_H} (d i : Nat) (x5 x6 : Option Value) {xs : List Int32} (h0 : w 0 = am_I 0 xs) (hi : i + 4 ≤ xs.length) (hx : xs.length ≤ 2048) {c : Int32} (hw : am_R (d + 39) 82 0 [some (.ref 1001), some (.int (xs.getD (i + 1) 0)), some (.int (xs.getD (i + 2) 0)), some (.ref 1044), none] [] (am_h w g) (.inl (some (.int c))) (am_h w1 g1)) (e0 : w1 0 = am_I 0 xs) {f1 f2 f3 f4 f5 f6 : Int32} (e21 : w1 21 = aw_c21 f1 f2 f3 f4 f5 f6) (hm : am_R (d + 39) 141 0 [some (.ref 1021), some (.int (xs.getD (i + 1) 0)), some (.int (xs.getD (i + 2) 0)), none, none] [] (am_h w1 g1) (.inl (some (.int 0))) (am_h w2 g2)) {ty wr wd wt sn : Int32} (h21 : w2 21 = aw_c21 c ty wr wd wt sn) (ho : c = 0 → w2 44 = .inr (3, [.long 0])) {o : am_O} {h' : am_H} (K : am_R (d + 40) 0 921 (aw_lv i (some (.int c)) (some (.int 0))) [] (am_h w2 g2) o h') : am_R (d + 40) 0 696 (aw_lv i x5 x6) [] (am_h w g) o h' := by
  refine am_R.nxs 5 (pc' := 702) (lv' := [some (.ref 1000), some (.ref 1001), some (.ref 1021), some (.ref 1044), some (.int (Int32.ofNat i)), x5, x6]) (st' := [.int (Int32.ofNat i + 1), .ref 1000, .ref 1001]) (h1 := am_h w g) rfl ?_
  rw [show (Int32.ofNat i + 1 : Int32) = Int32.ofNat (i + 1) from am_add i 1]
  refine am_R.ldi (i := (i + 1)) (xs := xs) (pc' := 703) rfl (am_wf 0 (by decide) h0) (by omega) (by omega) rfl ?_
  refine am_R.nxs 4 (pc' := 708) (lv' := [some (.ref 1000), some (.ref 1001), some (.ref 1021), some (.ref 1044), some (.int (Int32.ofNat i)), x5, x6]) (st' := [.int (Int32.ofNat i + 2), .ref 1000, .int (xs.getD (i + 1) 0), .ref 1001]) (h1 := am_h w g) rfl ?_
  rw [show (Int32.ofNat i + 2 : Int32) = Int32.ofNat (i + 2) from am_add i 2]
  refine am_R.ldi (i := (i + 2)) (xs := xs) (pc' := 709) rfl (am_wf 0 (by decide) h0) (by omega) (by omega) rfl ?_
  refine am_R.nxs 1 (pc' := 710) (lv' := [some (.ref 1000), some (.ref 1001), some (.ref 1021), some (.ref 1044), some (.int (Int32.ofNat i)), x5, x6]) (st' := [.ref 1044, .int (xs.getD (i + 2) 0), .int (xs.getD (i + 1) 0), .ref 1001]) (h1 := am_h w g) rfl ?_
  refine am_R.cs (mj := 82) (as := [.ref 1001, .int (xs.getD (i + 1) 0), .int (xs.getD (i + 2) 0), .ref 1044]) (r := []) (v := some (.int c)) (h1 := am_h w1 g1) (pc' := 713) rfl (hw) rfl ?_
  refine am_R.nxs 6 (pc' := 721) (lv' := [some (.ref 1000), some (.ref 1001), some (.ref 1021), some (.ref 1044), some (.int (Int32.ofNat i)), some (.int c), x6]) (st' := [.int (Int32.ofNat i + 1), .ref 1000, .ref 1021]) (h1 := am_h w1 g1) rfl ?_
  rw [show (Int32.ofNat i + 1 : Int32) = Int32.ofNat (i + 1) from am_add i 1]
  refine am_R.ldi (i := (i + 1)) (xs := xs) (pc' := 722) rfl (am_wf 0 (by decide) e0) (by omega) (by omega) rfl ?_
  refine am_R.nxs 4 (pc' := 727) (lv' := [some (.ref 1000), some (.ref 1001), some (.ref 1021), some (.ref 1044), some (.int (Int32.ofNat i)), some (.int c), x6]) (st' := [.int (Int32.ofNat i + 2), .ref 1000, .int (xs.getD (i + 1) 0), .ref 1021]) (h1 := am_h w1 g1) rfl ?_
  rw [show (Int32.ofNat i + 2 : Int32) = Int32.ofNat (i + 2) from am_add i 2]
  refine am_R.ldi (i := (i + 2)) (xs := xs) (pc' := 728) rfl (am_wf 0 (by decide) e0) (by omega) (by omega) rfl ?_
  refine am_R.cv (a := 1021) (as' := [.int (xs.getD (i + 1) 0), .int (xs.getD (i + 2) 0)]) (r := []) (v := some (.int 0)) (h1 := am_h w2 g2) (pc' := 731) rfl rfl rfl rfl (am_wf 21 (by decide) e21) rfl rfl (hm) rfl ?_
  refine am_R.nxs 2 (pc' := 734) (lv' := [some (.ref 1000), some (.ref 1001), some (.ref 1021), some (.ref 1044), some (.int (Int32.ofNat i)), some (.int c), some (.int 0)]) (st' := [.ref 1021]) (h1 := am_h w2 g2) rfl ?_
  refine am_R.cv (a := 1021) (as' := []) (r := []) (v := some (.int c)) (h1 := am_h w2 g2) (pc' := 737) rfl rfl rfl rfl (am_wf 21 (by decide) h21) rfl rfl (aw_k95 (w := w2) (d + 39) h21) rfl ?_
  refine am_R.ites 2 (P := c = c) (T := 744) (F := 742) (lv' := [some (.ref 1000), some (.ref 1001), some (.ref 1021), some (.ref 1044), some (.int (Int32.ofNat i)), some (.int c), some (.int 0)]) (st' := []) (h1 := am_h w2 g2) rfl (fun b739 => ?_) (fun b739 => ?_)
  · refine am_R.ites 2 (P := ¬ c = 0) (T := 768) (F := 749) (lv' := [some (.ref 1000), some (.ref 1001), some (.ref 1021), some (.ref 1044), some (.int (Int32.ofNat i)), some (.int c), some (.int 0)]) (st' := []) (h1 := am_h w2 g2) rfl (fun b746 => ?_) (fun b746 => ?_)
    · refine am_R.nxs 1 (pc' := 921) (lv' := [some (.ref 1000), some (.ref 1001), some (.ref 1021), some (.ref 1044), some (.int (Int32.ofNat i)), some (.int c), some (.int 0)]) (st' := []) (h1 := am_h w2 g2) rfl ?_
      exact K
    · refine am_R.nxs 2 (pc' := 751) (lv' := [some (.ref 1000), some (.ref 1001), some (.ref 1021), some (.ref 1044), some (.int (Int32.ofNat i)), some (.int c), some (.int 0)]) (st' := [.int 0, .ref 1044]) (h1 := am_h w2 g2) rfl ?_
      refine am_R.ldl (x := 0) (pc' := 752) rfl (am_wf 44 (by decide) (ho (Decidable.not_not.mp b746))) rfl ?_
      refine am_R.ites 2 (P := 0 = 0) (T := 761) (F := 757) (lv' := [some (.ref 1000), some (.ref 1001), some (.ref 1021), some (.ref 1044), some (.int (Int32.ofNat i)), some (.int c), some (.int 0)]) (st' := [.long 0]) (h1 := am_h w2 g2) rfl (fun b754 => ?_) (fun b754 => ?_)
      · refine am_R.ites 3 (P := (lg_cmp 0 0) = 0) (T := 768) (F := 766) (lv' := [some (.ref 1000), some (.ref 1001), some (.ref 1021), some (.ref 1044), some (.int (Int32.ofNat i)), some (.int c), some (.int 0)]) (st' := []) (h1 := am_h w2 g2) rfl (fun b763 => ?_) (fun b763 => ?_)
        · refine am_R.nxs 1 (pc' := 921) (lv' := [some (.ref 1000), some (.ref 1001), some (.ref 1021), some (.ref 1044), some (.int (Int32.ofNat i)), some (.int c), some (.int 0)]) (st' := []) (h1 := am_h w2 g2) rfl ?_
          exact K
        · exact absurd (aw_cmp _) b763
      · exact absurd rfl b754
  · exact absurd rfl b739
set_option maxRecDepth 100000 in
theorem aw_L10b1 {w w1 w2 : Nat → am_C} {g g1 g2 : am_H} (d i : Nat) (x5 x6 : Option Value) {xs : List Int32} (h0 : w 0 = am_I 0 xs) (hi : i + 4 ≤ xs.length) (hx : xs.length ≤ 2048) {c : Int32} (hw : am_R (d + 39) 82 0 [some (.ref 1001), some (.int (xs.getD (i + 1) 0)), some (.int (xs.getD (i + 2) 0)), some (.ref 1044), none] [] (am_h w g) (.inl (some (.int c))) (am_h w1 g1)) (e0 : w1 0 = am_I 0 xs) {f1 f2 f3 f4 f5 f6 : Int32} (e21 : w1 21 = aw_c21 f1 f2 f3 f4 f5 f6) (hm : am_R (d + 39) 141 0 [some (.ref 1021), some (.int (xs.getD (i + 1) 0)), some (.int (xs.getD (i + 2) 0)), none, none] [] (am_h w1 g1) (.inl (some (.int 1))) (am_h w2 g2)) {ty wr wd wt sn : Int32} (h21 : w2 21 = aw_c21 c ty wr wd wt sn) (ho : c = 0 → w2 44 = .inr (3, [.long 1])) {o : am_O} {h' : am_H} (K : am_R (d + 40) 0 921 (aw_lv i (some (.int c)) (some (.int 1))) [] (am_h w2 g2) o h') : am_R (d + 40) 0 696 (aw_lv i x5 x6) [] (am_h w g) o h' := by
  refine am_R.nxs 5 (pc' := 702) (lv' := [some (.ref 1000), some (.ref 1001), some (.ref 1021), some (.ref 1044), some (.int (Int32.ofNat i)), x5, x6]) (st' := [.int (Int32.ofNat i + 1), .ref 1000, .ref 1001]) (h1 := am_h w g) rfl ?_
  rw [show (Int32.ofNat i + 1 : Int32) = Int32.ofNat (i + 1) from am_add i 1]
  refine am_R.ldi (i := (i + 1)) (xs := xs) (pc' := 703) rfl (am_wf 0 (by decide) h0) (by omega) (by omega) rfl ?_
  refine am_R.nxs 4 (pc' := 708) (lv' := [some (.ref 1000), some (.ref 1001), some (.ref 1021), some (.ref 1044), some (.int (Int32.ofNat i)), x5, x6]) (st' := [.int (Int32.ofNat i + 2), .ref 1000, .int (xs.getD (i + 1) 0), .ref 1001]) (h1 := am_h w g) rfl ?_
  rw [show (Int32.ofNat i + 2 : Int32) = Int32.ofNat (i + 2) from am_add i 2]
  refine am_R.ldi (i := (i + 2)) (xs := xs) (pc' := 709) rfl (am_wf 0 (by decide) h0) (by omega) (by omega) rfl ?_
  refine am_R.nxs 1 (pc' := 710) (lv' := [some (.ref 1000), some (.ref 1001), some (.ref 1021), some (.ref 1044), some (.int (Int32.ofNat i)), x5, x6]) (st' := [.ref 1044, .int (xs.getD (i + 2) 0), .int (xs.getD (i + 1) 0), .ref 1001]) (h1 := am_h w g) rfl ?_
  refine am_R.cs (mj := 82) (as := [.ref 1001, .int (xs.getD (i + 1) 0), .int (xs.getD (i + 2) 0), .ref 1044]) (r := []) (v := some (.int c)) (h1 := am_h w1 g1) (pc' := 713) rfl (hw) rfl ?_
  refine am_R.nxs 6 (pc' := 721) (lv' := [some (.ref 1000), some (.ref 1001), some (.ref 1021), some (.ref 1044), some (.int (Int32.ofNat i)), some (.int c), x6]) (st' := [.int (Int32.ofNat i + 1), .ref 1000, .ref 1021]) (h1 := am_h w1 g1) rfl ?_
  rw [show (Int32.ofNat i + 1 : Int32) = Int32.ofNat (i + 1) from am_add i 1]
  refine am_R.ldi (i := (i + 1)) (xs := xs) (pc' := 722) rfl (am_wf 0 (by decide) e0) (by omega) (by omega) rfl ?_
  refine am_R.nxs 4 (pc' := 727) (lv' := [some (.ref 1000), some (.ref 1001), some (.ref 1021), some (.ref 1044), some (.int (Int32.ofNat i)), some (.int c), x6]) (st' := [.int (Int32.ofNat i + 2), .ref 1000, .int (xs.getD (i + 1) 0), .ref 1021]) (h1 := am_h w1 g1) rfl ?_
  rw [show (Int32.ofNat i + 2 : Int32) = Int32.ofNat (i + 2) from am_add i 2]
  refine am_R.ldi (i := (i + 2)) (xs := xs) (pc' := 728) rfl (am_wf 0 (by decide) e0) (by omega) (by omega) rfl ?_
  refine am_R.cv (a := 1021) (as' := [.int (xs.getD (i + 1) 0), .int (xs.getD (i + 2) 0)]) (r := []) (v := some (.int 1)) (h1 := am_h w2 g2) (pc' := 731) rfl rfl rfl rfl (am_wf 21 (by decide) e21) rfl rfl (hm) rfl ?_
  refine am_R.nxs 2 (pc' := 734) (lv' := [some (.ref 1000), some (.ref 1001), some (.ref 1021), some (.ref 1044), some (.int (Int32.ofNat i)), some (.int c), some (.int 1)]) (st' := [.ref 1021]) (h1 := am_h w2 g2) rfl ?_
  refine am_R.cv (a := 1021) (as' := []) (r := []) (v := some (.int c)) (h1 := am_h w2 g2) (pc' := 737) rfl rfl rfl rfl (am_wf 21 (by decide) h21) rfl rfl (aw_k95 (w := w2) (d + 39) h21) rfl ?_
  refine am_R.ites 2 (P := c = c) (T := 744) (F := 742) (lv' := [some (.ref 1000), some (.ref 1001), some (.ref 1021), some (.ref 1044), some (.int (Int32.ofNat i)), some (.int c), some (.int 1)]) (st' := []) (h1 := am_h w2 g2) rfl (fun b739 => ?_) (fun b739 => ?_)
  · refine am_R.ites 2 (P := ¬ c = 0) (T := 768) (F := 749) (lv' := [some (.ref 1000), some (.ref 1001), some (.ref 1021), some (.ref 1044), some (.int (Int32.ofNat i)), some (.int c), some (.int 1)]) (st' := []) (h1 := am_h w2 g2) rfl (fun b746 => ?_) (fun b746 => ?_)
    · refine am_R.nxs 1 (pc' := 921) (lv' := [some (.ref 1000), some (.ref 1001), some (.ref 1021), some (.ref 1044), some (.int (Int32.ofNat i)), some (.int c), some (.int 1)]) (st' := []) (h1 := am_h w2 g2) rfl ?_
      exact K
    · refine am_R.nxs 2 (pc' := 751) (lv' := [some (.ref 1000), some (.ref 1001), some (.ref 1021), some (.ref 1044), some (.int (Int32.ofNat i)), some (.int c), some (.int 1)]) (st' := [.int 0, .ref 1044]) (h1 := am_h w2 g2) rfl ?_
      refine am_R.ldl (x := 1) (pc' := 752) rfl (am_wf 44 (by decide) (ho (Decidable.not_not.mp b746))) rfl ?_
      refine am_R.ites 2 (P := 1 = 0) (T := 761) (F := 757) (lv' := [some (.ref 1000), some (.ref 1001), some (.ref 1021), some (.ref 1044), some (.int (Int32.ofNat i)), some (.int c), some (.int 1)]) (st' := [.long 1]) (h1 := am_h w2 g2) rfl (fun b754 => ?_) (fun b754 => ?_)
      · exact absurd b754 (by decide)
      · refine am_R.ites 4 (P := (lg_cmp 1 1) = 0) (T := 768) (F := 766) (lv' := [some (.ref 1000), some (.ref 1001), some (.ref 1021), some (.ref 1044), some (.int (Int32.ofNat i)), some (.int c), some (.int 1)]) (st' := []) (h1 := am_h w2 g2) rfl (fun b763 => ?_) (fun b763 => ?_)
        · refine am_R.nxs 1 (pc' := 921) (lv' := [some (.ref 1000), some (.ref 1001), some (.ref 1021), some (.ref 1044), some (.int (Int32.ofNat i)), some (.int c), some (.int 1)]) (st' := []) (h1 := am_h w2 g2) rfl ?_
          exact K
        · exact absurd (aw_cmp _) b763
  · exact absurd rfl b739
set_option maxRecDepth 100000 in
theorem aw_o10 : aw_Op 696 := by
  intro d i w g x5 x6 xs hI h0 hi hx
  obtain ⟨tl, pl, sp, ft, wd, wt, sn, h1, h21, hT, hP, hS, hC, u, hO⟩ := hI
  by_cases hs : xs.getD (i + 1) 0 < 0 ∨ ¬ xs.getD (i + 1) 0 < 3
  · refine ⟨am_pu w 21 (aw_c21 1 (Int32.ofNat tl) (Int32.ofNat pl) wd wt sn), g ++ [.inl (8, [])], some (.int 1), some (.int 0), ⟨tl, pl, sp, 1, wd, wt, sn, h1, rfl, hT, hP, aw_Shs_up (by omega) hS, hC, u, hO⟩, h0, by simp, aw_sz1 rfl, fun o h' K => ?_⟩
    exact aw_L10b0 d i x5 x6 h0 hi hx (aw_W82t8 (d + 38) h1 _ _ (aw_k83c (d + 36) h1 _ hs)) h0 h21 (aw_k141c (d + 38) h21 (Or.inl hs)) rfl (fun q => absurd q (by decide)) K
  obtain ⟨k, hk, hke⟩ := aw_sh3 hs
  obtain ⟨rs, r, to, ma, pi, br, bk, co, h4, hl, hr, hrs, ⟨m1, m2, m3, m4, m5, m6, m7, m8, m9, m10, m11, m12⟩, wc, bc, sc, ic, cc, dp, rd, ws, pc, bw, ⟨t1, t2, t3, t4, t5, t6, t7⟩, hsh⟩ := aw_get hS hk
  by_cases ht : xs.getD (i + 2) 0 < 0 ∨ ¬ xs.getD (i + 2) 0 < 3
  · refine ⟨am_pu w 21 (aw_c21 1 (Int32.ofNat tl) (Int32.ofNat pl) wd wt sn), g ++ [.inl (8, [])], some (.int 1), some (.int 0), ⟨tl, pl, sp, 1, wd, wt, sn, h1, rfl, hT, hP, aw_Shs_up (by omega) hS, hC, u, hO⟩, h0, by simp, aw_sz1 rfl, fun o h' K => ?_⟩
    exact aw_L10b0 d i x5 x6 h0 hi hx (aw_W82t8 (d + 38) h1 _ _ (by rw [hke]; exact aw_k83e (d + 36) h1 hk ht)) h0 h21 (aw_k141c (d + 38) h21 (Or.inr ht)) rfl (fun q => absurd q (by decide)) K
  · obtain ⟨j, hj, hje⟩ := aw_sh3 ht
    obtain ⟨rs', q, to', ma', pi', br', bk', co', h4', hl', hq, hqs, ⟨n1, n2, n3, n4, n5, n6, n7, n8, n9, n10, n11, n12⟩, wc1, bc1, sc1, ic1, cc1, dp1, rd1, ws1, pd, bw1, ⟨u1, u2, u3, u4, u5, u6, u7⟩, hsq⟩ := aw_get hS hj
    cases h4.symm.trans h4'
    cases m1.symm.trans n1 |> aw_Iinj
    cases m2.symm.trans n2 |> aw_Iinj
    cases m3.symm.trans n3 |> aw_Iinj
    cases m4.symm.trans n4 |> aw_Iinj
    cases m5.symm.trans n5 |> aw_Iinj
    cases m6.symm.trans n6 |> aw_Iinj
    rcases hsh with ⟨hd, hm⟩ | ⟨hd, js, b, j1, j2, j3, j4, j5, j6, b1, b2, b3, b4, q1, q2, q3, q4, q5⟩
    · refine ⟨am_pu w 21 (aw_c21 2 (Int32.ofNat tl) (Int32.ofNat pl) wd wt sn), g ++ [.inl (9, [])], some (.int 2), some (.int 0), ⟨tl, pl, sp, 2, wd, wt, sn, h1, rfl, hT, hP, aw_Shs_up (by omega) hS, hC, u, hO⟩, h0, by simp, aw_sz1 rfl, fun o h' K => ?_⟩
      exact aw_L10b0 d i x5 x6 h0 hi hx (aw_W82t9 (d + 38) h1 _ _ (by rw [hke, hje]; exact aw_k83b (d + 36) h1 h4 hl hk hr hrs t1 hj hd)) h0 h21 (by rw [hke, hje]; exact aw_k141b (d + 38) h21 m2 m8 hk hj hm) rfl (fun q => absurd q (by decide)) K
    · rcases hsq with ⟨hd1, hm1⟩ | ⟨hd1, js1, b9, k1, k2, k3, k4, k5, k6, -⟩
      · refine ⟨am_pu w 21 (aw_c21 2 (Int32.ofNat tl) (Int32.ofNat pl) wd wt sn), g ++ [.inl (9, [])], some (.int 2), some (.int 0), ⟨tl, pl, sp, 2, wd, wt, sn, h1, rfl, hT, hP, aw_Shs_up (by omega) hS, hC, u, hO⟩, h0, by simp, aw_sz1 rfl, fun o h' K => ?_⟩
        exact aw_L10b0 d i x5 x6 h0 hi hx (aw_W82t9 (d + 38) h1 _ _ (by rw [hke, hje]; exact aw_k83f (d + 36) h1 h4 hl hk hr hrs hj hq hqs t1 u1 hd hd1)) h0 h21 (by rw [hke, hje]; exact aw_k141f (d + 38) h21 m2 m8 hk hj (by rw [j4]; exact aw_nz j1 j2) hm1) rfl (fun q => absurd q (by decide)) K
      · subst j3 k3
        have hA := aw_k83a (g := g) (d + 36) h1 h4 hl hk hr hrs hj hq hqs t1 u1 t2 u2 t5 u5 ⟨j2, fun z a hz => ⟨(j5 z a hz).1, (j5 z a hz).2.1⟩⟩ ⟨k2, fun z a hz => ⟨(k5 z a hz).1, (k5 z a hz).2.1⟩⟩ hd hd1
        have hB := fun (v : Int64) => aw_k141a (w := am_pu w 44 (.inr (3, [.long v]))) (g := g) (d + 38) h21 m2 m8 m1 m7 hk hj j4 k4 j2 k2 (fun z a hz => ⟨(j5 z a hz).1, (j5 z a hz).2.2⟩) (fun z a hz => ⟨(k5 z a hz).1, (k5 z a hz).2.2⟩) (by rw [j4]; exact aw_nz j1 j2) (by rw [k4]; exact aw_nz k1 k2)
        by_cases hjj : js = js1
        · have hB := hB 1
          rw [if_pos hjj] at hA hB
          refine ⟨am_pu (am_pu w 44 (.inr (3, [.long 1]))) 21 (aw_c21 0 (Int32.ofNat tl) (Int32.ofNat pl) wd wt sn), g, some (.int 0), some (.int 1), ⟨tl, pl, sp, 0, wd, wt, sn, h1, rfl, hT, hP, aw_Shs_up (by omega) (aw_Shs_up (by omega) hS), hC, _, rfl⟩, h0, by omega, by omega, fun o h' K => ?_⟩
          exact aw_L10b1 d i x5 x6 h0 hi hx (aw_W82a1 (d + 38) h1 _ _ (by rw [hke, hje]; exact hA) hO) h0 h21 (by rw [hke, hje]; exact hB) rfl (fun _ => rfl) K
        · have hB := hB 0
          rw [if_neg hjj] at hA hB
          refine ⟨am_pu (am_pu w 44 (.inr (3, [.long 0]))) 21 (aw_c21 0 (Int32.ofNat tl) (Int32.ofNat pl) wd wt sn), g, some (.int 0), some (.int 0), ⟨tl, pl, sp, 0, wd, wt, sn, h1, rfl, hT, hP, aw_Shs_up (by omega) (aw_Shs_up (by omega) hS), hC, _, rfl⟩, h0, by omega, by omega, fun o h' K => ?_⟩
          exact aw_L10b0 d i x5 x6 h0 hi hx (aw_W82a0 (d + 38) h1 _ _ (by rw [hke, hje]; exact hA) hO) h0 h21 (by rw [hke, hje]; exact hB) rfl (fun _ => rfl) K
