/-! More methods of the class's reader. -/
def aw_twv (D v1 v2 : Int32) : Bool := decide (0 < D ∧ v1 < 100 ∧ v2 < 100)
theorem aw_twv_tw (T : aw_T) (s : Nat) : aw_tw T s = aw_twv (T 35 s) (T 36 (2 * s)) (T 36 (2 * s + 1)) := rfl
theorem aw_pl_iff {g : am_H} {f : Nat} {v : Int32} (h : aw_PT g f v) : (aw_pl v = -1 ↔ ¬ v < 100) ∧ aw_cl (aw_pl v) = aw_cl v := by
  rcases h with ⟨t, h1, h2, h3⟩ | ⟨n, fs, h1, h2, h3⟩
  · obtain ⟨a, b, c⟩ := aw_plA t h1
    rw [h2, a]
    exact ⟨⟨fun q => absurd q b, fun q => absurd c q⟩, rfl⟩
  · obtain ⟨a, b⟩ := aw_plB n h1
    rw [h2, a]
    refine ⟨⟨fun _ => b, fun _ => rfl⟩, ?_⟩
    have : ∀ k, k < 8 → aw_cl (-1) = aw_cl (Int32.ofNat (100 + k)) := by decide +kernel
    exact this n h1
/-- how a division is kept -/
def aw_DV (dv : Value) (D : Int32) : Prop := (dv = .null ∧ D = 0) ∨ (∃ j, j < 38 ∧ dv = .ref j ∧ 0 < D)
theorem aw_ap_at {g : am_H} {c : am_C} {L : Nat} (hL : g.length = L) : (g ++ [c])[L]? = some c := by
  subst hL
  rw [List.getElem?_append_right (Nat.le_refl _), Nat.sub_self]
  rfl
theorem aw_ap_old {g : am_H} {c x : am_C} {k : Nat} (h : g[k]? = some x) : (g ++ [c])[k]? = some x := by
  rw [List.getElem?_append_left (aw_gl h)]
  exact h
theorem aw_ap_set {g : am_H} {c c' : am_C} {L : Nat} (hL : g.length = L) : (g ++ [c]).set L c' = g ++ [c'] := by
  subst hL
  rw [List.set_append_right (h := Nat.le_refl _), Nat.sub_self]
  rfl
theorem aw_ap_sto {w : Nat → am_C} {g : am_H} {c c' : am_C} {L : Nat} (hL : g.length = L) : am_set (am_h w (g ++ [c])) (1045 + L) c' = some (am_h w (g ++ [c'])) := by
  rw [am_gsn (by rw [List.length_append, List.length_singleton]; omega), aw_ap_set hL]
def aw_ar (L : List Nat) : am_C := .inr (6, L.map (fun a => Value.ref (1045 + a)) ++ List.replicate (8 - L.length) .null)
/-- a layer is added -/
def aw_ad (g : am_H) (sa la : Nat) (dv : Value) (f1 f2 : Nat) (L : List Nat) (x : Nat) : am_H := (g.set la (aw_ar (L ++ [x]))).set sa (aw_cS dv f1 f2 la (L.length + 1))
def aw_ly (g : am_H) (sa la : Nat) (dv : Value) (f1 f2 : Nat) (L : List Nat) (c : am_C) : am_H := aw_ad (g ++ [c]) sa la dv f1 f2 L g.length
theorem aw_ar_put {L : List Nat} {x : Nat} (h : L.length < 8) : (L.map (fun a => Value.ref (1045 + a)) ++ List.replicate (8 - L.length) Value.null).set L.length (.ref (1045 + x)) = (L ++ [x]).map (fun a => Value.ref (1045 + a)) ++ List.replicate (8 - (L ++ [x]).length) .null := by
  have hq : L.length = (L.map (fun a => Value.ref (1045 + a))).length := (List.length_map ..).symm
  obtain ⟨m, hm⟩ : ∃ m, 8 - L.length = m + 1 := ⟨7 - L.length, by omega⟩
  rw [hm, List.length_append, List.length_singleton, show 8 - (L.length + 1) = m by omega, List.replicate_succ]
  generalize hA : L.map (fun a => Value.ref (1045 + a)) = A at hq ⊢
  rw [hq, List.map_append, hA]
  simp
def aw_bs (b : Bool) (BS : List Int32) : List Int32 := if b = true then BS.drop 1 else BS
theorem aw_k35 {w : Nat → am_C} {g : am_H} (d : Nat) {r : Nat} (hr : r < 4) {js : List Nat} {WS : List Value} (h6 : w (6 + 4 * r) = .inr (4, js.map Value.ref ++ WS)) (hw : js.length + WS.length = 120) (h38 : ∀ p, aw_w js p < 38) {ir : Int32} {sh ic cc dp : Nat} {br : List Nat} {BS : List Int32} {sa la f1 f2 : Nat} {dv : Value} {L : List Nat} (hsa : g[sa]? = some (aw_cS dv f1 f2 la L.length)) {v1 v2 D : Int32} (hdv : aw_DV dv D) (hv1 : aw_PT g f1 v1) (hv2 : aw_PT g f2 v2) : am_R (d + 1) 35 0 [some (.ref (1045 + sa))] [] (am_h (aw_rw w r js.length ir sh ic cc dp br BS) g) (.inl (some (.int (if aw_twv D v1 v2 = true then 1 else 0)))) (am_h (aw_rw w r js.length ir sh ic cc dp br BS) g) := by
  rcases hdv with ⟨q, hD⟩ | ⟨jj, hjj, q, hD⟩
  · subst q
    refine am_R.nxs 1 (pc' := 1) (lv' := [some (.ref (1045 + sa))]) (st' := [.ref (1045 + sa)]) (h1 := am_h (aw_rw w r js.length ir sh ic cc dp br BS) g) rfl ?_
    refine am_R.gf (pc' := 4) (v := .null) rfl (am_gfn sa (hsa)) rfl rfl rfl ?_
    refine am_R.nxs 2 (pc' := 38) (lv' := [some (.ref (1045 + sa))]) (st' := [.int 0]) (h1 := am_h (aw_rw w r js.length ir sh ic cc dp br BS) g) rfl ?_
    rw [show aw_twv D v1 v2 = false by subst hD; rfl]
    exact am_R.reti rfl rfl rfl
  · subst q
    refine am_R.nxs 1 (pc' := 1) (lv' := [some (.ref (1045 + sa))]) (st' := [.ref (1045 + sa)]) (h1 := am_h (aw_rw w r js.length ir sh ic cc dp br BS) g) rfl ?_
    refine am_R.gf (pc' := 4) (v := .ref jj) rfl (am_gfn sa (hsa)) rfl rfl rfl ?_
    refine am_R.nxs 2 (pc' := 8) (lv' := [some (.ref (1045 + sa))]) (st' := [.ref (1045 + sa)]) (h1 := am_h (aw_rw w r js.length ir sh ic cc dp br BS) g) rfl ?_
    refine am_R.gf (pc' := 11) (v := .ref (1045 + f1)) rfl (am_gfn sa (hsa)) rfl rfl rfl ?_
    refine aw_cPT (pc' := 16) (r := []) rfl hv1 (Nat.le_of_ble_eq_true rfl) rfl ?_
    refine am_R.ites 2 (P := (aw_pl v1) = (-1)) (T := 37) (F := 20) (lv' := [some (.ref (1045 + sa))]) (st' := []) (h1 := am_h (aw_rw w r js.length ir sh ic cc dp br BS) g) rfl (fun b17 => ?_) (fun b17 => ?_)
    · refine am_R.nxs 1 (pc' := 38) (lv' := [some (.ref (1045 + sa))]) (st' := [.int 0]) (h1 := am_h (aw_rw w r js.length ir sh ic cc dp br BS) g) rfl ?_
      rw [show aw_twv D v1 v2 = false by simp [aw_twv, (aw_pl_iff hv1).1.mp b17]]
      exact am_R.reti rfl rfl rfl
    · refine am_R.nxs 1 (pc' := 21) (lv' := [some (.ref (1045 + sa))]) (st' := [.ref (1045 + sa)]) (h1 := am_h (aw_rw w r js.length ir sh ic cc dp br BS) g) rfl ?_
      refine am_R.gf (pc' := 24) (v := .ref (1045 + f2)) rfl (am_gfn sa (hsa)) rfl rfl rfl ?_
      refine aw_cPT (pc' := 29) (r := []) rfl hv2 (Nat.le_of_ble_eq_true rfl) rfl ?_
      refine am_R.ites 2 (P := (aw_pl v2) = (-1)) (T := 37) (F := 33) (lv' := [some (.ref (1045 + sa))]) (st' := []) (h1 := am_h (aw_rw w r js.length ir sh ic cc dp br BS) g) rfl (fun b30 => ?_) (fun b30 => ?_)
      · refine am_R.nxs 1 (pc' := 38) (lv' := [some (.ref (1045 + sa))]) (st' := [.int 0]) (h1 := am_h (aw_rw w r js.length ir sh ic cc dp br BS) g) rfl ?_
        rw [show aw_twv D v1 v2 = false by simp [aw_twv, (aw_pl_iff hv2).1.mp b30]]
        exact am_R.reti rfl rfl rfl
      · refine am_R.nxs 2 (pc' := 38) (lv' := [some (.ref (1045 + sa))]) (st' := [.int 1]) (h1 := am_h (aw_rw w r js.length ir sh ic cc dp br BS) g) rfl ?_
        rw [show aw_twv D v1 v2 = true by simp [aw_twv, hD, Decidable.not_not.mp (fun z => b17 ((aw_pl_iff hv1).1.mpr z)), Decidable.not_not.mp (fun z => b30 ((aw_pl_iff hv2).1.mpr z))]]
        exact am_R.reti rfl rfl rfl
theorem aw_k39 {w : Nat → am_C} {g : am_H} (d : Nat) {r : Nat} (hr : r < 4) {js : List Nat} {WS : List Value} (h6 : w (6 + 4 * r) = .inr (4, js.map Value.ref ++ WS)) (hw : js.length + WS.length = 120) (h38 : ∀ p, aw_w js p < 38) {ir : Int32} {sh ic cc dp : Nat} {br : List Nat} {BS : List Int32} {sa la f1 f2 : Nat} {dv : Value} {L : List Nat} (hsa : g[sa]? = some (aw_cS dv f1 f2 la L.length)) {v1 v2 : Int32} (hv1 : aw_PT g f1 v1) (hv2 : aw_PT g f2 v2) (t : Int32) : am_R (d + 1) 39 0 [some (.ref (1045 + sa)), some (.int t)] [] (am_h (aw_rw w r js.length ir sh ic cc dp br BS) g) (.inl (some (.int (if aw_bk t v1 v2 = true then 1 else 0)))) (am_h (aw_rw w r js.length ir sh ic cc dp br BS) g) := by
  refine am_R.nxs 2 (pc' := 2) (lv' := [some (.ref (1045 + sa)), some (.int t)]) (st' := [.ref (1045 + sa), .int t]) (h1 := am_h (aw_rw w r js.length ir sh ic cc dp br BS) g) rfl ?_
  refine am_R.gf (pc' := 5) (v := .ref (1045 + f1)) rfl (am_gfn sa (hsa)) rfl rfl rfl ?_
  refine aw_cPT (pc' := 10) (r := [.int t]) rfl hv1 (Nat.le_of_ble_eq_true rfl) rfl ?_
  refine am_R.cs (mj := 40) (as := [.int t, .int (aw_pl v1)]) (r := []) (v := some (.int (if aw_bl t (aw_pl v1) = true then 1 else 0))) (h1 := am_h (aw_rw w r js.length ir sh ic cc dp br BS) g) (pc' := 13) rfl (aw_k40 _ _ _ _) rfl ?_
  refine am_R.ites 1 (P := (if aw_bl t (aw_pl v1) = true then 1 else 0) = 0) (T := 36) (F := 16) (lv' := [some (.ref (1045 + sa)), some (.int t)]) (st' := []) (h1 := am_h (aw_rw w r js.length ir sh ic cc dp br BS) g) rfl (fun b13 => ?_) (fun b13 => ?_)
  · refine am_R.nxs 1 (pc' := 37) (lv' := [some (.ref (1045 + sa)), some (.int t)]) (st' := [.int 0]) (h1 := am_h (aw_rw w r js.length ir sh ic cc dp br BS) g) rfl ?_
    have e1 := (aw_pl_iff hv1).2
    have e2 := (aw_pl_iff hv2).2
    have f1 := of_decide_eq_false (aw_00 b13)
    rw [e1] at f1
    rw [show aw_bk t v1 v2 = false from decide_eq_false (fun z => f1 ⟨z.1, z.2.1⟩)]
    exact am_R.reti rfl rfl rfl
  · refine am_R.nxs 2 (pc' := 18) (lv' := [some (.ref (1045 + sa)), some (.int t)]) (st' := [.ref (1045 + sa), .int t]) (h1 := am_h (aw_rw w r js.length ir sh ic cc dp br BS) g) rfl ?_
    refine am_R.gf (pc' := 21) (v := .ref (1045 + f2)) rfl (am_gfn sa (hsa)) rfl rfl rfl ?_
    refine aw_cPT (pc' := 26) (r := [.int t]) rfl hv2 (Nat.le_of_ble_eq_true rfl) rfl ?_
    refine am_R.cs (mj := 40) (as := [.int t, .int (aw_pl v2)]) (r := []) (v := some (.int (if aw_bl t (aw_pl v2) = true then 1 else 0))) (h1 := am_h (aw_rw w r js.length ir sh ic cc dp br BS) g) (pc' := 29) rfl (aw_k40 _ _ _ _) rfl ?_
    refine am_R.ites 1 (P := (if aw_bl t (aw_pl v2) = true then 1 else 0) = 0) (T := 36) (F := 32) (lv' := [some (.ref (1045 + sa)), some (.int t)]) (st' := []) (h1 := am_h (aw_rw w r js.length ir sh ic cc dp br BS) g) rfl (fun b29 => ?_) (fun b29 => ?_)
    · refine am_R.nxs 1 (pc' := 37) (lv' := [some (.ref (1045 + sa)), some (.int t)]) (st' := [.int 0]) (h1 := am_h (aw_rw w r js.length ir sh ic cc dp br BS) g) rfl ?_
      have e1 := (aw_pl_iff hv1).2
      have e2 := (aw_pl_iff hv2).2
      have f1 := of_decide_eq_false (aw_00 b29)
      rw [e2] at f1
      rw [show aw_bk t v1 v2 = false from decide_eq_false (fun z => f1 ⟨z.1, z.2.2⟩)]
      exact am_R.reti rfl rfl rfl
    · refine am_R.nxs 2 (pc' := 37) (lv' := [some (.ref (1045 + sa)), some (.int t)]) (st' := [.int 1]) (h1 := am_h (aw_rw w r js.length ir sh ic cc dp br BS) g) rfl ?_
      have e1 := (aw_pl_iff hv1).2
      have e2 := (aw_pl_iff hv2).2
      have f1 := of_decide_eq_true (aw_01 b13)
      have f2 := of_decide_eq_true (aw_01 b29)
      rw [e1] at f1
      rw [e2] at f2
      rw [show aw_bk t v1 v2 = true from decide_eq_true ⟨f1.1, f1.2, f2.2⟩]
      exact am_R.reti rfl rfl rfl
theorem aw_k41 {w : Nat → am_C} {g : am_H} (d : Nat) {r : Nat} (hr : r < 4) {js : List Nat} {WS : List Value} (h6 : w (6 + 4 * r) = .inr (4, js.map Value.ref ++ WS)) (hw : js.length + WS.length = 120) (h38 : ∀ p, aw_w js p < 38) {ir : Int32} {sh ic cc dp : Nat} {br : List Nat} {BS : List Int32} (hB : br.length + BS.length = 120) (hb : br.length < 120) (q : Nat) : am_R d 41 0 [some (.ref (1005 + 4 * r)), some (.int (Int32.ofNat q))] [] (am_h (aw_rw w r js.length ir sh ic cc dp br BS) g) (.inl none) (am_h (aw_rw w r js.length ir sh ic cc dp (br ++ [q]) (BS.drop 1)) g) := by
  have hlb : (br.map Int32.ofNat ++ BS).length = 120 := by rw [List.length_append, List.length_map]; exact hB
  refine am_R.nxs 1 (pc' := 1) (lv' := [some (.ref (1005 + 4 * r)), some (.int (Int32.ofNat q))]) (st' := [.ref (1005 + 4 * r)]) (h1 := am_h (aw_rw w r js.length ir sh ic cc dp br BS) g) rfl ?_
  refine am_R.gf (pc' := 4) (v := .int (Int32.ofNat br.length)) rfl (aw_at5 hr aw_rw5) rfl rfl rfl ?_
  refine am_R.ites 2 (P := 120 ≤ Int32.ofNat br.length) (T := 29) (F := 9) (lv' := [some (.ref (1005 + 4 * r)), some (.int (Int32.ofNat q))]) (st' := []) (h1 := am_h (aw_rw w r js.length ir sh ic cc dp br BS) g) rfl (fun b6 => ?_) (fun b6 => ?_)
  · have b6 : 120 ≤ br.length := (am_leN (i := 120) (n := br.length) (by omega) (by omega)).mp b6
    omega
  · have b6 : ¬ 120 ≤ br.length := fun hq9 => b6 ((am_leN (i := 120) (n := br.length) (by omega) (by omega)).mpr hq9)
    refine am_R.nxs 1 (pc' := 10) (lv' := [some (.ref (1005 + 4 * r)), some (.int (Int32.ofNat q))]) (st' := [.ref (1005 + 4 * r)]) (h1 := am_h (aw_rw w r js.length ir sh ic cc dp br BS) g) rfl ?_
    refine am_R.gf (pc' := 13) (v := .ref (1008 + 4 * r)) rfl (aw_at5 hr aw_rw5) rfl rfl rfl ?_
    refine am_R.nxs 1 (pc' := 14) (lv' := [some (.ref (1005 + 4 * r)), some (.int (Int32.ofNat q))]) (st' := [.ref (1005 + 4 * r), .ref (1008 + 4 * r)]) (h1 := am_h (aw_rw w r js.length ir sh ic cc dp br BS) g) rfl ?_
    refine am_R.gf (pc' := 17) (v := .int (Int32.ofNat br.length)) rfl (aw_at5 hr aw_rw5) rfl rfl rfl ?_
    refine am_R.nxs 1 (pc' := 18) (lv' := [some (.ref (1005 + 4 * r)), some (.int (Int32.ofNat q))]) (st' := [.int (Int32.ofNat q), .int (Int32.ofNat br.length), .ref (1008 + 4 * r)]) (h1 := am_h (aw_rw w r js.length ir sh ic cc dp br BS) g) rfl ?_
    refine am_R.sti (i := br.length) (xs := (br.map Int32.ofNat ++ BS)) (pc' := 19) rfl (aw_at8 hr aw_rw8) (by omega) (by omega) (aw_ws8 hr) rfl ?_
    refine am_R.nxs 2 (pc' := 21) (lv' := [some (.ref (1005 + 4 * r)), some (.int (Int32.ofNat q))]) (st' := [.ref (1005 + 4 * r), .ref (1005 + 4 * r)]) (h1 := am_h (am_pu (aw_rw w r js.length ir sh ic cc dp br BS) (8 + 4 * r) (am_I 0 ((br.map Int32.ofNat ++ BS).set br.length (Int32.ofNat q)))) g) rfl ?_
    refine am_R.gf (pc' := 24) (v := .int (Int32.ofNat br.length)) rfl (aw_at5 hr ((am_pu_ne (by omega)).trans aw_rw5)) rfl rfl rfl ?_
    refine am_R.nxs 2 (pc' := 26) (lv' := [some (.ref (1005 + 4 * r)), some (.int (Int32.ofNat q))]) (st' := [.int (Int32.ofNat br.length + 1), .ref (1005 + 4 * r)]) (h1 := am_h (am_pu (aw_rw w r js.length ir sh ic cc dp br BS) (8 + 4 * r) (am_I 0 ((br.map Int32.ofNat ++ BS).set br.length (Int32.ofNat q)))) g) rfl ?_
    rw [show (Int32.ofNat br.length + 1 : Int32) = Int32.ofNat (br.length + 1) from am_add br.length 1]
    refine am_R.pf (k := 4) (pc' := 29) rfl (aw_at5 hr ((am_pu_ne (by omega)).trans aw_rw5)) rfl (Nat.le_of_ble_eq_true rfl) rfl (fun q => by cases q) (aw_ws5 hr) rfl ?_
    rw [← aw_rw_br (by omega)]
    exact am_R.ret rfl rfl
theorem aw_k44 {w : Nat → am_C} {g : am_H} (d : Nat) {r : Nat} (hr : r < 4) {js : List Nat} {WS : List Value} (h6 : w (6 + 4 * r) = .inr (4, js.map Value.ref ++ WS)) (hw : js.length + WS.length = 120) (h38 : ∀ p, aw_w js p < 38) {ir : Int32} {sh ic cc dp : Nat} {br : List Nat} {BS : List Int32} {sa la f1 f2 : Nat} {dv : Value} {L : List Nat} (hsa : g[sa]? = some (aw_cS dv f1 f2 la L.length)) (hla : g[la]? = some (aw_ar L)) (h8 : L.length < 8) (hne : sa ≠ la) {x ci : Nat} {fs : List Value} (hx : g[x]? = some (.inl (ci, fs))) (hci : am_cast ci 6 = true) : am_R d 44 0 [some (.ref (1045 + sa)), some (.ref (1045 + x))] [] (am_h (aw_rw w r js.length ir sh ic cc dp br BS) g) (.inl none) (am_h (aw_rw w r js.length ir sh ic cc dp br BS) (aw_ad g sa la dv f1 f2 L x)) := by
  have hll : (L.map (fun a => Value.ref (1045 + a)) ++ List.replicate (8 - L.length) Value.null).length = 8 := by rw [List.length_append, List.length_map, List.length_replicate]; omega
  refine am_R.nxs 1 (pc' := 1) (lv' := [some (.ref (1045 + sa)), some (.ref (1045 + x))]) (st' := [.ref (1045 + sa)]) (h1 := am_h (aw_rw w r js.length ir sh ic cc dp br BS) g) rfl ?_
  refine am_R.gf (pc' := 4) (v := .int (Int32.ofNat L.length)) rfl (am_gfn sa (hsa)) rfl rfl rfl ?_
  refine am_R.ites 2 (P := 8 ≤ Int32.ofNat L.length) (T := 29) (F := 9) (lv' := [some (.ref (1045 + sa)), some (.ref (1045 + x))]) (st' := []) (h1 := am_h (aw_rw w r js.length ir sh ic cc dp br BS) g) rfl (fun b6 => ?_) (fun b6 => ?_)
  · have b6 : 8 ≤ L.length := (am_leN (i := 8) (n := L.length) (by omega) (by omega)).mp b6
    omega
  · have b6 : ¬ 8 ≤ L.length := fun hq9 => b6 ((am_leN (i := 8) (n := L.length) (by omega) (by omega)).mpr hq9)
    refine am_R.nxs 1 (pc' := 10) (lv' := [some (.ref (1045 + sa)), some (.ref (1045 + x))]) (st' := [.ref (1045 + sa)]) (h1 := am_h (aw_rw w r js.length ir sh ic cc dp br BS) g) rfl ?_
    refine am_R.gf (pc' := 13) (v := .ref (1045 + la)) rfl (am_gfn sa (hsa)) rfl rfl rfl ?_
    refine am_R.nxs 1 (pc' := 14) (lv' := [some (.ref (1045 + sa)), some (.ref (1045 + x))]) (st' := [.ref (1045 + sa), .ref (1045 + la)]) (h1 := am_h (aw_rw w r js.length ir sh ic cc dp br BS) g) rfl ?_
    refine am_R.gf (pc' := 17) (v := .int (Int32.ofNat L.length)) rfl (am_gfn sa (hsa)) rfl rfl rfl ?_
    refine am_R.nxs 1 (pc' := 18) (lv' := [some (.ref (1045 + sa)), some (.ref (1045 + x))]) (st' := [.ref (1045 + x), .int (Int32.ofNat L.length), .ref (1045 + la)]) (h1 := am_h (aw_rw w r js.length ir sh ic cc dp br BS) g) rfl ?_
    refine am_R.sta (i := L.length) (xs := (L.map (fun a => Value.ref (1045 + a)) ++ List.replicate (8 - L.length) Value.null)) (v := .ref (1045 + x)) (t := 6) (pc' := 19) rfl (am_gfn la (hla)) (by decide) (by omega) (by omega) (by simp only [am_ok, am_gfn x hx, hci]; rfl) (by rw [aw_ar_put (by omega)]; exact am_gsn (aw_gl hla)) rfl ?_
    refine am_R.nxs 2 (pc' := 21) (lv' := [some (.ref (1045 + sa)), some (.ref (1045 + x))]) (st' := [.ref (1045 + sa), .ref (1045 + sa)]) (h1 := am_h (aw_rw w r js.length ir sh ic cc dp br BS) (g.set la (aw_ar (L ++ [x])))) rfl ?_
    refine am_R.gf (pc' := 24) (v := .int (Int32.ofNat L.length)) rfl (am_gfn sa ((List.getElem?_set_ne (by omega)).trans hsa)) rfl rfl rfl ?_
    refine am_R.nxs 2 (pc' := 26) (lv' := [some (.ref (1045 + sa)), some (.ref (1045 + x))]) (st' := [.int (Int32.ofNat L.length + 1), .ref (1045 + sa)]) (h1 := am_h (aw_rw w r js.length ir sh ic cc dp br BS) (g.set la (aw_ar (L ++ [x])))) rfl ?_
    rw [show (Int32.ofNat L.length + 1 : Int32) = Int32.ofNat (L.length + 1) from am_add L.length 1]
    refine am_R.pf (k := 4) (pc' := 29) rfl (am_gfn sa ((List.getElem?_set_ne (by omega)).trans hsa)) rfl (Nat.le_of_ble_eq_true rfl) rfl (fun q => by cases q) (am_gsn (by rw [List.length_set]; exact aw_gl hsa)) rfl ?_
    exact am_R.ret rfl rfl
theorem aw_k27 {w : Nat → am_C} {g : am_H} (d : Nat) {L : Nat} (hL : g.length = L) (v : Int32) : am_R d 27 0 [some (.ref (1045 + L)), some (.int v)] [] (am_h w (g ++ [(Sum.inl (4, [.int 0]) : am_C)])) (.inl none) (am_h w (g ++ [.inl (4, [.int v])])) := by
  refine am_R.nxs 4 (pc' := 6) (lv' := [some (.ref (1045 + L)), some (.int v)]) (st' := [.int v, .ref (1045 + L)]) (h1 := am_h w (g ++ [(Sum.inl (4, [.int 0]) : am_C)])) rfl ?_
  refine am_R.pf (k := 0) (pc' := 9) rfl (am_gfn L (aw_ap_at hL)) rfl (Nat.le_of_ble_eq_true rfl) rfl (fun _ => rfl) (aw_ap_sto hL) rfl ?_
  exact am_R.ret rfl rfl
theorem aw_k43c {w : Nat → am_C} {g : am_H} (d : Nat) {L : Nat} (hL : g.length = L) (v : Int32) : am_R d 43 0 [some (.ref (1045 + L)), some (.int v)] [] (am_h w (g ++ [(Sum.inl (6, [.null, .int 0, .null, .int 0]) : am_C)])) (.inl none) (am_h w (g ++ [.inl (6, [.null, .int 0, .null, .int v])])) := by
  refine am_R.nxs 4 (pc' := 6) (lv' := [some (.ref (1045 + L)), some (.int v)]) (st' := [.int v, .ref (1045 + L)]) (h1 := am_h w (g ++ [(Sum.inl (6, [.null, .int 0, .null, .int 0]) : am_C)])) rfl ?_
  refine am_R.pf (k := 3) (pc' := 9) rfl (am_gfn L (aw_ap_at hL)) rfl (Nat.le_of_ble_eq_true rfl) rfl (fun _ => rfl) (aw_ap_sto hL) rfl ?_
  exact am_R.ret rfl rfl
theorem aw_k43o {w : Nat → am_C} {g : am_H} (d : Nat) {L : Nat} (hL : g.length = L) (v : Int32) : am_R d 43 0 [some (.ref (1045 + L)), some (.int v)] [] (am_h w (g ++ [(Sum.inl (7, [.null, .int 0]) : am_C)])) (.inl none) (am_h w (g ++ [.inl (7, [.null, .int v])])) := by
  refine am_R.nxs 4 (pc' := 6) (lv' := [some (.ref (1045 + L)), some (.int v)]) (st' := [.int v, .ref (1045 + L)]) (h1 := am_h w (g ++ [(Sum.inl (7, [.null, .int 0]) : am_C)])) rfl ?_
  refine am_R.pf (k := 1) (pc' := 9) rfl (am_gfn L (aw_ap_at hL)) rfl (Nat.le_of_ble_eq_true rfl) rfl (fun _ => rfl) (aw_ap_sto hL) rfl ?_
  exact am_R.ret rfl rfl
theorem aw_k46 {w : Nat → am_C} {g : am_H} (d : Nat) {L : Nat} (hL : g.length = L) (j : Nat) (v : Int32) : am_R (d + 1) 46 0 [some (.ref (1045 + L)), some (.ref j), some (.int v)] [] (am_h w (g ++ [(Sum.inl (7, [.null, .int 0]) : am_C)])) (.inl none) (am_h w (g ++ [.inl (7, [.ref j, .int v])])) := by
  refine am_R.nxs 2 (pc' := 2) (lv' := [some (.ref (1045 + L)), some (.ref j), some (.int v)]) (st' := [.int v, .ref (1045 + L)]) (h1 := am_h w (g ++ [(Sum.inl (7, [.null, .int 0]) : am_C)])) rfl ?_
  refine am_R.cv (a := (1045 + L)) (as' := [.int v]) (r := []) (v := none) (h1 := am_h w (g ++ [(Sum.inl (7, [.null, .int v]) : am_C)])) (pc' := 5) rfl rfl rfl rfl (am_gfn L (aw_ap_at hL)) rfl rfl (aw_k43o d hL v) rfl ?_
  refine am_R.nxs 2 (pc' := 7) (lv' := [some (.ref (1045 + L)), some (.ref j), some (.int v)]) (st' := [.ref j, .ref (1045 + L)]) (h1 := am_h w (g ++ [(Sum.inl (7, [.null, .int v]) : am_C)])) rfl ?_
  refine am_R.pf (k := 0) (pc' := 10) rfl (am_gfn L (aw_ap_at hL)) rfl (Nat.le_of_ble_eq_true rfl) rfl (fun _ => rfl) (aw_ap_sto hL) rfl ?_
  exact am_R.ret rfl rfl
theorem aw_k42n {w : Nat → am_C} {g : am_H} (d : Nat) {L : Nat} (hL : g.length = L) (j : Nat) (n v : Int32) : am_R (d + 1) 42 0 [some (.ref (1045 + L)), some (.ref j), some (.int n), some (.null), some (.int v)] [] (am_h w (g ++ [(Sum.inl (6, [.null, .int 0, .null, .int 0]) : am_C)])) (.inl none) (am_h w (g ++ [.inl (6, [.ref j, .int n, .null, .int v])])) := by
  refine am_R.nxs 2 (pc' := 3) (lv' := [some (.ref (1045 + L)), some (.ref j), some (.int n), some (.null), some (.int v)]) (st' := [.int v, .ref (1045 + L)]) (h1 := am_h w (g ++ [(Sum.inl (6, [.null, .int 0, .null, .int 0]) : am_C)])) rfl ?_
  refine am_R.cv (a := (1045 + L)) (as' := [.int v]) (r := []) (v := none) (h1 := am_h w (g ++ [(Sum.inl (6, [.null, .int 0, .null, .int v]) : am_C)])) (pc' := 6) rfl rfl rfl rfl (am_gfn L (aw_ap_at hL)) rfl rfl (aw_k43c d hL v) rfl ?_
  refine am_R.nxs 2 (pc' := 8) (lv' := [some (.ref (1045 + L)), some (.ref j), some (.int n), some (.null), some (.int v)]) (st' := [.ref j, .ref (1045 + L)]) (h1 := am_h w (g ++ [(Sum.inl (6, [.null, .int 0, .null, .int v]) : am_C)])) rfl ?_
  refine am_R.pf (k := 0) (pc' := 11) rfl (am_gfn L (aw_ap_at hL)) rfl (Nat.le_of_ble_eq_true rfl) rfl (fun _ => rfl) (aw_ap_sto hL) rfl ?_
  refine am_R.nxs 2 (pc' := 13) (lv' := [some (.ref (1045 + L)), some (.ref j), some (.int n), some (.null), some (.int v)]) (st' := [.int n, .ref (1045 + L)]) (h1 := am_h w (g ++ [(Sum.inl (6, [.ref j, .int 0, .null, .int v]) : am_C)])) rfl ?_
  refine am_R.pf (k := 1) (pc' := 16) rfl (am_gfn L (aw_ap_at hL)) rfl (Nat.le_of_ble_eq_true rfl) rfl (fun _ => rfl) (aw_ap_sto hL) rfl ?_
  refine am_R.nxs 2 (pc' := 18) (lv' := [some (.ref (1045 + L)), some (.ref j), some (.int n), some (.null), some (.int v)]) (st' := [.null, .ref (1045 + L)]) (h1 := am_h w (g ++ [(Sum.inl (6, [.ref j, .int n, .null, .int v]) : am_C)])) rfl ?_
  refine am_R.pf (k := 2) (pc' := 21) rfl (am_gfn L (aw_ap_at hL)) rfl (Nat.le_of_ble_eq_true rfl) rfl (fun _ => rfl) (aw_ap_sto hL) rfl ?_
  exact am_R.ret rfl rfl
theorem aw_k42o {w : Nat → am_C} {g : am_H} (d : Nat) {L : Nat} (hL : g.length = L) (j oj : Nat) (n v : Int32) : am_R (d + 1) 42 0 [some (.ref (1045 + L)), some (.ref j), some (.int n), some (.ref oj), some (.int v)] [] (am_h w (g ++ [(Sum.inl (6, [.null, .int 0, .null, .int 0]) : am_C)])) (.inl none) (am_h w (g ++ [.inl (6, [.ref j, .int n, .ref oj, .int v])])) := by
  refine am_R.nxs 2 (pc' := 3) (lv' := [some (.ref (1045 + L)), some (.ref j), some (.int n), some (.ref oj), some (.int v)]) (st' := [.int v, .ref (1045 + L)]) (h1 := am_h w (g ++ [(Sum.inl (6, [.null, .int 0, .null, .int 0]) : am_C)])) rfl ?_
  refine am_R.cv (a := (1045 + L)) (as' := [.int v]) (r := []) (v := none) (h1 := am_h w (g ++ [(Sum.inl (6, [.null, .int 0, .null, .int v]) : am_C)])) (pc' := 6) rfl rfl rfl rfl (am_gfn L (aw_ap_at hL)) rfl rfl (aw_k43c d hL v) rfl ?_
  refine am_R.nxs 2 (pc' := 8) (lv' := [some (.ref (1045 + L)), some (.ref j), some (.int n), some (.ref oj), some (.int v)]) (st' := [.ref j, .ref (1045 + L)]) (h1 := am_h w (g ++ [(Sum.inl (6, [.null, .int 0, .null, .int v]) : am_C)])) rfl ?_
  refine am_R.pf (k := 0) (pc' := 11) rfl (am_gfn L (aw_ap_at hL)) rfl (Nat.le_of_ble_eq_true rfl) rfl (fun _ => rfl) (aw_ap_sto hL) rfl ?_
  refine am_R.nxs 2 (pc' := 13) (lv' := [some (.ref (1045 + L)), some (.ref j), some (.int n), some (.ref oj), some (.int v)]) (st' := [.int n, .ref (1045 + L)]) (h1 := am_h w (g ++ [(Sum.inl (6, [.ref j, .int 0, .null, .int v]) : am_C)])) rfl ?_
  refine am_R.pf (k := 1) (pc' := 16) rfl (am_gfn L (aw_ap_at hL)) rfl (Nat.le_of_ble_eq_true rfl) rfl (fun _ => rfl) (aw_ap_sto hL) rfl ?_
  refine am_R.nxs 2 (pc' := 18) (lv' := [some (.ref (1045 + L)), some (.ref j), some (.int n), some (.ref oj), some (.int v)]) (st' := [.ref oj, .ref (1045 + L)]) (h1 := am_h w (g ++ [(Sum.inl (6, [.ref j, .int n, .null, .int v]) : am_C)])) rfl ?_
  refine am_R.pf (k := 2) (pc' := 21) rfl (am_gfn L (aw_ap_at hL)) rfl (Nat.le_of_ble_eq_true rfl) rfl (fun _ => rfl) (aw_ap_sto hL) rfl ?_
  exact am_R.ret rfl rfl
theorem aw_ap2_sto {w : Nat → am_C} {g : am_H} {c c' e : am_C} {L : Nat} (hL : g.length = L) : am_set (am_h w (g ++ [c] ++ [e])) (1045 + L) c' = some (am_h w (g ++ [c'] ++ [e])) := by
  rw [am_gsn (by simp only [List.length_append, List.length_singleton]; omega), List.set_append_left (h := by rw [List.length_append, List.length_singleton]; omega), aw_ap_set hL]
theorem aw_k28n {w : Nat → am_C} {g : am_H} (d : Nat) {L : Nat} (hL : g.length = L) (f1 f2 : Nat) : am_R d 28 0 [some (.ref (1045 + L)), some (.null), some (.ref (1045 + f1)), some (.ref (1045 + f2))] [] (am_h w (g ++ [(Sum.inl (5, [.null, .null, .null, .null, .int 0]) : am_C)])) (.inl none) (am_h w (g ++ [aw_cS (.null) f1 f2 (L + 1) 0] ++ [aw_ar []])) := by
  refine am_R.nxs 4 (pc' := 7) (lv' := [some (.ref (1045 + L)), some (.null), some (.ref (1045 + f1)), some (.ref (1045 + f2))]) (st' := [.int 8, .ref (1045 + L)]) (h1 := am_h w (g ++ [(Sum.inl (5, [.null, .null, .null, .null, .int 0]) : am_C)])) rfl ?_
  refine am_R.na (n := 8) (L := L + 1) (pc' := 10) rfl (by decide) (by decide) (by rw [List.length_append, List.length_singleton, hL]) rfl ?_
  refine am_R.pf (k := 3) (pc' := 13) rfl (am_gfn L (aw_ap_old (aw_ap_at hL))) rfl (Nat.le_of_ble_eq_true rfl) rfl (fun _ => rfl) (aw_ap2_sto hL) rfl ?_
  refine am_R.nxs 2 (pc' := 15) (lv' := [some (.ref (1045 + L)), some (.null), some (.ref (1045 + f1)), some (.ref (1045 + f2))]) (st' := [.null, .ref (1045 + L)]) (h1 := am_h w (g ++ [(Sum.inl (5, [.null, .null, .null, .ref (1045 + (L + 1)), .int 0]) : am_C)] ++ [(Sum.inr (6, List.replicate 8 Value.null) : am_C)])) rfl ?_
  refine am_R.pf (k := 0) (pc' := 18) rfl (am_gfn L (aw_ap_old (aw_ap_at hL))) rfl (Nat.le_of_ble_eq_true rfl) rfl (fun _ => rfl) (aw_ap2_sto hL) rfl ?_
  refine am_R.nxs 2 (pc' := 20) (lv' := [some (.ref (1045 + L)), some (.null), some (.ref (1045 + f1)), some (.ref (1045 + f2))]) (st' := [.ref (1045 + f1), .ref (1045 + L)]) (h1 := am_h w (g ++ [(Sum.inl (5, [.null, .null, .null, .ref (1045 + (L + 1)), .int 0]) : am_C)] ++ [(Sum.inr (6, List.replicate 8 Value.null) : am_C)])) rfl ?_
  refine am_R.pf (k := 1) (pc' := 23) rfl (am_gfn L (aw_ap_old (aw_ap_at hL))) rfl (Nat.le_of_ble_eq_true rfl) rfl (fun _ => rfl) (aw_ap2_sto hL) rfl ?_
  refine am_R.nxs 2 (pc' := 25) (lv' := [some (.ref (1045 + L)), some (.null), some (.ref (1045 + f1)), some (.ref (1045 + f2))]) (st' := [.ref (1045 + f2), .ref (1045 + L)]) (h1 := am_h w (g ++ [(Sum.inl (5, [.null, .ref (1045 + f1), .null, .ref (1045 + (L + 1)), .int 0]) : am_C)] ++ [(Sum.inr (6, List.replicate 8 Value.null) : am_C)])) rfl ?_
  refine am_R.pf (k := 2) (pc' := 28) rfl (am_gfn L (aw_ap_old (aw_ap_at hL))) rfl (Nat.le_of_ble_eq_true rfl) rfl (fun _ => rfl) (aw_ap2_sto hL) rfl ?_
  exact am_R.ret rfl rfl
theorem aw_k28r {w : Nat → am_C} {g : am_H} (d : Nat) {L : Nat} (hL : g.length = L) (j : Nat) (f1 f2 : Nat) : am_R d 28 0 [some (.ref (1045 + L)), some (.ref j), some (.ref (1045 + f1)), some (.ref (1045 + f2))] [] (am_h w (g ++ [(Sum.inl (5, [.null, .null, .null, .null, .int 0]) : am_C)])) (.inl none) (am_h w (g ++ [aw_cS (.ref j) f1 f2 (L + 1) 0] ++ [aw_ar []])) := by
  refine am_R.nxs 4 (pc' := 7) (lv' := [some (.ref (1045 + L)), some (.ref j), some (.ref (1045 + f1)), some (.ref (1045 + f2))]) (st' := [.int 8, .ref (1045 + L)]) (h1 := am_h w (g ++ [(Sum.inl (5, [.null, .null, .null, .null, .int 0]) : am_C)])) rfl ?_
  refine am_R.na (n := 8) (L := L + 1) (pc' := 10) rfl (by decide) (by decide) (by rw [List.length_append, List.length_singleton, hL]) rfl ?_
  refine am_R.pf (k := 3) (pc' := 13) rfl (am_gfn L (aw_ap_old (aw_ap_at hL))) rfl (Nat.le_of_ble_eq_true rfl) rfl (fun _ => rfl) (aw_ap2_sto hL) rfl ?_
  refine am_R.nxs 2 (pc' := 15) (lv' := [some (.ref (1045 + L)), some (.ref j), some (.ref (1045 + f1)), some (.ref (1045 + f2))]) (st' := [.ref j, .ref (1045 + L)]) (h1 := am_h w (g ++ [(Sum.inl (5, [.null, .null, .null, .ref (1045 + (L + 1)), .int 0]) : am_C)] ++ [(Sum.inr (6, List.replicate 8 Value.null) : am_C)])) rfl ?_
  refine am_R.pf (k := 0) (pc' := 18) rfl (am_gfn L (aw_ap_old (aw_ap_at hL))) rfl (Nat.le_of_ble_eq_true rfl) rfl (fun _ => rfl) (aw_ap2_sto hL) rfl ?_
  refine am_R.nxs 2 (pc' := 20) (lv' := [some (.ref (1045 + L)), some (.ref j), some (.ref (1045 + f1)), some (.ref (1045 + f2))]) (st' := [.ref (1045 + f1), .ref (1045 + L)]) (h1 := am_h w (g ++ [(Sum.inl (5, [.ref j, .null, .null, .ref (1045 + (L + 1)), .int 0]) : am_C)] ++ [(Sum.inr (6, List.replicate 8 Value.null) : am_C)])) rfl ?_
  refine am_R.pf (k := 1) (pc' := 23) rfl (am_gfn L (aw_ap_old (aw_ap_at hL))) rfl (Nat.le_of_ble_eq_true rfl) rfl (fun _ => rfl) (aw_ap2_sto hL) rfl ?_
  refine am_R.nxs 2 (pc' := 25) (lv' := [some (.ref (1045 + L)), some (.ref j), some (.ref (1045 + f1)), some (.ref (1045 + f2))]) (st' := [.ref (1045 + f2), .ref (1045 + L)]) (h1 := am_h w (g ++ [(Sum.inl (5, [.ref j, .ref (1045 + f1), .null, .ref (1045 + (L + 1)), .int 0]) : am_C)] ++ [(Sum.inr (6, List.replicate 8 Value.null) : am_C)])) rfl ?_
  refine am_R.pf (k := 2) (pc' := 28) rfl (am_gfn L (aw_ap_old (aw_ap_at hL))) rfl (Nat.le_of_ble_eq_true rfl) rfl (fun _ => rfl) (aw_ap2_sto hL) rfl ?_
  exact am_R.ret rfl rfl
theorem aw_k38y {w : Nat → am_C} {g : am_H} (d : Nat) {r : Nat} (hr : r < 4) {js : List Nat} {WS : List Value} (h6 : w (6 + 4 * r) = .inr (4, js.map Value.ref ++ WS)) (hw : js.length + WS.length = 120) (h38 : ∀ p, aw_w js p < 38) {ir : Int32} {sh ic cc dp : Nat} {br : List Nat} {BS : List Int32} {rd p : Nat} (hrd : g[rd]? = some (aw_cR r p)) (hp : p ≤ 200) {may : Bool} (h : aw_cto may (aw_w js p) = true) : am_R (d + 1) 38 0 [some (.ref (1045 + rd)), some (.int (if may = true then 1 else 0)), none] [] (am_h (aw_rw w r js.length ir sh ic cc dp br BS) g) (.inl (some (.int (Int32.ofNat (aw_w js p))))) (am_h (aw_rw w r js.length ir sh ic cc dp br BS) (aw_at g rd r (p + 1))) := by
  have hc := aw_cto_iff.mp h
  refine am_R.nxs 1 (pc' := 1) (lv' := [some (.ref (1045 + rd)), some (.int (if may = true then 1 else 0)), none]) (st' := [.ref (1045 + rd)]) (h1 := am_h (aw_rw w r js.length ir sh ic cc dp br BS) g) rfl ?_
  refine am_R.gf (pc' := 4) (v := .ref (1005 + 4 * r)) rfl (am_gfn rd (hrd)) rfl rfl rfl ?_
  refine am_R.nxs 1 (pc' := 5) (lv' := [some (.ref (1045 + rd)), some (.int (if may = true then 1 else 0)), none]) (st' := [.ref (1045 + rd), .ref (1005 + 4 * r)]) (h1 := am_h (aw_rw w r js.length ir sh ic cc dp br BS) g) rfl ?_
  refine am_R.gf (pc' := 8) (v := .int (Int32.ofNat p)) rfl (am_gfn rd (hrd)) rfl rfl rfl ?_
  refine am_R.cv (a := (1005 + 4 * r)) (as' := [.int (Int32.ofNat p)]) (r := []) (v := some (.ref (aw_w js p))) (h1 := am_h (aw_rw w r js.length ir sh ic cc dp br BS) g) (pc' := 11) rfl rfl rfl rfl (aw_at5 hr aw_rw5) rfl rfl (aw_k26 d (g := g) hr h6 hw h38 (by omega)) rfl ?_
  refine am_R.nxs 2 (pc' := 13) (lv' := [some (.ref (1045 + rd)), some (.int (if may = true then 1 else 0)), some (.ref (aw_w js p))]) (st' := [.ref (aw_w js p)]) (h1 := am_h (aw_rw w r js.length ir sh ic cc dp br BS) g) rfl ?_
  refine am_R.gf (pc' := 16) (v := .int (aw_kd (aw_w js p))) rfl (aw_st0 (h38 p)) rfl rfl rfl ?_
  refine am_R.ites 2 (P := (aw_kd (aw_w js p)) = 1) (T := 33) (F := 20) (lv' := [some (.ref (1045 + rd)), some (.int (if may = true then 1 else 0)), some (.ref (aw_w js p))]) (st' := []) (h1 := am_h (aw_rw w r js.length ir sh ic cc dp br BS) g) rfl (fun b17 => ?_) (fun b17 => ?_)
  · refine am_R.nxs 2 (pc' := 35) (lv' := [some (.ref (1045 + rd)), some (.int (if may = true then 1 else 0)), some (.ref (aw_w js p))]) (st' := [.ref (1045 + rd), .ref (1045 + rd)]) (h1 := am_h (aw_rw w r js.length ir sh ic cc dp br BS) g) rfl ?_
    refine am_R.gf (pc' := 38) (v := .int (Int32.ofNat p)) rfl (am_gfn rd (hrd)) rfl rfl rfl ?_
    refine am_R.nxs 2 (pc' := 40) (lv' := [some (.ref (1045 + rd)), some (.int (if may = true then 1 else 0)), some (.ref (aw_w js p))]) (st' := [.int (Int32.ofNat p + 1), .ref (1045 + rd)]) (h1 := am_h (aw_rw w r js.length ir sh ic cc dp br BS) g) rfl ?_
    rw [show (Int32.ofNat p + 1 : Int32) = Int32.ofNat (p + 1) from am_add p 1]
    refine am_R.pf (k := 1) (pc' := 43) rfl (am_gfn rd (hrd)) rfl (Nat.le_of_ble_eq_true rfl) rfl (fun q => by cases q) (aw_at_sto (hrd)) rfl ?_
    refine am_R.nxs 1 (pc' := 44) (lv' := [some (.ref (1045 + rd)), some (.int (if may = true then 1 else 0)), some (.ref (aw_w js p))]) (st' := [.ref (aw_w js p)]) (h1 := am_h (aw_rw w r js.length ir sh ic cc dp br BS) (aw_at g rd r (p + 1))) rfl ?_
    refine am_R.gf (pc' := 47) (v := .int (aw_nu (aw_w js p))) rfl (aw_st0 (h38 p)) rfl rfl rfl ?_
    rw [(aw_kdA _ (h38 p)).2.2.2.2.2.1 (by omega)]
    exact am_R.reti rfl rfl rfl
  · refine am_R.ites 2 (P := (if may = true then 1 else 0) = 0) (T := 31) (F := 24) (lv' := [some (.ref (1045 + rd)), some (.int (if may = true then 1 else 0)), some (.ref (aw_w js p))]) (st' := []) (h1 := am_h (aw_rw w r js.length ir sh ic cc dp br BS) g) rfl (fun b21 => ?_) (fun b21 => ?_)
    · rcases hc with q | q
      · exact absurd ((aw_kdA _ (h38 p)).1.mpr q) b17
      · exact absurd q.1 (by rw [aw_00 b21]; decide)
    · refine am_R.nxs 2 (pc' := 28) (lv' := [some (.ref (1045 + rd)), some (.int (if may = true then 1 else 0)), some (.ref (aw_w js p))]) (st' := [.ref 9, .ref (aw_w js p)]) (h1 := am_h (aw_rw w r js.length ir sh ic cc dp br BS) g) rfl ?_
      refine am_R.ac (j1 := (aw_w js p)) (j2 := 9) (T := 33) (F := 31) rfl (h38 _) (by decide) rfl rfl (fun b28 => ?_) (fun b28 => ?_)
      · refine am_R.nxs 2 (pc' := 35) (lv' := [some (.ref (1045 + rd)), some (.int (if may = true then 1 else 0)), some (.ref (aw_w js p))]) (st' := [.ref (1045 + rd), .ref (1045 + rd)]) (h1 := am_h (aw_rw w r js.length ir sh ic cc dp br BS) g) rfl ?_
        refine am_R.gf (pc' := 38) (v := .int (Int32.ofNat p)) rfl (am_gfn rd (hrd)) rfl rfl rfl ?_
        refine am_R.nxs 2 (pc' := 40) (lv' := [some (.ref (1045 + rd)), some (.int (if may = true then 1 else 0)), some (.ref (aw_w js p))]) (st' := [.int (Int32.ofNat p + 1), .ref (1045 + rd)]) (h1 := am_h (aw_rw w r js.length ir sh ic cc dp br BS) g) rfl ?_
        rw [show (Int32.ofNat p + 1 : Int32) = Int32.ofNat (p + 1) from am_add p 1]
        refine am_R.pf (k := 1) (pc' := 43) rfl (am_gfn rd (hrd)) rfl (Nat.le_of_ble_eq_true rfl) rfl (fun q => by cases q) (aw_at_sto (hrd)) rfl ?_
        refine am_R.nxs 1 (pc' := 44) (lv' := [some (.ref (1045 + rd)), some (.int (if may = true then 1 else 0)), some (.ref (aw_w js p))]) (st' := [.ref (aw_w js p)]) (h1 := am_h (aw_rw w r js.length ir sh ic cc dp br BS) (aw_at g rd r (p + 1))) rfl ?_
        refine am_R.gf (pc' := 47) (v := .int (aw_nu (aw_w js p))) rfl (aw_st0 (h38 p)) rfl rfl rfl ?_
        rw [(aw_kdA _ (h38 p)).2.2.2.2.2.1 (by omega)]
        exact am_R.reti rfl rfl rfl
      · rcases hc with q | q
        · exact absurd ((aw_kdA _ (h38 p)).1.mpr q) b17
        · exact absurd q.2 b28
theorem aw_k38n {w : Nat → am_C} {g : am_H} (d : Nat) {r : Nat} (hr : r < 4) {js : List Nat} {WS : List Value} (h6 : w (6 + 4 * r) = .inr (4, js.map Value.ref ++ WS)) (hw : js.length + WS.length = 120) (h38 : ∀ p, aw_w js p < 38) {ir : Int32} {sh ic cc dp : Nat} {br : List Nat} {BS : List Int32} {rd p : Nat} (hrd : g[rd]? = some (aw_cR r p)) (hp : p ≤ 200) {may : Bool} (h : ¬ aw_cto may (aw_w js p) = true) : am_R (d + 1) 38 0 [some (.ref (1045 + rd)), some (.int (if may = true then 1 else 0)), none] [] (am_h (aw_rw w r js.length ir sh ic cc dp br BS) g) (.inl (some (.int (-1)))) (am_h (aw_rw w r js.length ir sh ic cc dp br BS) g) := by
  refine am_R.nxs 1 (pc' := 1) (lv' := [some (.ref (1045 + rd)), some (.int (if may = true then 1 else 0)), none]) (st' := [.ref (1045 + rd)]) (h1 := am_h (aw_rw w r js.length ir sh ic cc dp br BS) g) rfl ?_
  refine am_R.gf (pc' := 4) (v := .ref (1005 + 4 * r)) rfl (am_gfn rd (hrd)) rfl rfl rfl ?_
  refine am_R.nxs 1 (pc' := 5) (lv' := [some (.ref (1045 + rd)), some (.int (if may = true then 1 else 0)), none]) (st' := [.ref (1045 + rd), .ref (1005 + 4 * r)]) (h1 := am_h (aw_rw w r js.length ir sh ic cc dp br BS) g) rfl ?_
  refine am_R.gf (pc' := 8) (v := .int (Int32.ofNat p)) rfl (am_gfn rd (hrd)) rfl rfl rfl ?_
  refine am_R.cv (a := (1005 + 4 * r)) (as' := [.int (Int32.ofNat p)]) (r := []) (v := some (.ref (aw_w js p))) (h1 := am_h (aw_rw w r js.length ir sh ic cc dp br BS) g) (pc' := 11) rfl rfl rfl rfl (aw_at5 hr aw_rw5) rfl rfl (aw_k26 d (g := g) hr h6 hw h38 (by omega)) rfl ?_
  refine am_R.nxs 2 (pc' := 13) (lv' := [some (.ref (1045 + rd)), some (.int (if may = true then 1 else 0)), some (.ref (aw_w js p))]) (st' := [.ref (aw_w js p)]) (h1 := am_h (aw_rw w r js.length ir sh ic cc dp br BS) g) rfl ?_
  refine am_R.gf (pc' := 16) (v := .int (aw_kd (aw_w js p))) rfl (aw_st0 (h38 p)) rfl rfl rfl ?_
  refine am_R.ites 2 (P := (aw_kd (aw_w js p)) = 1) (T := 33) (F := 20) (lv' := [some (.ref (1045 + rd)), some (.int (if may = true then 1 else 0)), some (.ref (aw_w js p))]) (st' := []) (h1 := am_h (aw_rw w r js.length ir sh ic cc dp br BS) g) rfl (fun b17 => ?_) (fun b17 => ?_)
  · exact absurd (aw_cto_iff.mpr (.inl ((aw_kdA _ (h38 p)).1.mp b17))) h
  · refine am_R.ites 2 (P := (if may = true then 1 else 0) = 0) (T := 31) (F := 24) (lv' := [some (.ref (1045 + rd)), some (.int (if may = true then 1 else 0)), some (.ref (aw_w js p))]) (st' := []) (h1 := am_h (aw_rw w r js.length ir sh ic cc dp br BS) g) rfl (fun b21 => ?_) (fun b21 => ?_)
    · refine am_R.nxs 1 (pc' := 32) (lv' := [some (.ref (1045 + rd)), some (.int (if may = true then 1 else 0)), some (.ref (aw_w js p))]) (st' := [.int (-1)]) (h1 := am_h (aw_rw w r js.length ir sh ic cc dp br BS) g) rfl ?_
      exact am_R.reti rfl rfl rfl
    · refine am_R.nxs 2 (pc' := 28) (lv' := [some (.ref (1045 + rd)), some (.int (if may = true then 1 else 0)), some (.ref (aw_w js p))]) (st' := [.ref 9, .ref (aw_w js p)]) (h1 := am_h (aw_rw w r js.length ir sh ic cc dp br BS) g) rfl ?_
      refine am_R.ac (j1 := (aw_w js p)) (j2 := 9) (T := 33) (F := 31) rfl (h38 _) (by decide) rfl rfl (fun b28 => ?_) (fun b28 => ?_)
      · exact absurd (aw_cto_iff.mpr (.inr ⟨aw_01 b21, b28⟩)) h
      · refine am_R.nxs 1 (pc' := 32) (lv' := [some (.ref (1045 + rd)), some (.int (if may = true then 1 else 0)), some (.ref (aw_w js p))]) (st' := [.int (-1)]) (h1 := am_h (aw_rw w r js.length ir sh ic cc dp br BS) g) rfl ?_
        exact am_R.reti rfl rfl rfl
