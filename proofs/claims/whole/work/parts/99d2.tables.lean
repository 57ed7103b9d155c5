/-! readAll once more: what it begins with are its rows alone. -/
def aw_Tr (w : Nat → am_C) : aw_T := fun k i => if 33 ≤ k ∧ k ≤ 43 then aw_Tw w k i else 0
theorem aw_Tr_congr {w w' : Nat → am_C} (h : ∀ k, 33 ≤ k → k ≤ 43 → w' k = w k) : aw_Tr w' = aw_Tr w := by
  funext k i
  unfold aw_Tr
  split
  · rename_i hk
    unfold aw_Tw
    rw [h k hk.1 hk.2]
  · rfl
theorem aw_mt_ofr {w : Nat → am_C} (h : aw_rows w) (ft wr wd : Int32) (n sh : Nat) : am_pu w 21 (aw_c21 ft 0 wr wd (Int32.ofNat n) (Int32.ofNat sh)) = aw_mt w ft wr wd n sh (aw_Tr w) := by
  rw [aw_mt_of h]
  funext k
  unfold aw_mt
  split
  · rfl
  · split
    · rename_i hk
      congr 1
      unfold aw_lT
      apply List.map_congr_left
      intro z _
      unfold aw_Tr
      rw [if_pos hk]
    · rfl
theorem aw_k103rs {w : Nat → am_C} {g : am_H} (d : Nat) {ft wr wt sn : Int32} {js : List Nat} (hj : js.length ≤ 120) {WS : List Int32} (h32 : w 32 = am_I 0 (js.map aw_tau ++ WS)) (hw : js.length + WS.length = 120) (h38 : ∀ p, aw_w js p < 38) (h21 : w 21 = aw_c21 ft 0 wr (Int32.ofNat js.length) wt sn) (hrow : aw_rows w) {o : am_O} {h' : am_H} (k : aw_G w g d ft wr js 0 1 1 (aw_ph (aw_nsv (aw_Tr w) 0 1) 0 50 (Int32.ofNat 0)) o h') : am_R (d + 4) 103 0 [some (.ref 1021), none, none, none] [] (am_h w g) o h' := by
  have hlw : (js.map aw_tau ++ WS).length = 120 := by rw [List.length_append, List.length_map]; exact hw
  refine am_R.nxs 2 (pc' := 2) (lv' := [some (.ref 1021), none, none, none]) (st' := [.int 0, .ref 1021]) (h1 := am_h w g) rfl ?_
  refine am_R.pf (k := 15) (pc' := 5) rfl (am_wf 21 (by decide) h21) rfl (Nat.le_of_ble_eq_true rfl) rfl (fun q => by cases q) (am_ws (k := 21) (by decide) (by decide)) rfl ?_
  refine am_R.nxs 2 (pc' := 7) (lv' := [some (.ref 1021), none, none, none]) (st' := [.int 0, .ref 1021]) (h1 := am_h (am_pu w 21 (aw_c21 ft 0 wr (Int32.ofNat js.length) 0 sn)) g) rfl ?_
  refine am_R.pf (k := 18) (pc' := 10) rfl (am_wf 21 (by decide) (rfl : (am_pu w 21 (aw_c21 ft 0 wr (Int32.ofNat js.length) 0 sn)) 21 = _)) rfl (Nat.le_of_ble_eq_true rfl) rfl (fun q => by cases q) (am_wsE (k := 21) (w' := (am_pu w 21 (aw_c21 ft 0 wr (Int32.ofNat js.length) 0 0))) (by decide) (by decide) (by funext j; simp only [am_pu]; (repeat' split) <;> first | rfl | omega)) rfl ?_
  rw [show am_pu w 21 (aw_c21 ft 0 wr (Int32.ofNat js.length) 0 0) = aw_mt w ft wr (Int32.ofNat js.length) 0 0 (aw_Tr w) from aw_mt_ofr hrow ft wr (Int32.ofNat js.length) 0 0]
  refine am_R.nxs 4 (pc' := 15) (lv' := [some (.ref 1021), none, none, none]) (st' := [.int 1, .ref 1021, .int 50, .ref 1021]) (h1 := am_h (aw_mt w ft wr (Int32.ofNat js.length) 0 0 (aw_Tr w)) g) rfl ?_
  refine am_R.cv (a := 1021) (as' := [.int 1]) (r := [.int 50, .ref 1021]) (v := some (.int (Int32.ofNat 0))) (h1 := am_h (aw_mt w ft wr (Int32.ofNat js.length) 0 1 (aw_nsv (aw_Tr w) 0 1)) g) (pc' := 18) rfl rfl rfl rfl (am_wf 21 (by decide) (aw_mt21 : (aw_mt w ft wr (Int32.ofNat js.length) 0 0 (aw_Tr w)) 21 = _)) rfl rfl (aw_k104 (w := w) _ (n := 0) (sh := 0) (T := aw_Tr w) 1 (by decide)) rfl ?_
  refine am_R.cv (a := 1021) (as' := [.int 50, .int (Int32.ofNat (0 + 1 - 1))]) (r := []) (v := none) (h1 := am_h (aw_mt w ft wr (Int32.ofNat js.length) 1 1 (aw_ph (aw_nsv (aw_Tr w) 0 1) 0 50 (Int32.ofNat 0))) g) (pc' := 21) rfl rfl rfl rfl (am_wf 21 (by decide) (aw_mt21 : (aw_mt w ft wr (Int32.ofNat js.length) 0 1 (aw_nsv (aw_Tr w) 0 1)) 21 = _)) rfl rfl (aw_k105 (w := w) _ (n := 0) (T := aw_nsv (aw_Tr w) 0 1) 50 (Int32.ofNat 0) (by decide)) rfl ?_
  refine am_R.nxs 4 (pc' := 25) (lv' := [some (.ref 1021), some (.int 0), none, none]) (st' := [.ref 1021, .int 0]) (h1 := am_h (aw_mt w ft wr (Int32.ofNat js.length) 1 1 (aw_ph (aw_nsv (aw_Tr w) 0 1) 0 50 (Int32.ofNat 0))) g) rfl ?_
  refine am_R.gf (pc' := 28) (v := .int (Int32.ofNat js.length)) rfl (am_wf 21 (by decide) (aw_mt21 : (aw_mt w ft wr (Int32.ofNat js.length) 1 1 (aw_ph (aw_nsv (aw_Tr w) 0 1) 0 50 (Int32.ofNat 0))) 21 = _)) rfl rfl rfl ?_
  refine am_R.ites 1 (P := Int32.ofNat js.length < 0) (T := 138) (F := 31) (lv' := [some (.ref 1021), some (.int 0), none, none]) (st' := []) (h1 := am_h (aw_mt w ft wr (Int32.ofNat js.length) 1 1 (aw_ph (aw_nsv (aw_Tr w) 0 1) 0 50 (Int32.ofNat 0))) g) rfl (fun b28 => ?_) (fun b28 => ?_)
  · have b28 : js.length < 0 := (am_ltN (i := js.length) (n := 0) (by omega) (by omega)).mp b28
    omega
  · have b28 : ¬ js.length < 0 := fun hq9 => b28 ((am_ltN (i := js.length) (n := 0) (by omega) (by omega)).mpr hq9)
    refine am_R.nxs 2 (pc' := 33) (lv' := [some (.ref 1021), some (.int 0), none, none]) (st' := [.ref 1021, .int 0]) (h1 := am_h (aw_mt w ft wr (Int32.ofNat js.length) 1 1 (aw_ph (aw_nsv (aw_Tr w) 0 1) 0 50 (Int32.ofNat 0))) g) rfl ?_
    refine am_R.gf (pc' := 36) (v := .int (Int32.ofNat js.length)) rfl (am_wf 21 (by decide) (aw_mt21 : (aw_mt w ft wr (Int32.ofNat js.length) 1 1 (aw_ph (aw_nsv (aw_Tr w) 0 1) 0 50 (Int32.ofNat 0))) 21 = _)) rfl rfl rfl ?_
    refine am_R.ites 1 (P := Int32.ofNat js.length ≤ 0) (T := 48) (F := 39) (lv' := [some (.ref 1021), some (.int 0), none, none]) (st' := []) (h1 := am_h (aw_mt w ft wr (Int32.ofNat js.length) 1 1 (aw_ph (aw_nsv (aw_Tr w) 0 1) 0 50 (Int32.ofNat 0))) g) rfl (fun b36 => ?_) (fun b36 => ?_)
    · have b36 : js.length ≤ 0 := (am_leN (i := js.length) (n := 0) (by omega) (by omega)).mp b36
      refine am_R.nxs 2 (pc' := 51) (lv' := [some (.ref 1021), some (.int 0), some (.int (-2)), none]) (st' := []) (h1 := am_h (aw_mt w ft wr (Int32.ofNat js.length) 1 1 (aw_ph (aw_nsv (aw_Tr w) 0 1) 0 50 (Int32.ofNat 0))) g) rfl ?_
      rw [show (-2) = aw_tt js 0 from (if_neg (by omega)).symm]
      refine am_R.nxs 2 (pc' := 53) (lv' := [some (.ref 1021), some (.int 0), some (.int (aw_tt js 0)), some (.int 2)]) (st' := []) (h1 := am_h (aw_mt w ft wr (Int32.ofNat js.length) 1 1 (aw_ph (aw_nsv (aw_Tr w) 0 1) 0 50 (Int32.ofNat 0))) g) rfl ?_
      exact k
    · have b36 : ¬ js.length ≤ 0 := fun hq9 => b36 ((am_leN (i := js.length) (n := 0) (by omega) (by omega)).mpr hq9)
      refine am_R.nxs 1 (pc' := 40) (lv' := [some (.ref 1021), some (.int 0), none, none]) (st' := [.ref 1021]) (h1 := am_h (aw_mt w ft wr (Int32.ofNat js.length) 1 1 (aw_ph (aw_nsv (aw_Tr w) 0 1) 0 50 (Int32.ofNat 0))) g) rfl ?_
      refine am_R.gf (pc' := 43) (v := .ref 1032) rfl (am_wf 21 (by decide) (aw_mt21 : (aw_mt w ft wr (Int32.ofNat js.length) 1 1 (aw_ph (aw_nsv (aw_Tr w) 0 1) 0 50 (Int32.ofNat 0))) 21 = _)) rfl rfl rfl ?_
      refine am_R.nxs 1 (pc' := 44) (lv' := [some (.ref 1021), some (.int 0), none, none]) (st' := [.int 0, .ref 1032]) (h1 := am_h (aw_mt w ft wr (Int32.ofNat js.length) 1 1 (aw_ph (aw_nsv (aw_Tr w) 0 1) 0 50 (Int32.ofNat 0))) g) rfl ?_
      refine am_R.ldi (i := 0) (xs := (js.map aw_tau ++ WS)) (pc' := 45) rfl (am_wf 32 (by decide) ((aw_mt_other (by decide) (by decide)).trans h32 : (aw_mt w ft wr (Int32.ofNat js.length) 1 1 (aw_ph (aw_nsv (aw_Tr w) 0 1) 0 50 (Int32.ofNat 0))) 32 = _)) (by omega) (by omega) rfl ?_
      rw [aw_wtau (by omega)]
      refine am_R.nxs 2 (pc' := 51) (lv' := [some (.ref 1021), some (.int 0), some (.int (aw_tau (aw_w js 0))), none]) (st' := []) (h1 := am_h (aw_mt w ft wr (Int32.ofNat js.length) 1 1 (aw_ph (aw_nsv (aw_Tr w) 0 1) 0 50 (Int32.ofNat 0))) g) rfl ?_
      rw [show (aw_tau (aw_w js 0)) = aw_tt js 0 from (if_pos (by omega)).symm]
      refine am_R.nxs 2 (pc' := 53) (lv' := [some (.ref 1021), some (.int 0), some (.int (aw_tt js 0)), some (.int 2)]) (st' := []) (h1 := am_h (aw_mt w ft wr (Int32.ofNat js.length) 1 1 (aw_ph (aw_nsv (aw_Tr w) 0 1) 0 50 (Int32.ofNat 0))) g) rfl ?_
      exact k
theorem aw_k103r {w : Nat → am_C} {g : am_H} (d : Nat) {ft wr wt sn : Int32} {js : List Nat} (hj : js.length ≤ 120) {WS : List Int32} (h32 : w 32 = am_I 0 (js.map aw_tau ++ WS)) (hw : js.length + WS.length = 120) (h38 : ∀ p, aw_w js p < 38) (h21 : w 21 = aw_c21 ft 0 wr (Int32.ofNat js.length) wt sn) (hrow : aw_rows w) : match aw_P js (aw_Tr w) with
    | .inl q => ∃ n' sh' T', am_R (d + 4) 103 0 [some (.ref 1021), none, none, none] [] (am_h w g) (.inl (some (.int (Int32.ofNat q)))) (am_h (aw_mt w ft wr (Int32.ofNat js.length) n' sh' T') g)
    | .inr S' => ∃ T', aw_E T' S'.1 ∧ am_R (d + 4) 103 0 [some (.ref 1021), none, none, none] [] (am_h w g) (.inl (some (.int (-1)))) (am_h (aw_mt w ft wr (Int32.ofNat js.length) 0 S'.2.1 T') g) := by
  have key := aw_m_sh (g := g) (d := d) (ft := ft) (wr := wr) hj h32 hw h38 2 (by decide) 0 (p := 0) (n := 0) (sh := 1) (ic := 0) (cc := 0) (dp := 1) (br := []) (T := (aw_ph (aw_nsv (aw_Tr w) 0 1) 0 50 (Int32.ofNat 0))) (U := aw_nsT (aw_Tr w) 0 1) (aw_E_ph (aw_E_refl _)) (aw_p33 _ _ _ _) (aw_p34 _ _ _ _) (by unfold aw_nsT; rw [aw_up_eq]) (by unfold aw_nsT; rw [aw_up_ne (by omega), aw_up_eq]) (by decide) (by decide) (by decide) (Nat.zero_le _)
  unfold aw_P
  dsimp only at key
  cases hr : aw_Psh js 2 0 (aw_nsT (aw_Tr w) 0 1, 1, 0, 0, 1, []) 0 with
  | inl q =>
    rw [hr] at key
    obtain ⟨n', sh', T', key⟩ := key
    exact ⟨n', sh', T', aw_k103rs d hj h32 hw h38 h21 hrow key⟩
  | inr z =>
    obtain ⟨p', S'⟩ := z
    rw [hr] at key
    obtain ⟨T', b, e, -, kk⟩ := key
    obtain ⟨T1, sh1, ic1, cc1, dp1, br1⟩ := S'
    obtain ⟨a1, a2, a3, a4, a4', a5, a6, -⟩ := aw_Psh_f 2 (by decide) 0 (by decide) hr
    have hp' := aw_w_le a1 a6
    dsimp only
    by_cases hl : p' = js.length
    · rw [if_pos hl]
      exact ⟨T', e, aw_k103rs d hj h32 hw h38 h21 hrow (kk _ _ (aw_e1 hj h32 hw hl))⟩
    · rw [if_neg hl]
      exact ⟨_, _, _, aw_k103rs d hj h32 hw h38 h21 hrow (kk _ _ (aw_e0 hj h32 hw (by omega)))⟩
