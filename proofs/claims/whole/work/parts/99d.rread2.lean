/-! judge and read of the reference. -/
theorem am_pu_self {w : Nat → am_C} {k : Nat} {c : am_C} (h : w k = c) : am_pu w k c = w := by
  funext z
  unfold am_pu
  split
  · rename_i e
    rw [e, h]
  · rfl
theorem aw_jw_self {w : Nat → am_C} {BR BK : List Int32} (h29 : w 29 = am_I 0 BR) (h30 : w 30 = am_I 0 BK) : aw_jw w BR BK = w := by
  unfold aw_jw
  rw [am_pu_self h29, am_pu_self h30]
theorem aw_k128s {w : Nat → am_C} {g : am_H} {d : Nat} {ft wr : Int32} {js : List Nat} {WS : List Int32} (h32 : w 32 = am_I 0 (js.map aw_tau ++ WS)) {sd n sh : Nat} (hsd : sd < 3) {BR BK : List Int32} (hBK : BK.length = 3) {T : aw_T} {o : am_O} {h' : am_H} (k : aw_JG w g d ft wr js sd 0 (0 + 1) 1 sh false false BR (BK.set sd 0) (aw_ph T 0 0 0) o h') : am_R (d + 3) 128 0 [some (.ref 1021), some (.int (Int32.ofNat sd)), none, none, none, none, none, none, none, none] [] (am_h (aw_mt (aw_jw w BR BK) ft wr (Int32.ofNat js.length) n sh T) g) o h' := by
  refine am_R.nxs 1 (pc' := 1) (lv' := [some (.ref 1021), some (.int (Int32.ofNat sd)), none, none, none, none, none, none, none, none]) (st' := [.ref 1021]) (h1 := am_h (aw_mt (aw_jw w BR BK) ft wr (Int32.ofNat js.length) n sh T) g) rfl ?_
  refine am_R.gf (pc' := 4) (v := .ref 1030) rfl (am_wf 21 (by decide) (aw_mt21 : (aw_mt (aw_jw w BR BK) ft wr (Int32.ofNat js.length) n sh T) 21 = _)) rfl rfl rfl ?_
  refine am_R.nxs 2 (pc' := 6) (lv' := [some (.ref 1021), some (.int (Int32.ofNat sd)), none, none, none, none, none, none, none, none]) (st' := [.int 0, .int (Int32.ofNat sd), .ref 1030]) (h1 := am_h (aw_mt (aw_jw w BR BK) ft wr (Int32.ofNat js.length) n sh T) g) rfl ?_
  refine am_R.sti (i := sd) (xs := BK) (pc' := 7) rfl (am_wf 30 (by decide) ((aw_mt_other (by decide) (by decide)).trans aw_jw30 : (aw_mt (aw_jw w BR BK) ft wr (Int32.ofNat js.length) n sh T) 30 = _)) (by omega) (by omega) (am_wsE (k := 30) (w' := (aw_mt (aw_jw w BR (BK.set sd 0)) ft wr (Int32.ofNat js.length) n sh T)) (by decide) (by decide) aw_jput30) rfl ?_
  refine am_R.nxs 4 (pc' := 11) (lv' := [some (.ref 1021), some (.int (Int32.ofNat sd)), some (.int 1), none, none, none, none, none, none, none]) (st' := [.int 0, .ref 1021]) (h1 := am_h (aw_mt (aw_jw w BR (BK.set sd 0)) ft wr (Int32.ofNat js.length) n sh T) g) rfl ?_
  refine am_R.pf (k := 15) (pc' := 14) rfl (am_wf 21 (by decide) (aw_mt21 : (aw_mt (aw_jw w BR (BK.set sd 0)) ft wr (Int32.ofNat js.length) n sh T) 21 = _)) rfl (Nat.le_of_ble_eq_true rfl) rfl (fun q => by cases q) (am_wsE (k := 21) (w' := (aw_mt (aw_jw w BR (BK.set sd 0)) ft wr (Int32.ofNat js.length) 0 sh T)) (by decide) (by decide) aw_mt_put21) rfl ?_
  refine am_R.nxs 3 (pc' := 17) (lv' := [some (.ref 1021), some (.int (Int32.ofNat sd)), some (.int 1), none, none, none, none, none, none, none]) (st' := [.int 0, .int 0, .ref 1021]) (h1 := am_h (aw_mt (aw_jw w BR (BK.set sd 0)) ft wr (Int32.ofNat js.length) 0 sh T) g) rfl ?_
  refine am_R.cv (a := 1021) (as' := [.int 0, .int 0]) (r := []) (v := none) (h1 := am_h (aw_mt (aw_jw w BR (BK.set sd 0)) ft wr (Int32.ofNat js.length) (0 + 1) sh (aw_ph T 0 0 0)) g) (pc' := 20) rfl rfl rfl rfl (am_wf 21 (by decide) (aw_mt21 : (aw_mt (aw_jw w BR (BK.set sd 0)) ft wr (Int32.ofNat js.length) 0 sh T) 21 = _)) rfl rfl (aw_k105 (w := aw_jw w BR (BK.set sd 0)) _ (n := 0) (T := T) 0 0 (by decide)) rfl ?_
  refine am_R.nxs 6 (pc' := 28) (lv' := [some (.ref 1021), some (.int (Int32.ofNat sd)), some (.int 1), some (.int 0), some (.int 0), some (.int 0), none, none, none, none]) (st' := []) (h1 := am_h (aw_mt (aw_jw w BR (BK.set sd 0)) ft wr (Int32.ofNat js.length) (0 + 1) sh (aw_ph T 0 0 0)) g) rfl ?_
  exact k none none none none
theorem aw_k128 {w : Nat → am_C} {g : am_H} {d : Nat} {ft wr : Int32} {js : List Nat} (hj : js.length ≤ 120) {WS : List Int32} (h32 : w 32 = am_I 0 (js.map aw_tau ++ WS)) (hw : js.length + WS.length = 120) (h38 : ∀ p, aw_w js p < 38) {sd n : Nat} (hsd : sd < 3) {BR BK : List Int32} (h29 : w 29 = am_I 0 BR) (h30 : w 30 = am_I 0 BK) (hBR : BR.length = 120) (hBK : BK.length = 3) {T T0 U : aw_T} {sh ic cc dp : Nat} {br : List Nat} (hE : aw_E T U) (hP : aw_P js T0 = .inr (U, sh, ic, cc, dp, br)) : ∃ n' T' BR' BK', aw_jb BR BK sd br BR' BK' ∧ am_R (d + 3) 128 0 [some (.ref 1021), some (.int (Int32.ofNat sd)), none, none, none, none, none, none, none, none] [] (am_h (aw_mt w ft wr (Int32.ofNat js.length) n sh T) g) (.inl none) (am_h (aw_mt (aw_jw w BR' BK') ft wr (Int32.ofNat js.length) n' sh T') g) := by
  unfold aw_P at hP
  split at hP
  · cases hP
  · rename_i p1 S1 h1
    split at hP
    · rename_i hl
      cases hP
      obtain ⟨a1, a2, a3, -⟩ := aw_Psh_f 2 (by decide) 0 (by decide) h1
      have hJ0 : aw_jb BR BK sd [] BR (BK.set sd 0) := ⟨hBR, by rw [List.length_set]; exact hBK, by rw [aw_gset (by omega), if_pos rfl]; rfl, fun k hk => absurd hk (Nat.not_lt_zero k), fun _ _ => rfl, fun z hz => by rw [aw_gset (by omega), if_neg hz]⟩
      obtain ⟨T2, BR2, BK2, m1, m2, m3, m4, m5⟩ := aw_j_sh (g := g) (d := d) (ft := ft) (wr := wr) (shf := sh) (BR0 := BR) (BK0 := BK) (Uf := U) hj h32 hw h38 hsd 2 (by decide) 0 (p := 0) (n := 0) (T := aw_ph T 0 0 0) (by decide) (by have : aw_cap 2 = 6 := rfl; omega) (aw_E_ph hE) (aw_p33 _ _ _ _) (aw_p34 _ _ _ _) (by decide) hJ0 (Nat.zero_le _) h1 (fun _ _ _ _ => rfl)
      refine ⟨0 + 1, T2, BR2, BK2, m3, ?_⟩
      rw [show aw_mt w ft wr (Int32.ofNat js.length) n sh T = aw_mt (aw_jw w BR BK) ft wr (Int32.ofNat js.length) n sh T by rw [aw_jw_self h29 h30]]
      exact aw_k128s h32 hsd hBK (m5 _ _ (aw_jE hj hl))
    · cases hP
theorem aw_k98t {w : Nat → am_C} {g : am_H} (d : Nat) {ft wr : Int32} {js : List Nat} (hj : js.length ≤ 120) {WS : List Int32} (h32 : w 32 = am_I 0 (js.map aw_tau ++ WS)) (hw : js.length + WS.length = 120) {n sh : Nat} {T : aw_T} {sd : Nat} (hsd : sd < 3) {l : List Int32} (hl : l.length = 360) {o : am_O} {h' : am_H} (k : am_R d 98 83 [some (.ref 1021), some (.int (Int32.ofNat sd)), some (.int (-1)), some (.int (Int32.ofNat js.length))] [] (am_h (aw_mt (am_pu w 26 (am_I 0 (aw_ps l (120 * sd) (fun z => aw_tau (aw_w js z)) js.length))) ft wr (Int32.ofNat js.length) n sh T) g) o h') : ∀ (m i : Nat), i + m = js.length → am_R d 98 52 [some (.ref 1021), some (.int (Int32.ofNat sd)), some (.int (-1)), some (.int (Int32.ofNat i))] [] (am_h (aw_mt (am_pu w 26 (am_I 0 (aw_ps l (120 * sd) (fun z => aw_tau (aw_w js z)) i))) ft wr (Int32.ofNat js.length) n sh T) g) o h' := by
  have hlw : (js.map aw_tau ++ WS).length = 120 := by rw [List.length_append, List.length_map]; exact hw
  intro m
  induction m with
  | zero =>
    intro i hi
    refine am_R.nxs 2 (pc' := 54) (lv' := [some (.ref 1021), some (.int (Int32.ofNat sd)), some (.int (-1)), some (.int (Int32.ofNat i))]) (st' := [.ref 1021, .int (Int32.ofNat i)]) (h1 := am_h (aw_mt (am_pu w 26 (am_I 0 (aw_ps l (120 * sd) (fun z => aw_tau (aw_w js z)) i))) ft wr (Int32.ofNat js.length) n sh T) g) rfl ?_
    refine am_R.gf (pc' := 57) (v := .int (Int32.ofNat js.length)) rfl (am_wf 21 (by decide) (aw_mt21 : (aw_mt (am_pu w 26 (am_I 0 (aw_ps l (120 * sd) (fun z => aw_tau (aw_w js z)) i))) ft wr (Int32.ofNat js.length) n sh T) 21 = _)) rfl rfl rfl ?_
    refine am_R.ites 1 (P := Int32.ofNat js.length ≤ Int32.ofNat i) (T := 83) (F := 60) (lv' := [some (.ref 1021), some (.int (Int32.ofNat sd)), some (.int (-1)), some (.int (Int32.ofNat i))]) (st' := []) (h1 := am_h (aw_mt (am_pu w 26 (am_I 0 (aw_ps l (120 * sd) (fun z => aw_tau (aw_w js z)) i))) ft wr (Int32.ofNat js.length) n sh T) g) rfl (fun b57 => ?_) (fun b57 => ?_)
    · have b57 : js.length ≤ i := (am_leN (i := js.length) (n := i) (by omega) (by omega)).mp b57
      have e9 : i = js.length := by omega
      subst e9
      exact k
    · have b57 : ¬ js.length ≤ i := fun hq9 => b57 ((am_leN (i := js.length) (n := i) (by omega) (by omega)).mpr hq9)
      omega
  | succ m ih =>
    intro i hi
    refine am_R.nxs 2 (pc' := 54) (lv' := [some (.ref 1021), some (.int (Int32.ofNat sd)), some (.int (-1)), some (.int (Int32.ofNat i))]) (st' := [.ref 1021, .int (Int32.ofNat i)]) (h1 := am_h (aw_mt (am_pu w 26 (am_I 0 (aw_ps l (120 * sd) (fun z => aw_tau (aw_w js z)) i))) ft wr (Int32.ofNat js.length) n sh T) g) rfl ?_
    refine am_R.gf (pc' := 57) (v := .int (Int32.ofNat js.length)) rfl (am_wf 21 (by decide) (aw_mt21 : (aw_mt (am_pu w 26 (am_I 0 (aw_ps l (120 * sd) (fun z => aw_tau (aw_w js z)) i))) ft wr (Int32.ofNat js.length) n sh T) 21 = _)) rfl rfl rfl ?_
    refine am_R.ites 1 (P := Int32.ofNat js.length ≤ Int32.ofNat i) (T := 83) (F := 60) (lv' := [some (.ref 1021), some (.int (Int32.ofNat sd)), some (.int (-1)), some (.int (Int32.ofNat i))]) (st' := []) (h1 := am_h (aw_mt (am_pu w 26 (am_I 0 (aw_ps l (120 * sd) (fun z => aw_tau (aw_w js z)) i))) ft wr (Int32.ofNat js.length) n sh T) g) rfl (fun b57 => ?_) (fun b57 => ?_)
    · have b57 : js.length ≤ i := (am_leN (i := js.length) (n := i) (by omega) (by omega)).mp b57
      omega
    · have b57 : ¬ js.length ≤ i := fun hq9 => b57 ((am_leN (i := js.length) (n := i) (by omega) (by omega)).mpr hq9)
      refine am_R.nxs 1 (pc' := 61) (lv' := [some (.ref 1021), some (.int (Int32.ofNat sd)), some (.int (-1)), some (.int (Int32.ofNat i))]) (st' := [.ref 1021]) (h1 := am_h (aw_mt (am_pu w 26 (am_I 0 (aw_ps l (120 * sd) (fun z => aw_tau (aw_w js z)) i))) ft wr (Int32.ofNat js.length) n sh T) g) rfl ?_
      refine am_R.gf (pc' := 64) (v := .ref 1026) rfl (am_wf 21 (by decide) (aw_mt21 : (aw_mt (am_pu w 26 (am_I 0 (aw_ps l (120 * sd) (fun z => aw_tau (aw_w js z)) i))) ft wr (Int32.ofNat js.length) n sh T) 21 = _)) rfl rfl rfl ?_
      refine am_R.nxs 3 (pc' := 68) (lv' := [some (.ref 1021), some (.int (Int32.ofNat sd)), some (.int (-1)), some (.int (Int32.ofNat i))]) (st' := [.int (120 * Int32.ofNat sd), .ref 1026]) (h1 := am_h (aw_mt (am_pu w 26 (am_I 0 (aw_ps l (120 * sd) (fun z => aw_tau (aw_w js z)) i))) ft wr (Int32.ofNat js.length) n sh T) g) rfl ?_
      rw [show (120 * Int32.ofNat sd : Int32) = Int32.ofNat (120 * sd) from am_mul 120 sd]
      refine am_R.nxs 2 (pc' := 70) (lv' := [some (.ref 1021), some (.int (Int32.ofNat sd)), some (.int (-1)), some (.int (Int32.ofNat i))]) (st' := [.int (Int32.ofNat (120 * sd) + Int32.ofNat i), .ref 1026]) (h1 := am_h (aw_mt (am_pu w 26 (am_I 0 (aw_ps l (120 * sd) (fun z => aw_tau (aw_w js z)) i))) ft wr (Int32.ofNat js.length) n sh T) g) rfl ?_
      rw [show (Int32.ofNat (120 * sd) + Int32.ofNat i : Int32) = Int32.ofNat ((120 * sd) + i) from am_add (120 * sd) i]
      refine am_R.nxs 1 (pc' := 71) (lv' := [some (.ref 1021), some (.int (Int32.ofNat sd)), some (.int (-1)), some (.int (Int32.ofNat i))]) (st' := [.ref 1021, .int (Int32.ofNat ((120 * sd) + i)), .ref 1026]) (h1 := am_h (aw_mt (am_pu w 26 (am_I 0 (aw_ps l (120 * sd) (fun z => aw_tau (aw_w js z)) i))) ft wr (Int32.ofNat js.length) n sh T) g) rfl ?_
      refine am_R.gf (pc' := 74) (v := .ref 1032) rfl (am_wf 21 (by decide) (aw_mt21 : (aw_mt (am_pu w 26 (am_I 0 (aw_ps l (120 * sd) (fun z => aw_tau (aw_w js z)) i))) ft wr (Int32.ofNat js.length) n sh T) 21 = _)) rfl rfl rfl ?_
      refine am_R.nxs 1 (pc' := 75) (lv' := [some (.ref 1021), some (.int (Int32.ofNat sd)), some (.int (-1)), some (.int (Int32.ofNat i))]) (st' := [.int (Int32.ofNat i), .ref 1032, .int (Int32.ofNat ((120 * sd) + i)), .ref 1026]) (h1 := am_h (aw_mt (am_pu w 26 (am_I 0 (aw_ps l (120 * sd) (fun z => aw_tau (aw_w js z)) i))) ft wr (Int32.ofNat js.length) n sh T) g) rfl ?_
      refine am_R.ldi (i := i) (xs := (js.map aw_tau ++ WS)) (pc' := 76) rfl (am_wf 32 (by decide) ((aw_mt_other (by decide) (by decide)).trans ((am_pu_ne (by decide)).trans h32) : (aw_mt (am_pu w 26 (am_I 0 (aw_ps l (120 * sd) (fun z => aw_tau (aw_w js z)) i))) ft wr (Int32.ofNat js.length) n sh T) 32 = _)) (by omega) (by omega) rfl ?_
      rw [aw_wtau (by omega)]
      refine am_R.sti (i := ((120 * sd) + i)) (xs := (aw_ps l (120 * sd) (fun z => aw_tau (aw_w js z)) i)) (pc' := 77) rfl (am_wf 26 (by decide) ((aw_mt_other (by decide) (by decide)).trans (am_pu_eq _ _ _) : (aw_mt (am_pu w 26 (am_I 0 (aw_ps l (120 * sd) (fun z => aw_tau (aw_w js z)) i))) ft wr (Int32.ofNat js.length) n sh T) 26 = _)) (by rw [aw_ps_len]; omega) (by rw [aw_ps_len]; omega) (am_wsE (k := 26) (w' := (aw_mt (am_pu w 26 (am_I 0 (aw_ps l (120 * sd) (fun z => aw_tau (aw_w js z)) (i + 1)))) ft wr (Int32.ofNat js.length) n sh T)) (by decide) (by decide) ((aw_mt_pu (by decide) (by decide)).trans (by rw [am_pu_pu]; rfl))) rfl ?_
      refine am_R.nxs 1 (pc' := 80) (lv' := [some (.ref 1021), some (.int (Int32.ofNat sd)), some (.int (-1)), some (.int (Int32.ofNat i + 1))]) (st' := []) (h1 := am_h (aw_mt (am_pu w 26 (am_I 0 (aw_ps l (120 * sd) (fun z => aw_tau (aw_w js z)) (i + 1)))) ft wr (Int32.ofNat js.length) n sh T) g) rfl ?_
      rw [show (Int32.ofNat i + 1 : Int32) = Int32.ofNat (i + 1) from am_add i 1]
      refine am_R.nxs 1 (pc' := 52) (lv' := [some (.ref 1021), some (.int (Int32.ofNat sd)), some (.int (-1)), some (.int (Int32.ofNat (i + 1)))]) (st' := []) (h1 := am_h (aw_mt (am_pu w 26 (am_I 0 (aw_ps l (120 * sd) (fun z => aw_tau (aw_w js z)) (i + 1)))) ft wr (Int32.ofNat js.length) n sh T) g) rfl ?_
      exact ih (i + 1) (by omega)
theorem aw_k98p {w : Nat → am_C} {g : am_H} (d : Nat) {ft wr : Int32} {js : List Nat} (hj : js.length ≤ 120) {WS : List Int32} (h32 : w 32 = am_I 0 (js.map aw_tau ++ WS)) (hw : js.length + WS.length = 120) {n sh : Nat} {T : aw_T} {sd : Nat} (hsd : sd < 3) (hW : aw_WT T 3 0) {l : List Int32} (hl : l.length = 1728) {o : am_O} {h' : am_H} (k : am_R (d + 6) 98 122 [some (.ref 1021), some (.int (Int32.ofNat sd)), some (.int (-1)), some (.int (Int32.ofNat 576))] [] (am_h (aw_mt (am_pu w 28 (am_I 0 (aw_ps l (576 * sd) (aw_px T) 576))) ft wr (Int32.ofNat js.length) n sh T) g) o h') : ∀ (m i : Nat), i + m = 576 → am_R (d + 6) 98 85 [some (.ref 1021), some (.int (Int32.ofNat sd)), some (.int (-1)), some (.int (Int32.ofNat i))] [] (am_h (aw_mt (am_pu w 28 (am_I 0 (aw_ps l (576 * sd) (aw_px T) i))) ft wr (Int32.ofNat js.length) n sh T) g) o h' := by
  intro m
  induction m with
  | zero =>
    intro i hi
    refine am_R.ites 3 (P := 576 ≤ Int32.ofNat i) (T := 122) (F := 92) (lv' := [some (.ref 1021), some (.int (Int32.ofNat sd)), some (.int (-1)), some (.int (Int32.ofNat i))]) (st' := []) (h1 := am_h (aw_mt (am_pu w 28 (am_I 0 (aw_ps l (576 * sd) (aw_px T) i))) ft wr (Int32.ofNat js.length) n sh T) g) rfl (fun b89 => ?_) (fun b89 => ?_)
    · have b89 : 576 ≤ i := (am_leN (i := 576) (n := i) (by omega) (by omega)).mp b89
      have e9 : i = 576 := by omega
      subst e9
      exact k
    · have b89 : ¬ 576 ≤ i := fun hq9 => b89 ((am_leN (i := 576) (n := i) (by omega) (by omega)).mpr hq9)
      omega
  | succ m ih =>
    intro i hi
    refine am_R.ites 3 (P := 576 ≤ Int32.ofNat i) (T := 122) (F := 92) (lv' := [some (.ref 1021), some (.int (Int32.ofNat sd)), some (.int (-1)), some (.int (Int32.ofNat i))]) (st' := []) (h1 := am_h (aw_mt (am_pu w 28 (am_I 0 (aw_ps l (576 * sd) (aw_px T) i))) ft wr (Int32.ofNat js.length) n sh T) g) rfl (fun b89 => ?_) (fun b89 => ?_)
    · have b89 : 576 ≤ i := (am_leN (i := 576) (n := i) (by omega) (by omega)).mp b89
      omega
    · have b89 : ¬ 576 ≤ i := fun hq9 => b89 ((am_leN (i := 576) (n := i) (by omega) (by omega)).mpr hq9)
      refine am_R.nxs 1 (pc' := 93) (lv' := [some (.ref 1021), some (.int (Int32.ofNat sd)), some (.int (-1)), some (.int (Int32.ofNat i))]) (st' := [.ref 1021]) (h1 := am_h (aw_mt (am_pu w 28 (am_I 0 (aw_ps l (576 * sd) (aw_px T) i))) ft wr (Int32.ofNat js.length) n sh T) g) rfl ?_
      refine am_R.gf (pc' := 96) (v := .ref 1028) rfl (am_wf 21 (by decide) (aw_mt21 : (aw_mt (am_pu w 28 (am_I 0 (aw_ps l (576 * sd) (aw_px T) i))) ft wr (Int32.ofNat js.length) n sh T) 21 = _)) rfl rfl rfl ?_
      refine am_R.nxs 3 (pc' := 101) (lv' := [some (.ref 1021), some (.int (Int32.ofNat sd)), some (.int (-1)), some (.int (Int32.ofNat i))]) (st' := [.int (576 * Int32.ofNat sd), .ref 1028]) (h1 := am_h (aw_mt (am_pu w 28 (am_I 0 (aw_ps l (576 * sd) (aw_px T) i))) ft wr (Int32.ofNat js.length) n sh T) g) rfl ?_
      rw [show (576 * Int32.ofNat sd : Int32) = Int32.ofNat (576 * sd) from am_mul 576 sd]
      refine am_R.nxs 2 (pc' := 103) (lv' := [some (.ref 1021), some (.int (Int32.ofNat sd)), some (.int (-1)), some (.int (Int32.ofNat i))]) (st' := [.int (Int32.ofNat (576 * sd) + Int32.ofNat i), .ref 1028]) (h1 := am_h (aw_mt (am_pu w 28 (am_I 0 (aw_ps l (576 * sd) (aw_px T) i))) ft wr (Int32.ofNat js.length) n sh T) g) rfl ?_
      rw [show (Int32.ofNat (576 * sd) + Int32.ofNat i : Int32) = Int32.ofNat ((576 * sd) + i) from am_add (576 * sd) i]
      refine am_R.nxs 7 (pc' := 112) (lv' := [some (.ref 1021), some (.int (Int32.ofNat sd)), some (.int (-1)), some (.int (Int32.ofNat i))]) (st' := [.int (Int32.ofNat i / 24), .int (Int32.ofNat i - Int32.ofNat i / 24 * 24), .ref 1021, .int (Int32.ofNat ((576 * sd) + i)), .ref 1028]) (h1 := am_h (aw_mt (am_pu w 28 (am_I 0 (aw_ps l (576 * sd) (aw_px T) i))) ft wr (Int32.ofNat js.length) n sh T) g) rfl ?_
      rw [(aw_rm (show i < 576 by omega)).1, (aw_rm (show i < 576 by omega)).2]
      refine am_R.cv (a := 1021) (as' := [.int (Int32.ofNat (i % 24)), .int (Int32.ofNat (i / 24))]) (r := [.int (Int32.ofNat ((576 * sd) + i)), .ref 1028]) (v := some (.int (aw_px T i))) (h1 := am_h (aw_mt (am_pu w 28 (am_I 0 (aw_ps l (576 * sd) (aw_px T) i))) ft wr (Int32.ofNat js.length) n sh T) g) (pc' := 115) rfl rfl rfl rfl (am_wf 21 (by decide) (aw_mt21 : (aw_mt (am_pu w 28 (am_I 0 (aw_ps l (576 * sd) (aw_px T) i))) ft wr (Int32.ofNat js.length) n sh T) 21 = _)) rfl rfl (aw_k114 (w := (am_pu w 28 (am_I 0 (aw_ps l (576 * sd) (aw_px T) i)))) d _ _ hW (aw_bx24 (by omega))) rfl ?_
      refine am_R.sti (i := ((576 * sd) + i)) (xs := (aw_ps l (576 * sd) (aw_px T) i)) (pc' := 116) rfl (am_wf 28 (by decide) ((aw_mt_other (by decide) (by decide)).trans (am_pu_eq _ _ _) : (aw_mt (am_pu w 28 (am_I 0 (aw_ps l (576 * sd) (aw_px T) i))) ft wr (Int32.ofNat js.length) n sh T) 28 = _)) (by rw [aw_ps_len]; omega) (by rw [aw_ps_len]; omega) (am_wsE (k := 28) (w' := (aw_mt (am_pu w 28 (am_I 0 (aw_ps l (576 * sd) (aw_px T) (i + 1)))) ft wr (Int32.ofNat js.length) n sh T)) (by decide) (by decide) ((aw_mt_pu (by decide) (by decide)).trans (by rw [am_pu_pu]; rfl))) rfl ?_
      refine am_R.nxs 1 (pc' := 119) (lv' := [some (.ref 1021), some (.int (Int32.ofNat sd)), some (.int (-1)), some (.int (Int32.ofNat i + 1))]) (st' := []) (h1 := am_h (aw_mt (am_pu w 28 (am_I 0 (aw_ps l (576 * sd) (aw_px T) (i + 1)))) ft wr (Int32.ofNat js.length) n sh T) g) rfl ?_
      rw [show (Int32.ofNat i + 1 : Int32) = Int32.ofNat (i + 1) from am_add i 1]
      refine am_R.nxs 1 (pc' := 85) (lv' := [some (.ref 1021), some (.int (Int32.ofNat sd)), some (.int (-1)), some (.int (Int32.ofNat (i + 1)))]) (st' := []) (h1 := am_h (aw_mt (am_pu w 28 (am_I 0 (aw_ps l (576 * sd) (aw_px T) (i + 1)))) ft wr (Int32.ofNat js.length) n sh T) g) rfl ?_
      exact ih (i + 1) (by omega)
