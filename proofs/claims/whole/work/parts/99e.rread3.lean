/-! read of the reference, as a whole. -/
theorem aw_tok_len {tx : List Int32} {tl : Nat} : ∀ n p, (aw_tok tx tl n p).length ≤ n ∧ ∀ j ∈ aw_tok tx tl n p, j < 38 := by
  intro n
  induction n with
  | zero => intro p; exact ⟨Nat.le_refl _, fun j hj => by cases hj⟩
  | succ n ih =>
    intro p
    have hwd : ∀ e, aw_wd tx p e < 38 := fun e => aw_wf_lt _ _ _ _ _ (by decide)
    rw [aw_tok]
    split
    · exact ⟨Nat.zero_le _, fun j hj => by cases hj⟩
    · split
      · have := ih (aw_run tx tl tl (p + 1))
        refine ⟨by rw [List.length_cons]; omega, fun j hj => ?_⟩
        rcases List.mem_cons.mp hj with q | q
        · rw [q]
          exact hwd _
        · exact this.2 j q
      · split
        · have := ih (p + 1)
          exact ⟨by omega, this.2⟩
        · have := ih (p + 1)
          refine ⟨by rw [List.length_cons]; omega, fun j hj => ?_⟩
          rcases List.mem_cons.mp hj with q | q
          · rw [q]
            exact hwd _
          · exact this.2 j q
theorem aw_w38 {js : List Nat} (h : ∀ j ∈ js, j < 38) (p : Nat) : aw_w js p < 38 := by
  by_cases hp : p < js.length
  · exact h _ (List.mem_of_getElem? (aw_w_at hp))
  · rw [aw_w_end (by omega)]
    decide
theorem aw_k98f {w w2 w3 : Nat → am_C} {g : am_H} (d : Nat) {ft ty wr wd wt sn : Int32} (h21 : w 21 = aw_c21 ft ty wr wd wt sn) {sd : Nat} (hsd : sd < 3) (hcut : am_R (d + 5) 100 0 [some (.ref 1021), none, none] [] (am_h (am_pu w 21 (aw_c21 0 ty wr wd wt sn)) g) (.inl none) (am_h w2 g)) {f1 f2 f3 f4 f5 f6 : Int32} (h21b : w2 21 = aw_c21 f1 f2 f3 f4 f5 f6) {v : Int32} (hv : ¬ v < 0) (hrd : am_R (d + 5) 103 0 [some (.ref 1021), none, none, none] [] (am_h w2 g) (.inl (some (.int v))) (am_h w3 g)) : am_R (d + 6) 98 0 [some (.ref 1021), some (.int (Int32.ofNat sd)), none, none] [] (am_h w g) (.inl (some (.int (-1 - v)))) (am_h w3 g) := by
  refine am_R.ites 3 (P := Int32.ofNat sd < 0) (T := 10) (F := 5) (lv' := [some (.ref 1021), some (.int (Int32.ofNat sd)), none, none]) (st' := [.ref 1021]) (h1 := am_h w g) rfl (fun b2 => ?_) (fun b2 => ?_)
  · exact absurd b2 (aw_nn sd)
  · refine am_R.ites 3 (P := Int32.ofNat sd ≤ 2) (T := 14) (F := 10) (lv' := [some (.ref 1021), some (.int (Int32.ofNat sd)), none, none]) (st' := [.ref 1021]) (h1 := am_h w g) rfl (fun b7 => ?_) (fun b7 => ?_)
    · have b7 : sd ≤ 2 := (am_leN (i := sd) (n := 2) (by omega) (by omega)).mp b7
      refine am_R.nxs 1 (pc' := 15) (lv' := [some (.ref 1021), some (.int (Int32.ofNat sd)), none, none]) (st' := [.int 0, .ref 1021]) (h1 := am_h w g) rfl ?_
      refine am_R.cv (a := 1021) (as' := [.int 0]) (r := []) (v := some (.int 0)) (h1 := am_h (am_pu w 21 (aw_c21 0 ty wr wd wt sn)) g) (pc' := 18) rfl rfl rfl rfl (am_wf 21 (by decide) h21) rfl rfl (aw_k99a _ h21 0 (by decide)) rfl ?_
      refine am_R.ites 1 (P := 0 = 0) (T := 23) (F := 21) (lv' := [some (.ref 1021), some (.int (Int32.ofNat sd)), none, none]) (st' := []) (h1 := am_h (am_pu w 21 (aw_c21 0 ty wr wd wt sn)) g) rfl (fun b18 => ?_) (fun b18 => ?_)
      · refine am_R.nxs 1 (pc' := 24) (lv' := [some (.ref 1021), some (.int (Int32.ofNat sd)), none, none]) (st' := [.ref 1021]) (h1 := am_h (am_pu w 21 (aw_c21 0 ty wr wd wt sn)) g) rfl ?_
        refine am_R.cv (a := 1021) (as' := []) (r := []) (v := none) (h1 := am_h w2 g) (pc' := 27) rfl rfl rfl rfl (am_wf 21 (by decide) (rfl : (am_pu w 21 (aw_c21 0 ty wr wd wt sn)) 21 = _)) rfl rfl (hcut) rfl ?_
        refine am_R.nxs 1 (pc' := 28) (lv' := [some (.ref 1021), some (.int (Int32.ofNat sd)), none, none]) (st' := [.ref 1021]) (h1 := am_h w2 g) rfl ?_
        refine am_R.cv (a := 1021) (as' := []) (r := []) (v := some (.int v)) (h1 := am_h w3 g) (pc' := 31) rfl rfl rfl rfl (am_wf 21 (by decide) h21b) rfl rfl (hrd) rfl ?_
        refine am_R.ites 3 (P := v < 0) (T := 40) (F := 36) (lv' := [some (.ref 1021), some (.int (Int32.ofNat sd)), some (.int v), none]) (st' := []) (h1 := am_h w3 g) rfl (fun b33 => ?_) (fun b33 => ?_)
        · exact absurd b33 hv
        · refine am_R.nxs 3 (pc' := 39) (lv' := [some (.ref 1021), some (.int (Int32.ofNat sd)), some (.int v), none]) (st' := [.int ((-1) - v)]) (h1 := am_h w3 g) rfl ?_
          exact am_R.reti rfl rfl rfl
      · exact absurd rfl b18
    · have b7 : ¬ sd ≤ 2 := fun hq9 => b7 ((am_leN (i := sd) (n := 2) (by omega) (by omega)).mpr hq9)
      omega
theorem aw_k98a {w w2 w3 : Nat → am_C} {g : am_H} (d : Nat) {ft ty wr wd wt sn : Int32} (h21 : w 21 = aw_c21 ft ty wr wd wt sn) {sd : Nat} (hsd : sd < 3) (hcut : am_R (d + 5) 100 0 [some (.ref 1021), none, none] [] (am_h (am_pu w 21 (aw_c21 0 ty wr wd wt sn)) g) (.inl none) (am_h w2 g)) {f1 f2 f3 f4 f5 f6 : Int32} (h21b : w2 21 = aw_c21 f1 f2 f3 f4 f5 f6) (hrd : am_R (d + 5) 103 0 [some (.ref 1021), none, none, none] [] (am_h w2 g) (.inl (some (.int (-1)))) (am_h w3 g)) {o : am_O} {h' : am_H} (k : am_R (d + 6) 98 40 [some (.ref 1021), some (.int (Int32.ofNat sd)), some (.int (-1)), none] [] (am_h w3 g) o h') : am_R (d + 6) 98 0 [some (.ref 1021), some (.int (Int32.ofNat sd)), none, none] [] (am_h w g) o h' := by
  refine am_R.ites 3 (P := Int32.ofNat sd < 0) (T := 10) (F := 5) (lv' := [some (.ref 1021), some (.int (Int32.ofNat sd)), none, none]) (st' := [.ref 1021]) (h1 := am_h w g) rfl (fun b2 => ?_) (fun b2 => ?_)
  · exact absurd b2 (aw_nn sd)
  · refine am_R.ites 3 (P := Int32.ofNat sd ≤ 2) (T := 14) (F := 10) (lv' := [some (.ref 1021), some (.int (Int32.ofNat sd)), none, none]) (st' := [.ref 1021]) (h1 := am_h w g) rfl (fun b7 => ?_) (fun b7 => ?_)
    · have b7 : sd ≤ 2 := (am_leN (i := sd) (n := 2) (by omega) (by omega)).mp b7
      refine am_R.nxs 1 (pc' := 15) (lv' := [some (.ref 1021), some (.int (Int32.ofNat sd)), none, none]) (st' := [.int 0, .ref 1021]) (h1 := am_h w g) rfl ?_
      refine am_R.cv (a := 1021) (as' := [.int 0]) (r := []) (v := some (.int 0)) (h1 := am_h (am_pu w 21 (aw_c21 0 ty wr wd wt sn)) g) (pc' := 18) rfl rfl rfl rfl (am_wf 21 (by decide) h21) rfl rfl (aw_k99a _ h21 0 (by decide)) rfl ?_
      refine am_R.ites 1 (P := 0 = 0) (T := 23) (F := 21) (lv' := [some (.ref 1021), some (.int (Int32.ofNat sd)), none, none]) (st' := []) (h1 := am_h (am_pu w 21 (aw_c21 0 ty wr wd wt sn)) g) rfl (fun b18 => ?_) (fun b18 => ?_)
      · refine am_R.nxs 1 (pc' := 24) (lv' := [some (.ref 1021), some (.int (Int32.ofNat sd)), none, none]) (st' := [.ref 1021]) (h1 := am_h (am_pu w 21 (aw_c21 0 ty wr wd wt sn)) g) rfl ?_
        refine am_R.cv (a := 1021) (as' := []) (r := []) (v := none) (h1 := am_h w2 g) (pc' := 27) rfl rfl rfl rfl (am_wf 21 (by decide) (rfl : (am_pu w 21 (aw_c21 0 ty wr wd wt sn)) 21 = _)) rfl rfl (hcut) rfl ?_
        refine am_R.nxs 1 (pc' := 28) (lv' := [some (.ref 1021), some (.int (Int32.ofNat sd)), none, none]) (st' := [.ref 1021]) (h1 := am_h w2 g) rfl ?_
        refine am_R.cv (a := 1021) (as' := []) (r := []) (v := some (.int (-1))) (h1 := am_h w3 g) (pc' := 31) rfl rfl rfl rfl (am_wf 21 (by decide) h21b) rfl rfl (hrd) rfl ?_
        refine am_R.ites 3 (P := (-1) < 0) (T := 40) (F := 36) (lv' := [some (.ref 1021), some (.int (Int32.ofNat sd)), some (.int (-1)), none]) (st' := []) (h1 := am_h w3 g) rfl (fun b33 => ?_) (fun b33 => ?_)
        · exact k
        · exact absurd (by decide) b33
      · exact absurd rfl b18
    · have b7 : ¬ sd ≤ 2 := fun hq9 => b7 ((am_leN (i := sd) (n := 2) (by omega) (by omega)).mpr hq9)
      omega
theorem aw_k98b {w : Nat → am_C} {g : am_H} (d : Nat) {ft wr : Int32} {js : List Nat} {n sh : Nat} {T : aw_T} {sd : Nat} (hsd : sd < 3) {ma : List Int32} (h27 : w 27 = am_I 0 ma) (hma : ma.length = 3) {o : am_O} {h' : am_H} (k : am_R d 98 52 [some (.ref 1021), some (.int (Int32.ofNat sd)), some (.int (-1)), some (.int (Int32.ofNat 0))] [] (am_h (aw_mt (am_pu w 27 (am_I 0 (ma.set sd (Int32.ofNat js.length)))) ft wr (Int32.ofNat js.length) n sh T) g) o h') : am_R d 98 40 [some (.ref 1021), some (.int (Int32.ofNat sd)), some (.int (-1)), none] [] (am_h (aw_mt w ft wr (Int32.ofNat js.length) n sh T) g) o h' := by
  refine am_R.nxs 1 (pc' := 41) (lv' := [some (.ref 1021), some (.int (Int32.ofNat sd)), some (.int (-1)), none]) (st' := [.ref 1021]) (h1 := am_h (aw_mt w ft wr (Int32.ofNat js.length) n sh T) g) rfl ?_
  refine am_R.gf (pc' := 44) (v := .ref 1027) rfl (am_wf 21 (by decide) (aw_mt21 : (aw_mt w ft wr (Int32.ofNat js.length) n sh T) 21 = _)) rfl rfl rfl ?_
  refine am_R.nxs 2 (pc' := 46) (lv' := [some (.ref 1021), some (.int (Int32.ofNat sd)), some (.int (-1)), none]) (st' := [.ref 1021, .int (Int32.ofNat sd), .ref 1027]) (h1 := am_h (aw_mt w ft wr (Int32.ofNat js.length) n sh T) g) rfl ?_
  refine am_R.gf (pc' := 49) (v := .int (Int32.ofNat js.length)) rfl (am_wf 21 (by decide) (aw_mt21 : (aw_mt w ft wr (Int32.ofNat js.length) n sh T) 21 = _)) rfl rfl rfl ?_
  refine am_R.sti (i := sd) (xs := ma) (pc' := 50) rfl (am_wf 27 (by decide) ((aw_mt_other (by decide) (by decide)).trans h27 : (aw_mt w ft wr (Int32.ofNat js.length) n sh T) 27 = _)) (by omega) (by omega) (am_wsE (k := 27) (w' := (aw_mt (am_pu w 27 (am_I 0 (ma.set sd (Int32.ofNat js.length)))) ft wr (Int32.ofNat js.length) n sh T)) (by decide) (by decide) (aw_mt_pu (by decide) (by decide))) rfl ?_
  refine am_R.nxs 2 (pc' := 52) (lv' := [some (.ref 1021), some (.int (Int32.ofNat sd)), some (.int (-1)), some (.int 0)]) (st' := []) (h1 := am_h (aw_mt (am_pu w 27 (am_I 0 (ma.set sd (Int32.ofNat js.length)))) ft wr (Int32.ofNat js.length) n sh T) g) rfl ?_
  exact k
theorem aw_k98d {w w4 w5 : Nat → am_C} {g : am_H} (d : Nat) {ft wr : Int32} {js : List Nat} {n n' sh : Nat} {T T' : aw_T} {sd : Nat} (hcnt : am_R (d + 5) 127 0 [some (.ref 1021), some (.int (Int32.ofNat sd)), none, none, none, none, none] [] (am_h (aw_mt w ft wr (Int32.ofNat js.length) n sh T) g) (.inl none) (am_h (aw_mt w4 ft wr (Int32.ofNat js.length) n sh T) g)) (hjud : am_R (d + 5) 128 0 [some (.ref 1021), some (.int (Int32.ofNat sd)), none, none, none, none, none, none, none, none] [] (am_h (aw_mt w4 ft wr (Int32.ofNat js.length) n sh T) g) (.inl none) (am_h (aw_mt w5 ft wr (Int32.ofNat js.length) n' sh T') g)) : am_R (d + 6) 98 122 [some (.ref 1021), some (.int (Int32.ofNat sd)), some (.int (-1)), some (.int (Int32.ofNat 576))] [] (am_h (aw_mt w ft wr (Int32.ofNat js.length) n sh T) g) (.inl (some (.int (Int32.ofNat js.length)))) (am_h (aw_mt w5 ft wr (Int32.ofNat js.length) n' sh T') g) := by
  refine am_R.nxs 2 (pc' := 124) (lv' := [some (.ref 1021), some (.int (Int32.ofNat sd)), some (.int (-1)), some (.int (Int32.ofNat 576))]) (st' := [.int (Int32.ofNat sd), .ref 1021]) (h1 := am_h (aw_mt w ft wr (Int32.ofNat js.length) n sh T) g) rfl ?_
  refine am_R.cv (a := 1021) (as' := [.int (Int32.ofNat sd)]) (r := []) (v := none) (h1 := am_h (aw_mt w4 ft wr (Int32.ofNat js.length) n sh T) g) (pc' := 127) rfl rfl rfl rfl (am_wf 21 (by decide) (aw_mt21 : (aw_mt w ft wr (Int32.ofNat js.length) n sh T) 21 = _)) rfl rfl (hcnt) rfl ?_
  refine am_R.nxs 2 (pc' := 129) (lv' := [some (.ref 1021), some (.int (Int32.ofNat sd)), some (.int (-1)), some (.int (Int32.ofNat 576))]) (st' := [.int (Int32.ofNat sd), .ref 1021]) (h1 := am_h (aw_mt w4 ft wr (Int32.ofNat js.length) n sh T) g) rfl ?_
  refine am_R.cv (a := 1021) (as' := [.int (Int32.ofNat sd)]) (r := []) (v := none) (h1 := am_h (aw_mt w5 ft wr (Int32.ofNat js.length) n' sh T') g) (pc' := 132) rfl rfl rfl rfl (am_wf 21 (by decide) (aw_mt21 : (aw_mt w4 ft wr (Int32.ofNat js.length) n sh T) 21 = _)) rfl rfl (hjud) rfl ?_
  refine am_R.nxs 1 (pc' := 133) (lv' := [some (.ref 1021), some (.int (Int32.ofNat sd)), some (.int (-1)), some (.int (Int32.ofNat 576))]) (st' := [.ref 1021]) (h1 := am_h (aw_mt w5 ft wr (Int32.ofNat js.length) n' sh T') g) rfl ?_
  refine am_R.gf (pc' := 136) (v := .int (Int32.ofNat js.length)) rfl (am_wf 21 (by decide) (aw_mt21 : (aw_mt w5 ft wr (Int32.ofNat js.length) n' sh T') 21 = _)) rfl rfl rfl ?_
  exact am_R.reti rfl rfl rfl
theorem aw_px_E {T U : aw_T} (h : aw_E T U) : aw_px T = aw_px U := by
  funext i
  unfold aw_px
  exact aw_pn_E h _ _ _ _ _ _
theorem aw_K_E {T U : aw_T} (h : aw_E T U) {sh ic cc dp : Nat} (hK : aw_K U sh ic cc dp) : aw_K T sh ic cc dp := aw_K_congr (fun z _ => ⟨h 38 (by decide) z, h 37 (by decide) z, fun j _ => h 42 (by decide) _⟩) hK
set_option maxRecDepth 100000 in
theorem aw_k98 {w : Nat → am_C} {g : am_H} (d : Nat) {ft wr wd wt sn : Int32} {tl : Nat} (h21 : w 21 = aw_c21 ft (Int32.ofNat tl) wr wd wt sn) (h24 : w 24 = .inr (3, aw_n1.map Value.long)) (h25 : w 25 = .inr (3, aw_n2.map Value.long)) {tx mt : List Int32} (h22 : w 22 = am_I 0 mt) (hmt : mt.length = 120) (htl : tl ≤ 120) (heq : ∀ i, i < tl → mt.getD i 0 = tx.getD i 0) {wl : List Int32} (hW : w 32 = am_I 0 wl) (hwl : wl.length = 120) (hrow : aw_rows w) {sd : Nat} (hsd : sd < 3) {to ma pi br bk co : List Int32} (hM : aw_MC w to ma pi br bk co) {js : List Nat} (hjs : js = aw_tok tx tl tl 0) {T0 : aw_T} (hT0 : T0 = aw_Tr w) : match aw_P js T0 with
    | .inl q => q ≤ 130 → ∃ n' sh' T', am_R (d + 6) 98 0 [some (.ref 1021), some (.int (Int32.ofNat sd)), none, none] [] (am_h w g) (.inl (some (.int (-1 - Int32.ofNat q)))) (am_h (aw_mt (aw_mw (am_pu w 21 (aw_c21 0 (Int32.ofNat tl) wr wd wt sn)) 0 0 wr wt sn js (wl.drop js.length)) 0 wr (Int32.ofNat js.length) n' sh' T') g)
    | .inr (U, sh, ic, cc, dp, bs) => (∃ g0 : am_H, ∃ lo hi a, aw_RS g0 U lo hi sh 3 0 a 0) → ∃ n' T' BR' BK', aw_jb br bk sd bs BR' BK' ∧ am_R (d + 6) 98 0 [some (.ref 1021), some (.int (Int32.ofNat sd)), none, none] [] (am_h w g) (.inl (some (.int (Int32.ofNat js.length)))) (am_h (aw_mt (aw_jw (am_pu (am_pu (am_pu (am_pu (aw_mw (am_pu w 21 (aw_c21 0 (Int32.ofNat tl) wr wd wt sn)) 0 0 wr wt sn js (wl.drop js.length)) 27 (am_I 0 (ma.set sd (Int32.ofNat js.length)))) 26 (am_I 0 (aw_ps to (120 * sd) (fun z => aw_tau (aw_w js z)) js.length))) 28 (am_I 0 (aw_ps pi (576 * sd) (aw_px U) 576))) 31 (am_I 0 ((((co.set (4 * sd) (Int32.ofNat sh)).set (4 * sd + 1) (Int32.ofNat ic)).set (4 * sd + 2) (Int32.ofNat cc)).set (4 * sd + 3) (Int32.ofNat dp)))) BR' BK') 0 wr (Int32.ofNat js.length) n' sh T') g) := by
  subst hjs
  have htk := aw_tok_len (tx := tx) (tl := tl) tl 0
  have h38 := aw_w38 htk.2
  have hj : (aw_tok tx tl tl 0).length ≤ 120 := by omega
  obtain ⟨m1, m2, m3, m4, m5, m6, m7, m8, m9, m10, m11, m12⟩ := hM
  have hcut := aw_k100 (w := am_pu w 21 (aw_c21 0 (Int32.ofNat tl) wr wd wt sn)) (g := g) (d + 4) (ft := 0) (wr := wr) (wt := wt) (sn := sn) (tx := tx) ((am_pu_ne (by decide)).trans h24) ((am_pu_ne (by decide)).trans h25) ((am_pu_ne (by decide)).trans h22) hmt htl heq (am_pu_eq _ _ _) ((am_pu_ne (by decide)).trans hW) hwl
  generalize hw2 : aw_mw (am_pu w 21 (aw_c21 0 (Int32.ofNat tl) wr wd wt sn)) 0 0 wr wt sn (aw_tok tx tl tl 0) (wl.drop (aw_tok tx tl tl 0).length) = w2 at hcut ⊢
  have h21b : w2 21 = aw_c21 0 0 wr (Int32.ofNat (aw_tok tx tl tl 0).length) wt sn := by
    rw [← hw2]
    exact aw_mw21
  have h32b : w2 32 = am_I 0 ((aw_tok tx tl tl 0).map aw_tau ++ wl.drop (aw_tok tx tl tl 0).length) := by
    rw [← hw2]
    exact aw_mw32
  have ho : ∀ k, k ≠ 21 → k ≠ 32 → w2 k = w k := by
    intro k h1 h2
    rw [← hw2]
    exact aw_mw_other h1 h2 (am_pu_ne h1)
  have hwz : (aw_tok tx tl tl 0).length + (wl.drop (aw_tok tx tl tl 0).length).length = 120 := by
    rw [List.length_drop]
    omega
  have hrow2 : aw_rows w2 := by
    intro k k1 k2
    rw [ho k (by omega) (by omega)]
    exact hrow k k1 k2
  have hra := aw_k103r (g := g) (d + 1) hj h32b hwz h38 h21b hrow2
  have hTT : T0 = aw_Tr w2 := hT0.trans (aw_Tr_congr (fun k k1 k2 => ho k (by omega) (by omega))).symm
  rw [hTT]
  generalize aw_tok tx tl tl 0 = js at *
  cases hP : aw_P js (aw_Tr w2) with
  | inl q =>
    rw [hP] at hra
    obtain ⟨n', sh', T', hra⟩ := hra
    dsimp only
    intro hq0
    have hq : ¬ Int32.ofNat q < 0 := aw_nn q
    exact ⟨n', sh', T', aw_k98f d h21 hsd hcut h21b hq hra⟩
  | inr S =>
    obtain ⟨U, sh, ic, cc, dp, bs⟩ := S
    rw [hP] at hra
    obtain ⟨T1, hE, hra⟩ := hra
    dsimp only at hE hra ⊢
    rintro ⟨g0, lo, hi, a, hR⟩
    have hKU := aw_K_P hP
    have hK := aw_K_E hE hKU
    have hs7 : sh ≤ 7 := by
      unfold aw_P at hP
      split at hP
      · cases hP
      · rename_i p1 S1 h1
        split at hP
        · cases hP
          obtain ⟨a1, a2, a3, -⟩ := aw_Psh_f 2 (by decide) 0 (by decide) h1
          have : aw_cap 2 = 6 := rfl
          omega
        · cases hP
    have hWT : aw_WT T1 3 0 := aw_WT_E hE 3 0 (aw_RS_WT (by omega) 3 0 a 0 hR)
    obtain ⟨k1, k2, k3, k4⟩ := hK
    have hjud := aw_k128 (w := (am_pu (am_pu (am_pu (am_pu w2 27 (am_I 0 (ma.set sd (Int32.ofNat js.length)))) 26 (am_I 0 (aw_ps to (120 * sd) (fun z => aw_tau (aw_w js z)) js.length))) 28 (am_I 0 (aw_ps pi (576 * sd) (aw_px U) 576))) 31 (am_I 0 ((((co.set (4 * sd) (Int32.ofNat sh)).set (4 * sd + 1) (Int32.ofNat ic)).set (4 * sd + 2) (Int32.ofNat cc)).set (4 * sd + 3) (Int32.ofNat dp))))) (g := g) (d := d + 2) (ft := 0) (wr := wr) (n := 0) hj h32b hwz h38 hsd ((ho 29 (by decide) (by decide)).trans m4) ((ho 30 (by decide) (by decide)).trans m5) m10 m11 hE hP
    obtain ⟨n', T', BR', BK', hjb, hjud⟩ := hjud
    refine ⟨n', T', BR', BK', hjb, ?_⟩
    have hcnt := aw_k127 (w := (am_pu (am_pu (am_pu w2 27 (am_I 0 (ma.set sd (Int32.ofNat js.length)))) 26 (am_I 0 (aw_ps to (120 * sd) (fun z => aw_tau (aw_w js z)) js.length))) 28 (am_I 0 (aw_ps pi (576 * sd) (aw_px U) 576)))) (g := g) (d + 5) (ft := 0) (wr := wr) (wd := Int32.ofNat js.length) (n := 0) (sh := sh) (T := T1) (by omega) k4 (co := co) ((ho 31 (by decide) (by decide)).trans m6) m12 hsd
    rw [← k1, ← k2, ← k3] at hcnt
    refine aw_k98a d h21 hsd hcut h21b hra (aw_k98b (d + 6) hsd ((ho 27 (by decide) (by decide)).trans m2) m8 ?_)
    have kD := aw_k98d d hcnt hjud
    rw [← aw_px_E hE] at kD
    have kp := aw_k98p (w := am_pu (am_pu w2 27 (am_I 0 (ma.set sd (Int32.ofNat js.length)))) 26 (am_I 0 (aw_ps to (120 * sd) (fun z => aw_tau (aw_w js z)) js.length))) (g := g) d (ft := 0) (wr := wr) hj h32b hwz (n := 0) (sh := sh) hsd hWT m9 kD 576 0 (by omega)
    rw [show am_pu (am_pu (am_pu w2 27 (am_I 0 (ma.set sd (Int32.ofNat js.length)))) 26 (am_I 0 (aw_ps to (120 * sd) (fun z => aw_tau (aw_w js z)) js.length))) 28 (am_I 0 (aw_ps pi (576 * sd) (aw_px T1) 0)) = am_pu (am_pu w2 27 (am_I 0 (ma.set sd (Int32.ofNat js.length)))) 26 (am_I 0 (aw_ps to (120 * sd) (fun z => aw_tau (aw_w js z)) js.length)) from am_pu_self ((ho 28 (by decide) (by decide)).trans m3)] at kp
    have kt := aw_k98t (w := am_pu w2 27 (am_I 0 (ma.set sd (Int32.ofNat js.length)))) (g := g) (d + 6) (ft := 0) (wr := wr) hj h32b hwz (n := 0) (sh := sh) (T := T1) hsd m7 (am_R.nxs 2 (pc' := 85) (lv' := [some (.ref 1021), some (.int (Int32.ofNat sd)), some (.int (-1)), some (.int (Int32.ofNat 0))]) (st' := []) rfl kp) js.length 0 (by omega)
    rw [show am_pu (am_pu w2 27 (am_I 0 (ma.set sd (Int32.ofNat js.length)))) 26 (am_I 0 (aw_ps to (120 * sd) (fun z => aw_tau (aw_w js z)) 0)) = am_pu w2 27 (am_I 0 (ma.set sd (Int32.ofNat js.length))) from am_pu_self ((ho 26 (by decide) (by decide)).trans m1)] at kt
    rw [aw_px_E hE] at kt
    exact kt
