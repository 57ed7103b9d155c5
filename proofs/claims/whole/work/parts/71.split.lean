/-! splitText of the class. -/
theorem aw_run_le {tx : List Int32} {tl : Nat} : ∀ n e, e ≤ tl → e ≤ aw_run tx tl n e ∧ aw_run tx tl n e ≤ tl := by
  intro n
  induction n with
  | zero => intro e he; exact ⟨Nat.le_refl _, he⟩
  | succ n ih =>
    intro e he
    rw [aw_run]
    split
    · rename_i h
      have := ih (e + 1) (by omega)
      omega
    · omega
theorem aw_ltI {c : Int32} (h : ¬ (if aw_let c = true then (1 : Int32) else 0) = 0) : aw_let c = true := by
  by_cases q : aw_let c = true
  · exact q
  · rw [if_neg q] at h
    exact absurd rfl h
theorem aw_ltN {c : Int32} (h : (if aw_let c = true then (1 : Int32) else 0) = 0) : ¬ aw_let c = true := by
  intro q
  rw [if_pos q] at h
  exact absurd h (by decide)
theorem aw_k10i {w : Nat → am_C} {g : am_H} (d : Nat) {tx : List Int32} (h2 : w 2 = am_I 1 tx) (hl : tx.length = 120) {tl r : Nat} (htl : tl ≤ 120) (hr : r < 4) {bc sc ic cc dp rd : Int32} {Q : List Nat} {S : List Value} (p : Nat) {o : am_O} {h' : am_H} : ∀ n e : Nat, tl ≤ e + n → e ≤ tl → am_R (d + 5) 10 48 [some (.ref (1005 + 4 * r)), some (.ref 1002), some (.int (Int32.ofNat tl)), some (.int (Int32.ofNat p)), some (.int (Int32.ofNat (aw_run tx tl n e)))] [] (am_h (aw_sw w r bc sc ic cc dp rd Q S) g) o h' → am_R (d + 5) 10 26 [some (.ref (1005 + 4 * r)), some (.ref 1002), some (.int (Int32.ofNat tl)), some (.int (Int32.ofNat p)), some (.int (Int32.ofNat e))] [] (am_h (aw_sw w r bc sc ic cc dp rd Q S) g) o h' := by
  intro n
  induction n with
  | zero =>
    intro e he hel k
    refine am_R.ites 3 (P := Int32.ofNat tl ≤ Int32.ofNat e) (T := 48) (F := 32) (lv' := [some (.ref (1005 + 4 * r)), some (.ref 1002), some (.int (Int32.ofNat tl)), some (.int (Int32.ofNat p)), some (.int (Int32.ofNat e))]) (st' := []) (h1 := am_h (aw_sw w r bc sc ic cc dp rd Q S) g) rfl (fun b29 => ?_) (fun b29 => ?_)
    · have b29 : tl ≤ e := (am_leN (i := tl) (n := e) (by omega) (by omega)).mp b29
      exact k
    · have b29 : ¬ tl ≤ e := fun hq9 => b29 ((am_leN (i := tl) (n := e) (by omega) (by omega)).mpr hq9)
      omega
  | succ n ih =>
    intro e he hel k
    refine am_R.ites 3 (P := Int32.ofNat tl ≤ Int32.ofNat e) (T := 48) (F := 32) (lv' := [some (.ref (1005 + 4 * r)), some (.ref 1002), some (.int (Int32.ofNat tl)), some (.int (Int32.ofNat p)), some (.int (Int32.ofNat e))]) (st' := []) (h1 := am_h (aw_sw w r bc sc ic cc dp rd Q S) g) rfl (fun b29 => ?_) (fun b29 => ?_)
    · have b29 : tl ≤ e := (am_leN (i := tl) (n := e) (by omega) (by omega)).mp b29
      rw [show aw_run tx tl (n + 1) e = e from if_neg (fun q => absurd q.1 (by omega))] at k
      exact k
    · have b29 : ¬ tl ≤ e := fun hq9 => b29 ((am_leN (i := tl) (n := e) (by omega) (by omega)).mpr hq9)
      refine am_R.nxs 2 (pc' := 35) (lv' := [some (.ref (1005 + 4 * r)), some (.ref 1002), some (.int (Int32.ofNat tl)), some (.int (Int32.ofNat p)), some (.int (Int32.ofNat e))]) (st' := [.int (Int32.ofNat e), .ref 1002]) (h1 := am_h (aw_sw w r bc sc ic cc dp rd Q S) g) rfl ?_
      refine am_R.ldc (i := e) (xs := tx) (pc' := 36) rfl (am_wf 2 (by decide) ((aw_sw_other (by omega) (by omega)).trans h2 : (aw_sw w r bc sc ic cc dp rd Q S) 2 = _)) (by omega) (by omega) rfl ?_
      refine am_R.cs (mj := 11) (as := [.int (tx.getD e 0)]) (r := []) (v := some (.int (if aw_let (tx.getD e 0) = true then 1 else 0))) (h1 := am_h (aw_sw w r bc sc ic cc dp rd Q S) g) (pc' := 39) rfl (aw_k11 (d + 4) _ _) rfl ?_
      refine am_R.ites 1 (P := (if aw_let (tx.getD e 0) = true then 1 else 0) = 0) (T := 48) (F := 42) (lv' := [some (.ref (1005 + 4 * r)), some (.ref 1002), some (.int (Int32.ofNat tl)), some (.int (Int32.ofNat p)), some (.int (Int32.ofNat e))]) (st' := []) (h1 := am_h (aw_sw w r bc sc ic cc dp rd Q S) g) rfl (fun b39 => ?_) (fun b39 => ?_)
      · rw [show aw_run tx tl (n + 1) e = e from if_neg (fun q => aw_ltN b39 q.2)] at k
        exact k
      · refine am_R.nxs 1 (pc' := 45) (lv' := [some (.ref (1005 + 4 * r)), some (.ref 1002), some (.int (Int32.ofNat tl)), some (.int (Int32.ofNat p)), some (.int (Int32.ofNat e + 1))]) (st' := []) (h1 := am_h (aw_sw w r bc sc ic cc dp rd Q S) g) rfl ?_
        rw [show (Int32.ofNat e + 1 : Int32) = Int32.ofNat (e + 1) from am_add e 1]
        refine am_R.nxs 1 (pc' := 26) (lv' := [some (.ref (1005 + 4 * r)), some (.ref 1002), some (.int (Int32.ofNat tl)), some (.int (Int32.ofNat p)), some (.int (Int32.ofNat (e + 1)))]) (st' := []) (h1 := am_h (aw_sw w r bc sc ic cc dp rd Q S) g) rfl ?_
        rw [show aw_run tx tl (n + 1) e = aw_run tx tl n (e + 1) from if_pos ⟨by omega, aw_ltI b39⟩] at k
        exact ih (e + 1) (by omega) (by omega) k
theorem aw_k10l {w : Nat → am_C} {g : am_H} (d : Nat) {tx : List Int32} (h2 : w 2 = am_I 1 tx) (hl : tx.length = 120) {tl r : Nat} (htl : tl ≤ 120) (hr : r < 4) {bc sc ic cc dp rd : Int32} : ∀ (n p : Nat) (Q : List Nat) (S : List Value) (x4 : Option Value), tl ≤ p + n → p ≤ tl → Q.length ≤ p → Q.length + S.length = 120 → am_R (d + 5) 10 7 [some (.ref (1005 + 4 * r)), some (.ref 1002), some (.int (Int32.ofNat tl)), some (.int (Int32.ofNat p)), x4] [] (am_h (aw_sw w r bc sc ic cc dp rd Q S) g) (.inl none) (am_h (aw_sw w r bc sc ic cc dp rd (Q ++ aw_tok tx tl n p) (S.drop (aw_tok tx tl n p).length)) g) := by
  intro n
  induction n with
  | zero =>
    intro p Q S x4 hp hpl hq hs
    refine am_R.ites 3 (P := Int32.ofNat tl ≤ Int32.ofNat p) (T := 73) (F := 12) (lv' := [some (.ref (1005 + 4 * r)), some (.ref 1002), some (.int (Int32.ofNat tl)), some (.int (Int32.ofNat p)), x4]) (st' := []) (h1 := am_h (aw_sw w r bc sc ic cc dp rd Q S) g) rfl (fun b9 => ?_) (fun b9 => ?_)
    · have b9 : tl ≤ p := (am_leN (i := tl) (n := p) (by omega) (by omega)).mp b9
      rw [show aw_tok tx tl 0 p = [] from rfl, List.append_nil, List.length_nil, List.drop_zero]
      exact am_R.ret rfl rfl
    · have b9 : ¬ tl ≤ p := fun hq9 => b9 ((am_leN (i := tl) (n := p) (by omega) (by omega)).mpr hq9)
      omega
  | succ n ih =>
    intro p Q S x4 hp hpl hq hs
    refine am_R.ites 3 (P := Int32.ofNat tl ≤ Int32.ofNat p) (T := 73) (F := 12) (lv' := [some (.ref (1005 + 4 * r)), some (.ref 1002), some (.int (Int32.ofNat tl)), some (.int (Int32.ofNat p)), x4]) (st' := []) (h1 := am_h (aw_sw w r bc sc ic cc dp rd Q S) g) rfl (fun b9 => ?_) (fun b9 => ?_)
    · have b9 : tl ≤ p := (am_leN (i := tl) (n := p) (by omega) (by omega)).mp b9
      rw [show aw_tok tx tl (n + 1) p = [] from if_pos (by omega), List.append_nil, List.length_nil, List.drop_zero]
      exact am_R.ret rfl rfl
    · have b9 : ¬ tl ≤ p := fun hq9 => b9 ((am_leN (i := tl) (n := p) (by omega) (by omega)).mpr hq9)
      refine am_R.nxs 3 (pc' := 15) (lv' := [some (.ref (1005 + 4 * r)), some (.ref 1002), some (.int (Int32.ofNat tl)), some (.int (Int32.ofNat p)), x4]) (st' := [.int (Int32.ofNat p + 1)]) (h1 := am_h (aw_sw w r bc sc ic cc dp rd Q S) g) rfl ?_
      rw [show (Int32.ofNat p + 1 : Int32) = Int32.ofNat (p + 1) from am_add p 1]
      refine am_R.nxs 3 (pc' := 19) (lv' := [some (.ref (1005 + 4 * r)), some (.ref 1002), some (.int (Int32.ofNat tl)), some (.int (Int32.ofNat p)), some (.int (Int32.ofNat (p + 1)))]) (st' := [.int (Int32.ofNat p), .ref 1002]) (h1 := am_h (aw_sw w r bc sc ic cc dp rd Q S) g) rfl ?_
      refine am_R.ldc (i := p) (xs := tx) (pc' := 20) rfl (am_wf 2 (by decide) ((aw_sw_other (by omega) (by omega)).trans h2 : (aw_sw w r bc sc ic cc dp rd Q S) 2 = _)) (by omega) (by omega) rfl ?_
      refine am_R.cs (mj := 11) (as := [.int (tx.getD p 0)]) (r := []) (v := some (.int (if aw_let (tx.getD p 0) = true then 1 else 0))) (h1 := am_h (aw_sw w r bc sc ic cc dp rd Q S) g) (pc' := 23) rfl (aw_k11 (d + 4) _ _) rfl ?_
      refine am_R.ites 1 (P := (if aw_let (tx.getD p 0) = true then 1 else 0) = 0) (T := 48) (F := 26) (lv' := [some (.ref (1005 + 4 * r)), some (.ref 1002), some (.int (Int32.ofNat tl)), some (.int (Int32.ofNat p)), some (.int (Int32.ofNat (p + 1)))]) (st' := []) (h1 := am_h (aw_sw w r bc sc ic cc dp rd Q S) g) rfl (fun b23 => ?_) (fun b23 => ?_)
      · refine am_R.nxs 2 (pc' := 50) (lv' := [some (.ref (1005 + 4 * r)), some (.ref 1002), some (.int (Int32.ofNat tl)), some (.int (Int32.ofNat p)), some (.int (Int32.ofNat (p + 1)))]) (st' := [.int (Int32.ofNat p), .ref 1002]) (h1 := am_h (aw_sw w r bc sc ic cc dp rd Q S) g) rfl ?_
        refine am_R.ldc (i := p) (xs := tx) (pc' := 51) rfl (am_wf 2 (by decide) ((aw_sw_other (by omega) (by omega)).trans h2 : (aw_sw w r bc sc ic cc dp rd Q S) 2 = _)) (by omega) (by omega) rfl ?_
        refine am_R.ites 2 (P := (tx.getD p 0) = 32) (T := 67) (F := 56) (lv' := [some (.ref (1005 + 4 * r)), some (.ref 1002), some (.int (Int32.ofNat tl)), some (.int (Int32.ofNat p)), some (.int (Int32.ofNat (p + 1)))]) (st' := []) (h1 := am_h (aw_sw w r bc sc ic cc dp rd Q S) g) rfl (fun b53 => ?_) (fun b53 => ?_)
        · refine am_R.nxs 3 (pc' := 7) (lv' := [some (.ref (1005 + 4 * r)), some (.ref 1002), some (.int (Int32.ofNat tl)), some (.int (Int32.ofNat (p + 1))), some (.int (Int32.ofNat (p + 1)))]) (st' := []) (h1 := am_h (aw_sw w r bc sc ic cc dp rd Q S) g) rfl ?_
          rw [show aw_tok tx tl (n + 1) p = aw_tok tx tl n (p + 1) from (if_neg (by omega)).trans ((if_neg (aw_ltN b23)).trans (if_pos b53))]
          exact ih (p + 1) Q S (some (.int (Int32.ofNat (p + 1)))) (by omega) (by omega) (by omega) hs
        · refine am_R.nxs 4 (pc' := 61) (lv' := [some (.ref (1005 + 4 * r)), some (.ref 1002), some (.int (Int32.ofNat tl)), some (.int (Int32.ofNat p)), some (.int (Int32.ofNat (p + 1)))]) (st' := [.int (Int32.ofNat (p + 1)), .int (Int32.ofNat p), .ref 1002, .ref (1005 + 4 * r)]) (h1 := am_h (aw_sw w r bc sc ic cc dp rd Q S) g) rfl ?_
          refine am_R.cs (mj := 12) (as := [.ref 1002, .int (Int32.ofNat p), .int (Int32.ofNat (p + 1))]) (r := [.ref (1005 + 4 * r)]) (v := some (.ref (aw_wd tx p (p + 1)))) (h1 := am_h (aw_sw w r bc sc ic cc dp rd Q S) g) (pc' := 64) rfl (aw_k12 (w := (aw_sw w r bc sc ic cc dp rd Q S)) d ((aw_sw_other (by omega) (by omega)).trans h2) hl (by omega) (by omega)) rfl ?_
          refine am_R.cv (a := (1005 + 4 * r)) (as' := [.ref (aw_wd tx p (p + 1))]) (r := []) (v := none) (h1 := am_h (aw_sw w r bc sc ic cc dp rd (Q ++ [aw_wd tx p (p + 1)]) (S.drop 1)) g) (pc' := 67) rfl rfl rfl rfl (aw_at5 hr aw_sw5) rfl rfl (aw_k19 (d + 4) hr (aw_wf_lt _ _ _ _ _ (by decide)) hs (by omega)) rfl ?_
          refine am_R.nxs 3 (pc' := 7) (lv' := [some (.ref (1005 + 4 * r)), some (.ref 1002), some (.int (Int32.ofNat tl)), some (.int (Int32.ofNat (p + 1))), some (.int (Int32.ofNat (p + 1)))]) (st' := []) (h1 := am_h (aw_sw w r bc sc ic cc dp rd (Q ++ [aw_wd tx p (p + 1)]) (S.drop 1)) g) rfl ?_
          rw [show aw_tok tx tl (n + 1) p = aw_wd tx p (p + 1) :: aw_tok tx tl n (p + 1) from (if_neg (by omega)).trans ((if_neg (aw_ltN b23)).trans (if_neg b53))]
          have k := ih (p + 1) (Q ++ [aw_wd tx p (p + 1)]) (S.drop 1) (some (.int (Int32.ofNat (p + 1)))) (by omega) (by omega) (by rw [List.length_append, List.length_singleton]; omega) (by rw [List.length_append, List.length_singleton, List.length_drop]; omega)
          rw [List.append_assoc, List.drop_drop, Nat.add_comm 1] at k
          exact k
      · have hlet := aw_ltI b23
        have hrun := aw_run_le (tx := tx) (tl := tl) tl (p + 1) (by omega)
        refine aw_k10i d h2 hl htl hr p tl (p + 1) (by omega) (by omega) ?_
        refine am_R.nxs 2 (pc' := 50) (lv' := [some (.ref (1005 + 4 * r)), some (.ref 1002), some (.int (Int32.ofNat tl)), some (.int (Int32.ofNat p)), some (.int (Int32.ofNat (aw_run tx tl tl (p + 1))))]) (st' := [.int (Int32.ofNat p), .ref 1002]) (h1 := am_h (aw_sw w r bc sc ic cc dp rd Q S) g) rfl ?_
        refine am_R.ldc (i := p) (xs := tx) (pc' := 51) rfl (am_wf 2 (by decide) ((aw_sw_other (by omega) (by omega)).trans h2 : (aw_sw w r bc sc ic cc dp rd Q S) 2 = _)) (by omega) (by omega) rfl ?_
        refine am_R.ites 2 (P := (tx.getD p 0) = 32) (T := 67) (F := 56) (lv' := [some (.ref (1005 + 4 * r)), some (.ref 1002), some (.int (Int32.ofNat tl)), some (.int (Int32.ofNat p)), some (.int (Int32.ofNat (aw_run tx tl tl (p + 1))))]) (st' := []) (h1 := am_h (aw_sw w r bc sc ic cc dp rd Q S) g) rfl (fun b53 => ?_) (fun b53 => ?_)
        · exact absurd hlet (by rw [b53]; decide)
        · refine am_R.nxs 4 (pc' := 61) (lv' := [some (.ref (1005 + 4 * r)), some (.ref 1002), some (.int (Int32.ofNat tl)), some (.int (Int32.ofNat p)), some (.int (Int32.ofNat (aw_run tx tl tl (p + 1))))]) (st' := [.int (Int32.ofNat (aw_run tx tl tl (p + 1))), .int (Int32.ofNat p), .ref 1002, .ref (1005 + 4 * r)]) (h1 := am_h (aw_sw w r bc sc ic cc dp rd Q S) g) rfl ?_
          refine am_R.cs (mj := 12) (as := [.ref 1002, .int (Int32.ofNat p), .int (Int32.ofNat (aw_run tx tl tl (p + 1)))]) (r := [.ref (1005 + 4 * r)]) (v := some (.ref (aw_wd tx p (aw_run tx tl tl (p + 1))))) (h1 := am_h (aw_sw w r bc sc ic cc dp rd Q S) g) (pc' := 64) rfl (aw_k12 (w := (aw_sw w r bc sc ic cc dp rd Q S)) d ((aw_sw_other (by omega) (by omega)).trans h2) hl (by omega) (by omega)) rfl ?_
          refine am_R.cv (a := (1005 + 4 * r)) (as' := [.ref (aw_wd tx p (aw_run tx tl tl (p + 1)))]) (r := []) (v := none) (h1 := am_h (aw_sw w r bc sc ic cc dp rd (Q ++ [aw_wd tx p (aw_run tx tl tl (p + 1))]) (S.drop 1)) g) (pc' := 67) rfl rfl rfl rfl (aw_at5 hr aw_sw5) rfl rfl (aw_k19 (d + 4) hr (aw_wf_lt _ _ _ _ _ (by decide)) hs (by omega)) rfl ?_
          refine am_R.nxs 3 (pc' := 7) (lv' := [some (.ref (1005 + 4 * r)), some (.ref 1002), some (.int (Int32.ofNat tl)), some (.int (Int32.ofNat (aw_run tx tl tl (p + 1)))), some (.int (Int32.ofNat (aw_run tx tl tl (p + 1))))]) (st' := []) (h1 := am_h (aw_sw w r bc sc ic cc dp rd (Q ++ [aw_wd tx p (aw_run tx tl tl (p + 1))]) (S.drop 1)) g) rfl ?_
          rw [show aw_tok tx tl (n + 1) p = aw_wd tx p (aw_run tx tl tl (p + 1)) :: aw_tok tx tl n (aw_run tx tl tl (p + 1)) from (if_neg (by omega)).trans (if_pos hlet)]
          have k := ih (aw_run tx tl tl (p + 1)) (Q ++ [aw_wd tx p (aw_run tx tl tl (p + 1))]) (S.drop 1) (some (.int (Int32.ofNat (aw_run tx tl tl (p + 1))))) (by omega) (by omega) (by rw [List.length_append, List.length_singleton]; omega) (by rw [List.length_append, List.length_singleton, List.length_drop]; omega)
          rw [List.append_assoc, List.drop_drop, Nat.add_comm 1] at k
          exact k
theorem aw_sw_zero {w : Nat → am_C} {r : Nat} {wc bc sc ic cc dp rd : Int32} {ws : List Value} (hW : w (6 + 4 * r) = .inr (4, ws)) : am_pu w (5 + 4 * r) (aw_cT r 0 bc sc ic cc dp rd) = aw_sw w r bc sc ic cc dp rd [] ws := by
  funext k
  simp only [aw_sw, am_pu, List.map_nil, List.nil_append, List.length_nil]
  (repeat' split) <;> first | rfl | omega | (rename_i e; rw [e, hW])
theorem aw_k10 {w : Nat → am_C} {g : am_H} (d : Nat) {tx : List Int32} (h2 : w 2 = am_I 1 tx) (hl : tx.length = 120) {tl r : Nat} (htl : tl ≤ 120) (hr : r < 4) {bc sc ic cc dp rd : Int32} {wc : Int32} (hT : w (5 + 4 * r) = aw_cT r wc bc sc ic cc dp rd) {ws : List Value} (hW : w (6 + 4 * r) = .inr (4, ws)) (hwl : ws.length = 120) : am_R (d + 5) 10 0 [some (.ref (1005 + 4 * r)), some (.ref 1002), some (.int (Int32.ofNat tl)), none, none] [] (am_h w g) (.inl none) (am_h (aw_sw w r bc sc ic cc dp rd (aw_tok tx tl tl 0) (ws.drop (aw_tok tx tl tl 0).length)) g) := by
  refine am_R.nxs 2 (pc' := 2) (lv' := [some (.ref (1005 + 4 * r)), some (.ref 1002), some (.int (Int32.ofNat tl)), none, none]) (st' := [.int 0, .ref (1005 + 4 * r)]) (h1 := am_h w g) rfl ?_
  refine am_R.pf (k := 1) (pc' := 5) rfl (aw_at5 hr hT) rfl (Nat.le_of_ble_eq_true rfl) rfl (fun q => by cases q) (aw_ws5 hr) rfl ?_
  refine am_R.nxs 2 (pc' := 7) (lv' := [some (.ref (1005 + 4 * r)), some (.ref 1002), some (.int (Int32.ofNat tl)), some (.int 0), none]) (st' := []) (h1 := am_h (am_pu w (5 + 4 * r) (aw_cT r 0 bc sc ic cc dp rd)) g) rfl ?_
  rw [aw_sw_zero (wc := wc) hW]
  exact aw_k10l d h2 hl htl hr tl 0 [] ws none (by omega) (Nat.zero_le _) (Nat.le_refl _) (by rw [hwl]; rfl)
