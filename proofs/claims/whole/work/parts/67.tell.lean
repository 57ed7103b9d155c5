/-! tell and turned of the class. -/
/-- the word that word j is turned to -/
def aw_tn (j : Nat) : Nat := if j < 6 then (if j % 2 = 0 then j + 1 else j - 1) else j
theorem aw_tn_lt {j : Nat} (h : j < 37) : aw_tn j < 37 := by
  unfold aw_tn
  split <;> (try split) <;> omega
theorem aw_kn : ∀ j, j < 38 → 6 ≤ j → ¬ aw_kd j = 1 ∨ 6 ≤ aw_nu j := by decide
/-- the first i words, as they are told -/
def aw_txt (f : Nat → Nat) (js : List Nat) : Nat → List Int32
  | 0 => []
  | i + 1 => aw_txt f js i ++ (if i = 0 then [] else [32]) ++ aw_by (f (js.getD i 0))
/-- how a word may be told -/
def aw_how (f : Nat → Nat) : Prop := ∀ j, j < 37 → f j < 37 ∧ (aw_by (f j)).length ≤ aw_wl j
theorem aw_how0 : aw_how (fun j => j) := by
  have key : ∀ j, j < 37 → j < 37 ∧ (aw_by j).length ≤ aw_wl j := by decide
  exact key
theorem aw_how1 : aw_how aw_tn := by
  have key : ∀ j, j < 37 → aw_tn j < 37 ∧ (aw_by (aw_tn j)).length ≤ aw_wl j := by decide
  exact key
theorem aw_txt_len {f : Nat → Nat} {js : List Nat} (hf : aw_how f) (hj : ∀ k j : Nat, js[k]? = some j → j < 37) : ∀ i, i ≤ js.length → (aw_txt f js i).length ≤ aw_pgl (js.take i) := by
  intro i
  induction i with
  | zero => intro _; exact Nat.zero_le _
  | succ i ih =>
    intro hi
    have h1 := ih (by omega)
    have hg : js[i]? = some js[i] := List.getElem?_eq_getElem (by omega)
    have hd : js.getD i 0 = js[i] := by rw [List.getD_eq_getElem?_getD, hg]; rfl
    have h2 := (hf _ (hj i _ hg)).2
    have e : aw_pgl (js.take (i + 1)) = aw_pgl (js.take i) + (aw_wl js[i] + 1) := by
      unfold aw_pgl
      rw [List.take_succ, hg]
      simp only [Option.toList_some, List.map_append, List.map_cons, List.map_nil, List.sum_append, List.sum_cons, List.sum_nil, Nat.add_zero]
    rw [e, aw_txt, List.length_append, List.length_append, hd]
    split <;> simp <;> omega
theorem aw_pgl_take (js : List Nat) (i : Nat) : aw_pgl (js.take i) ≤ aw_pgl js := by
  have e : aw_pgl js = aw_pgl (js.take i) + aw_pgl (js.drop i) := by
    unfold aw_pgl
    rw [← List.sum_append, ← List.map_append, List.take_append_drop]
  omega
theorem aw_txt_400 {f : Nat → Nat} {js : List Nat} (hf : aw_how f) (hj : ∀ k j : Nat, js[k]? = some j → j < 37) (hp : aw_pgl js ≤ 400) {i : Nat} (hi : i ≤ js.length) : (aw_txt f js i).length ≤ 400 := by
  have h1 := aw_txt_len hf hj i hi
  have h2 := aw_pgl_take js i
  omega
theorem aw_pg_zero {w : Nat → am_C} {tl sp : Nat} {pg : List Int32} (h3 : w 3 = am_I 1 pg) : am_pu w 1 (aw_c1 tl 0 sp) = aw_pg w tl sp [] pg := by
  funext j
  simp only [aw_pg, am_pu, List.nil_append, List.length_nil]
  (repeat' split) <;> first | rfl | omega | (rename_i e; rw [e, h3])
theorem aw_k89 (d : Nat) (h : am_H) {j : Nat} (hj : j < 37) : am_R d 89 0 [some (.ref j)] [] h (.inl (some (.ref (aw_tn j)))) h := by
  by_cases h6 : j < 6
  · rcases (by omega : j = 0 ∨ j = 1 ∨ j = 2 ∨ j = 3 ∨ j = 4 ∨ j = 5) with rfl | rfl | rfl | rfl | rfl | rfl
    · refine am_R.nxs 15 (pc' := 31) (lv' := [some (.ref 0)]) (st' := [.ref 1]) (h1 := h) rfl ?_
      exact am_R.ret rfl rfl
    · refine am_R.nxs 15 (pc' := 31) (lv' := [some (.ref 1)]) (st' := [.ref 0]) (h1 := h) rfl ?_
      exact am_R.ret rfl rfl
    · refine am_R.nxs 15 (pc' := 31) (lv' := [some (.ref 2)]) (st' := [.ref 3]) (h1 := h) rfl ?_
      exact am_R.ret rfl rfl
    · refine am_R.nxs 15 (pc' := 31) (lv' := [some (.ref 3)]) (st' := [.ref 2]) (h1 := h) rfl ?_
      exact am_R.ret rfl rfl
    · refine am_R.nxs 15 (pc' := 31) (lv' := [some (.ref 4)]) (st' := [.ref 5]) (h1 := h) rfl ?_
      exact am_R.ret rfl rfl
    · refine am_R.nxs 15 (pc' := 31) (lv' := [some (.ref 5)]) (st' := [.ref 4]) (h1 := h) rfl ?_
      exact am_R.ret rfl rfl
  · refine am_R.nxs 1 (pc' := 1) (lv' := [some (.ref j)]) (st' := [.ref j]) (h1 := h) rfl ?_
    refine am_R.gf (pc' := 4) (v := .int (aw_kd j)) rfl (aw_st0 (by omega)) rfl rfl rfl ?_
    refine am_R.ites 2 (P := ¬ (aw_kd j) = 1) (T := 30) (F := 8) (lv' := [some (.ref j)]) (st' := []) (h1 := h) rfl (fun b5 => ?_) (fun b5 => ?_)
    · refine am_R.nxs 1 (pc' := 31) (lv' := [some (.ref j)]) (st' := [.ref j]) (h1 := h) rfl ?_
      rw [show aw_tn j = j from if_neg h6]
      exact am_R.ret rfl rfl
    · refine am_R.nxs 1 (pc' := 9) (lv' := [some (.ref j)]) (st' := [.ref j]) (h1 := h) rfl ?_
      refine am_R.gf (pc' := 12) (v := .int (aw_nu j)) rfl (aw_st0 (by omega)) rfl rfl rfl ?_
      refine am_R.ites 2 (P := 6 ≤ (aw_nu j)) (T := 30) (F := 17) (lv' := [some (.ref j)]) (st' := []) (h1 := h) rfl (fun b14 => ?_) (fun b14 => ?_)
      · refine am_R.nxs 1 (pc' := 31) (lv' := [some (.ref j)]) (st' := [.ref j]) (h1 := h) rfl ?_
        rw [show aw_tn j = j from if_neg h6]
        exact am_R.ret rfl rfl
      · exact absurd (aw_kn j (by omega) (by omega)) (fun q => q.elim (fun q => b5 q) (fun q => b14 q))
theorem aw_pg_other {w : Nat → am_C} {tl sp : Nat} {Q S : List Int32} {k : Nat} {c : am_C} (hk : 4 ≤ k) (h : w k = c) : aw_pg w tl sp Q S k = c := by
  unfold aw_pg
  rw [am_pu_ne (by omega), am_pu_ne (by omega)]
  exact h
theorem aw_k87la {w : Nat → am_C} {g : am_H} (d : Nat) {tl sp r : Nat} (hr : r < 4) {js : List Nat} {bc sc ic cc dp rd : Int32} (hT : w (5 + 4 * r) = aw_cT r (Int32.ofNat js.length) bc sc ic cc dp rd) {ws : List Value} (hW : w (6 + 4 * r) = .inr (4, ws)) (hwl : ws.length = 120) (hjs : aw_ws ws js) {pg : List Int32} (hpl : pg.length = 480) (hp : aw_pgl js ≤ 400) : ∀ m i : Nat, ∀ x4 : Option Value, i + m = js.length → am_R (d + 4) 87 7 [some (.ref 1001), some (.ref (1005 + 4 * r)), some (.int 0), some (.int (Int32.ofNat i)), x4] [] (am_h (aw_pg w tl sp (aw_txt (fun j => j) js i) (pg.drop (aw_txt (fun j => j) js i).length)) g) (.inl none) (am_h (aw_pg w tl sp (aw_txt (fun j => j) js js.length) (pg.drop (aw_txt (fun j => j) js js.length).length)) g) := by
  have hjl := hjs.1
  have h37 : ∀ k j : Nat, js[k]? = some j → j < 37 := fun k j h => (hjs.2 k j h).1
  intro m
  induction m with
  | zero =>
    intro i x4 hi
    have hi9 : i = js.length := by omega
    subst hi9
    refine am_R.nxs 2 (pc' := 9) (lv' := [some (.ref 1001), some (.ref (1005 + 4 * r)), some (.int 0), some (.int (Int32.ofNat js.length)), x4]) (st' := [.ref (1005 + 4 * r), .int (Int32.ofNat js.length)]) (h1 := am_h (aw_pg w tl sp (aw_txt (fun j => j) js js.length) (pg.drop (aw_txt (fun j => j) js js.length).length)) g) rfl ?_
    refine am_R.gf (pc' := 12) (v := .int (Int32.ofNat js.length)) rfl (aw_at5 hr (aw_pg_other (by omega) hT)) rfl rfl rfl ?_
    refine am_R.ites 1 (P := Int32.ofNat js.length ≤ Int32.ofNat js.length) (T := 57) (F := 15) (lv' := [some (.ref 1001), some (.ref (1005 + 4 * r)), some (.int 0), some (.int (Int32.ofNat js.length)), x4]) (st' := []) (h1 := am_h (aw_pg w tl sp (aw_txt (fun j => j) js js.length) (pg.drop (aw_txt (fun j => j) js js.length).length)) g) rfl (fun b12 => ?_) (fun b12 => ?_)
    · have b12 : js.length ≤ js.length := (am_leN (i := js.length) (n := js.length) (by omega) (by omega)).mp b12
      exact am_R.ret rfl rfl
    · have b12 : ¬ js.length ≤ js.length := fun hq9 => b12 ((am_leN (i := js.length) (n := js.length) (by omega) (by omega)).mpr hq9)
      omega
  | succ m ih =>
    intro i x4 hi
    obtain ⟨a, ha⟩ : ∃ a, js[i]? = some a := ⟨_, List.getElem?_eq_getElem (by omega)⟩
    have hd : js.getD i 0 = a := by rw [List.getD_eq_getElem?_getD, ha]; rfl
    have ha37 := h37 i a ha
    have hw := aw_how0 a ha37
    have t0 := aw_txt_400 aw_how0 h37 hp (i := i) (by omega)
    have t1 := aw_txt_400 aw_how0 h37 hp (i := i + 1) (by omega)
    have hb14 := (aw_byA a (by have := hw.1; omega)).1
    refine am_R.nxs 2 (pc' := 9) (lv' := [some (.ref 1001), some (.ref (1005 + 4 * r)), some (.int 0), some (.int (Int32.ofNat i)), x4]) (st' := [.ref (1005 + 4 * r), .int (Int32.ofNat i)]) (h1 := am_h (aw_pg w tl sp (aw_txt (fun j => j) js i) (pg.drop (aw_txt (fun j => j) js i).length)) g) rfl ?_
    refine am_R.gf (pc' := 12) (v := .int (Int32.ofNat js.length)) rfl (aw_at5 hr (aw_pg_other (by omega) hT)) rfl rfl rfl ?_
    refine am_R.ites 1 (P := Int32.ofNat js.length ≤ Int32.ofNat i) (T := 57) (F := 15) (lv' := [some (.ref 1001), some (.ref (1005 + 4 * r)), some (.int 0), some (.int (Int32.ofNat i)), x4]) (st' := []) (h1 := am_h (aw_pg w tl sp (aw_txt (fun j => j) js i) (pg.drop (aw_txt (fun j => j) js i).length)) g) rfl (fun b12 => ?_) (fun b12 => ?_)
    · have b12 : js.length ≤ i := (am_leN (i := js.length) (n := i) (by omega) (by omega)).mp b12
      omega
    · have b12 : ¬ js.length ≤ i := fun hq9 => b12 ((am_leN (i := js.length) (n := i) (by omega) (by omega)).mpr hq9)
      refine am_R.ites 2 (P := Int32.ofNat i ≤ 0) (T := 25) (F := 19) (lv' := [some (.ref 1001), some (.ref (1005 + 4 * r)), some (.int 0), some (.int (Int32.ofNat i)), x4]) (st' := []) (h1 := am_h (aw_pg w tl sp (aw_txt (fun j => j) js i) (pg.drop (aw_txt (fun j => j) js i).length)) g) rfl (fun b16 => ?_) (fun b16 => ?_)
      · have b16 : i ≤ 0 := (am_leN (i := i) (n := 0) (by omega) (by omega)).mp b16
        refine am_R.nxs 1 (pc' := 26) (lv' := [some (.ref 1001), some (.ref (1005 + 4 * r)), some (.int 0), some (.int (Int32.ofNat i)), x4]) (st' := [.ref (1005 + 4 * r)]) (h1 := am_h (aw_pg w tl sp (aw_txt (fun j => j) js i) (pg.drop (aw_txt (fun j => j) js i).length)) g) rfl ?_
        refine am_R.gf (pc' := 29) (v := .ref (1006 + 4 * r)) rfl (aw_at5 hr (aw_pg_other (by omega) hT)) rfl rfl rfl ?_
        refine am_R.nxs 1 (pc' := 30) (lv' := [some (.ref 1001), some (.ref (1005 + 4 * r)), some (.int 0), some (.int (Int32.ofNat i)), x4]) (st' := [.int (Int32.ofNat i), .ref (1006 + 4 * r)]) (h1 := am_h (aw_pg w tl sp (aw_txt (fun j => j) js i) (pg.drop (aw_txt (fun j => j) js i).length)) g) rfl ?_
        refine am_R.lda (i := i) (xs := ws) (v := .ref a) (pc' := 31) rfl (aw_at6 hr (aw_pg_other (by omega) hW)) (by decide) (by omega) (by omega) ((hjs.2 _ _ ha).2) rfl ?_
        refine am_R.ites 4 (P := 0 = 0) (T := 46) (F := 38) (lv' := [some (.ref 1001), some (.ref (1005 + 4 * r)), some (.int 0), some (.int (Int32.ofNat i)), some (.ref a)]) (st' := [.ref 1001]) (h1 := am_h (aw_pg w tl sp (aw_txt (fun j => j) js i) (pg.drop (aw_txt (fun j => j) js i).length)) g) rfl (fun b35 => ?_) (fun b35 => ?_)
        · refine am_R.nxs 1 (pc' := 48) (lv' := [some (.ref 1001), some (.ref (1005 + 4 * r)), some (.int 0), some (.int (Int32.ofNat i)), some (.ref a)]) (st' := [.ref a, .ref 1001]) (h1 := am_h (aw_pg w tl sp (aw_txt (fun j => j) js i) (pg.drop (aw_txt (fun j => j) js i).length)) g) rfl ?_
          refine am_R.cv (a := 1001) (as' := [.ref a]) (r := []) (v := none) (h1 := am_h (aw_pg w tl sp ((aw_txt (fun j => j) js i) ++ aw_by a) ((pg.drop (aw_txt (fun j => j) js i).length).drop (aw_by a).length)) g) (pc' := 51) rfl rfl rfl rfl (am_wf 1 (by decide) (rfl : (aw_pg w tl sp (aw_txt (fun j => j) js i) (pg.drop (aw_txt (fun j => j) js i).length)) 1 = _)) rfl rfl (aw_k90 (w := w) d (by omega) (by simp only [List.length_append, List.length_drop, List.length_singleton]; omega) (by simp only [List.length_append, List.length_drop, List.length_singleton]; omega)) rfl ?_
          refine am_R.nxs 1 (pc' := 54) (lv' := [some (.ref 1001), some (.ref (1005 + 4 * r)), some (.int 0), some (.int (Int32.ofNat i + 1)), some (.ref a)]) (st' := []) (h1 := am_h (aw_pg w tl sp ((aw_txt (fun j => j) js i) ++ aw_by a) ((pg.drop (aw_txt (fun j => j) js i).length).drop (aw_by a).length)) g) rfl ?_
          rw [show (Int32.ofNat i + 1 : Int32) = Int32.ofNat (i + 1) from am_add i 1]
          refine am_R.nxs 1 (pc' := 7) (lv' := [some (.ref 1001), some (.ref (1005 + 4 * r)), some (.int 0), some (.int (Int32.ofNat (i + 1))), some (.ref a)]) (st' := []) (h1 := am_h (aw_pg w tl sp ((aw_txt (fun j => j) js i) ++ aw_by a) ((pg.drop (aw_txt (fun j => j) js i).length).drop (aw_by a).length)) g) rfl ?_
          have e1 : ((aw_txt (fun j => j) js i) ++ aw_by a) = aw_txt (fun j => j) js (i + 1) := by
            rw [aw_txt, hd, if_pos (by omega)]
            rw [List.append_nil]
          have e2 : ((pg.drop (aw_txt (fun j => j) js i).length).drop (aw_by a).length) = pg.drop (aw_txt (fun j => j) js (i + 1)).length := by
            rw [← e1]
            simp only [List.drop_drop, List.length_append, List.length_singleton, Nat.add_assoc]
          rw [e1, e2]
          exact ih (i + 1) _ (by omega)
        · exact absurd rfl b35
      · have b16 : ¬ i ≤ 0 := fun hq9 => b16 ((am_leN (i := i) (n := 0) (by omega) (by omega)).mpr hq9)
        refine am_R.nxs 2 (pc' := 22) (lv' := [some (.ref 1001), some (.ref (1005 + 4 * r)), some (.int 0), some (.int (Int32.ofNat i)), x4]) (st' := [.int 32, .ref 1001]) (h1 := am_h (aw_pg w tl sp (aw_txt (fun j => j) js i) (pg.drop (aw_txt (fun j => j) js i).length)) g) rfl ?_
        refine am_R.cv (a := 1001) (as' := [.int 32]) (r := []) (v := none) (h1 := am_h (aw_pg w tl sp ((aw_txt (fun j => j) js i) ++ [32]) ((pg.drop (aw_txt (fun j => j) js i).length).drop 1)) g) (pc' := 25) rfl rfl rfl rfl (am_wf 1 (by decide) (rfl : (aw_pg w tl sp (aw_txt (fun j => j) js i) (pg.drop (aw_txt (fun j => j) js i).length)) 1 = _)) rfl rfl (aw_k88 (d + 3) 32 (by rw [List.length_drop]; omega) (by rw [List.length_drop]; omega) ⟨by decide, by decide⟩) rfl ?_
        refine am_R.nxs 1 (pc' := 26) (lv' := [some (.ref 1001), some (.ref (1005 + 4 * r)), some (.int 0), some (.int (Int32.ofNat i)), x4]) (st' := [.ref (1005 + 4 * r)]) (h1 := am_h (aw_pg w tl sp ((aw_txt (fun j => j) js i) ++ [32]) ((pg.drop (aw_txt (fun j => j) js i).length).drop 1)) g) rfl ?_
        refine am_R.gf (pc' := 29) (v := .ref (1006 + 4 * r)) rfl (aw_at5 hr (aw_pg_other (by omega) hT)) rfl rfl rfl ?_
        refine am_R.nxs 1 (pc' := 30) (lv' := [some (.ref 1001), some (.ref (1005 + 4 * r)), some (.int 0), some (.int (Int32.ofNat i)), x4]) (st' := [.int (Int32.ofNat i), .ref (1006 + 4 * r)]) (h1 := am_h (aw_pg w tl sp ((aw_txt (fun j => j) js i) ++ [32]) ((pg.drop (aw_txt (fun j => j) js i).length).drop 1)) g) rfl ?_
        refine am_R.lda (i := i) (xs := ws) (v := .ref a) (pc' := 31) rfl (aw_at6 hr (aw_pg_other (by omega) hW)) (by decide) (by omega) (by omega) ((hjs.2 _ _ ha).2) rfl ?_
        refine am_R.ites 4 (P := 0 = 0) (T := 46) (F := 38) (lv' := [some (.ref 1001), some (.ref (1005 + 4 * r)), some (.int 0), some (.int (Int32.ofNat i)), some (.ref a)]) (st' := [.ref 1001]) (h1 := am_h (aw_pg w tl sp ((aw_txt (fun j => j) js i) ++ [32]) ((pg.drop (aw_txt (fun j => j) js i).length).drop 1)) g) rfl (fun b35 => ?_) (fun b35 => ?_)
        · refine am_R.nxs 1 (pc' := 48) (lv' := [some (.ref 1001), some (.ref (1005 + 4 * r)), some (.int 0), some (.int (Int32.ofNat i)), some (.ref a)]) (st' := [.ref a, .ref 1001]) (h1 := am_h (aw_pg w tl sp ((aw_txt (fun j => j) js i) ++ [32]) ((pg.drop (aw_txt (fun j => j) js i).length).drop 1)) g) rfl ?_
          refine am_R.cv (a := 1001) (as' := [.ref a]) (r := []) (v := none) (h1 := am_h (aw_pg w tl sp (((aw_txt (fun j => j) js i) ++ [32]) ++ aw_by a) (((pg.drop (aw_txt (fun j => j) js i).length).drop 1).drop (aw_by a).length)) g) (pc' := 51) rfl rfl rfl rfl (am_wf 1 (by decide) (rfl : (aw_pg w tl sp ((aw_txt (fun j => j) js i) ++ [32]) ((pg.drop (aw_txt (fun j => j) js i).length).drop 1)) 1 = _)) rfl rfl (aw_k90 (w := w) d (by omega) (by simp only [List.length_append, List.length_drop, List.length_singleton]; omega) (by simp only [List.length_append, List.length_drop, List.length_singleton]; omega)) rfl ?_
          refine am_R.nxs 1 (pc' := 54) (lv' := [some (.ref 1001), some (.ref (1005 + 4 * r)), some (.int 0), some (.int (Int32.ofNat i + 1)), some (.ref a)]) (st' := []) (h1 := am_h (aw_pg w tl sp (((aw_txt (fun j => j) js i) ++ [32]) ++ aw_by a) (((pg.drop (aw_txt (fun j => j) js i).length).drop 1).drop (aw_by a).length)) g) rfl ?_
          rw [show (Int32.ofNat i + 1 : Int32) = Int32.ofNat (i + 1) from am_add i 1]
          refine am_R.nxs 1 (pc' := 7) (lv' := [some (.ref 1001), some (.ref (1005 + 4 * r)), some (.int 0), some (.int (Int32.ofNat (i + 1))), some (.ref a)]) (st' := []) (h1 := am_h (aw_pg w tl sp (((aw_txt (fun j => j) js i) ++ [32]) ++ aw_by a) (((pg.drop (aw_txt (fun j => j) js i).length).drop 1).drop (aw_by a).length)) g) rfl ?_
          have e1 : (((aw_txt (fun j => j) js i) ++ [32]) ++ aw_by a) = aw_txt (fun j => j) js (i + 1) := by
            rw [aw_txt, hd, if_neg (by omega)]
          have e2 : (((pg.drop (aw_txt (fun j => j) js i).length).drop 1).drop (aw_by a).length) = pg.drop (aw_txt (fun j => j) js (i + 1)).length := by
            rw [← e1]
            simp only [List.drop_drop, List.length_append, List.length_singleton, Nat.add_assoc]
          rw [e1, e2]
          exact ih (i + 1) _ (by omega)
        · exact absurd rfl b35
theorem aw_k87a {w : Nat → am_C} {g : am_H} (d : Nat) {tl sp r : Nat} (hr : r < 4) {js : List Nat} {bc sc ic cc dp rd : Int32} (hT : w (5 + 4 * r) = aw_cT r (Int32.ofNat js.length) bc sc ic cc dp rd) {ws : List Value} (hW : w (6 + 4 * r) = .inr (4, ws)) (hwl : ws.length = 120) (hjs : aw_ws ws js) {pg : List Int32} (hpl : pg.length = 480) (hp : aw_pgl js ≤ 400) {pl : Nat} (h1 : w 1 = aw_c1 tl pl sp) (h3 : w 3 = am_I 1 pg) : am_R (d + 4) 87 0 [some (.ref 1001), some (.ref (1005 + 4 * r)), some (.int 0), none, none] [] (am_h w g) (.inl none) (am_h (aw_pg w tl sp (aw_txt (fun j => j) js js.length) (pg.drop (aw_txt (fun j => j) js js.length).length)) g) := by
  refine am_R.nxs 2 (pc' := 2) (lv' := [some (.ref 1001), some (.ref (1005 + 4 * r)), some (.int 0), none, none]) (st' := [.int 0, .ref 1001]) (h1 := am_h w g) rfl ?_
  refine am_R.pf (k := 3) (pc' := 5) rfl (am_wf 1 (by decide) h1) rfl (Nat.le_of_ble_eq_true rfl) rfl (fun q => by cases q) (am_ws (k := 1) (by decide) (by decide)) rfl ?_
  refine am_R.nxs 2 (pc' := 7) (lv' := [some (.ref 1001), some (.ref (1005 + 4 * r)), some (.int 0), some (.int 0), none]) (st' := []) (h1 := am_h (am_pu w 1 (aw_c1 tl 0 sp)) g) rfl ?_
  rw [aw_pg_zero h3]
  have k := aw_k87la (w := w) (g := g) (tl := tl) (sp := sp) d hr hT hW hwl hjs hpl hp js.length 0 none (Nat.zero_add _)
  rw [show aw_txt (fun j => j) js 0 = [] from rfl, List.length_nil, List.drop_zero] at k
  exact k
theorem aw_k86a {w : Nat → am_C} {g : am_H} (d : Nat) {tl pl sp : Nat} (h1 : w 1 = aw_c1 tl pl sp) {rs : List Value} (h4 : w 4 = .inr (5, rs)) (hl : rs.length = 3) {k r : Nat} (hk : k < 3) (hr : r < 4) (hrs : rs[k]? = some (.ref (1005 + 4 * r))) {js : List Nat} {bc sc ic cc dp rd : Int32} (hT : w (5 + 4 * r) = aw_cT r (Int32.ofNat js.length) bc sc ic cc dp rd) {ws : List Value} (hW : w (6 + 4 * r) = .inr (4, ws)) (hwl : ws.length = 120) (hjs : aw_ws ws js) {pg : List Int32} (hpl : pg.length = 480) (hp : aw_pgl js ≤ 400) (h3 : w 3 = am_I 1 pg) (hd : rd = 1) : am_R (d + 5) 86 0 [some (.ref 1001), some (.int (Int32.ofNat k))] [] (am_h w g) (.inl (some (.int (Int32.ofNat (aw_txt (fun j => j) js js.length).length)))) (am_h (aw_pg w tl sp (aw_txt (fun j => j) js js.length) (pg.drop (aw_txt (fun j => j) js js.length).length)) g) := by
  refine am_R.nxs 3 (pc' := 3) (lv' := [some (.ref 1001), some (.int (Int32.ofNat k))]) (st' := [.int (Int32.ofNat k), .ref 1001, .ref 1001]) (h1 := am_h w g) rfl ?_
  refine am_R.cv (a := 1001) (as' := [.int (Int32.ofNat k)]) (r := [.ref 1001]) (v := some (.ref (1005 + 4 * r))) (h1 := am_h w g) (pc' := 6) rfl rfl rfl rfl (am_wf 1 (by decide) h1) rfl rfl (aw_k69a (d + 3) h1 h4 hl hk hr hrs hT hd) rfl ?_
  refine am_R.nxs 1 (pc' := 7) (lv' := [some (.ref 1001), some (.int (Int32.ofNat k))]) (st' := [.int 0, .ref (1005 + 4 * r), .ref 1001]) (h1 := am_h w g) rfl ?_
  refine am_R.cv (a := 1001) (as' := [.ref (1005 + 4 * r), .int 0]) (r := []) (v := none) (h1 := am_h (aw_pg w tl sp (aw_txt (fun j => j) js js.length) (pg.drop (aw_txt (fun j => j) js js.length).length)) g) (pc' := 10) rfl rfl rfl rfl (am_wf 1 (by decide) h1) rfl rfl (aw_k87a d hr hT hW hwl hjs hpl hp h1 h3) rfl ?_
  refine am_R.nxs 1 (pc' := 11) (lv' := [some (.ref 1001), some (.int (Int32.ofNat k))]) (st' := [.ref 1001]) (h1 := am_h (aw_pg w tl sp (aw_txt (fun j => j) js js.length) (pg.drop (aw_txt (fun j => j) js js.length).length)) g) rfl ?_
  refine am_R.gf (pc' := 14) (v := .int (Int32.ofNat ((aw_txt (fun j => j) js js.length).length))) rfl (am_wf 1 (by decide) (rfl : (aw_pg w tl sp (aw_txt (fun j => j) js js.length) (pg.drop (aw_txt (fun j => j) js js.length).length)) 1 = _)) rfl rfl rfl ?_
  exact am_R.reti rfl rfl rfl
theorem aw_k86b {w : Nat → am_C} {g : am_H} (d : Nat) {tl pl sp : Nat} (h1 : w 1 = aw_c1 tl pl sp) {rs : List Value} (h4 : w 4 = .inr (5, rs)) (hl : rs.length = 3) {k r : Nat} (hk : k < 3) (hr : r < 4) (hrs : rs[k]? = some (.ref (1005 + 4 * r))) {wc bc sc ic cc dp rd : Int32} (hT : w (5 + 4 * r) = aw_cT r wc bc sc ic cc dp rd) (hd : rd = 0) : am_R (d + 2) 86 0 [some (.ref 1001), some (.int (Int32.ofNat k))] [] (am_h w g) (.inr (1000 + (am_h w g).length)) (am_h w (g ++ [.inl (9, [])])) := by
  refine am_R.nxs 3 (pc' := 3) (lv' := [some (.ref 1001), some (.int (Int32.ofNat k))]) (st' := [.int (Int32.ofNat k), .ref 1001, .ref 1001]) (h1 := am_h w g) rfl ?_
  exact am_R.cvp (a := 1001) (as' := [.int (Int32.ofNat k)]) (r := [.ref 1001]) rfl rfl rfl rfl (am_wf 1 (by decide) h1) rfl rfl (aw_k69b d h1 h4 hl hk hr hrs hT hd) rfl
theorem aw_k86c {w : Nat → am_C} {g : am_H} (d : Nat) {tl pl sp : Nat} (h1 : w 1 = aw_c1 tl pl sp) (s : Int32) (hs : s < 0 ∨ ¬ s < 3) : am_R (d + 2) 86 0 [some (.ref 1001), some (.int s)] [] (am_h w g) (.inr (1000 + (am_h w g).length)) (am_h w (g ++ [.inl (8, [])])) := by
  refine am_R.nxs 3 (pc' := 3) (lv' := [some (.ref 1001), some (.int s)]) (st' := [.int s, .ref 1001, .ref 1001]) (h1 := am_h w g) rfl ?_
  exact am_R.cvp (a := 1001) (as' := [.int s]) (r := [.ref 1001]) rfl rfl rfl rfl (am_wf 1 (by decide) h1) rfl rfl (aw_k69c d h1 s hs) rfl
theorem aw_k87lb {w : Nat → am_C} {g : am_H} (d : Nat) {tl sp r : Nat} (hr : r < 4) {js : List Nat} {bc sc ic cc dp rd : Int32} (hT : w (5 + 4 * r) = aw_cT r (Int32.ofNat js.length) bc sc ic cc dp rd) {ws : List Value} (hW : w (6 + 4 * r) = .inr (4, ws)) (hwl : ws.length = 120) (hjs : aw_ws ws js) {pg : List Int32} (hpl : pg.length = 480) (hp : aw_pgl js ≤ 400) : ∀ m i : Nat, ∀ x4 : Option Value, i + m = js.length → am_R (d + 4) 87 7 [some (.ref 1001), some (.ref (1005 + 4 * r)), some (.int 1), some (.int (Int32.ofNat i)), x4] [] (am_h (aw_pg w tl sp (aw_txt aw_tn js i) (pg.drop (aw_txt aw_tn js i).length)) g) (.inl none) (am_h (aw_pg w tl sp (aw_txt aw_tn js js.length) (pg.drop (aw_txt aw_tn js js.length).length)) g) := by
  have hjl := hjs.1
  have h37 : ∀ k j : Nat, js[k]? = some j → j < 37 := fun k j h => (hjs.2 k j h).1
  intro m
  induction m with
  | zero =>
    intro i x4 hi
    have hi9 : i = js.length := by omega
    subst hi9
    refine am_R.nxs 2 (pc' := 9) (lv' := [some (.ref 1001), some (.ref (1005 + 4 * r)), some (.int 1), some (.int (Int32.ofNat js.length)), x4]) (st' := [.ref (1005 + 4 * r), .int (Int32.ofNat js.length)]) (h1 := am_h (aw_pg w tl sp (aw_txt aw_tn js js.length) (pg.drop (aw_txt aw_tn js js.length).length)) g) rfl ?_
    refine am_R.gf (pc' := 12) (v := .int (Int32.ofNat js.length)) rfl (aw_at5 hr (aw_pg_other (by omega) hT)) rfl rfl rfl ?_
    refine am_R.ites 1 (P := Int32.ofNat js.length ≤ Int32.ofNat js.length) (T := 57) (F := 15) (lv' := [some (.ref 1001), some (.ref (1005 + 4 * r)), some (.int 1), some (.int (Int32.ofNat js.length)), x4]) (st' := []) (h1 := am_h (aw_pg w tl sp (aw_txt aw_tn js js.length) (pg.drop (aw_txt aw_tn js js.length).length)) g) rfl (fun b12 => ?_) (fun b12 => ?_)
    · have b12 : js.length ≤ js.length := (am_leN (i := js.length) (n := js.length) (by omega) (by omega)).mp b12
      exact am_R.ret rfl rfl
    · have b12 : ¬ js.length ≤ js.length := fun hq9 => b12 ((am_leN (i := js.length) (n := js.length) (by omega) (by omega)).mpr hq9)
      omega
  | succ m ih =>
    intro i x4 hi
    obtain ⟨a, ha⟩ : ∃ a, js[i]? = some a := ⟨_, List.getElem?_eq_getElem (by omega)⟩
    have hd : js.getD i 0 = a := by rw [List.getD_eq_getElem?_getD, ha]; rfl
    have ha37 := h37 i a ha
    have hw := aw_how1 a ha37
    have t0 := aw_txt_400 aw_how1 h37 hp (i := i) (by omega)
    have t1 := aw_txt_400 aw_how1 h37 hp (i := i + 1) (by omega)
    have hb14 := (aw_byA (aw_tn a) (by have := hw.1; omega)).1
    have htn := aw_tn_lt ha37
    refine am_R.nxs 2 (pc' := 9) (lv' := [some (.ref 1001), some (.ref (1005 + 4 * r)), some (.int 1), some (.int (Int32.ofNat i)), x4]) (st' := [.ref (1005 + 4 * r), .int (Int32.ofNat i)]) (h1 := am_h (aw_pg w tl sp (aw_txt aw_tn js i) (pg.drop (aw_txt aw_tn js i).length)) g) rfl ?_
    refine am_R.gf (pc' := 12) (v := .int (Int32.ofNat js.length)) rfl (aw_at5 hr (aw_pg_other (by omega) hT)) rfl rfl rfl ?_
    refine am_R.ites 1 (P := Int32.ofNat js.length ≤ Int32.ofNat i) (T := 57) (F := 15) (lv' := [some (.ref 1001), some (.ref (1005 + 4 * r)), some (.int 1), some (.int (Int32.ofNat i)), x4]) (st' := []) (h1 := am_h (aw_pg w tl sp (aw_txt aw_tn js i) (pg.drop (aw_txt aw_tn js i).length)) g) rfl (fun b12 => ?_) (fun b12 => ?_)
    · have b12 : js.length ≤ i := (am_leN (i := js.length) (n := i) (by omega) (by omega)).mp b12
      omega
    · have b12 : ¬ js.length ≤ i := fun hq9 => b12 ((am_leN (i := js.length) (n := i) (by omega) (by omega)).mpr hq9)
      refine am_R.ites 2 (P := Int32.ofNat i ≤ 0) (T := 25) (F := 19) (lv' := [some (.ref 1001), some (.ref (1005 + 4 * r)), some (.int 1), some (.int (Int32.ofNat i)), x4]) (st' := []) (h1 := am_h (aw_pg w tl sp (aw_txt aw_tn js i) (pg.drop (aw_txt aw_tn js i).length)) g) rfl (fun b16 => ?_) (fun b16 => ?_)
      · have b16 : i ≤ 0 := (am_leN (i := i) (n := 0) (by omega) (by omega)).mp b16
        refine am_R.nxs 1 (pc' := 26) (lv' := [some (.ref 1001), some (.ref (1005 + 4 * r)), some (.int 1), some (.int (Int32.ofNat i)), x4]) (st' := [.ref (1005 + 4 * r)]) (h1 := am_h (aw_pg w tl sp (aw_txt aw_tn js i) (pg.drop (aw_txt aw_tn js i).length)) g) rfl ?_
        refine am_R.gf (pc' := 29) (v := .ref (1006 + 4 * r)) rfl (aw_at5 hr (aw_pg_other (by omega) hT)) rfl rfl rfl ?_
        refine am_R.nxs 1 (pc' := 30) (lv' := [some (.ref 1001), some (.ref (1005 + 4 * r)), some (.int 1), some (.int (Int32.ofNat i)), x4]) (st' := [.int (Int32.ofNat i), .ref (1006 + 4 * r)]) (h1 := am_h (aw_pg w tl sp (aw_txt aw_tn js i) (pg.drop (aw_txt aw_tn js i).length)) g) rfl ?_
        refine am_R.lda (i := i) (xs := ws) (v := .ref a) (pc' := 31) rfl (aw_at6 hr (aw_pg_other (by omega) hW)) (by decide) (by omega) (by omega) ((hjs.2 _ _ ha).2) rfl ?_
        refine am_R.ites 4 (P := 1 = 0) (T := 46) (F := 38) (lv' := [some (.ref 1001), some (.ref (1005 + 4 * r)), some (.int 1), some (.int (Int32.ofNat i)), some (.ref a)]) (st' := [.ref 1001]) (h1 := am_h (aw_pg w tl sp (aw_txt aw_tn js i) (pg.drop (aw_txt aw_tn js i).length)) g) rfl (fun b35 => ?_) (fun b35 => ?_)
        · exact absurd b35 (by decide)
        · refine am_R.nxs 1 (pc' := 40) (lv' := [some (.ref 1001), some (.ref (1005 + 4 * r)), some (.int 1), some (.int (Int32.ofNat i)), some (.ref a)]) (st' := [.ref a, .ref 1001]) (h1 := am_h (aw_pg w tl sp (aw_txt aw_tn js i) (pg.drop (aw_txt aw_tn js i).length)) g) rfl ?_
          refine am_R.cv (a := a) (as' := []) (r := [.ref 1001]) (v := some (.ref (aw_tn a))) (h1 := am_h (aw_pg w tl sp (aw_txt aw_tn js i) (pg.drop (aw_txt aw_tn js i).length)) g) (pc' := 43) rfl rfl rfl rfl (aw_st0 (by omega)) rfl rfl (aw_k89 (d + 3) _ (by omega)) rfl ?_
          refine am_R.nxs 1 (pc' := 48) (lv' := [some (.ref 1001), some (.ref (1005 + 4 * r)), some (.int 1), some (.int (Int32.ofNat i)), some (.ref a)]) (st' := [.ref (aw_tn a), .ref 1001]) (h1 := am_h (aw_pg w tl sp (aw_txt aw_tn js i) (pg.drop (aw_txt aw_tn js i).length)) g) rfl ?_
          refine am_R.cv (a := 1001) (as' := [.ref (aw_tn a)]) (r := []) (v := none) (h1 := am_h (aw_pg w tl sp ((aw_txt aw_tn js i) ++ aw_by (aw_tn a)) ((pg.drop (aw_txt aw_tn js i).length).drop (aw_by (aw_tn a)).length)) g) (pc' := 51) rfl rfl rfl rfl (am_wf 1 (by decide) (rfl : (aw_pg w tl sp (aw_txt aw_tn js i) (pg.drop (aw_txt aw_tn js i).length)) 1 = _)) rfl rfl (aw_k90 (w := w) d (by omega) (by simp only [List.length_append, List.length_drop, List.length_singleton]; omega) (by simp only [List.length_append, List.length_drop, List.length_singleton]; omega)) rfl ?_
          refine am_R.nxs 1 (pc' := 54) (lv' := [some (.ref 1001), some (.ref (1005 + 4 * r)), some (.int 1), some (.int (Int32.ofNat i + 1)), some (.ref a)]) (st' := []) (h1 := am_h (aw_pg w tl sp ((aw_txt aw_tn js i) ++ aw_by (aw_tn a)) ((pg.drop (aw_txt aw_tn js i).length).drop (aw_by (aw_tn a)).length)) g) rfl ?_
          rw [show (Int32.ofNat i + 1 : Int32) = Int32.ofNat (i + 1) from am_add i 1]
          refine am_R.nxs 1 (pc' := 7) (lv' := [some (.ref 1001), some (.ref (1005 + 4 * r)), some (.int 1), some (.int (Int32.ofNat (i + 1))), some (.ref a)]) (st' := []) (h1 := am_h (aw_pg w tl sp ((aw_txt aw_tn js i) ++ aw_by (aw_tn a)) ((pg.drop (aw_txt aw_tn js i).length).drop (aw_by (aw_tn a)).length)) g) rfl ?_
          have e1 : ((aw_txt aw_tn js i) ++ aw_by (aw_tn a)) = aw_txt aw_tn js (i + 1) := by
            rw [aw_txt, hd, if_pos (by omega)]
            rw [List.append_nil]
          have e2 : ((pg.drop (aw_txt aw_tn js i).length).drop (aw_by (aw_tn a)).length) = pg.drop (aw_txt aw_tn js (i + 1)).length := by
            rw [← e1]
            simp only [List.drop_drop, List.length_append, List.length_singleton, Nat.add_assoc]
          rw [e1, e2]
          exact ih (i + 1) _ (by omega)
      · have b16 : ¬ i ≤ 0 := fun hq9 => b16 ((am_leN (i := i) (n := 0) (by omega) (by omega)).mpr hq9)
        refine am_R.nxs 2 (pc' := 22) (lv' := [some (.ref 1001), some (.ref (1005 + 4 * r)), some (.int 1), some (.int (Int32.ofNat i)), x4]) (st' := [.int 32, .ref 1001]) (h1 := am_h (aw_pg w tl sp (aw_txt aw_tn js i) (pg.drop (aw_txt aw_tn js i).length)) g) rfl ?_
        refine am_R.cv (a := 1001) (as' := [.int 32]) (r := []) (v := none) (h1 := am_h (aw_pg w tl sp ((aw_txt aw_tn js i) ++ [32]) ((pg.drop (aw_txt aw_tn js i).length).drop 1)) g) (pc' := 25) rfl rfl rfl rfl (am_wf 1 (by decide) (rfl : (aw_pg w tl sp (aw_txt aw_tn js i) (pg.drop (aw_txt aw_tn js i).length)) 1 = _)) rfl rfl (aw_k88 (d + 3) 32 (by rw [List.length_drop]; omega) (by rw [List.length_drop]; omega) ⟨by decide, by decide⟩) rfl ?_
        refine am_R.nxs 1 (pc' := 26) (lv' := [some (.ref 1001), some (.ref (1005 + 4 * r)), some (.int 1), some (.int (Int32.ofNat i)), x4]) (st' := [.ref (1005 + 4 * r)]) (h1 := am_h (aw_pg w tl sp ((aw_txt aw_tn js i) ++ [32]) ((pg.drop (aw_txt aw_tn js i).length).drop 1)) g) rfl ?_
        refine am_R.gf (pc' := 29) (v := .ref (1006 + 4 * r)) rfl (aw_at5 hr (aw_pg_other (by omega) hT)) rfl rfl rfl ?_
        refine am_R.nxs 1 (pc' := 30) (lv' := [some (.ref 1001), some (.ref (1005 + 4 * r)), some (.int 1), some (.int (Int32.ofNat i)), x4]) (st' := [.int (Int32.ofNat i), .ref (1006 + 4 * r)]) (h1 := am_h (aw_pg w tl sp ((aw_txt aw_tn js i) ++ [32]) ((pg.drop (aw_txt aw_tn js i).length).drop 1)) g) rfl ?_
        refine am_R.lda (i := i) (xs := ws) (v := .ref a) (pc' := 31) rfl (aw_at6 hr (aw_pg_other (by omega) hW)) (by decide) (by omega) (by omega) ((hjs.2 _ _ ha).2) rfl ?_
        refine am_R.ites 4 (P := 1 = 0) (T := 46) (F := 38) (lv' := [some (.ref 1001), some (.ref (1005 + 4 * r)), some (.int 1), some (.int (Int32.ofNat i)), some (.ref a)]) (st' := [.ref 1001]) (h1 := am_h (aw_pg w tl sp ((aw_txt aw_tn js i) ++ [32]) ((pg.drop (aw_txt aw_tn js i).length).drop 1)) g) rfl (fun b35 => ?_) (fun b35 => ?_)
        · exact absurd b35 (by decide)
        · refine am_R.nxs 1 (pc' := 40) (lv' := [some (.ref 1001), some (.ref (1005 + 4 * r)), some (.int 1), some (.int (Int32.ofNat i)), some (.ref a)]) (st' := [.ref a, .ref 1001]) (h1 := am_h (aw_pg w tl sp ((aw_txt aw_tn js i) ++ [32]) ((pg.drop (aw_txt aw_tn js i).length).drop 1)) g) rfl ?_
          refine am_R.cv (a := a) (as' := []) (r := [.ref 1001]) (v := some (.ref (aw_tn a))) (h1 := am_h (aw_pg w tl sp ((aw_txt aw_tn js i) ++ [32]) ((pg.drop (aw_txt aw_tn js i).length).drop 1)) g) (pc' := 43) rfl rfl rfl rfl (aw_st0 (by omega)) rfl rfl (aw_k89 (d + 3) _ (by omega)) rfl ?_
          refine am_R.nxs 1 (pc' := 48) (lv' := [some (.ref 1001), some (.ref (1005 + 4 * r)), some (.int 1), some (.int (Int32.ofNat i)), some (.ref a)]) (st' := [.ref (aw_tn a), .ref 1001]) (h1 := am_h (aw_pg w tl sp ((aw_txt aw_tn js i) ++ [32]) ((pg.drop (aw_txt aw_tn js i).length).drop 1)) g) rfl ?_
          refine am_R.cv (a := 1001) (as' := [.ref (aw_tn a)]) (r := []) (v := none) (h1 := am_h (aw_pg w tl sp (((aw_txt aw_tn js i) ++ [32]) ++ aw_by (aw_tn a)) (((pg.drop (aw_txt aw_tn js i).length).drop 1).drop (aw_by (aw_tn a)).length)) g) (pc' := 51) rfl rfl rfl rfl (am_wf 1 (by decide) (rfl : (aw_pg w tl sp ((aw_txt aw_tn js i) ++ [32]) ((pg.drop (aw_txt aw_tn js i).length).drop 1)) 1 = _)) rfl rfl (aw_k90 (w := w) d (by omega) (by simp only [List.length_append, List.length_drop, List.length_singleton]; omega) (by simp only [List.length_append, List.length_drop, List.length_singleton]; omega)) rfl ?_
          refine am_R.nxs 1 (pc' := 54) (lv' := [some (.ref 1001), some (.ref (1005 + 4 * r)), some (.int 1), some (.int (Int32.ofNat i + 1)), some (.ref a)]) (st' := []) (h1 := am_h (aw_pg w tl sp (((aw_txt aw_tn js i) ++ [32]) ++ aw_by (aw_tn a)) (((pg.drop (aw_txt aw_tn js i).length).drop 1).drop (aw_by (aw_tn a)).length)) g) rfl ?_
          rw [show (Int32.ofNat i + 1 : Int32) = Int32.ofNat (i + 1) from am_add i 1]
          refine am_R.nxs 1 (pc' := 7) (lv' := [some (.ref 1001), some (.ref (1005 + 4 * r)), some (.int 1), some (.int (Int32.ofNat (i + 1))), some (.ref a)]) (st' := []) (h1 := am_h (aw_pg w tl sp (((aw_txt aw_tn js i) ++ [32]) ++ aw_by (aw_tn a)) (((pg.drop (aw_txt aw_tn js i).length).drop 1).drop (aw_by (aw_tn a)).length)) g) rfl ?_
          have e1 : (((aw_txt aw_tn js i) ++ [32]) ++ aw_by (aw_tn a)) = aw_txt aw_tn js (i + 1) := by
            rw [aw_txt, hd, if_neg (by omega)]
          have e2 : (((pg.drop (aw_txt aw_tn js i).length).drop 1).drop (aw_by (aw_tn a)).length) = pg.drop (aw_txt aw_tn js (i + 1)).length := by
            rw [← e1]
            simp only [List.drop_drop, List.length_append, List.length_singleton, Nat.add_assoc]
          rw [e1, e2]
          exact ih (i + 1) _ (by omega)
theorem aw_k87b {w : Nat → am_C} {g : am_H} (d : Nat) {tl sp r : Nat} (hr : r < 4) {js : List Nat} {bc sc ic cc dp rd : Int32} (hT : w (5 + 4 * r) = aw_cT r (Int32.ofNat js.length) bc sc ic cc dp rd) {ws : List Value} (hW : w (6 + 4 * r) = .inr (4, ws)) (hwl : ws.length = 120) (hjs : aw_ws ws js) {pg : List Int32} (hpl : pg.length = 480) (hp : aw_pgl js ≤ 400) {pl : Nat} (h1 : w 1 = aw_c1 tl pl sp) (h3 : w 3 = am_I 1 pg) : am_R (d + 4) 87 0 [some (.ref 1001), some (.ref (1005 + 4 * r)), some (.int 1), none, none] [] (am_h w g) (.inl none) (am_h (aw_pg w tl sp (aw_txt aw_tn js js.length) (pg.drop (aw_txt aw_tn js js.length).length)) g) := by
  refine am_R.nxs 2 (pc' := 2) (lv' := [some (.ref 1001), some (.ref (1005 + 4 * r)), some (.int 1), none, none]) (st' := [.int 0, .ref 1001]) (h1 := am_h w g) rfl ?_
  refine am_R.pf (k := 3) (pc' := 5) rfl (am_wf 1 (by decide) h1) rfl (Nat.le_of_ble_eq_true rfl) rfl (fun q => by cases q) (am_ws (k := 1) (by decide) (by decide)) rfl ?_
  refine am_R.nxs 2 (pc' := 7) (lv' := [some (.ref 1001), some (.ref (1005 + 4 * r)), some (.int 1), some (.int 0), none]) (st' := []) (h1 := am_h (am_pu w 1 (aw_c1 tl 0 sp)) g) rfl ?_
  rw [aw_pg_zero h3]
  have k := aw_k87lb (w := w) (g := g) (tl := tl) (sp := sp) d hr hT hW hwl hjs hpl hp js.length 0 none (Nat.zero_add _)
  rw [show aw_txt aw_tn js 0 = [] from rfl, List.length_nil, List.drop_zero] at k
  exact k
theorem aw_k92a {w : Nat → am_C} {g : am_H} (d : Nat) {tl pl sp : Nat} (h1 : w 1 = aw_c1 tl pl sp) {rs : List Value} (h4 : w 4 = .inr (5, rs)) (hl : rs.length = 3) {k r : Nat} (hk : k < 3) (hr : r < 4) (hrs : rs[k]? = some (.ref (1005 + 4 * r))) {js : List Nat} {bc sc ic cc dp rd : Int32} (hT : w (5 + 4 * r) = aw_cT r (Int32.ofNat js.length) bc sc ic cc dp rd) {ws : List Value} (hW : w (6 + 4 * r) = .inr (4, ws)) (hwl : ws.length = 120) (hjs : aw_ws ws js) {pg : List Int32} (hpl : pg.length = 480) (hp : aw_pgl js ≤ 400) (h3 : w 3 = am_I 1 pg) (hd : rd = 1) : am_R (d + 5) 92 0 [some (.ref 1001), some (.int (Int32.ofNat k))] [] (am_h w g) (.inl (some (.int (Int32.ofNat (aw_txt aw_tn js js.length).length)))) (am_h (aw_pg w tl sp (aw_txt aw_tn js js.length) (pg.drop (aw_txt aw_tn js js.length).length)) g) := by
  refine am_R.nxs 3 (pc' := 3) (lv' := [some (.ref 1001), some (.int (Int32.ofNat k))]) (st' := [.int (Int32.ofNat k), .ref 1001, .ref 1001]) (h1 := am_h w g) rfl ?_
  refine am_R.cv (a := 1001) (as' := [.int (Int32.ofNat k)]) (r := [.ref 1001]) (v := some (.ref (1005 + 4 * r))) (h1 := am_h w g) (pc' := 6) rfl rfl rfl rfl (am_wf 1 (by decide) h1) rfl rfl (aw_k69a (d + 3) h1 h4 hl hk hr hrs hT hd) rfl ?_
  refine am_R.nxs 1 (pc' := 7) (lv' := [some (.ref 1001), some (.int (Int32.ofNat k))]) (st' := [.int 1, .ref (1005 + 4 * r), .ref 1001]) (h1 := am_h w g) rfl ?_
  refine am_R.cv (a := 1001) (as' := [.ref (1005 + 4 * r), .int 1]) (r := []) (v := none) (h1 := am_h (aw_pg w tl sp (aw_txt aw_tn js js.length) (pg.drop (aw_txt aw_tn js js.length).length)) g) (pc' := 10) rfl rfl rfl rfl (am_wf 1 (by decide) h1) rfl rfl (aw_k87b d hr hT hW hwl hjs hpl hp h1 h3) rfl ?_
  refine am_R.nxs 1 (pc' := 11) (lv' := [some (.ref 1001), some (.int (Int32.ofNat k))]) (st' := [.ref 1001]) (h1 := am_h (aw_pg w tl sp (aw_txt aw_tn js js.length) (pg.drop (aw_txt aw_tn js js.length).length)) g) rfl ?_
  refine am_R.gf (pc' := 14) (v := .int (Int32.ofNat ((aw_txt aw_tn js js.length).length))) rfl (am_wf 1 (by decide) (rfl : (aw_pg w tl sp (aw_txt aw_tn js js.length) (pg.drop (aw_txt aw_tn js js.length).length)) 1 = _)) rfl rfl rfl ?_
  exact am_R.reti rfl rfl rfl
theorem aw_k92b {w : Nat → am_C} {g : am_H} (d : Nat) {tl pl sp : Nat} (h1 : w 1 = aw_c1 tl pl sp) {rs : List Value} (h4 : w 4 = .inr (5, rs)) (hl : rs.length = 3) {k r : Nat} (hk : k < 3) (hr : r < 4) (hrs : rs[k]? = some (.ref (1005 + 4 * r))) {wc bc sc ic cc dp rd : Int32} (hT : w (5 + 4 * r) = aw_cT r wc bc sc ic cc dp rd) (hd : rd = 0) : am_R (d + 2) 92 0 [some (.ref 1001), some (.int (Int32.ofNat k))] [] (am_h w g) (.inr (1000 + (am_h w g).length)) (am_h w (g ++ [.inl (9, [])])) := by
  refine am_R.nxs 3 (pc' := 3) (lv' := [some (.ref 1001), some (.int (Int32.ofNat k))]) (st' := [.int (Int32.ofNat k), .ref 1001, .ref 1001]) (h1 := am_h w g) rfl ?_
  exact am_R.cvp (a := 1001) (as' := [.int (Int32.ofNat k)]) (r := [.ref 1001]) rfl rfl rfl rfl (am_wf 1 (by decide) h1) rfl rfl (aw_k69b d h1 h4 hl hk hr hrs hT hd) rfl
theorem aw_k92c {w : Nat → am_C} {g : am_H} (d : Nat) {tl pl sp : Nat} (h1 : w 1 = aw_c1 tl pl sp) (s : Int32) (hs : s < 0 ∨ ¬ s < 3) : am_R (d + 2) 92 0 [some (.ref 1001), some (.int s)] [] (am_h w g) (.inr (1000 + (am_h w g).length)) (am_h w (g ++ [.inl (8, [])])) := by
  refine am_R.nxs 3 (pc' := 3) (lv' := [some (.ref 1001), some (.int s)]) (st' := [.int s, .ref 1001, .ref 1001]) (h1 := am_h w g) rfl ?_
  exact am_R.cvp (a := 1001) (as' := [.int s]) (r := [.ref 1001]) rfl rfl rfl rfl (am_wf 1 (by decide) h1) rfl rfl (aw_k69c d h1 s hs) rfl
