/-! tell and turned of the reference, and their calls in the law. -/
def aw_tqL : List Nat := [0, 1, 2, 3, 4, 5, 6, 7, 8, 36, 9, 13, 14, 15, 16, 23, 24, 18, 11, 10, 12, 19, 20, 21, 22, 17, 31, 32, 33, 34, 35, 25, 26, 27, 28, 29, 30]
def aw_tq (j : Nat) : Nat := aw_tqL.getD j 0
theorem aw_tqA : ∀ j, j < 37 → aw_tau j = Int32.ofNat (aw_tq j) ∧ aw_tq j < 37 ∧ (aw_tq j = 15 → aw_by j = [40]) ∧ (aw_tq j = 16 → aw_by j = [41]) := by decide
/-- the highest power of 32 that is not above v -/
def aw_u : Nat → Int64 → Int64 → Option Int64
  | 0, _, _ => none
  | n + 1, u, v => if 0 < lg_cmp (u * 32) v then some u else aw_u n (u * 32) v
/-- the digits of v -/
def aw_dg : Nat → Int64 → Int64 → Option (List Int32)
  | 0, _, _ => none
  | n + 1, u, v => if lg_cmp u 0 ≤ 0 then some [] else if lg_cmp v 0 ≤ 0 then some [] else (aw_dg n (u / 32) v).map (fun l => (96 + (v / u - v / u / 32 * 32).toInt32) :: l)
/-- the letters of a name -/
def aw_lt (v : Int64) : Option (List Int32) := (aw_u 12 1 v).bind (fun u => aw_dg 12 u v)
def aw_nmB (j : Nat) : Bool := match aw_lt (aw_n1.getD (aw_tq j) 0), aw_lt (aw_n2.getD (aw_tq j) 0) with
  | some a, some b => decide (a ++ b = aw_by j)
  | _, _ => false
theorem aw_nmA : (List.range 37).all (fun j => decide (j = 13) || decide (j = 14) || aw_nmB j) = true := by decide +kernel
theorem aw_tq15 : ∀ j, j < 37 → (j = 13 → aw_tq j = 15) ∧ (j = 14 → aw_tq j = 16) := by decide
theorem aw_nm {j : Nat} (hj : j < 37) (h1 : ¬ aw_tq j = 15) (h2 : ¬ aw_tq j = 16) : ∃ a b, aw_lt (aw_n1.getD (aw_tq j) 0) = some a ∧ aw_lt (aw_n2.getD (aw_tq j) 0) = some b ∧ a ++ b = aw_by j := by
  have q := List.all_eq_true.mp aw_nmA j (List.mem_range.mpr hj)
  simp only [Bool.or_eq_true, decide_eq_true_eq] at q
  rcases q with (q | q) | q
  · exact absurd ((aw_tq15 j hj).1 q) h1
  · exact absurd ((aw_tq15 j hj).2 q) h2
  · unfold aw_nmB at q
    split at q
    · rename_i a b ha hb
      exact ⟨a, b, ha, hb, of_decide_eq_true q⟩
    · cases q
section AmLd
variable {d mi pc pc' len : Nat} {lv : am_L} {st : List Value} {h h' : am_H} {o : am_O}
theorem am_R.ldL {a i : Nat} {xs : List Int64} (hc : am_code mi pc = some (.laload, len)) (ha : am_at h a = some (.inr (3, xs.map Value.long))) (hi : i < xs.length) (hl : xs.length < 2 ^ 31) (hq : pc + len = pc') (k1 : am_R d mi pc' lv (.long (xs.getD i 0) :: st) h o h') : am_R d mi pc lv (.int (Int32.ofNat i) :: .ref a :: st) h o h' := by
  subst hq
  refine am_R.nx (pc' := pc + len) (lv' := lv) (st' := .long (xs.getD i 0) :: st) (h1 := h) ?_ k1
  have hv : (xs.map Value.long)[i]? = some (.long (xs.getD i 0)) := by
    rw [List.getElem?_map, List.getD_eq_getElem?_getD, List.getElem?_eq_getElem hi]
    rfl
  have hx := am_el_ok (st := st) (t := 3) ha (by rw [List.length_map]; exact hi) (by rw [List.length_map]; exact hl) hv
  simp [am_nx, hc, am_ret, am_thr, am_inv, am_one, am_push, am_sto, am_ari, am_br, am_rd, hx]
theorem am_R.ldv {x y : Int64} (hc : am_code mi pc = some (.ldiv, len)) (hy : ¬ y = 0) (hq : pc + len = pc') (k1 : am_R d mi pc' lv (.long (x / y) :: st) h o h') : am_R d mi pc lv (.long y :: .long x :: st) h o h' := by
  subst hq
  refine am_R.nx (pc' := pc + len) (lv' := lv) (st' := .long (x / y) :: st) (h1 := h) ?_ k1
  simp [am_nx, hc, am_ret, am_thr, am_inv, am_one, am_push, am_sto, am_ari, hy]
end AmLd
/-- the reference's page holds Q, then S -/
def aw_mg (w : Nat → am_C) (ft ty wd wt sn : Int32) (Q S : List Int32) : Nat → am_C := am_pu (am_pu w 23 (am_I 0 (Q ++ S))) 21 (aw_c21 ft ty (Int32.ofNat Q.length) wd wt sn)
theorem aw_mg_put {w : Nat → am_C} {ft ty wd wt sn : Int32} {Q S : List Int32} {c : Int32} (hS : 0 < S.length) : am_pu (am_pu (aw_mg w ft ty wd wt sn Q S) 23 (am_I 0 ((Q ++ S).set Q.length c))) 21 (aw_c21 ft ty (Int32.ofNat (Q.length + 1)) wd wt sn) = aw_mg w ft ty wd wt sn (Q ++ [c]) (S.drop 1) := by
  have e : (Q ++ S).set Q.length c = (Q ++ [c]) ++ S.drop 1 := by
    cases S with
    | nil => cases hS
    | cons a S => simp
  rw [e]
  funext j
  simp only [aw_mg, am_pu, List.length_append, List.length_singleton]
  (repeat' split) <;> first | rfl | omega
theorem aw_mg_zero {w : Nat → am_C} {ft ty wd wt sn wr : Int32} {mp : List Int32} (h23 : w 23 = am_I 0 mp) : am_pu (am_pu w 21 (aw_c21 ft ty wr wd wt sn)) 21 (aw_c21 ft ty 0 wd wt sn) = aw_mg w ft ty wd wt sn [] mp := by
  funext j
  simp only [aw_mg, am_pu, List.nil_append, List.length_nil]
  (repeat' split) <;> first | rfl | omega | (rename_i e; rw [e, h23])
theorem aw_mg_other {w : Nat → am_C} {ft ty wd wt sn : Int32} {Q S : List Int32} {k : Nat} {c : am_C} (h1 : k ≠ 21) (h2 : k ≠ 23) (h : w k = c) : aw_mg w ft ty wd wt sn Q S k = c := by
  unfold aw_mg
  rw [am_pu_ne h1, am_pu_ne h2]
  exact h
theorem aw_k145 {w : Nat → am_C} {g : am_H} (d : Nat) {ft ty wd wt sn : Int32} {Q S : List Int32} (c : Int32) (hl : Q.length + S.length = 400) (hS : 0 < S.length) : am_R d 145 0 [some (.ref 1021), some (.int c)] [] (am_h (aw_mg w ft ty wd wt sn Q S) g) (.inl none) (am_h (aw_mg w ft ty wd wt sn (Q ++ [c]) (S.drop 1)) g) := by
  have hl : (Q ++ S).length = 400 := by rw [List.length_append]; exact hl
  refine am_R.nxs 1 (pc' := 1) (lv' := [some (.ref 1021), some (.int c)]) (st' := [.ref 1021]) (h1 := am_h (aw_mg w ft ty wd wt sn Q S) g) rfl ?_
  refine am_R.gf (pc' := 4) (v := .ref 1023) rfl (am_wf 21 (by decide) (rfl : (aw_mg w ft ty wd wt sn Q S) 21 = _)) rfl rfl rfl ?_
  refine am_R.nxs 1 (pc' := 5) (lv' := [some (.ref 1021), some (.int c)]) (st' := [.ref 1021, .ref 1023]) (h1 := am_h (aw_mg w ft ty wd wt sn Q S) g) rfl ?_
  refine am_R.gf (pc' := 8) (v := .int (Int32.ofNat Q.length)) rfl (am_wf 21 (by decide) (rfl : (aw_mg w ft ty wd wt sn Q S) 21 = _)) rfl rfl rfl ?_
  refine am_R.nxs 1 (pc' := 9) (lv' := [some (.ref 1021), some (.int c)]) (st' := [.int c, .int (Int32.ofNat Q.length), .ref 1023]) (h1 := am_h (aw_mg w ft ty wd wt sn Q S) g) rfl ?_
  refine am_R.sti (i := Q.length) (xs := (Q ++ S)) (pc' := 10) rfl (am_wf 23 (by decide) (rfl : (aw_mg w ft ty wd wt sn Q S) 23 = _)) (by omega) (by omega) (am_ws (k := 23) (by decide) (by decide)) rfl ?_
  refine am_R.nxs 2 (pc' := 12) (lv' := [some (.ref 1021), some (.int c)]) (st' := [.ref 1021, .ref 1021]) (h1 := am_h (am_pu (aw_mg w ft ty wd wt sn Q S) 23 (am_I 0 ((Q ++ S).set Q.length c))) g) rfl ?_
  refine am_R.gf (pc' := 15) (v := .int (Int32.ofNat Q.length)) rfl (am_wf 21 (by decide) (rfl : (aw_mg w ft ty wd wt sn Q S) 21 = _)) rfl rfl rfl ?_
  refine am_R.nxs 2 (pc' := 17) (lv' := [some (.ref 1021), some (.int c)]) (st' := [.int (Int32.ofNat Q.length + 1), .ref 1021]) (h1 := am_h (am_pu (aw_mg w ft ty wd wt sn Q S) 23 (am_I 0 ((Q ++ S).set Q.length c))) g) rfl ?_
  rw [show (Int32.ofNat Q.length + 1 : Int32) = Int32.ofNat (Q.length + 1) from am_add Q.length 1]
  refine am_R.pf (k := 3) (pc' := 20) rfl (am_wf 21 (by decide) (rfl : (aw_mg w ft ty wd wt sn Q S) 21 = _)) rfl (Nat.le_of_ble_eq_true rfl) rfl (fun q => by cases q) (am_ws (k := 21) (by decide) (by decide)) rfl ?_
  rw [← aw_mg_put (by omega)]
  exact am_R.ret rfl rfl
theorem aw_k146u (d : Nat) (h h' : am_H) (v U : Int64) : ∀ (n : Nat) (u : Int64), aw_u n u v = some U → am_R d 146 21 [some (.ref 1021), some (.long v), none, some (.long U), none] [] h (.inl none) h' → am_R d 146 2 [some (.ref 1021), some (.long v), none, some (.long u), none] [] h (.inl none) h' := by
  intro n
  induction n with
  | zero => intro u e; cases e
  | succ n ih =>
    intro u e k
    rw [aw_u] at e
    refine am_R.ites 6 (P := 0 < (lg_cmp (u * 32) v)) (T := 21) (F := 12) (lv' := [some (.ref 1021), some (.long v), none, some (.long u), none]) (st' := []) (h1 := h) rfl (fun b9 => ?_) (fun b9 => ?_)
    · rw [if_pos b9] at e
      cases e
      exact k
    · refine am_R.nxs 5 (pc' := 2) (lv' := [some (.ref 1021), some (.long v), none, some (.long (u * 32)), none]) (st' := []) (h1 := h) rfl ?_
      rw [if_neg b9] at e
      exact ih _ e k
theorem aw_k146d {w : Nat → am_C} {g : am_H} (d : Nat) {ft ty wd wt sn : Int32} (v : Int64) : ∀ (n : Nat) (u : Int64) (l : List Int32) (Q S : List Int32), aw_dg n u v = some l → Q.length + S.length = 400 → l.length ≤ S.length → am_R (d + 1) 146 21 [some (.ref 1021), some (.long v), none, some (.long u), none] [] (am_h (aw_mg w ft ty wd wt sn Q S) g) (.inl none) (am_h (aw_mg w ft ty wd wt sn (Q ++ l) (S.drop l.length)) g) := by
  intro n
  induction n with
  | zero => intro u l Q S e; cases e
  | succ n ih =>
    intro u l Q S e hl hS
    rw [aw_dg] at e
    refine am_R.ites 4 (P := (lg_cmp u 0) ≤ 0) (T := 57) (F := 27) (lv' := [some (.ref 1021), some (.long v), none, some (.long u), none]) (st' := []) (h1 := am_h (aw_mg w ft ty wd wt sn Q S) g) rfl (fun b24 => ?_) (fun b24 => ?_)
    · rw [if_pos b24] at e
      cases e
      rw [List.append_nil, List.length_nil, List.drop_zero]
      exact am_R.ret rfl rfl
    · refine am_R.ites 4 (P := (lg_cmp v 0) ≤ 0) (T := 57) (F := 33) (lv' := [some (.ref 1021), some (.long v), none, some (.long u), none]) (st' := []) (h1 := am_h (aw_mg w ft ty wd wt sn Q S) g) rfl (fun b30 => ?_) (fun b30 => ?_)
      · rw [if_neg b24, if_pos b30] at e
        cases e
        rw [List.append_nil, List.length_nil, List.drop_zero]
        exact am_R.ret rfl rfl
      · rw [if_neg b24, if_neg b30] at e
        have hu : ¬ u = 0 := fun q => b24 (by rw [q]; decide)
        obtain ⟨l', e1, e2⟩ := Option.map_eq_some_iff.mp e
        subst e2
        rw [List.length_cons] at hS
        refine am_R.nxs 4 (pc' := 38) (lv' := [some (.ref 1021), some (.long v), none, some (.long u), none]) (st' := [.long u, .long v, .int 96, .ref 1021]) (h1 := am_h (aw_mg w ft ty wd wt sn Q S) g) rfl ?_
        refine am_R.ldv (pc' := 39) rfl hu rfl ?_
        refine am_R.nxs 4 (pc' := 45) (lv' := [some (.ref 1021), some (.long v), none, some (.long u), none]) (st' := [.int (96 + (((v / u) - (v / u) / 32 * 32)).toInt32), .ref 1021]) (h1 := am_h (aw_mg w ft ty wd wt sn Q S) g) rfl ?_
        refine am_R.cv (a := 1021) (as' := [.int (96 + (((v / u) - (v / u) / 32 * 32)).toInt32)]) (r := []) (v := none) (h1 := am_h (aw_mg w ft ty wd wt sn (Q ++ [(96 + (v / u - v / u / 32 * 32).toInt32)]) (S.drop 1)) g) (pc' := 48) rfl rfl rfl rfl (am_wf 21 (by decide) (rfl : (aw_mg w ft ty wd wt sn Q S) 21 = _)) rfl rfl (aw_k145 d _ hl (by omega)) rfl ?_
        refine am_R.nxs 5 (pc' := 21) (lv' := [some (.ref 1021), some (.long v), none, some (.long (u / 32)), none]) (st' := []) (h1 := am_h (aw_mg w ft ty wd wt sn (Q ++ [(96 + (v / u - v / u / 32 * 32).toInt32)]) (S.drop 1)) g) rfl ?_
        have k := ih (u / 32) l' (Q ++ [(96 + (v / u - v / u / 32 * 32).toInt32)]) (S.drop 1) e1 (by rw [List.length_append, List.length_drop, List.length_singleton]; omega) (by rw [List.length_drop]; omega)
        rw [List.append_assoc, List.drop_drop, Nat.add_comm 1 l'.length] at k
        exact k
theorem aw_k146 {w : Nat → am_C} {g : am_H} (d : Nat) {ft ty wd wt sn : Int32} {Q S : List Int32} (v : Int64) (l : List Int32) (hv : aw_lt v = some l) (hl : Q.length + S.length = 400) (hS : l.length ≤ S.length) : am_R (d + 1) 146 0 [some (.ref 1021), some (.long v), none, none, none] [] (am_h (aw_mg w ft ty wd wt sn Q S) g) (.inl none) (am_h (aw_mg w ft ty wd wt sn (Q ++ l) (S.drop l.length)) g) := by
  refine am_R.nxs 2 (pc' := 2) (lv' := [some (.ref 1021), some (.long v), none, some (.long 1), none]) (st' := []) (h1 := am_h (aw_mg w ft ty wd wt sn Q S) g) rfl ?_
  unfold aw_lt at hv
  obtain ⟨U, e1, e2⟩ := Option.bind_eq_some_iff.mp hv
  exact aw_k146u (d + 1) _ _ v U 12 1 e1 (aw_k146d d v 12 U l Q S e2 hl hS)
theorem aw_k144 (d : Nat) (h : am_H) {j : Nat} (hj : j < 37) : am_R d 144 0 [some (.int (Int32.ofNat (aw_tq j)))] [] h (.inl (some (.int (Int32.ofNat (aw_tq (aw_tn j)))))) h := by
  rcases (by omega : j = 0 ∨ j = 1 ∨ j = 2 ∨ j = 3 ∨ j = 4 ∨ j = 5 ∨ j = 6 ∨ j = 7 ∨ j = 8 ∨ j = 9 ∨ j = 10 ∨ j = 11 ∨ j = 12 ∨ j = 13 ∨ j = 14 ∨ j = 15 ∨ j = 16 ∨ j = 17 ∨ j = 18 ∨ j = 19 ∨ j = 20 ∨ j = 21 ∨ j = 22 ∨ j = 23 ∨ j = 24 ∨ j = 25 ∨ j = 26 ∨ j = 27 ∨ j = 28 ∨ j = 29 ∨ j = 30 ∨ j = 31 ∨ j = 32 ∨ j = 33 ∨ j = 34 ∨ j = 35 ∨ j = 36) with rfl | rfl | rfl | rfl | rfl | rfl | rfl | rfl | rfl | rfl | rfl | rfl | rfl | rfl | rfl | rfl | rfl | rfl | rfl | rfl | rfl | rfl | rfl | rfl | rfl | rfl | rfl | rfl | rfl | rfl | rfl | rfl | rfl | rfl | rfl | rfl | rfl
  · refine am_R.nxs 3 (pc' := 41) (lv' := [some (.int 0)]) (st' := [.int 1]) (h1 := h) rfl ?_
    exact am_R.ret rfl rfl
  · refine am_R.nxs 3 (pc' := 43) (lv' := [some (.int 1)]) (st' := [.int 0]) (h1 := h) rfl ?_
    exact am_R.ret rfl rfl
  · refine am_R.nxs 3 (pc' := 45) (lv' := [some (.int 2)]) (st' := [.int 3]) (h1 := h) rfl ?_
    exact am_R.ret rfl rfl
  · refine am_R.nxs 3 (pc' := 47) (lv' := [some (.int 3)]) (st' := [.int 2]) (h1 := h) rfl ?_
    exact am_R.ret rfl rfl
  · refine am_R.nxs 3 (pc' := 49) (lv' := [some (.int 4)]) (st' := [.int 5]) (h1 := h) rfl ?_
    exact am_R.ret rfl rfl
  · refine am_R.nxs 3 (pc' := 51) (lv' := [some (.int 5)]) (st' := [.int 4]) (h1 := h) rfl ?_
    exact am_R.ret rfl rfl
  · refine am_R.nxs 3 (pc' := 53) (lv' := [some (.int 6)]) (st' := [.int 6]) (h1 := h) rfl ?_
    exact am_R.ret rfl rfl
  · refine am_R.nxs 3 (pc' := 53) (lv' := [some (.int 7)]) (st' := [.int 7]) (h1 := h) rfl ?_
    exact am_R.ret rfl rfl
  · refine am_R.nxs 3 (pc' := 53) (lv' := [some (.int 8)]) (st' := [.int 8]) (h1 := h) rfl ?_
    exact am_R.ret rfl rfl
  · refine am_R.nxs 3 (pc' := 53) (lv' := [some (.int 36)]) (st' := [.int 36]) (h1 := h) rfl ?_
    exact am_R.ret rfl rfl
  · refine am_R.nxs 3 (pc' := 53) (lv' := [some (.int 9)]) (st' := [.int 9]) (h1 := h) rfl ?_
    exact am_R.ret rfl rfl
  · refine am_R.nxs 3 (pc' := 53) (lv' := [some (.int 13)]) (st' := [.int 13]) (h1 := h) rfl ?_
    exact am_R.ret rfl rfl
  · refine am_R.nxs 3 (pc' := 53) (lv' := [some (.int 14)]) (st' := [.int 14]) (h1 := h) rfl ?_
    exact am_R.ret rfl rfl
  · refine am_R.nxs 3 (pc' := 53) (lv' := [some (.int 15)]) (st' := [.int 15]) (h1 := h) rfl ?_
    exact am_R.ret rfl rfl
  · refine am_R.nxs 3 (pc' := 53) (lv' := [some (.int 16)]) (st' := [.int 16]) (h1 := h) rfl ?_
    exact am_R.ret rfl rfl
  · refine am_R.nxs 3 (pc' := 53) (lv' := [some (.int 23)]) (st' := [.int 23]) (h1 := h) rfl ?_
    exact am_R.ret rfl rfl
  · refine am_R.nxs 3 (pc' := 53) (lv' := [some (.int 24)]) (st' := [.int 24]) (h1 := h) rfl ?_
    exact am_R.ret rfl rfl
  · refine am_R.nxs 3 (pc' := 53) (lv' := [some (.int 18)]) (st' := [.int 18]) (h1 := h) rfl ?_
    exact am_R.ret rfl rfl
  · refine am_R.nxs 3 (pc' := 53) (lv' := [some (.int 11)]) (st' := [.int 11]) (h1 := h) rfl ?_
    exact am_R.ret rfl rfl
  · refine am_R.nxs 3 (pc' := 53) (lv' := [some (.int 10)]) (st' := [.int 10]) (h1 := h) rfl ?_
    exact am_R.ret rfl rfl
  · refine am_R.nxs 3 (pc' := 53) (lv' := [some (.int 12)]) (st' := [.int 12]) (h1 := h) rfl ?_
    exact am_R.ret rfl rfl
  · refine am_R.nxs 3 (pc' := 53) (lv' := [some (.int 19)]) (st' := [.int 19]) (h1 := h) rfl ?_
    exact am_R.ret rfl rfl
  · refine am_R.nxs 3 (pc' := 53) (lv' := [some (.int 20)]) (st' := [.int 20]) (h1 := h) rfl ?_
    exact am_R.ret rfl rfl
  · refine am_R.nxs 3 (pc' := 53) (lv' := [some (.int 21)]) (st' := [.int 21]) (h1 := h) rfl ?_
    exact am_R.ret rfl rfl
  · refine am_R.nxs 3 (pc' := 53) (lv' := [some (.int 22)]) (st' := [.int 22]) (h1 := h) rfl ?_
    exact am_R.ret rfl rfl
  · refine am_R.nxs 3 (pc' := 53) (lv' := [some (.int 17)]) (st' := [.int 17]) (h1 := h) rfl ?_
    exact am_R.ret rfl rfl
  · refine am_R.nxs 3 (pc' := 53) (lv' := [some (.int 31)]) (st' := [.int 31]) (h1 := h) rfl ?_
    exact am_R.ret rfl rfl
  · refine am_R.nxs 3 (pc' := 53) (lv' := [some (.int 32)]) (st' := [.int 32]) (h1 := h) rfl ?_
    exact am_R.ret rfl rfl
  · refine am_R.nxs 3 (pc' := 53) (lv' := [some (.int 33)]) (st' := [.int 33]) (h1 := h) rfl ?_
    exact am_R.ret rfl rfl
  · refine am_R.nxs 3 (pc' := 53) (lv' := [some (.int 34)]) (st' := [.int 34]) (h1 := h) rfl ?_
    exact am_R.ret rfl rfl
  · refine am_R.nxs 3 (pc' := 53) (lv' := [some (.int 35)]) (st' := [.int 35]) (h1 := h) rfl ?_
    exact am_R.ret rfl rfl
  · refine am_R.nxs 3 (pc' := 53) (lv' := [some (.int 25)]) (st' := [.int 25]) (h1 := h) rfl ?_
    exact am_R.ret rfl rfl
  · refine am_R.nxs 3 (pc' := 53) (lv' := [some (.int 26)]) (st' := [.int 26]) (h1 := h) rfl ?_
    exact am_R.ret rfl rfl
  · refine am_R.nxs 3 (pc' := 53) (lv' := [some (.int 27)]) (st' := [.int 27]) (h1 := h) rfl ?_
    exact am_R.ret rfl rfl
  · refine am_R.nxs 3 (pc' := 53) (lv' := [some (.int 28)]) (st' := [.int 28]) (h1 := h) rfl ?_
    exact am_R.ret rfl rfl
  · refine am_R.nxs 3 (pc' := 53) (lv' := [some (.int 29)]) (st' := [.int 29]) (h1 := h) rfl ?_
    exact am_R.ret rfl rfl
  · refine am_R.nxs 3 (pc' := 53) (lv' := [some (.int 30)]) (st' := [.int 30]) (h1 := h) rfl ?_
    exact am_R.ret rfl rfl
theorem aw_k143la {w : Nat → am_C} {g : am_H} (d : Nat) {ft ty wd wt sn : Int32} {ma : List Int32} (h27 : w 27 = am_I 0 ma) (l27 : ma.length = 3) {to : List Int32} (h26 : w 26 = am_I 0 to) (l26 : to.length = 360) (h24 : w 24 = .inr (3, aw_n1.map Value.long)) (h25 : w 25 = .inr (3, aw_n2.map Value.long)) {k : Nat} (hk : k < 3) {js : List Nat} (hmk : ma.getD k 0 = Int32.ofNat js.length) (hl2 : js.length ≤ 120) (ht : ∀ z a : Nat, js[z]? = some a → a < 37 ∧ to.getD (120 * k + z) 0 = aw_tau a) {mp : List Int32} (hpl : mp.length = 400) (hp : aw_pgl js ≤ 400) : ∀ m i : Nat, ∀ x4 : Option Value, i + m = js.length → am_R (d + 2) 143 22 [some (.ref 1021), some (.int (Int32.ofNat k)), some (.int 0), some (.int (Int32.ofNat i)), x4] [] (am_h (aw_mg w ft ty wd wt sn (aw_txt (fun j => j) js i) (mp.drop (aw_txt (fun j => j) js i).length)) g) (.inl (some (.int (Int32.ofNat (aw_txt (fun j => j) js js.length).length)))) (am_h (aw_mg w ft ty wd wt sn (aw_txt (fun j => j) js js.length) (mp.drop (aw_txt (fun j => j) js js.length).length)) g) := by
  have h37 : ∀ z a : Nat, js[z]? = some a → a < 37 := fun z a h => (ht z a h).1
  have hn1 : aw_n1.length = 37 := rfl
  have hn2 : aw_n2.length = 37 := rfl
  intro m
  induction m with
  | zero =>
    intro i x4 hi
    have hi9 : i = js.length := by omega
    subst hi9
    refine am_R.nxs 2 (pc' := 24) (lv' := [some (.ref 1021), some (.int (Int32.ofNat k)), some (.int 0), some (.int (Int32.ofNat js.length)), x4]) (st' := [.ref 1021, .int (Int32.ofNat js.length)]) (h1 := am_h (aw_mg w ft ty wd wt sn (aw_txt (fun j => j) js js.length) (mp.drop (aw_txt (fun j => j) js js.length).length)) g) rfl ?_
    refine am_R.gf (pc' := 27) (v := .ref 1027) rfl (am_wf 21 (by decide) (rfl : (aw_mg w ft ty wd wt sn (aw_txt (fun j => j) js js.length) (mp.drop (aw_txt (fun j => j) js js.length).length)) 21 = _)) rfl rfl rfl ?_
    refine am_R.nxs 1 (pc' := 28) (lv' := [some (.ref 1021), some (.int (Int32.ofNat k)), some (.int 0), some (.int (Int32.ofNat js.length)), x4]) (st' := [.int (Int32.ofNat k), .ref 1027, .int (Int32.ofNat js.length)]) (h1 := am_h (aw_mg w ft ty wd wt sn (aw_txt (fun j => j) js js.length) (mp.drop (aw_txt (fun j => j) js js.length).length)) g) rfl ?_
    refine am_R.ldi (i := k) (xs := ma) (pc' := 29) rfl (am_wf 27 (by decide) (aw_mg_other (by decide) (by decide) h27 : (aw_mg w ft ty wd wt sn (aw_txt (fun j => j) js js.length) (mp.drop (aw_txt (fun j => j) js js.length).length)) 27 = _)) (by omega) (by omega) rfl ?_
    rw [hmk]
    refine am_R.ites 1 (P := Int32.ofNat js.length ≤ Int32.ofNat js.length) (T := 134) (F := 32) (lv' := [some (.ref 1021), some (.int (Int32.ofNat k)), some (.int 0), some (.int (Int32.ofNat js.length)), x4]) (st' := []) (h1 := am_h (aw_mg w ft ty wd wt sn (aw_txt (fun j => j) js js.length) (mp.drop (aw_txt (fun j => j) js js.length).length)) g) rfl (fun b29 => ?_) (fun b29 => ?_)
    · have b29 : js.length ≤ js.length := (am_leN (i := js.length) (n := js.length) (by omega) (by omega)).mp b29
      refine am_R.nxs 1 (pc' := 135) (lv' := [some (.ref 1021), some (.int (Int32.ofNat k)), some (.int 0), some (.int (Int32.ofNat js.length)), x4]) (st' := [.ref 1021]) (h1 := am_h (aw_mg w ft ty wd wt sn (aw_txt (fun j => j) js js.length) (mp.drop (aw_txt (fun j => j) js js.length).length)) g) rfl ?_
      refine am_R.gf (pc' := 138) (v := .int (Int32.ofNat ((aw_txt (fun j => j) js js.length).length))) rfl (am_wf 21 (by decide) (rfl : (aw_mg w ft ty wd wt sn (aw_txt (fun j => j) js js.length) (mp.drop (aw_txt (fun j => j) js js.length).length)) 21 = _)) rfl rfl rfl ?_
      exact am_R.reti rfl rfl rfl
    · have b29 : ¬ js.length ≤ js.length := fun hq9 => b29 ((am_leN (i := js.length) (n := js.length) (by omega) (by omega)).mpr hq9)
      omega
  | succ m ih =>
    intro i x4 hi
    obtain ⟨a, ha⟩ : ∃ a, js[i]? = some a := ⟨_, List.getElem?_eq_getElem (by omega)⟩
    have hd : js.getD i 0 = a := by rw [List.getD_eq_getElem?_getD, ha]; rfl
    have ha37 := h37 i a ha
    have hf37 : a < 37 := (aw_how0 a ha37).1
    have htq := (aw_tqA a ha37).2.1
    have htq2 := (aw_tqA a hf37).2.1
    have t0 := aw_txt_400 aw_how0 h37 hp (i := i) (by omega)
    have t1 := aw_txt_400 aw_how0 h37 hp (i := i + 1) (by omega)
    rw [aw_txt, hd, List.length_append, List.length_append] at t1
    have t2 : i = 0 → (if i = 0 then ([] : List Int32) else [32]).length = 0 := fun q => by rw [if_pos q]; rfl
    have t3 : ¬ i = 0 → (if i = 0 then ([] : List Int32) else [32]).length = 1 := fun q => by rw [if_neg q]; rfl
    refine am_R.nxs 2 (pc' := 24) (lv' := [some (.ref 1021), some (.int (Int32.ofNat k)), some (.int 0), some (.int (Int32.ofNat i)), x4]) (st' := [.ref 1021, .int (Int32.ofNat i)]) (h1 := am_h (aw_mg w ft ty wd wt sn (aw_txt (fun j => j) js i) (mp.drop (aw_txt (fun j => j) js i).length)) g) rfl ?_
    refine am_R.gf (pc' := 27) (v := .ref 1027) rfl (am_wf 21 (by decide) (rfl : (aw_mg w ft ty wd wt sn (aw_txt (fun j => j) js i) (mp.drop (aw_txt (fun j => j) js i).length)) 21 = _)) rfl rfl rfl ?_
    refine am_R.nxs 1 (pc' := 28) (lv' := [some (.ref 1021), some (.int (Int32.ofNat k)), some (.int 0), some (.int (Int32.ofNat i)), x4]) (st' := [.int (Int32.ofNat k), .ref 1027, .int (Int32.ofNat i)]) (h1 := am_h (aw_mg w ft ty wd wt sn (aw_txt (fun j => j) js i) (mp.drop (aw_txt (fun j => j) js i).length)) g) rfl ?_
    refine am_R.ldi (i := k) (xs := ma) (pc' := 29) rfl (am_wf 27 (by decide) (aw_mg_other (by decide) (by decide) h27 : (aw_mg w ft ty wd wt sn (aw_txt (fun j => j) js i) (mp.drop (aw_txt (fun j => j) js i).length)) 27 = _)) (by omega) (by omega) rfl ?_
    rw [hmk]
    refine am_R.ites 1 (P := Int32.ofNat js.length ≤ Int32.ofNat i) (T := 134) (F := 32) (lv' := [some (.ref 1021), some (.int (Int32.ofNat k)), some (.int 0), some (.int (Int32.ofNat i)), x4]) (st' := []) (h1 := am_h (aw_mg w ft ty wd wt sn (aw_txt (fun j => j) js i) (mp.drop (aw_txt (fun j => j) js i).length)) g) rfl (fun b29 => ?_) (fun b29 => ?_)
    · have b29 : js.length ≤ i := (am_leN (i := js.length) (n := i) (by omega) (by omega)).mp b29
      omega
    · have b29 : ¬ js.length ≤ i := fun hq9 => b29 ((am_leN (i := js.length) (n := i) (by omega) (by omega)).mpr hq9)
      refine am_R.nxs 1 (pc' := 33) (lv' := [some (.ref 1021), some (.int (Int32.ofNat k)), some (.int 0), some (.int (Int32.ofNat i)), x4]) (st' := [.ref 1021]) (h1 := am_h (aw_mg w ft ty wd wt sn (aw_txt (fun j => j) js i) (mp.drop (aw_txt (fun j => j) js i).length)) g) rfl ?_
      refine am_R.gf (pc' := 36) (v := .ref 1026) rfl (am_wf 21 (by decide) (rfl : (aw_mg w ft ty wd wt sn (aw_txt (fun j => j) js i) (mp.drop (aw_txt (fun j => j) js i).length)) 21 = _)) rfl rfl rfl ?_
      refine am_R.nxs 3 (pc' := 40) (lv' := [some (.ref 1021), some (.int (Int32.ofNat k)), some (.int 0), some (.int (Int32.ofNat i)), x4]) (st' := [.int (120 * Int32.ofNat k), .ref 1026]) (h1 := am_h (aw_mg w ft ty wd wt sn (aw_txt (fun j => j) js i) (mp.drop (aw_txt (fun j => j) js i).length)) g) rfl ?_
      rw [show (120 * Int32.ofNat k : Int32) = Int32.ofNat (120 * k) from am_mul 120 k]
      refine am_R.nxs 2 (pc' := 42) (lv' := [some (.ref 1021), some (.int (Int32.ofNat k)), some (.int 0), some (.int (Int32.ofNat i)), x4]) (st' := [.int (Int32.ofNat (120 * k) + Int32.ofNat i), .ref 1026]) (h1 := am_h (aw_mg w ft ty wd wt sn (aw_txt (fun j => j) js i) (mp.drop (aw_txt (fun j => j) js i).length)) g) rfl ?_
      rw [show (Int32.ofNat (120 * k) + Int32.ofNat i : Int32) = Int32.ofNat ((120 * k) + i) from am_add (120 * k) i]
      refine am_R.ldi (i := ((120 * k) + i)) (xs := to) (pc' := 43) rfl (am_wf 26 (by decide) (aw_mg_other (by decide) (by decide) h26 : (aw_mg w ft ty wd wt sn (aw_txt (fun j => j) js i) (mp.drop (aw_txt (fun j => j) js i).length)) 26 = _)) (by omega) (by omega) rfl ?_
      rw [(ht i a ha).2, (aw_tqA a ha37).1]
      refine am_R.ites 3 (P := 0 = 0) (T := 57) (F := 49) (lv' := [some (.ref 1021), some (.int (Int32.ofNat k)), some (.int 0), some (.int (Int32.ofNat i)), some (.int (Int32.ofNat (aw_tq a)))]) (st' := []) (h1 := am_h (aw_mg w ft ty wd wt sn (aw_txt (fun j => j) js i) (mp.drop (aw_txt (fun j => j) js i).length)) g) rfl (fun b46 => ?_) (fun b46 => ?_)
      · refine am_R.ites 4 (P := Int32.ofNat i ≤ 0) (T := 71) (F := 65) (lv' := [some (.ref 1021), some (.int (Int32.ofNat k)), some (.int 0), some (.int (Int32.ofNat i)), some (.int (Int32.ofNat (aw_tq a)))]) (st' := []) (h1 := am_h (aw_mg w ft ty wd wt sn (aw_txt (fun j => j) js i) (mp.drop (aw_txt (fun j => j) js i).length)) g) rfl (fun b62 => ?_) (fun b62 => ?_)
        · have b62 : i ≤ 0 := (am_leN (i := i) (n := 0) (by omega) (by omega)).mp b62
          refine am_R.ites 3 (P := Int32.ofNat (aw_tq a) = 15) (T := 85) (F := 78) (lv' := [some (.ref 1021), some (.int (Int32.ofNat k)), some (.int 0), some (.int (Int32.ofNat i)), some (.int (Int32.ofNat (aw_tq a)))]) (st' := []) (h1 := am_h (aw_mg w ft ty wd wt sn (aw_txt (fun j => j) js i) (mp.drop (aw_txt (fun j => j) js i).length)) g) rfl (fun b75 => ?_) (fun b75 => ?_)
          · have b75 : (aw_tq a) = 15 := (am_eqN (i := (aw_tq a)) (n := 15) (by omega) (by omega)).mp b75
            have hby := (aw_tqA a hf37).2.2.1 b75
            have hb1 : (aw_by a).length = 1 := by rw [hby]; rfl
            refine am_R.ites 4 (P := ¬ Int32.ofNat (aw_tq a) = 15) (T := 98) (F := 93) (lv' := [some (.ref 1021), some (.int (Int32.ofNat k)), some (.int 0), some (.int (Int32.ofNat i)), some (.int (Int32.ofNat (aw_tq a)))]) (st' := [.ref 1021]) (h1 := am_h (aw_mg w ft ty wd wt sn (aw_txt (fun j => j) js i) (mp.drop (aw_txt (fun j => j) js i).length)) g) rfl (fun b90 => ?_) (fun b90 => ?_)
            · have b90 : ¬ (aw_tq a) = 15 := fun hq9 => b90 ((am_eqN (i := (aw_tq a)) (n := 15) (by omega) (by omega)).mpr hq9)
              omega
            · have b90 : (aw_tq a) = 15 := (am_eqN (i := (aw_tq a)) (n := 15) (by omega) (by omega)).mp (Decidable.not_not.mp b90)
              refine am_R.nxs 2 (pc' := 100) (lv' := [some (.ref 1021), some (.int (Int32.ofNat k)), some (.int 0), some (.int (Int32.ofNat i)), some (.int (Int32.ofNat (aw_tq a)))]) (st' := [.int 40, .ref 1021]) (h1 := am_h (aw_mg w ft ty wd wt sn (aw_txt (fun j => j) js i) (mp.drop (aw_txt (fun j => j) js i).length)) g) rfl ?_
              refine am_R.cv (a := 1021) (as' := [.int 40]) (r := []) (v := none) (h1 := am_h (aw_mg w ft ty wd wt sn ((aw_txt (fun j => j) js i) ++ [40]) ((mp.drop (aw_txt (fun j => j) js i).length).drop 1)) g) (pc' := 103) rfl rfl rfl rfl (am_wf 21 (by decide) (rfl : (aw_mg w ft ty wd wt sn (aw_txt (fun j => j) js i) (mp.drop (aw_txt (fun j => j) js i).length)) 21 = _)) rfl rfl (aw_k145 (d + 1) 40 (by simp only [List.length_append, List.length_drop, List.length_singleton]; omega) (by simp only [List.length_append, List.length_drop, List.length_singleton]; omega)) rfl ?_
              refine am_R.nxs 2 (pc' := 131) (lv' := [some (.ref 1021), some (.int (Int32.ofNat k)), some (.int 0), some (.int (Int32.ofNat i + 1)), some (.int (Int32.ofNat (aw_tq a)))]) (st' := []) (h1 := am_h (aw_mg w ft ty wd wt sn ((aw_txt (fun j => j) js i) ++ [40]) ((mp.drop (aw_txt (fun j => j) js i).length).drop 1)) g) rfl ?_
              rw [show (Int32.ofNat i + 1 : Int32) = Int32.ofNat (i + 1) from am_add i 1]
              refine am_R.nxs 1 (pc' := 22) (lv' := [some (.ref 1021), some (.int (Int32.ofNat k)), some (.int 0), some (.int (Int32.ofNat (i + 1))), some (.int (Int32.ofNat (aw_tq a)))]) (st' := []) (h1 := am_h (aw_mg w ft ty wd wt sn ((aw_txt (fun j => j) js i) ++ [40]) ((mp.drop (aw_txt (fun j => j) js i).length).drop 1)) g) rfl ?_
              have e1 : ((aw_txt (fun j => j) js i) ++ [40]) = aw_txt (fun j => j) js (i + 1) := by
                rw [aw_txt, hd, hby, if_pos (by omega)]
                rw [List.append_nil]
              have e2 : ((mp.drop (aw_txt (fun j => j) js i).length).drop 1) = mp.drop (aw_txt (fun j => j) js (i + 1)).length := by
                rw [← e1]
                simp only [List.drop_drop, List.length_append, List.length_singleton, Nat.add_assoc]
              rw [e1, e2]
              exact ih (i + 1) _ (by omega)
          · have b75 : ¬ (aw_tq a) = 15 := fun hq9 => b75 ((am_eqN (i := (aw_tq a)) (n := 15) (by omega) (by omega)).mpr hq9)
            refine am_R.ites 3 (P := ¬ Int32.ofNat (aw_tq a) = 16) (T := 106) (F := 85) (lv' := [some (.ref 1021), some (.int (Int32.ofNat k)), some (.int 0), some (.int (Int32.ofNat i)), some (.int (Int32.ofNat (aw_tq a)))]) (st' := []) (h1 := am_h (aw_mg w ft ty wd wt sn (aw_txt (fun j => j) js i) (mp.drop (aw_txt (fun j => j) js i).length)) g) rfl (fun b82 => ?_) (fun b82 => ?_)
            · have b82 : ¬ (aw_tq a) = 16 := fun hq9 => b82 ((am_eqN (i := (aw_tq a)) (n := 16) (by omega) (by omega)).mpr hq9)
              obtain ⟨la, lb, ha1, hb1, hab⟩ := aw_nm hf37 b75 b82
              have hab2 : la.length + lb.length = (aw_by a).length := by rw [← hab, List.length_append]
              refine am_R.nxs 2 (pc' := 108) (lv' := [some (.ref 1021), some (.int (Int32.ofNat k)), some (.int 0), some (.int (Int32.ofNat i)), some (.int (Int32.ofNat (aw_tq a)))]) (st' := [.ref 1021, .ref 1021]) (h1 := am_h (aw_mg w ft ty wd wt sn (aw_txt (fun j => j) js i) (mp.drop (aw_txt (fun j => j) js i).length)) g) rfl ?_
              refine am_R.gf (pc' := 111) (v := .ref 1024) rfl (am_wf 21 (by decide) (rfl : (aw_mg w ft ty wd wt sn (aw_txt (fun j => j) js i) (mp.drop (aw_txt (fun j => j) js i).length)) 21 = _)) rfl rfl rfl ?_
              refine am_R.nxs 1 (pc' := 113) (lv' := [some (.ref 1021), some (.int (Int32.ofNat k)), some (.int 0), some (.int (Int32.ofNat i)), some (.int (Int32.ofNat (aw_tq a)))]) (st' := [.int (Int32.ofNat (aw_tq a)), .ref 1024, .ref 1021]) (h1 := am_h (aw_mg w ft ty wd wt sn (aw_txt (fun j => j) js i) (mp.drop (aw_txt (fun j => j) js i).length)) g) rfl ?_
              refine am_R.ldL (i := aw_tq a) (xs := aw_n1) (pc' := 114) rfl (am_wf 24 (by decide) (aw_mg_other (by decide) (by decide) h24 : (aw_mg w ft ty wd wt sn (aw_txt (fun j => j) js i) (mp.drop (aw_txt (fun j => j) js i).length)) 24 = _)) (by omega) (by omega) rfl ?_
              refine am_R.cv (a := 1021) (as' := [.long (aw_n1.getD (aw_tq a) 0)]) (r := []) (v := none) (h1 := am_h (aw_mg w ft ty wd wt sn ((aw_txt (fun j => j) js i) ++ la) ((mp.drop (aw_txt (fun j => j) js i).length).drop la.length)) g) (pc' := 117) rfl rfl rfl rfl (am_wf 21 (by decide) (rfl : (aw_mg w ft ty wd wt sn (aw_txt (fun j => j) js i) (mp.drop (aw_txt (fun j => j) js i).length)) 21 = _)) rfl rfl (aw_k146 d _ la ha1 (by simp only [List.length_append, List.length_drop, List.length_singleton]; omega) (by simp only [List.length_append, List.length_drop, List.length_singleton]; omega)) rfl ?_
              refine am_R.nxs 2 (pc' := 119) (lv' := [some (.ref 1021), some (.int (Int32.ofNat k)), some (.int 0), some (.int (Int32.ofNat i)), some (.int (Int32.ofNat (aw_tq a)))]) (st' := [.ref 1021, .ref 1021]) (h1 := am_h (aw_mg w ft ty wd wt sn ((aw_txt (fun j => j) js i) ++ la) ((mp.drop (aw_txt (fun j => j) js i).length).drop la.length)) g) rfl ?_
              refine am_R.gf (pc' := 122) (v := .ref 1025) rfl (am_wf 21 (by decide) (rfl : (aw_mg w ft ty wd wt sn ((aw_txt (fun j => j) js i) ++ la) ((mp.drop (aw_txt (fun j => j) js i).length).drop la.length)) 21 = _)) rfl rfl rfl ?_
              refine am_R.nxs 1 (pc' := 124) (lv' := [some (.ref 1021), some (.int (Int32.ofNat k)), some (.int 0), some (.int (Int32.ofNat i)), some (.int (Int32.ofNat (aw_tq a)))]) (st' := [.int (Int32.ofNat (aw_tq a)), .ref 1025, .ref 1021]) (h1 := am_h (aw_mg w ft ty wd wt sn ((aw_txt (fun j => j) js i) ++ la) ((mp.drop (aw_txt (fun j => j) js i).length).drop la.length)) g) rfl ?_
              refine am_R.ldL (i := aw_tq a) (xs := aw_n2) (pc' := 125) rfl (am_wf 25 (by decide) (aw_mg_other (by decide) (by decide) h25 : (aw_mg w ft ty wd wt sn ((aw_txt (fun j => j) js i) ++ la) ((mp.drop (aw_txt (fun j => j) js i).length).drop la.length)) 25 = _)) (by omega) (by omega) rfl ?_
              refine am_R.cv (a := 1021) (as' := [.long (aw_n2.getD (aw_tq a) 0)]) (r := []) (v := none) (h1 := am_h (aw_mg w ft ty wd wt sn (((aw_txt (fun j => j) js i) ++ la) ++ lb) (((mp.drop (aw_txt (fun j => j) js i).length).drop la.length).drop lb.length)) g) (pc' := 128) rfl rfl rfl rfl (am_wf 21 (by decide) (rfl : (aw_mg w ft ty wd wt sn ((aw_txt (fun j => j) js i) ++ la) ((mp.drop (aw_txt (fun j => j) js i).length).drop la.length)) 21 = _)) rfl rfl (aw_k146 d _ lb hb1 (by simp only [List.length_append, List.length_drop, List.length_singleton]; omega) (by simp only [List.length_append, List.length_drop, List.length_singleton]; omega)) rfl ?_
              refine am_R.nxs 1 (pc' := 131) (lv' := [some (.ref 1021), some (.int (Int32.ofNat k)), some (.int 0), some (.int (Int32.ofNat i + 1)), some (.int (Int32.ofNat (aw_tq a)))]) (st' := []) (h1 := am_h (aw_mg w ft ty wd wt sn (((aw_txt (fun j => j) js i) ++ la) ++ lb) (((mp.drop (aw_txt (fun j => j) js i).length).drop la.length).drop lb.length)) g) rfl ?_
              rw [show (Int32.ofNat i + 1 : Int32) = Int32.ofNat (i + 1) from am_add i 1]
              refine am_R.nxs 1 (pc' := 22) (lv' := [some (.ref 1021), some (.int (Int32.ofNat k)), some (.int 0), some (.int (Int32.ofNat (i + 1))), some (.int (Int32.ofNat (aw_tq a)))]) (st' := []) (h1 := am_h (aw_mg w ft ty wd wt sn (((aw_txt (fun j => j) js i) ++ la) ++ lb) (((mp.drop (aw_txt (fun j => j) js i).length).drop la.length).drop lb.length)) g) rfl ?_
              have e1 : (((aw_txt (fun j => j) js i) ++ la) ++ lb) = aw_txt (fun j => j) js (i + 1) := by
                rw [aw_txt, hd, ← hab, if_pos (by omega), ← List.append_assoc]
                rw [List.append_nil]
              have e2 : (((mp.drop (aw_txt (fun j => j) js i).length).drop la.length).drop lb.length) = mp.drop (aw_txt (fun j => j) js (i + 1)).length := by
                rw [← e1]
                simp only [List.drop_drop, List.length_append, List.length_singleton, Nat.add_assoc]
              rw [e1, e2]
              exact ih (i + 1) _ (by omega)
            · have b82 : (aw_tq a) = 16 := (am_eqN (i := (aw_tq a)) (n := 16) (by omega) (by omega)).mp (Decidable.not_not.mp b82)
              have b82 := b82
              have hby := (aw_tqA a hf37).2.2.2 b82
              have hb1 : (aw_by a).length = 1 := by rw [hby]; rfl
              refine am_R.ites 4 (P := ¬ Int32.ofNat (aw_tq a) = 15) (T := 98) (F := 93) (lv' := [some (.ref 1021), some (.int (Int32.ofNat k)), some (.int 0), some (.int (Int32.ofNat i)), some (.int (Int32.ofNat (aw_tq a)))]) (st' := [.ref 1021]) (h1 := am_h (aw_mg w ft ty wd wt sn (aw_txt (fun j => j) js i) (mp.drop (aw_txt (fun j => j) js i).length)) g) rfl (fun b90 => ?_) (fun b90 => ?_)
              · have b90 : ¬ (aw_tq a) = 15 := fun hq9 => b90 ((am_eqN (i := (aw_tq a)) (n := 15) (by omega) (by omega)).mpr hq9)
                refine am_R.nxs 1 (pc' := 100) (lv' := [some (.ref 1021), some (.int (Int32.ofNat k)), some (.int 0), some (.int (Int32.ofNat i)), some (.int (Int32.ofNat (aw_tq a)))]) (st' := [.int 41, .ref 1021]) (h1 := am_h (aw_mg w ft ty wd wt sn (aw_txt (fun j => j) js i) (mp.drop (aw_txt (fun j => j) js i).length)) g) rfl ?_
                refine am_R.cv (a := 1021) (as' := [.int 41]) (r := []) (v := none) (h1 := am_h (aw_mg w ft ty wd wt sn ((aw_txt (fun j => j) js i) ++ [41]) ((mp.drop (aw_txt (fun j => j) js i).length).drop 1)) g) (pc' := 103) rfl rfl rfl rfl (am_wf 21 (by decide) (rfl : (aw_mg w ft ty wd wt sn (aw_txt (fun j => j) js i) (mp.drop (aw_txt (fun j => j) js i).length)) 21 = _)) rfl rfl (aw_k145 (d + 1) 41 (by simp only [List.length_append, List.length_drop, List.length_singleton]; omega) (by simp only [List.length_append, List.length_drop, List.length_singleton]; omega)) rfl ?_
                refine am_R.nxs 2 (pc' := 131) (lv' := [some (.ref 1021), some (.int (Int32.ofNat k)), some (.int 0), some (.int (Int32.ofNat i + 1)), some (.int (Int32.ofNat (aw_tq a)))]) (st' := []) (h1 := am_h (aw_mg w ft ty wd wt sn ((aw_txt (fun j => j) js i) ++ [41]) ((mp.drop (aw_txt (fun j => j) js i).length).drop 1)) g) rfl ?_
                rw [show (Int32.ofNat i + 1 : Int32) = Int32.ofNat (i + 1) from am_add i 1]
                refine am_R.nxs 1 (pc' := 22) (lv' := [some (.ref 1021), some (.int (Int32.ofNat k)), some (.int 0), some (.int (Int32.ofNat (i + 1))), some (.int (Int32.ofNat (aw_tq a)))]) (st' := []) (h1 := am_h (aw_mg w ft ty wd wt sn ((aw_txt (fun j => j) js i) ++ [41]) ((mp.drop (aw_txt (fun j => j) js i).length).drop 1)) g) rfl ?_
                have e1 : ((aw_txt (fun j => j) js i) ++ [41]) = aw_txt (fun j => j) js (i + 1) := by
                  rw [aw_txt, hd, hby, if_pos (by omega)]
                  rw [List.append_nil]
                have e2 : ((mp.drop (aw_txt (fun j => j) js i).length).drop 1) = mp.drop (aw_txt (fun j => j) js (i + 1)).length := by
                  rw [← e1]
                  simp only [List.drop_drop, List.length_append, List.length_singleton, Nat.add_assoc]
                rw [e1, e2]
                exact ih (i + 1) _ (by omega)
              · have b90 : (aw_tq a) = 15 := (am_eqN (i := (aw_tq a)) (n := 15) (by omega) (by omega)).mp (Decidable.not_not.mp b90)
                omega
        · have b62 : ¬ i ≤ 0 := fun hq9 => b62 ((am_leN (i := i) (n := 0) (by omega) (by omega)).mpr hq9)
          refine am_R.nxs 2 (pc' := 68) (lv' := [some (.ref 1021), some (.int (Int32.ofNat k)), some (.int 0), some (.int (Int32.ofNat i)), some (.int (Int32.ofNat (aw_tq a)))]) (st' := [.int 32, .ref 1021]) (h1 := am_h (aw_mg w ft ty wd wt sn (aw_txt (fun j => j) js i) (mp.drop (aw_txt (fun j => j) js i).length)) g) rfl ?_
          refine am_R.cv (a := 1021) (as' := [.int 32]) (r := []) (v := none) (h1 := am_h (aw_mg w ft ty wd wt sn ((aw_txt (fun j => j) js i) ++ [32]) ((mp.drop (aw_txt (fun j => j) js i).length).drop 1)) g) (pc' := 71) rfl rfl rfl rfl (am_wf 21 (by decide) (rfl : (aw_mg w ft ty wd wt sn (aw_txt (fun j => j) js i) (mp.drop (aw_txt (fun j => j) js i).length)) 21 = _)) rfl rfl (aw_k145 (d + 1) 32 (by simp only [List.length_append, List.length_drop, List.length_singleton]; omega) (by simp only [List.length_append, List.length_drop, List.length_singleton]; omega)) rfl ?_
          refine am_R.ites 3 (P := Int32.ofNat (aw_tq a) = 15) (T := 85) (F := 78) (lv' := [some (.ref 1021), some (.int (Int32.ofNat k)), some (.int 0), some (.int (Int32.ofNat i)), some (.int (Int32.ofNat (aw_tq a)))]) (st' := []) (h1 := am_h (aw_mg w ft ty wd wt sn ((aw_txt (fun j => j) js i) ++ [32]) ((mp.drop (aw_txt (fun j => j) js i).length).drop 1)) g) rfl (fun b75 => ?_) (fun b75 => ?_)
          · have b75 : (aw_tq a) = 15 := (am_eqN (i := (aw_tq a)) (n := 15) (by omega) (by omega)).mp b75
            have hby := (aw_tqA a hf37).2.2.1 b75
            have hb1 : (aw_by a).length = 1 := by rw [hby]; rfl
            refine am_R.ites 4 (P := ¬ Int32.ofNat (aw_tq a) = 15) (T := 98) (F := 93) (lv' := [some (.ref 1021), some (.int (Int32.ofNat k)), some (.int 0), some (.int (Int32.ofNat i)), some (.int (Int32.ofNat (aw_tq a)))]) (st' := [.ref 1021]) (h1 := am_h (aw_mg w ft ty wd wt sn ((aw_txt (fun j => j) js i) ++ [32]) ((mp.drop (aw_txt (fun j => j) js i).length).drop 1)) g) rfl (fun b90 => ?_) (fun b90 => ?_)
            · have b90 : ¬ (aw_tq a) = 15 := fun hq9 => b90 ((am_eqN (i := (aw_tq a)) (n := 15) (by omega) (by omega)).mpr hq9)
              omega
            · have b90 : (aw_tq a) = 15 := (am_eqN (i := (aw_tq a)) (n := 15) (by omega) (by omega)).mp (Decidable.not_not.mp b90)
              refine am_R.nxs 2 (pc' := 100) (lv' := [some (.ref 1021), some (.int (Int32.ofNat k)), some (.int 0), some (.int (Int32.ofNat i)), some (.int (Int32.ofNat (aw_tq a)))]) (st' := [.int 40, .ref 1021]) (h1 := am_h (aw_mg w ft ty wd wt sn ((aw_txt (fun j => j) js i) ++ [32]) ((mp.drop (aw_txt (fun j => j) js i).length).drop 1)) g) rfl ?_
              refine am_R.cv (a := 1021) (as' := [.int 40]) (r := []) (v := none) (h1 := am_h (aw_mg w ft ty wd wt sn (((aw_txt (fun j => j) js i) ++ [32]) ++ [40]) (((mp.drop (aw_txt (fun j => j) js i).length).drop 1).drop 1)) g) (pc' := 103) rfl rfl rfl rfl (am_wf 21 (by decide) (rfl : (aw_mg w ft ty wd wt sn ((aw_txt (fun j => j) js i) ++ [32]) ((mp.drop (aw_txt (fun j => j) js i).length).drop 1)) 21 = _)) rfl rfl (aw_k145 (d + 1) 40 (by simp only [List.length_append, List.length_drop, List.length_singleton]; omega) (by simp only [List.length_append, List.length_drop, List.length_singleton]; omega)) rfl ?_
              refine am_R.nxs 2 (pc' := 131) (lv' := [some (.ref 1021), some (.int (Int32.ofNat k)), some (.int 0), some (.int (Int32.ofNat i + 1)), some (.int (Int32.ofNat (aw_tq a)))]) (st' := []) (h1 := am_h (aw_mg w ft ty wd wt sn (((aw_txt (fun j => j) js i) ++ [32]) ++ [40]) (((mp.drop (aw_txt (fun j => j) js i).length).drop 1).drop 1)) g) rfl ?_
              rw [show (Int32.ofNat i + 1 : Int32) = Int32.ofNat (i + 1) from am_add i 1]
              refine am_R.nxs 1 (pc' := 22) (lv' := [some (.ref 1021), some (.int (Int32.ofNat k)), some (.int 0), some (.int (Int32.ofNat (i + 1))), some (.int (Int32.ofNat (aw_tq a)))]) (st' := []) (h1 := am_h (aw_mg w ft ty wd wt sn (((aw_txt (fun j => j) js i) ++ [32]) ++ [40]) (((mp.drop (aw_txt (fun j => j) js i).length).drop 1).drop 1)) g) rfl ?_
              have e1 : (((aw_txt (fun j => j) js i) ++ [32]) ++ [40]) = aw_txt (fun j => j) js (i + 1) := by
                rw [aw_txt, hd, hby, if_neg (by omega)]
              have e2 : (((mp.drop (aw_txt (fun j => j) js i).length).drop 1).drop 1) = mp.drop (aw_txt (fun j => j) js (i + 1)).length := by
                rw [← e1]
                simp only [List.drop_drop, List.length_append, List.length_singleton, Nat.add_assoc]
              rw [e1, e2]
              exact ih (i + 1) _ (by omega)
          · have b75 : ¬ (aw_tq a) = 15 := fun hq9 => b75 ((am_eqN (i := (aw_tq a)) (n := 15) (by omega) (by omega)).mpr hq9)
            refine am_R.ites 3 (P := ¬ Int32.ofNat (aw_tq a) = 16) (T := 106) (F := 85) (lv' := [some (.ref 1021), some (.int (Int32.ofNat k)), some (.int 0), some (.int (Int32.ofNat i)), some (.int (Int32.ofNat (aw_tq a)))]) (st' := []) (h1 := am_h (aw_mg w ft ty wd wt sn ((aw_txt (fun j => j) js i) ++ [32]) ((mp.drop (aw_txt (fun j => j) js i).length).drop 1)) g) rfl (fun b82 => ?_) (fun b82 => ?_)
            · have b82 : ¬ (aw_tq a) = 16 := fun hq9 => b82 ((am_eqN (i := (aw_tq a)) (n := 16) (by omega) (by omega)).mpr hq9)
              obtain ⟨la, lb, ha1, hb1, hab⟩ := aw_nm hf37 b75 b82
              have hab2 : la.length + lb.length = (aw_by a).length := by rw [← hab, List.length_append]
              refine am_R.nxs 2 (pc' := 108) (lv' := [some (.ref 1021), some (.int (Int32.ofNat k)), some (.int 0), some (.int (Int32.ofNat i)), some (.int (Int32.ofNat (aw_tq a)))]) (st' := [.ref 1021, .ref 1021]) (h1 := am_h (aw_mg w ft ty wd wt sn ((aw_txt (fun j => j) js i) ++ [32]) ((mp.drop (aw_txt (fun j => j) js i).length).drop 1)) g) rfl ?_
              refine am_R.gf (pc' := 111) (v := .ref 1024) rfl (am_wf 21 (by decide) (rfl : (aw_mg w ft ty wd wt sn ((aw_txt (fun j => j) js i) ++ [32]) ((mp.drop (aw_txt (fun j => j) js i).length).drop 1)) 21 = _)) rfl rfl rfl ?_
              refine am_R.nxs 1 (pc' := 113) (lv' := [some (.ref 1021), some (.int (Int32.ofNat k)), some (.int 0), some (.int (Int32.ofNat i)), some (.int (Int32.ofNat (aw_tq a)))]) (st' := [.int (Int32.ofNat (aw_tq a)), .ref 1024, .ref 1021]) (h1 := am_h (aw_mg w ft ty wd wt sn ((aw_txt (fun j => j) js i) ++ [32]) ((mp.drop (aw_txt (fun j => j) js i).length).drop 1)) g) rfl ?_
              refine am_R.ldL (i := aw_tq a) (xs := aw_n1) (pc' := 114) rfl (am_wf 24 (by decide) (aw_mg_other (by decide) (by decide) h24 : (aw_mg w ft ty wd wt sn ((aw_txt (fun j => j) js i) ++ [32]) ((mp.drop (aw_txt (fun j => j) js i).length).drop 1)) 24 = _)) (by omega) (by omega) rfl ?_
              refine am_R.cv (a := 1021) (as' := [.long (aw_n1.getD (aw_tq a) 0)]) (r := []) (v := none) (h1 := am_h (aw_mg w ft ty wd wt sn (((aw_txt (fun j => j) js i) ++ [32]) ++ la) (((mp.drop (aw_txt (fun j => j) js i).length).drop 1).drop la.length)) g) (pc' := 117) rfl rfl rfl rfl (am_wf 21 (by decide) (rfl : (aw_mg w ft ty wd wt sn ((aw_txt (fun j => j) js i) ++ [32]) ((mp.drop (aw_txt (fun j => j) js i).length).drop 1)) 21 = _)) rfl rfl (aw_k146 d _ la ha1 (by simp only [List.length_append, List.length_drop, List.length_singleton]; omega) (by simp only [List.length_append, List.length_drop, List.length_singleton]; omega)) rfl ?_
              refine am_R.nxs 2 (pc' := 119) (lv' := [some (.ref 1021), some (.int (Int32.ofNat k)), some (.int 0), some (.int (Int32.ofNat i)), some (.int (Int32.ofNat (aw_tq a)))]) (st' := [.ref 1021, .ref 1021]) (h1 := am_h (aw_mg w ft ty wd wt sn (((aw_txt (fun j => j) js i) ++ [32]) ++ la) (((mp.drop (aw_txt (fun j => j) js i).length).drop 1).drop la.length)) g) rfl ?_
              refine am_R.gf (pc' := 122) (v := .ref 1025) rfl (am_wf 21 (by decide) (rfl : (aw_mg w ft ty wd wt sn (((aw_txt (fun j => j) js i) ++ [32]) ++ la) (((mp.drop (aw_txt (fun j => j) js i).length).drop 1).drop la.length)) 21 = _)) rfl rfl rfl ?_
              refine am_R.nxs 1 (pc' := 124) (lv' := [some (.ref 1021), some (.int (Int32.ofNat k)), some (.int 0), some (.int (Int32.ofNat i)), some (.int (Int32.ofNat (aw_tq a)))]) (st' := [.int (Int32.ofNat (aw_tq a)), .ref 1025, .ref 1021]) (h1 := am_h (aw_mg w ft ty wd wt sn (((aw_txt (fun j => j) js i) ++ [32]) ++ la) (((mp.drop (aw_txt (fun j => j) js i).length).drop 1).drop la.length)) g) rfl ?_
              refine am_R.ldL (i := aw_tq a) (xs := aw_n2) (pc' := 125) rfl (am_wf 25 (by decide) (aw_mg_other (by decide) (by decide) h25 : (aw_mg w ft ty wd wt sn (((aw_txt (fun j => j) js i) ++ [32]) ++ la) (((mp.drop (aw_txt (fun j => j) js i).length).drop 1).drop la.length)) 25 = _)) (by omega) (by omega) rfl ?_
              refine am_R.cv (a := 1021) (as' := [.long (aw_n2.getD (aw_tq a) 0)]) (r := []) (v := none) (h1 := am_h (aw_mg w ft ty wd wt sn ((((aw_txt (fun j => j) js i) ++ [32]) ++ la) ++ lb) ((((mp.drop (aw_txt (fun j => j) js i).length).drop 1).drop la.length).drop lb.length)) g) (pc' := 128) rfl rfl rfl rfl (am_wf 21 (by decide) (rfl : (aw_mg w ft ty wd wt sn (((aw_txt (fun j => j) js i) ++ [32]) ++ la) (((mp.drop (aw_txt (fun j => j) js i).length).drop 1).drop la.length)) 21 = _)) rfl rfl (aw_k146 d _ lb hb1 (by simp only [List.length_append, List.length_drop, List.length_singleton]; omega) (by simp only [List.length_append, List.length_drop, List.length_singleton]; omega)) rfl ?_
              refine am_R.nxs 1 (pc' := 131) (lv' := [some (.ref 1021), some (.int (Int32.ofNat k)), some (.int 0), some (.int (Int32.ofNat i + 1)), some (.int (Int32.ofNat (aw_tq a)))]) (st' := []) (h1 := am_h (aw_mg w ft ty wd wt sn ((((aw_txt (fun j => j) js i) ++ [32]) ++ la) ++ lb) ((((mp.drop (aw_txt (fun j => j) js i).length).drop 1).drop la.length).drop lb.length)) g) rfl ?_
              rw [show (Int32.ofNat i + 1 : Int32) = Int32.ofNat (i + 1) from am_add i 1]
              refine am_R.nxs 1 (pc' := 22) (lv' := [some (.ref 1021), some (.int (Int32.ofNat k)), some (.int 0), some (.int (Int32.ofNat (i + 1))), some (.int (Int32.ofNat (aw_tq a)))]) (st' := []) (h1 := am_h (aw_mg w ft ty wd wt sn ((((aw_txt (fun j => j) js i) ++ [32]) ++ la) ++ lb) ((((mp.drop (aw_txt (fun j => j) js i).length).drop 1).drop la.length).drop lb.length)) g) rfl ?_
              have e1 : ((((aw_txt (fun j => j) js i) ++ [32]) ++ la) ++ lb) = aw_txt (fun j => j) js (i + 1) := by
                rw [aw_txt, hd, ← hab, if_neg (by omega), ← List.append_assoc]
              have e2 : ((((mp.drop (aw_txt (fun j => j) js i).length).drop 1).drop la.length).drop lb.length) = mp.drop (aw_txt (fun j => j) js (i + 1)).length := by
                rw [← e1]
                simp only [List.drop_drop, List.length_append, List.length_singleton, Nat.add_assoc]
              rw [e1, e2]
              exact ih (i + 1) _ (by omega)
            · have b82 : (aw_tq a) = 16 := (am_eqN (i := (aw_tq a)) (n := 16) (by omega) (by omega)).mp (Decidable.not_not.mp b82)
              have b82 := b82
              have hby := (aw_tqA a hf37).2.2.2 b82
              have hb1 : (aw_by a).length = 1 := by rw [hby]; rfl
              refine am_R.ites 4 (P := ¬ Int32.ofNat (aw_tq a) = 15) (T := 98) (F := 93) (lv' := [some (.ref 1021), some (.int (Int32.ofNat k)), some (.int 0), some (.int (Int32.ofNat i)), some (.int (Int32.ofNat (aw_tq a)))]) (st' := [.ref 1021]) (h1 := am_h (aw_mg w ft ty wd wt sn ((aw_txt (fun j => j) js i) ++ [32]) ((mp.drop (aw_txt (fun j => j) js i).length).drop 1)) g) rfl (fun b90 => ?_) (fun b90 => ?_)
              · have b90 : ¬ (aw_tq a) = 15 := fun hq9 => b90 ((am_eqN (i := (aw_tq a)) (n := 15) (by omega) (by omega)).mpr hq9)
                refine am_R.nxs 1 (pc' := 100) (lv' := [some (.ref 1021), some (.int (Int32.ofNat k)), some (.int 0), some (.int (Int32.ofNat i)), some (.int (Int32.ofNat (aw_tq a)))]) (st' := [.int 41, .ref 1021]) (h1 := am_h (aw_mg w ft ty wd wt sn ((aw_txt (fun j => j) js i) ++ [32]) ((mp.drop (aw_txt (fun j => j) js i).length).drop 1)) g) rfl ?_
                refine am_R.cv (a := 1021) (as' := [.int 41]) (r := []) (v := none) (h1 := am_h (aw_mg w ft ty wd wt sn (((aw_txt (fun j => j) js i) ++ [32]) ++ [41]) (((mp.drop (aw_txt (fun j => j) js i).length).drop 1).drop 1)) g) (pc' := 103) rfl rfl rfl rfl (am_wf 21 (by decide) (rfl : (aw_mg w ft ty wd wt sn ((aw_txt (fun j => j) js i) ++ [32]) ((mp.drop (aw_txt (fun j => j) js i).length).drop 1)) 21 = _)) rfl rfl (aw_k145 (d + 1) 41 (by simp only [List.length_append, List.length_drop, List.length_singleton]; omega) (by simp only [List.length_append, List.length_drop, List.length_singleton]; omega)) rfl ?_
                refine am_R.nxs 2 (pc' := 131) (lv' := [some (.ref 1021), some (.int (Int32.ofNat k)), some (.int 0), some (.int (Int32.ofNat i + 1)), some (.int (Int32.ofNat (aw_tq a)))]) (st' := []) (h1 := am_h (aw_mg w ft ty wd wt sn (((aw_txt (fun j => j) js i) ++ [32]) ++ [41]) (((mp.drop (aw_txt (fun j => j) js i).length).drop 1).drop 1)) g) rfl ?_
                rw [show (Int32.ofNat i + 1 : Int32) = Int32.ofNat (i + 1) from am_add i 1]
                refine am_R.nxs 1 (pc' := 22) (lv' := [some (.ref 1021), some (.int (Int32.ofNat k)), some (.int 0), some (.int (Int32.ofNat (i + 1))), some (.int (Int32.ofNat (aw_tq a)))]) (st' := []) (h1 := am_h (aw_mg w ft ty wd wt sn (((aw_txt (fun j => j) js i) ++ [32]) ++ [41]) (((mp.drop (aw_txt (fun j => j) js i).length).drop 1).drop 1)) g) rfl ?_
                have e1 : (((aw_txt (fun j => j) js i) ++ [32]) ++ [41]) = aw_txt (fun j => j) js (i + 1) := by
                  rw [aw_txt, hd, hby, if_neg (by omega)]
                have e2 : (((mp.drop (aw_txt (fun j => j) js i).length).drop 1).drop 1) = mp.drop (aw_txt (fun j => j) js (i + 1)).length := by
                  rw [← e1]
                  simp only [List.drop_drop, List.length_append, List.length_singleton, Nat.add_assoc]
                rw [e1, e2]
                exact ih (i + 1) _ (by omega)
              · have b90 : (aw_tq a) = 15 := (am_eqN (i := (aw_tq a)) (n := 15) (by omega) (by omega)).mp (Decidable.not_not.mp b90)
                omega
      · exact absurd rfl b46
theorem aw_k143a {w : Nat → am_C} {g : am_H} (d : Nat) {ft ty wr wd wt sn : Int32} (h21 : w 21 = aw_c21 ft ty wr wd wt sn) {ma : List Int32} (h27 : w 27 = am_I 0 ma) (l27 : ma.length = 3) {to : List Int32} (h26 : w 26 = am_I 0 to) (l26 : to.length = 360) (h24 : w 24 = .inr (3, aw_n1.map Value.long)) (h25 : w 25 = .inr (3, aw_n2.map Value.long)) {k : Nat} (hk : k < 3) {js : List Nat} (hmk : ma.getD k 0 = Int32.ofNat js.length) (hl2 : js.length ≤ 120) (ht : ∀ z a : Nat, js[z]? = some a → a < 37 ∧ to.getD (120 * k + z) 0 = aw_tau a) {mp : List Int32} (hpl : mp.length = 400) (hp : aw_pgl js ≤ 400) (h23 : w 23 = am_I 0 mp) (hm : ¬ ma.getD k 0 = 0) : am_R (d + 2) 143 0 [some (.ref 1021), some (.int (Int32.ofNat k)), some (.int 0), none, none] [] (am_h w g) (.inl (some (.int (Int32.ofNat (aw_txt (fun j => j) js js.length).length)))) (am_h (aw_mg w 0 ty wd wt sn (aw_txt (fun j => j) js js.length) (mp.drop (aw_txt (fun j => j) js js.length).length)) g) := by
  refine am_R.nxs 4 (pc' := 4) (lv' := [some (.ref 1021), some (.int (Int32.ofNat k)), some (.int 0), none, none]) (st' := [.int 1, .int (Int32.ofNat k), .ref 1021, .ref 1021]) (h1 := am_h w g) rfl ?_
  refine am_R.cv (a := 1021) (as' := [.int (Int32.ofNat k), .int 1]) (r := [.ref 1021]) (v := some (.int 0)) (h1 := am_h w g) (pc' := 7) rfl rfl rfl rfl (am_wf 21 (by decide) h21) rfl rfl (aw_k133a (d + 1) h21 h27 l27 hk hm) rfl ?_
  refine am_R.cv (a := 1021) (as' := [.int 0]) (r := []) (v := some (.int 0)) (h1 := am_h (am_pu w 21 (aw_c21 0 ty wr wd wt sn)) g) (pc' := 10) rfl rfl rfl rfl (am_wf 21 (by decide) h21) rfl rfl (aw_k99a (w := w) (d + 1) h21 0 (by decide)) rfl ?_
  refine am_R.ites 1 (P := 0 = 0) (T := 15) (F := 13) (lv' := [some (.ref 1021), some (.int (Int32.ofNat k)), some (.int 0), none, none]) (st' := []) (h1 := am_h (am_pu w 21 (aw_c21 0 ty wr wd wt sn)) g) rfl (fun b10 => ?_) (fun b10 => ?_)
  · refine am_R.nxs 2 (pc' := 17) (lv' := [some (.ref 1021), some (.int (Int32.ofNat k)), some (.int 0), none, none]) (st' := [.int 0, .ref 1021]) (h1 := am_h (am_pu w 21 (aw_c21 0 ty wr wd wt sn)) g) rfl ?_
    refine am_R.pf (k := 3) (pc' := 20) (h1 := am_h (aw_mg w 0 ty wd wt sn [] mp) g) rfl (am_wf 21 (by decide) (rfl : am_pu w 21 (aw_c21 0 ty wr wd wt sn) 21 = _)) rfl (Nat.le_of_ble_eq_true rfl) rfl (fun q => by cases q) (am_wsE (k := 21) (by decide) (by decide) (aw_mg_zero h23)) rfl ?_
    refine am_R.nxs 2 (pc' := 22) (lv' := [some (.ref 1021), some (.int (Int32.ofNat k)), some (.int 0), some (.int 0), none]) (st' := []) (h1 := am_h (aw_mg w 0 ty wd wt sn [] mp) g) rfl ?_
    have k9 := aw_k143la (w := w) (g := g) (ft := 0) (ty := ty) (wd := wd) (wt := wt) (sn := sn) d h27 l27 h26 l26 h24 h25 hk hmk hl2 ht hpl hp js.length 0 none (Nat.zero_add _)
    rw [show aw_txt (fun j => j) js 0 = [] from rfl, List.length_nil, List.drop_zero] at k9
    exact k9
  · exact absurd rfl b10
theorem aw_k143ab {w : Nat → am_C} {g : am_H} (d : Nat) {ft ty wr wd wt sn : Int32} (h21 : w 21 = aw_c21 ft ty wr wd wt sn) {ma : List Int32} (h27 : w 27 = am_I 0 ma) (l27 : ma.length = 3) {k : Nat} (hk : k < 3) (hm : ma.getD k 0 = 0) : am_R (d + 2) 143 0 [some (.ref 1021), some (.int (Int32.ofNat k)), some (.int 0), none, none] [] (am_h w g) (.inl (some (.int 0))) (am_h (am_pu w 21 (aw_c21 2 ty wr wd wt sn)) g) := by
  refine am_R.nxs 4 (pc' := 4) (lv' := [some (.ref 1021), some (.int (Int32.ofNat k)), some (.int 0), none, none]) (st' := [.int 1, .int (Int32.ofNat k), .ref 1021, .ref 1021]) (h1 := am_h w g) rfl ?_
  refine am_R.cv (a := 1021) (as' := [.int (Int32.ofNat k), .int 1]) (r := [.ref 1021]) (v := some (.int 2)) (h1 := am_h w g) (pc' := 7) rfl rfl rfl rfl (am_wf 21 (by decide) h21) rfl rfl (aw_k133b (d + 1) h21 h27 l27 hk hm) rfl ?_
  refine am_R.cv (a := 1021) (as' := [.int 2]) (r := []) (v := some (.int 1)) (h1 := am_h (am_pu w 21 (aw_c21 2 ty wr wd wt sn)) g) (pc' := 10) rfl rfl rfl rfl (am_wf 21 (by decide) h21) rfl rfl (aw_k99b (w := w) (d + 1) h21 2 (by decide)) rfl ?_
  refine am_R.ites 1 (P := 1 = 0) (T := 15) (F := 13) (lv' := [some (.ref 1021), some (.int (Int32.ofNat k)), some (.int 0), none, none]) (st' := []) (h1 := am_h (am_pu w 21 (aw_c21 2 ty wr wd wt sn)) g) rfl (fun b10 => ?_) (fun b10 => ?_)
  · exact absurd b10 (by decide)
  · refine am_R.nxs 1 (pc' := 14) (lv' := [some (.ref 1021), some (.int (Int32.ofNat k)), some (.int 0), none, none]) (st' := [.int 0]) (h1 := am_h (am_pu w 21 (aw_c21 2 ty wr wd wt sn)) g) rfl ?_
    exact am_R.reti rfl rfl rfl
theorem aw_k142b {w : Nat → am_C} {g : am_H} (d : Nat) {ft ty wr wd wt sn : Int32} (h21 : w 21 = aw_c21 ft ty wr wd wt sn) {ma : List Int32} (h27 : w 27 = am_I 0 ma) (l27 : ma.length = 3) {k : Nat} (hk : k < 3) (hm : ma.getD k 0 = 0) : am_R (d + 3) 142 0 [some (.ref 1021), some (.int (Int32.ofNat k))] [] (am_h w g) (.inl (some (.int 0))) (am_h (am_pu w 21 (aw_c21 2 ty wr wd wt sn)) g) := by
  refine am_R.nxs 3 (pc' := 3) (lv' := [some (.ref 1021), some (.int (Int32.ofNat k))]) (st' := [.int 0, .int (Int32.ofNat k), .ref 1021]) (h1 := am_h w g) rfl ?_
  refine am_R.cv (a := 1021) (as' := [.int (Int32.ofNat k), .int 0]) (r := []) (v := some (.int 0)) (h1 := am_h (am_pu w 21 (aw_c21 2 ty wr wd wt sn)) g) (pc' := 6) rfl rfl rfl rfl (am_wf 21 (by decide) h21) rfl rfl (aw_k143ab d h21 h27 l27 hk hm) rfl ?_
  exact am_R.reti rfl rfl rfl
theorem aw_k143ac {w : Nat → am_C} {g : am_H} (d : Nat) {ft ty wr wd wt sn : Int32} (h21 : w 21 = aw_c21 ft ty wr wd wt sn) (s : Int32) (hs : s < 0 ∨ 2 < s) : am_R (d + 2) 143 0 [some (.ref 1021), some (.int s), some (.int 0), none, none] [] (am_h w g) (.inl (some (.int 0))) (am_h (am_pu w 21 (aw_c21 1 ty wr wd wt sn)) g) := by
  refine am_R.nxs 4 (pc' := 4) (lv' := [some (.ref 1021), some (.int s), some (.int 0), none, none]) (st' := [.int 1, .int s, .ref 1021, .ref 1021]) (h1 := am_h w g) rfl ?_
  refine am_R.cv (a := 1021) (as' := [.int s, .int 1]) (r := [.ref 1021]) (v := some (.int 1)) (h1 := am_h w g) (pc' := 7) rfl rfl rfl rfl (am_wf 21 (by decide) h21) rfl rfl (aw_k133c (d + 1) h21 s 1 (hs.elim Or.inl (fun q => Or.inr (Or.inl q)))) rfl ?_
  refine am_R.cv (a := 1021) (as' := [.int 1]) (r := []) (v := some (.int 1)) (h1 := am_h (am_pu w 21 (aw_c21 1 ty wr wd wt sn)) g) (pc' := 10) rfl rfl rfl rfl (am_wf 21 (by decide) h21) rfl rfl (aw_k99b (w := w) (d + 1) h21 1 (by decide)) rfl ?_
  refine am_R.ites 1 (P := 1 = 0) (T := 15) (F := 13) (lv' := [some (.ref 1021), some (.int s), some (.int 0), none, none]) (st' := []) (h1 := am_h (am_pu w 21 (aw_c21 1 ty wr wd wt sn)) g) rfl (fun b10 => ?_) (fun b10 => ?_)
  · exact absurd b10 (by decide)
  · refine am_R.nxs 1 (pc' := 14) (lv' := [some (.ref 1021), some (.int s), some (.int 0), none, none]) (st' := [.int 0]) (h1 := am_h (am_pu w 21 (aw_c21 1 ty wr wd wt sn)) g) rfl ?_
    exact am_R.reti rfl rfl rfl
theorem aw_k142c {w : Nat → am_C} {g : am_H} (d : Nat) {ft ty wr wd wt sn : Int32} (h21 : w 21 = aw_c21 ft ty wr wd wt sn) (s : Int32) (hs : s < 0 ∨ 2 < s) : am_R (d + 3) 142 0 [some (.ref 1021), some (.int s)] [] (am_h w g) (.inl (some (.int 0))) (am_h (am_pu w 21 (aw_c21 1 ty wr wd wt sn)) g) := by
  refine am_R.nxs 3 (pc' := 3) (lv' := [some (.ref 1021), some (.int s)]) (st' := [.int 0, .int s, .ref 1021]) (h1 := am_h w g) rfl ?_
  refine am_R.cv (a := 1021) (as' := [.int s, .int 0]) (r := []) (v := some (.int 0)) (h1 := am_h (am_pu w 21 (aw_c21 1 ty wr wd wt sn)) g) (pc' := 6) rfl rfl rfl rfl (am_wf 21 (by decide) h21) rfl rfl (aw_k143ac d h21 s hs) rfl ?_
  exact am_R.reti rfl rfl rfl
theorem aw_k142a {w : Nat → am_C} {g : am_H} (d : Nat) {ft ty wr wd wt sn : Int32} (h21 : w 21 = aw_c21 ft ty wr wd wt sn) {ma : List Int32} (h27 : w 27 = am_I 0 ma) (l27 : ma.length = 3) {to : List Int32} (h26 : w 26 = am_I 0 to) (l26 : to.length = 360) (h24 : w 24 = .inr (3, aw_n1.map Value.long)) (h25 : w 25 = .inr (3, aw_n2.map Value.long)) {k : Nat} (hk : k < 3) {js : List Nat} (hmk : ma.getD k 0 = Int32.ofNat js.length) (hl2 : js.length ≤ 120) (ht : ∀ z a : Nat, js[z]? = some a → a < 37 ∧ to.getD (120 * k + z) 0 = aw_tau a) {mp : List Int32} (hpl : mp.length = 400) (hp : aw_pgl js ≤ 400) (h23 : w 23 = am_I 0 mp) (hm : ¬ ma.getD k 0 = 0) : am_R (d + 3) 142 0 [some (.ref 1021), some (.int (Int32.ofNat k))] [] (am_h w g) (.inl (some (.int (Int32.ofNat (aw_txt (fun j => j) js js.length).length)))) (am_h (aw_mg w 0 ty wd wt sn (aw_txt (fun j => j) js js.length) (mp.drop (aw_txt (fun j => j) js js.length).length)) g) := by
  refine am_R.nxs 3 (pc' := 3) (lv' := [some (.ref 1021), some (.int (Int32.ofNat k))]) (st' := [.int 0, .int (Int32.ofNat k), .ref 1021]) (h1 := am_h w g) rfl ?_
  refine am_R.cv (a := 1021) (as' := [.int (Int32.ofNat k), .int 0]) (r := []) (v := some (.int (Int32.ofNat ((aw_txt (fun j => j) js js.length).length)))) (h1 := am_h (aw_mg w 0 ty wd wt sn (aw_txt (fun j => j) js js.length) (mp.drop (aw_txt (fun j => j) js js.length).length)) g) (pc' := 6) rfl rfl rfl rfl (am_wf 21 (by decide) h21) rfl rfl (aw_k143a d h21 h27 l27 h26 l26 h24 h25 hk hmk hl2 ht hpl hp h23 hm) rfl ?_
  exact am_R.reti rfl rfl rfl
theorem aw_k143lb {w : Nat → am_C} {g : am_H} (d : Nat) {ft ty wd wt sn : Int32} {ma : List Int32} (h27 : w 27 = am_I 0 ma) (l27 : ma.length = 3) {to : List Int32} (h26 : w 26 = am_I 0 to) (l26 : to.length = 360) (h24 : w 24 = .inr (3, aw_n1.map Value.long)) (h25 : w 25 = .inr (3, aw_n2.map Value.long)) {k : Nat} (hk : k < 3) {js : List Nat} (hmk : ma.getD k 0 = Int32.ofNat js.length) (hl2 : js.length ≤ 120) (ht : ∀ z a : Nat, js[z]? = some a → a < 37 ∧ to.getD (120 * k + z) 0 = aw_tau a) {mp : List Int32} (hpl : mp.length = 400) (hp : aw_pgl js ≤ 400) : ∀ m i : Nat, ∀ x4 : Option Value, i + m = js.length → am_R (d + 2) 143 22 [some (.ref 1021), some (.int (Int32.ofNat k)), some (.int 1), some (.int (Int32.ofNat i)), x4] [] (am_h (aw_mg w ft ty wd wt sn (aw_txt aw_tn js i) (mp.drop (aw_txt aw_tn js i).length)) g) (.inl (some (.int (Int32.ofNat (aw_txt aw_tn js js.length).length)))) (am_h (aw_mg w ft ty wd wt sn (aw_txt aw_tn js js.length) (mp.drop (aw_txt aw_tn js js.length).length)) g) := by
  have h37 : ∀ z a : Nat, js[z]? = some a → a < 37 := fun z a h => (ht z a h).1
  have hn1 : aw_n1.length = 37 := rfl
  have hn2 : aw_n2.length = 37 := rfl
  intro m
  induction m with
  | zero =>
    intro i x4 hi
    have hi9 : i = js.length := by omega
    subst hi9
    refine am_R.nxs 2 (pc' := 24) (lv' := [some (.ref 1021), some (.int (Int32.ofNat k)), some (.int 1), some (.int (Int32.ofNat js.length)), x4]) (st' := [.ref 1021, .int (Int32.ofNat js.length)]) (h1 := am_h (aw_mg w ft ty wd wt sn (aw_txt aw_tn js js.length) (mp.drop (aw_txt aw_tn js js.length).length)) g) rfl ?_
    refine am_R.gf (pc' := 27) (v := .ref 1027) rfl (am_wf 21 (by decide) (rfl : (aw_mg w ft ty wd wt sn (aw_txt aw_tn js js.length) (mp.drop (aw_txt aw_tn js js.length).length)) 21 = _)) rfl rfl rfl ?_
    refine am_R.nxs 1 (pc' := 28) (lv' := [some (.ref 1021), some (.int (Int32.ofNat k)), some (.int 1), some (.int (Int32.ofNat js.length)), x4]) (st' := [.int (Int32.ofNat k), .ref 1027, .int (Int32.ofNat js.length)]) (h1 := am_h (aw_mg w ft ty wd wt sn (aw_txt aw_tn js js.length) (mp.drop (aw_txt aw_tn js js.length).length)) g) rfl ?_
    refine am_R.ldi (i := k) (xs := ma) (pc' := 29) rfl (am_wf 27 (by decide) (aw_mg_other (by decide) (by decide) h27 : (aw_mg w ft ty wd wt sn (aw_txt aw_tn js js.length) (mp.drop (aw_txt aw_tn js js.length).length)) 27 = _)) (by omega) (by omega) rfl ?_
    rw [hmk]
    refine am_R.ites 1 (P := Int32.ofNat js.length ≤ Int32.ofNat js.length) (T := 134) (F := 32) (lv' := [some (.ref 1021), some (.int (Int32.ofNat k)), some (.int 1), some (.int (Int32.ofNat js.length)), x4]) (st' := []) (h1 := am_h (aw_mg w ft ty wd wt sn (aw_txt aw_tn js js.length) (mp.drop (aw_txt aw_tn js js.length).length)) g) rfl (fun b29 => ?_) (fun b29 => ?_)
    · have b29 : js.length ≤ js.length := (am_leN (i := js.length) (n := js.length) (by omega) (by omega)).mp b29
      refine am_R.nxs 1 (pc' := 135) (lv' := [some (.ref 1021), some (.int (Int32.ofNat k)), some (.int 1), some (.int (Int32.ofNat js.length)), x4]) (st' := [.ref 1021]) (h1 := am_h (aw_mg w ft ty wd wt sn (aw_txt aw_tn js js.length) (mp.drop (aw_txt aw_tn js js.length).length)) g) rfl ?_
      refine am_R.gf (pc' := 138) (v := .int (Int32.ofNat ((aw_txt aw_tn js js.length).length))) rfl (am_wf 21 (by decide) (rfl : (aw_mg w ft ty wd wt sn (aw_txt aw_tn js js.length) (mp.drop (aw_txt aw_tn js js.length).length)) 21 = _)) rfl rfl rfl ?_
      exact am_R.reti rfl rfl rfl
    · have b29 : ¬ js.length ≤ js.length := fun hq9 => b29 ((am_leN (i := js.length) (n := js.length) (by omega) (by omega)).mpr hq9)
      omega
  | succ m ih =>
    intro i x4 hi
    obtain ⟨a, ha⟩ : ∃ a, js[i]? = some a := ⟨_, List.getElem?_eq_getElem (by omega)⟩
    have hd : js.getD i 0 = a := by rw [List.getD_eq_getElem?_getD, ha]; rfl
    have ha37 := h37 i a ha
    have hf37 : (aw_tn a) < 37 := (aw_how1 a ha37).1
    have htq := (aw_tqA a ha37).2.1
    have htq2 := (aw_tqA (aw_tn a) hf37).2.1
    have t0 := aw_txt_400 aw_how1 h37 hp (i := i) (by omega)
    have t1 := aw_txt_400 aw_how1 h37 hp (i := i + 1) (by omega)
    rw [aw_txt, hd, List.length_append, List.length_append] at t1
    have t2 : i = 0 → (if i = 0 then ([] : List Int32) else [32]).length = 0 := fun q => by rw [if_pos q]; rfl
    have t3 : ¬ i = 0 → (if i = 0 then ([] : List Int32) else [32]).length = 1 := fun q => by rw [if_neg q]; rfl
    refine am_R.nxs 2 (pc' := 24) (lv' := [some (.ref 1021), some (.int (Int32.ofNat k)), some (.int 1), some (.int (Int32.ofNat i)), x4]) (st' := [.ref 1021, .int (Int32.ofNat i)]) (h1 := am_h (aw_mg w ft ty wd wt sn (aw_txt aw_tn js i) (mp.drop (aw_txt aw_tn js i).length)) g) rfl ?_
    refine am_R.gf (pc' := 27) (v := .ref 1027) rfl (am_wf 21 (by decide) (rfl : (aw_mg w ft ty wd wt sn (aw_txt aw_tn js i) (mp.drop (aw_txt aw_tn js i).length)) 21 = _)) rfl rfl rfl ?_
    refine am_R.nxs 1 (pc' := 28) (lv' := [some (.ref 1021), some (.int (Int32.ofNat k)), some (.int 1), some (.int (Int32.ofNat i)), x4]) (st' := [.int (Int32.ofNat k), .ref 1027, .int (Int32.ofNat i)]) (h1 := am_h (aw_mg w ft ty wd wt sn (aw_txt aw_tn js i) (mp.drop (aw_txt aw_tn js i).length)) g) rfl ?_
    refine am_R.ldi (i := k) (xs := ma) (pc' := 29) rfl (am_wf 27 (by decide) (aw_mg_other (by decide) (by decide) h27 : (aw_mg w ft ty wd wt sn (aw_txt aw_tn js i) (mp.drop (aw_txt aw_tn js i).length)) 27 = _)) (by omega) (by omega) rfl ?_
    rw [hmk]
    refine am_R.ites 1 (P := Int32.ofNat js.length ≤ Int32.ofNat i) (T := 134) (F := 32) (lv' := [some (.ref 1021), some (.int (Int32.ofNat k)), some (.int 1), some (.int (Int32.ofNat i)), x4]) (st' := []) (h1 := am_h (aw_mg w ft ty wd wt sn (aw_txt aw_tn js i) (mp.drop (aw_txt aw_tn js i).length)) g) rfl (fun b29 => ?_) (fun b29 => ?_)
    · have b29 : js.length ≤ i := (am_leN (i := js.length) (n := i) (by omega) (by omega)).mp b29
      omega
    · have b29 : ¬ js.length ≤ i := fun hq9 => b29 ((am_leN (i := js.length) (n := i) (by omega) (by omega)).mpr hq9)
      refine am_R.nxs 1 (pc' := 33) (lv' := [some (.ref 1021), some (.int (Int32.ofNat k)), some (.int 1), some (.int (Int32.ofNat i)), x4]) (st' := [.ref 1021]) (h1 := am_h (aw_mg w ft ty wd wt sn (aw_txt aw_tn js i) (mp.drop (aw_txt aw_tn js i).length)) g) rfl ?_
      refine am_R.gf (pc' := 36) (v := .ref 1026) rfl (am_wf 21 (by decide) (rfl : (aw_mg w ft ty wd wt sn (aw_txt aw_tn js i) (mp.drop (aw_txt aw_tn js i).length)) 21 = _)) rfl rfl rfl ?_
      refine am_R.nxs 3 (pc' := 40) (lv' := [some (.ref 1021), some (.int (Int32.ofNat k)), some (.int 1), some (.int (Int32.ofNat i)), x4]) (st' := [.int (120 * Int32.ofNat k), .ref 1026]) (h1 := am_h (aw_mg w ft ty wd wt sn (aw_txt aw_tn js i) (mp.drop (aw_txt aw_tn js i).length)) g) rfl ?_
      rw [show (120 * Int32.ofNat k : Int32) = Int32.ofNat (120 * k) from am_mul 120 k]
      refine am_R.nxs 2 (pc' := 42) (lv' := [some (.ref 1021), some (.int (Int32.ofNat k)), some (.int 1), some (.int (Int32.ofNat i)), x4]) (st' := [.int (Int32.ofNat (120 * k) + Int32.ofNat i), .ref 1026]) (h1 := am_h (aw_mg w ft ty wd wt sn (aw_txt aw_tn js i) (mp.drop (aw_txt aw_tn js i).length)) g) rfl ?_
      rw [show (Int32.ofNat (120 * k) + Int32.ofNat i : Int32) = Int32.ofNat ((120 * k) + i) from am_add (120 * k) i]
      refine am_R.ldi (i := ((120 * k) + i)) (xs := to) (pc' := 43) rfl (am_wf 26 (by decide) (aw_mg_other (by decide) (by decide) h26 : (aw_mg w ft ty wd wt sn (aw_txt aw_tn js i) (mp.drop (aw_txt aw_tn js i).length)) 26 = _)) (by omega) (by omega) rfl ?_
      rw [(ht i a ha).2, (aw_tqA a ha37).1]
      refine am_R.ites 3 (P := 1 = 0) (T := 57) (F := 49) (lv' := [some (.ref 1021), some (.int (Int32.ofNat k)), some (.int 1), some (.int (Int32.ofNat i)), some (.int (Int32.ofNat (aw_tq a)))]) (st' := []) (h1 := am_h (aw_mg w ft ty wd wt sn (aw_txt aw_tn js i) (mp.drop (aw_txt aw_tn js i).length)) g) rfl (fun b46 => ?_) (fun b46 => ?_)
      · exact absurd b46 (by decide)
      · refine am_R.nxs 1 (pc' := 51) (lv' := [some (.ref 1021), some (.int (Int32.ofNat k)), some (.int 1), some (.int (Int32.ofNat i)), some (.int (Int32.ofNat (aw_tq a)))]) (st' := [.int (Int32.ofNat (aw_tq a))]) (h1 := am_h (aw_mg w ft ty wd wt sn (aw_txt aw_tn js i) (mp.drop (aw_txt aw_tn js i).length)) g) rfl ?_
        refine am_R.cs (mj := 144) (as := [.int (Int32.ofNat (aw_tq a))]) (r := []) (v := some (.int (Int32.ofNat (aw_tq (aw_tn a))))) (h1 := am_h (aw_mg w ft ty wd wt sn (aw_txt aw_tn js i) (mp.drop (aw_txt aw_tn js i).length)) g) (pc' := 54) rfl (aw_k144 (d + 1) _ ha37) rfl ?_
        refine am_R.ites 4 (P := Int32.ofNat i ≤ 0) (T := 71) (F := 65) (lv' := [some (.ref 1021), some (.int (Int32.ofNat k)), some (.int 1), some (.int (Int32.ofNat i)), some (.int (Int32.ofNat (aw_tq (aw_tn a))))]) (st' := []) (h1 := am_h (aw_mg w ft ty wd wt sn (aw_txt aw_tn js i) (mp.drop (aw_txt aw_tn js i).length)) g) rfl (fun b62 => ?_) (fun b62 => ?_)
        · have b62 : i ≤ 0 := (am_leN (i := i) (n := 0) (by omega) (by omega)).mp b62
          refine am_R.ites 3 (P := Int32.ofNat (aw_tq (aw_tn a)) = 15) (T := 85) (F := 78) (lv' := [some (.ref 1021), some (.int (Int32.ofNat k)), some (.int 1), some (.int (Int32.ofNat i)), some (.int (Int32.ofNat (aw_tq (aw_tn a))))]) (st' := []) (h1 := am_h (aw_mg w ft ty wd wt sn (aw_txt aw_tn js i) (mp.drop (aw_txt aw_tn js i).length)) g) rfl (fun b75 => ?_) (fun b75 => ?_)
          · have b75 : (aw_tq (aw_tn a)) = 15 := (am_eqN (i := (aw_tq (aw_tn a))) (n := 15) (by omega) (by omega)).mp b75
            have hby := (aw_tqA (aw_tn a) hf37).2.2.1 b75
            have hb1 : (aw_by (aw_tn a)).length = 1 := by rw [hby]; rfl
            refine am_R.ites 4 (P := ¬ Int32.ofNat (aw_tq (aw_tn a)) = 15) (T := 98) (F := 93) (lv' := [some (.ref 1021), some (.int (Int32.ofNat k)), some (.int 1), some (.int (Int32.ofNat i)), some (.int (Int32.ofNat (aw_tq (aw_tn a))))]) (st' := [.ref 1021]) (h1 := am_h (aw_mg w ft ty wd wt sn (aw_txt aw_tn js i) (mp.drop (aw_txt aw_tn js i).length)) g) rfl (fun b90 => ?_) (fun b90 => ?_)
            · have b90 : ¬ (aw_tq (aw_tn a)) = 15 := fun hq9 => b90 ((am_eqN (i := (aw_tq (aw_tn a))) (n := 15) (by omega) (by omega)).mpr hq9)
              omega
            · have b90 : (aw_tq (aw_tn a)) = 15 := (am_eqN (i := (aw_tq (aw_tn a))) (n := 15) (by omega) (by omega)).mp (Decidable.not_not.mp b90)
              refine am_R.nxs 2 (pc' := 100) (lv' := [some (.ref 1021), some (.int (Int32.ofNat k)), some (.int 1), some (.int (Int32.ofNat i)), some (.int (Int32.ofNat (aw_tq (aw_tn a))))]) (st' := [.int 40, .ref 1021]) (h1 := am_h (aw_mg w ft ty wd wt sn (aw_txt aw_tn js i) (mp.drop (aw_txt aw_tn js i).length)) g) rfl ?_
              refine am_R.cv (a := 1021) (as' := [.int 40]) (r := []) (v := none) (h1 := am_h (aw_mg w ft ty wd wt sn ((aw_txt aw_tn js i) ++ [40]) ((mp.drop (aw_txt aw_tn js i).length).drop 1)) g) (pc' := 103) rfl rfl rfl rfl (am_wf 21 (by decide) (rfl : (aw_mg w ft ty wd wt sn (aw_txt aw_tn js i) (mp.drop (aw_txt aw_tn js i).length)) 21 = _)) rfl rfl (aw_k145 (d + 1) 40 (by simp only [List.length_append, List.length_drop, List.length_singleton]; omega) (by simp only [List.length_append, List.length_drop, List.length_singleton]; omega)) rfl ?_
              refine am_R.nxs 2 (pc' := 131) (lv' := [some (.ref 1021), some (.int (Int32.ofNat k)), some (.int 1), some (.int (Int32.ofNat i + 1)), some (.int (Int32.ofNat (aw_tq (aw_tn a))))]) (st' := []) (h1 := am_h (aw_mg w ft ty wd wt sn ((aw_txt aw_tn js i) ++ [40]) ((mp.drop (aw_txt aw_tn js i).length).drop 1)) g) rfl ?_
              rw [show (Int32.ofNat i + 1 : Int32) = Int32.ofNat (i + 1) from am_add i 1]
              refine am_R.nxs 1 (pc' := 22) (lv' := [some (.ref 1021), some (.int (Int32.ofNat k)), some (.int 1), some (.int (Int32.ofNat (i + 1))), some (.int (Int32.ofNat (aw_tq (aw_tn a))))]) (st' := []) (h1 := am_h (aw_mg w ft ty wd wt sn ((aw_txt aw_tn js i) ++ [40]) ((mp.drop (aw_txt aw_tn js i).length).drop 1)) g) rfl ?_
              have e1 : ((aw_txt aw_tn js i) ++ [40]) = aw_txt aw_tn js (i + 1) := by
                rw [aw_txt, hd, hby, if_pos (by omega)]
                rw [List.append_nil]
              have e2 : ((mp.drop (aw_txt aw_tn js i).length).drop 1) = mp.drop (aw_txt aw_tn js (i + 1)).length := by
                rw [← e1]
                simp only [List.drop_drop, List.length_append, List.length_singleton, Nat.add_assoc]
              rw [e1, e2]
              exact ih (i + 1) _ (by omega)
          · have b75 : ¬ (aw_tq (aw_tn a)) = 15 := fun hq9 => b75 ((am_eqN (i := (aw_tq (aw_tn a))) (n := 15) (by omega) (by omega)).mpr hq9)
            refine am_R.ites 3 (P := ¬ Int32.ofNat (aw_tq (aw_tn a)) = 16) (T := 106) (F := 85) (lv' := [some (.ref 1021), some (.int (Int32.ofNat k)), some (.int 1), some (.int (Int32.ofNat i)), some (.int (Int32.ofNat (aw_tq (aw_tn a))))]) (st' := []) (h1 := am_h (aw_mg w ft ty wd wt sn (aw_txt aw_tn js i) (mp.drop (aw_txt aw_tn js i).length)) g) rfl (fun b82 => ?_) (fun b82 => ?_)
            · have b82 : ¬ (aw_tq (aw_tn a)) = 16 := fun hq9 => b82 ((am_eqN (i := (aw_tq (aw_tn a))) (n := 16) (by omega) (by omega)).mpr hq9)
              obtain ⟨la, lb, ha1, hb1, hab⟩ := aw_nm hf37 b75 b82
              have hab2 : la.length + lb.length = (aw_by (aw_tn a)).length := by rw [← hab, List.length_append]
              refine am_R.nxs 2 (pc' := 108) (lv' := [some (.ref 1021), some (.int (Int32.ofNat k)), some (.int 1), some (.int (Int32.ofNat i)), some (.int (Int32.ofNat (aw_tq (aw_tn a))))]) (st' := [.ref 1021, .ref 1021]) (h1 := am_h (aw_mg w ft ty wd wt sn (aw_txt aw_tn js i) (mp.drop (aw_txt aw_tn js i).length)) g) rfl ?_
              refine am_R.gf (pc' := 111) (v := .ref 1024) rfl (am_wf 21 (by decide) (rfl : (aw_mg w ft ty wd wt sn (aw_txt aw_tn js i) (mp.drop (aw_txt aw_tn js i).length)) 21 = _)) rfl rfl rfl ?_
              refine am_R.nxs 1 (pc' := 113) (lv' := [some (.ref 1021), some (.int (Int32.ofNat k)), some (.int 1), some (.int (Int32.ofNat i)), some (.int (Int32.ofNat (aw_tq (aw_tn a))))]) (st' := [.int (Int32.ofNat (aw_tq (aw_tn a))), .ref 1024, .ref 1021]) (h1 := am_h (aw_mg w ft ty wd wt sn (aw_txt aw_tn js i) (mp.drop (aw_txt aw_tn js i).length)) g) rfl ?_
              refine am_R.ldL (i := aw_tq (aw_tn a)) (xs := aw_n1) (pc' := 114) rfl (am_wf 24 (by decide) (aw_mg_other (by decide) (by decide) h24 : (aw_mg w ft ty wd wt sn (aw_txt aw_tn js i) (mp.drop (aw_txt aw_tn js i).length)) 24 = _)) (by omega) (by omega) rfl ?_
              refine am_R.cv (a := 1021) (as' := [.long (aw_n1.getD (aw_tq (aw_tn a)) 0)]) (r := []) (v := none) (h1 := am_h (aw_mg w ft ty wd wt sn ((aw_txt aw_tn js i) ++ la) ((mp.drop (aw_txt aw_tn js i).length).drop la.length)) g) (pc' := 117) rfl rfl rfl rfl (am_wf 21 (by decide) (rfl : (aw_mg w ft ty wd wt sn (aw_txt aw_tn js i) (mp.drop (aw_txt aw_tn js i).length)) 21 = _)) rfl rfl (aw_k146 d _ la ha1 (by simp only [List.length_append, List.length_drop, List.length_singleton]; omega) (by simp only [List.length_append, List.length_drop, List.length_singleton]; omega)) rfl ?_
              refine am_R.nxs 2 (pc' := 119) (lv' := [some (.ref 1021), some (.int (Int32.ofNat k)), some (.int 1), some (.int (Int32.ofNat i)), some (.int (Int32.ofNat (aw_tq (aw_tn a))))]) (st' := [.ref 1021, .ref 1021]) (h1 := am_h (aw_mg w ft ty wd wt sn ((aw_txt aw_tn js i) ++ la) ((mp.drop (aw_txt aw_tn js i).length).drop la.length)) g) rfl ?_
              refine am_R.gf (pc' := 122) (v := .ref 1025) rfl (am_wf 21 (by decide) (rfl : (aw_mg w ft ty wd wt sn ((aw_txt aw_tn js i) ++ la) ((mp.drop (aw_txt aw_tn js i).length).drop la.length)) 21 = _)) rfl rfl rfl ?_
              refine am_R.nxs 1 (pc' := 124) (lv' := [some (.ref 1021), some (.int (Int32.ofNat k)), some (.int 1), some (.int (Int32.ofNat i)), some (.int (Int32.ofNat (aw_tq (aw_tn a))))]) (st' := [.int (Int32.ofNat (aw_tq (aw_tn a))), .ref 1025, .ref 1021]) (h1 := am_h (aw_mg w ft ty wd wt sn ((aw_txt aw_tn js i) ++ la) ((mp.drop (aw_txt aw_tn js i).length).drop la.length)) g) rfl ?_
              refine am_R.ldL (i := aw_tq (aw_tn a)) (xs := aw_n2) (pc' := 125) rfl (am_wf 25 (by decide) (aw_mg_other (by decide) (by decide) h25 : (aw_mg w ft ty wd wt sn ((aw_txt aw_tn js i) ++ la) ((mp.drop (aw_txt aw_tn js i).length).drop la.length)) 25 = _)) (by omega) (by omega) rfl ?_
              refine am_R.cv (a := 1021) (as' := [.long (aw_n2.getD (aw_tq (aw_tn a)) 0)]) (r := []) (v := none) (h1 := am_h (aw_mg w ft ty wd wt sn (((aw_txt aw_tn js i) ++ la) ++ lb) (((mp.drop (aw_txt aw_tn js i).length).drop la.length).drop lb.length)) g) (pc' := 128) rfl rfl rfl rfl (am_wf 21 (by decide) (rfl : (aw_mg w ft ty wd wt sn ((aw_txt aw_tn js i) ++ la) ((mp.drop (aw_txt aw_tn js i).length).drop la.length)) 21 = _)) rfl rfl (aw_k146 d _ lb hb1 (by simp only [List.length_append, List.length_drop, List.length_singleton]; omega) (by simp only [List.length_append, List.length_drop, List.length_singleton]; omega)) rfl ?_
              refine am_R.nxs 1 (pc' := 131) (lv' := [some (.ref 1021), some (.int (Int32.ofNat k)), some (.int 1), some (.int (Int32.ofNat i + 1)), some (.int (Int32.ofNat (aw_tq (aw_tn a))))]) (st' := []) (h1 := am_h (aw_mg w ft ty wd wt sn (((aw_txt aw_tn js i) ++ la) ++ lb) (((mp.drop (aw_txt aw_tn js i).length).drop la.length).drop lb.length)) g) rfl ?_
              rw [show (Int32.ofNat i + 1 : Int32) = Int32.ofNat (i + 1) from am_add i 1]
              refine am_R.nxs 1 (pc' := 22) (lv' := [some (.ref 1021), some (.int (Int32.ofNat k)), some (.int 1), some (.int (Int32.ofNat (i + 1))), some (.int (Int32.ofNat (aw_tq (aw_tn a))))]) (st' := []) (h1 := am_h (aw_mg w ft ty wd wt sn (((aw_txt aw_tn js i) ++ la) ++ lb) (((mp.drop (aw_txt aw_tn js i).length).drop la.length).drop lb.length)) g) rfl ?_
              have e1 : (((aw_txt aw_tn js i) ++ la) ++ lb) = aw_txt aw_tn js (i + 1) := by
                rw [aw_txt, hd, ← hab, if_pos (by omega), ← List.append_assoc]
                rw [List.append_nil]
              have e2 : (((mp.drop (aw_txt aw_tn js i).length).drop la.length).drop lb.length) = mp.drop (aw_txt aw_tn js (i + 1)).length := by
                rw [← e1]
                simp only [List.drop_drop, List.length_append, List.length_singleton, Nat.add_assoc]
              rw [e1, e2]
              exact ih (i + 1) _ (by omega)
            · have b82 : (aw_tq (aw_tn a)) = 16 := (am_eqN (i := (aw_tq (aw_tn a))) (n := 16) (by omega) (by omega)).mp (Decidable.not_not.mp b82)
              have b82 := b82
              have hby := (aw_tqA (aw_tn a) hf37).2.2.2 b82
              have hb1 : (aw_by (aw_tn a)).length = 1 := by rw [hby]; rfl
              refine am_R.ites 4 (P := ¬ Int32.ofNat (aw_tq (aw_tn a)) = 15) (T := 98) (F := 93) (lv' := [some (.ref 1021), some (.int (Int32.ofNat k)), some (.int 1), some (.int (Int32.ofNat i)), some (.int (Int32.ofNat (aw_tq (aw_tn a))))]) (st' := [.ref 1021]) (h1 := am_h (aw_mg w ft ty wd wt sn (aw_txt aw_tn js i) (mp.drop (aw_txt aw_tn js i).length)) g) rfl (fun b90 => ?_) (fun b90 => ?_)
              · have b90 : ¬ (aw_tq (aw_tn a)) = 15 := fun hq9 => b90 ((am_eqN (i := (aw_tq (aw_tn a))) (n := 15) (by omega) (by omega)).mpr hq9)
                refine am_R.nxs 1 (pc' := 100) (lv' := [some (.ref 1021), some (.int (Int32.ofNat k)), some (.int 1), some (.int (Int32.ofNat i)), some (.int (Int32.ofNat (aw_tq (aw_tn a))))]) (st' := [.int 41, .ref 1021]) (h1 := am_h (aw_mg w ft ty wd wt sn (aw_txt aw_tn js i) (mp.drop (aw_txt aw_tn js i).length)) g) rfl ?_
                refine am_R.cv (a := 1021) (as' := [.int 41]) (r := []) (v := none) (h1 := am_h (aw_mg w ft ty wd wt sn ((aw_txt aw_tn js i) ++ [41]) ((mp.drop (aw_txt aw_tn js i).length).drop 1)) g) (pc' := 103) rfl rfl rfl rfl (am_wf 21 (by decide) (rfl : (aw_mg w ft ty wd wt sn (aw_txt aw_tn js i) (mp.drop (aw_txt aw_tn js i).length)) 21 = _)) rfl rfl (aw_k145 (d + 1) 41 (by simp only [List.length_append, List.length_drop, List.length_singleton]; omega) (by simp only [List.length_append, List.length_drop, List.length_singleton]; omega)) rfl ?_
                refine am_R.nxs 2 (pc' := 131) (lv' := [some (.ref 1021), some (.int (Int32.ofNat k)), some (.int 1), some (.int (Int32.ofNat i + 1)), some (.int (Int32.ofNat (aw_tq (aw_tn a))))]) (st' := []) (h1 := am_h (aw_mg w ft ty wd wt sn ((aw_txt aw_tn js i) ++ [41]) ((mp.drop (aw_txt aw_tn js i).length).drop 1)) g) rfl ?_
                rw [show (Int32.ofNat i + 1 : Int32) = Int32.ofNat (i + 1) from am_add i 1]
                refine am_R.nxs 1 (pc' := 22) (lv' := [some (.ref 1021), some (.int (Int32.ofNat k)), some (.int 1), some (.int (Int32.ofNat (i + 1))), some (.int (Int32.ofNat (aw_tq (aw_tn a))))]) (st' := []) (h1 := am_h (aw_mg w ft ty wd wt sn ((aw_txt aw_tn js i) ++ [41]) ((mp.drop (aw_txt aw_tn js i).length).drop 1)) g) rfl ?_
                have e1 : ((aw_txt aw_tn js i) ++ [41]) = aw_txt aw_tn js (i + 1) := by
                  rw [aw_txt, hd, hby, if_pos (by omega)]
                  rw [List.append_nil]
                have e2 : ((mp.drop (aw_txt aw_tn js i).length).drop 1) = mp.drop (aw_txt aw_tn js (i + 1)).length := by
                  rw [← e1]
                  simp only [List.drop_drop, List.length_append, List.length_singleton, Nat.add_assoc]
                rw [e1, e2]
                exact ih (i + 1) _ (by omega)
              · have b90 : (aw_tq (aw_tn a)) = 15 := (am_eqN (i := (aw_tq (aw_tn a))) (n := 15) (by omega) (by omega)).mp (Decidable.not_not.mp b90)
                omega
        · have b62 : ¬ i ≤ 0 := fun hq9 => b62 ((am_leN (i := i) (n := 0) (by omega) (by omega)).mpr hq9)
          refine am_R.nxs 2 (pc' := 68) (lv' := [some (.ref 1021), some (.int (Int32.ofNat k)), some (.int 1), some (.int (Int32.ofNat i)), some (.int (Int32.ofNat (aw_tq (aw_tn a))))]) (st' := [.int 32, .ref 1021]) (h1 := am_h (aw_mg w ft ty wd wt sn (aw_txt aw_tn js i) (mp.drop (aw_txt aw_tn js i).length)) g) rfl ?_
          refine am_R.cv (a := 1021) (as' := [.int 32]) (r := []) (v := none) (h1 := am_h (aw_mg w ft ty wd wt sn ((aw_txt aw_tn js i) ++ [32]) ((mp.drop (aw_txt aw_tn js i).length).drop 1)) g) (pc' := 71) rfl rfl rfl rfl (am_wf 21 (by decide) (rfl : (aw_mg w ft ty wd wt sn (aw_txt aw_tn js i) (mp.drop (aw_txt aw_tn js i).length)) 21 = _)) rfl rfl (aw_k145 (d + 1) 32 (by simp only [List.length_append, List.length_drop, List.length_singleton]; omega) (by simp only [List.length_append, List.length_drop, List.length_singleton]; omega)) rfl ?_
          refine am_R.ites 3 (P := Int32.ofNat (aw_tq (aw_tn a)) = 15) (T := 85) (F := 78) (lv' := [some (.ref 1021), some (.int (Int32.ofNat k)), some (.int 1), some (.int (Int32.ofNat i)), some (.int (Int32.ofNat (aw_tq (aw_tn a))))]) (st' := []) (h1 := am_h (aw_mg w ft ty wd wt sn ((aw_txt aw_tn js i) ++ [32]) ((mp.drop (aw_txt aw_tn js i).length).drop 1)) g) rfl (fun b75 => ?_) (fun b75 => ?_)
          · have b75 : (aw_tq (aw_tn a)) = 15 := (am_eqN (i := (aw_tq (aw_tn a))) (n := 15) (by omega) (by omega)).mp b75
            have hby := (aw_tqA (aw_tn a) hf37).2.2.1 b75
            have hb1 : (aw_by (aw_tn a)).length = 1 := by rw [hby]; rfl
            refine am_R.ites 4 (P := ¬ Int32.ofNat (aw_tq (aw_tn a)) = 15) (T := 98) (F := 93) (lv' := [some (.ref 1021), some (.int (Int32.ofNat k)), some (.int 1), some (.int (Int32.ofNat i)), some (.int (Int32.ofNat (aw_tq (aw_tn a))))]) (st' := [.ref 1021]) (h1 := am_h (aw_mg w ft ty wd wt sn ((aw_txt aw_tn js i) ++ [32]) ((mp.drop (aw_txt aw_tn js i).length).drop 1)) g) rfl (fun b90 => ?_) (fun b90 => ?_)
            · have b90 : ¬ (aw_tq (aw_tn a)) = 15 := fun hq9 => b90 ((am_eqN (i := (aw_tq (aw_tn a))) (n := 15) (by omega) (by omega)).mpr hq9)
              omega
            · have b90 : (aw_tq (aw_tn a)) = 15 := (am_eqN (i := (aw_tq (aw_tn a))) (n := 15) (by omega) (by omega)).mp (Decidable.not_not.mp b90)
              refine am_R.nxs 2 (pc' := 100) (lv' := [some (.ref 1021), some (.int (Int32.ofNat k)), some (.int 1), some (.int (Int32.ofNat i)), some (.int (Int32.ofNat (aw_tq (aw_tn a))))]) (st' := [.int 40, .ref 1021]) (h1 := am_h (aw_mg w ft ty wd wt sn ((aw_txt aw_tn js i) ++ [32]) ((mp.drop (aw_txt aw_tn js i).length).drop 1)) g) rfl ?_
              refine am_R.cv (a := 1021) (as' := [.int 40]) (r := []) (v := none) (h1 := am_h (aw_mg w ft ty wd wt sn (((aw_txt aw_tn js i) ++ [32]) ++ [40]) (((mp.drop (aw_txt aw_tn js i).length).drop 1).drop 1)) g) (pc' := 103) rfl rfl rfl rfl (am_wf 21 (by decide) (rfl : (aw_mg w ft ty wd wt sn ((aw_txt aw_tn js i) ++ [32]) ((mp.drop (aw_txt aw_tn js i).length).drop 1)) 21 = _)) rfl rfl (aw_k145 (d + 1) 40 (by simp only [List.length_append, List.length_drop, List.length_singleton]; omega) (by simp only [List.length_append, List.length_drop, List.length_singleton]; omega)) rfl ?_
              refine am_R.nxs 2 (pc' := 131) (lv' := [some (.ref 1021), some (.int (Int32.ofNat k)), some (.int 1), some (.int (Int32.ofNat i + 1)), some (.int (Int32.ofNat (aw_tq (aw_tn a))))]) (st' := []) (h1 := am_h (aw_mg w ft ty wd wt sn (((aw_txt aw_tn js i) ++ [32]) ++ [40]) (((mp.drop (aw_txt aw_tn js i).length).drop 1).drop 1)) g) rfl ?_
              rw [show (Int32.ofNat i + 1 : Int32) = Int32.ofNat (i + 1) from am_add i 1]
              refine am_R.nxs 1 (pc' := 22) (lv' := [some (.ref 1021), some (.int (Int32.ofNat k)), some (.int 1), some (.int (Int32.ofNat (i + 1))), some (.int (Int32.ofNat (aw_tq (aw_tn a))))]) (st' := []) (h1 := am_h (aw_mg w ft ty wd wt sn (((aw_txt aw_tn js i) ++ [32]) ++ [40]) (((mp.drop (aw_txt aw_tn js i).length).drop 1).drop 1)) g) rfl ?_
              have e1 : (((aw_txt aw_tn js i) ++ [32]) ++ [40]) = aw_txt aw_tn js (i + 1) := by
                rw [aw_txt, hd, hby, if_neg (by omega)]
              have e2 : (((mp.drop (aw_txt aw_tn js i).length).drop 1).drop 1) = mp.drop (aw_txt aw_tn js (i + 1)).length := by
                rw [← e1]
                simp only [List.drop_drop, List.length_append, List.length_singleton, Nat.add_assoc]
              rw [e1, e2]
              exact ih (i + 1) _ (by omega)
          · have b75 : ¬ (aw_tq (aw_tn a)) = 15 := fun hq9 => b75 ((am_eqN (i := (aw_tq (aw_tn a))) (n := 15) (by omega) (by omega)).mpr hq9)
            refine am_R.ites 3 (P := ¬ Int32.ofNat (aw_tq (aw_tn a)) = 16) (T := 106) (F := 85) (lv' := [some (.ref 1021), some (.int (Int32.ofNat k)), some (.int 1), some (.int (Int32.ofNat i)), some (.int (Int32.ofNat (aw_tq (aw_tn a))))]) (st' := []) (h1 := am_h (aw_mg w ft ty wd wt sn ((aw_txt aw_tn js i) ++ [32]) ((mp.drop (aw_txt aw_tn js i).length).drop 1)) g) rfl (fun b82 => ?_) (fun b82 => ?_)
            · have b82 : ¬ (aw_tq (aw_tn a)) = 16 := fun hq9 => b82 ((am_eqN (i := (aw_tq (aw_tn a))) (n := 16) (by omega) (by omega)).mpr hq9)
              obtain ⟨la, lb, ha1, hb1, hab⟩ := aw_nm hf37 b75 b82
              have hab2 : la.length + lb.length = (aw_by (aw_tn a)).length := by rw [← hab, List.length_append]
              refine am_R.nxs 2 (pc' := 108) (lv' := [some (.ref 1021), some (.int (Int32.ofNat k)), some (.int 1), some (.int (Int32.ofNat i)), some (.int (Int32.ofNat (aw_tq (aw_tn a))))]) (st' := [.ref 1021, .ref 1021]) (h1 := am_h (aw_mg w ft ty wd wt sn ((aw_txt aw_tn js i) ++ [32]) ((mp.drop (aw_txt aw_tn js i).length).drop 1)) g) rfl ?_
              refine am_R.gf (pc' := 111) (v := .ref 1024) rfl (am_wf 21 (by decide) (rfl : (aw_mg w ft ty wd wt sn ((aw_txt aw_tn js i) ++ [32]) ((mp.drop (aw_txt aw_tn js i).length).drop 1)) 21 = _)) rfl rfl rfl ?_
              refine am_R.nxs 1 (pc' := 113) (lv' := [some (.ref 1021), some (.int (Int32.ofNat k)), some (.int 1), some (.int (Int32.ofNat i)), some (.int (Int32.ofNat (aw_tq (aw_tn a))))]) (st' := [.int (Int32.ofNat (aw_tq (aw_tn a))), .ref 1024, .ref 1021]) (h1 := am_h (aw_mg w ft ty wd wt sn ((aw_txt aw_tn js i) ++ [32]) ((mp.drop (aw_txt aw_tn js i).length).drop 1)) g) rfl ?_
              refine am_R.ldL (i := aw_tq (aw_tn a)) (xs := aw_n1) (pc' := 114) rfl (am_wf 24 (by decide) (aw_mg_other (by decide) (by decide) h24 : (aw_mg w ft ty wd wt sn ((aw_txt aw_tn js i) ++ [32]) ((mp.drop (aw_txt aw_tn js i).length).drop 1)) 24 = _)) (by omega) (by omega) rfl ?_
              refine am_R.cv (a := 1021) (as' := [.long (aw_n1.getD (aw_tq (aw_tn a)) 0)]) (r := []) (v := none) (h1 := am_h (aw_mg w ft ty wd wt sn (((aw_txt aw_tn js i) ++ [32]) ++ la) (((mp.drop (aw_txt aw_tn js i).length).drop 1).drop la.length)) g) (pc' := 117) rfl rfl rfl rfl (am_wf 21 (by decide) (rfl : (aw_mg w ft ty wd wt sn ((aw_txt aw_tn js i) ++ [32]) ((mp.drop (aw_txt aw_tn js i).length).drop 1)) 21 = _)) rfl rfl (aw_k146 d _ la ha1 (by simp only [List.length_append, List.length_drop, List.length_singleton]; omega) (by simp only [List.length_append, List.length_drop, List.length_singleton]; omega)) rfl ?_
              refine am_R.nxs 2 (pc' := 119) (lv' := [some (.ref 1021), some (.int (Int32.ofNat k)), some (.int 1), some (.int (Int32.ofNat i)), some (.int (Int32.ofNat (aw_tq (aw_tn a))))]) (st' := [.ref 1021, .ref 1021]) (h1 := am_h (aw_mg w ft ty wd wt sn (((aw_txt aw_tn js i) ++ [32]) ++ la) (((mp.drop (aw_txt aw_tn js i).length).drop 1).drop la.length)) g) rfl ?_
              refine am_R.gf (pc' := 122) (v := .ref 1025) rfl (am_wf 21 (by decide) (rfl : (aw_mg w ft ty wd wt sn (((aw_txt aw_tn js i) ++ [32]) ++ la) (((mp.drop (aw_txt aw_tn js i).length).drop 1).drop la.length)) 21 = _)) rfl rfl rfl ?_
              refine am_R.nxs 1 (pc' := 124) (lv' := [some (.ref 1021), some (.int (Int32.ofNat k)), some (.int 1), some (.int (Int32.ofNat i)), some (.int (Int32.ofNat (aw_tq (aw_tn a))))]) (st' := [.int (Int32.ofNat (aw_tq (aw_tn a))), .ref 1025, .ref 1021]) (h1 := am_h (aw_mg w ft ty wd wt sn (((aw_txt aw_tn js i) ++ [32]) ++ la) (((mp.drop (aw_txt aw_tn js i).length).drop 1).drop la.length)) g) rfl ?_
              refine am_R.ldL (i := aw_tq (aw_tn a)) (xs := aw_n2) (pc' := 125) rfl (am_wf 25 (by decide) (aw_mg_other (by decide) (by decide) h25 : (aw_mg w ft ty wd wt sn (((aw_txt aw_tn js i) ++ [32]) ++ la) (((mp.drop (aw_txt aw_tn js i).length).drop 1).drop la.length)) 25 = _)) (by omega) (by omega) rfl ?_
              refine am_R.cv (a := 1021) (as' := [.long (aw_n2.getD (aw_tq (aw_tn a)) 0)]) (r := []) (v := none) (h1 := am_h (aw_mg w ft ty wd wt sn ((((aw_txt aw_tn js i) ++ [32]) ++ la) ++ lb) ((((mp.drop (aw_txt aw_tn js i).length).drop 1).drop la.length).drop lb.length)) g) (pc' := 128) rfl rfl rfl rfl (am_wf 21 (by decide) (rfl : (aw_mg w ft ty wd wt sn (((aw_txt aw_tn js i) ++ [32]) ++ la) (((mp.drop (aw_txt aw_tn js i).length).drop 1).drop la.length)) 21 = _)) rfl rfl (aw_k146 d _ lb hb1 (by simp only [List.length_append, List.length_drop, List.length_singleton]; omega) (by simp only [List.length_append, List.length_drop, List.length_singleton]; omega)) rfl ?_
              refine am_R.nxs 1 (pc' := 131) (lv' := [some (.ref 1021), some (.int (Int32.ofNat k)), some (.int 1), some (.int (Int32.ofNat i + 1)), some (.int (Int32.ofNat (aw_tq (aw_tn a))))]) (st' := []) (h1 := am_h (aw_mg w ft ty wd wt sn ((((aw_txt aw_tn js i) ++ [32]) ++ la) ++ lb) ((((mp.drop (aw_txt aw_tn js i).length).drop 1).drop la.length).drop lb.length)) g) rfl ?_
              rw [show (Int32.ofNat i + 1 : Int32) = Int32.ofNat (i + 1) from am_add i 1]
              refine am_R.nxs 1 (pc' := 22) (lv' := [some (.ref 1021), some (.int (Int32.ofNat k)), some (.int 1), some (.int (Int32.ofNat (i + 1))), some (.int (Int32.ofNat (aw_tq (aw_tn a))))]) (st' := []) (h1 := am_h (aw_mg w ft ty wd wt sn ((((aw_txt aw_tn js i) ++ [32]) ++ la) ++ lb) ((((mp.drop (aw_txt aw_tn js i).length).drop 1).drop la.length).drop lb.length)) g) rfl ?_
              have e1 : ((((aw_txt aw_tn js i) ++ [32]) ++ la) ++ lb) = aw_txt aw_tn js (i + 1) := by
                rw [aw_txt, hd, ← hab, if_neg (by omega), ← List.append_assoc]
              have e2 : ((((mp.drop (aw_txt aw_tn js i).length).drop 1).drop la.length).drop lb.length) = mp.drop (aw_txt aw_tn js (i + 1)).length := by
                rw [← e1]
                simp only [List.drop_drop, List.length_append, List.length_singleton, Nat.add_assoc]
              rw [e1, e2]
              exact ih (i + 1) _ (by omega)
            · have b82 : (aw_tq (aw_tn a)) = 16 := (am_eqN (i := (aw_tq (aw_tn a))) (n := 16) (by omega) (by omega)).mp (Decidable.not_not.mp b82)
              have b82 := b82
              have hby := (aw_tqA (aw_tn a) hf37).2.2.2 b82
              have hb1 : (aw_by (aw_tn a)).length = 1 := by rw [hby]; rfl
              refine am_R.ites 4 (P := ¬ Int32.ofNat (aw_tq (aw_tn a)) = 15) (T := 98) (F := 93) (lv' := [some (.ref 1021), some (.int (Int32.ofNat k)), some (.int 1), some (.int (Int32.ofNat i)), some (.int (Int32.ofNat (aw_tq (aw_tn a))))]) (st' := [.ref 1021]) (h1 := am_h (aw_mg w ft ty wd wt sn ((aw_txt aw_tn js i) ++ [32]) ((mp.drop (aw_txt aw_tn js i).length).drop 1)) g) rfl (fun b90 => ?_) (fun b90 => ?_)
              · have b90 : ¬ (aw_tq (aw_tn a)) = 15 := fun hq9 => b90 ((am_eqN (i := (aw_tq (aw_tn a))) (n := 15) (by omega) (by omega)).mpr hq9)
                refine am_R.nxs 1 (pc' := 100) (lv' := [some (.ref 1021), some (.int (Int32.ofNat k)), some (.int 1), some (.int (Int32.ofNat i)), some (.int (Int32.ofNat (aw_tq (aw_tn a))))]) (st' := [.int 41, .ref 1021]) (h1 := am_h (aw_mg w ft ty wd wt sn ((aw_txt aw_tn js i) ++ [32]) ((mp.drop (aw_txt aw_tn js i).length).drop 1)) g) rfl ?_
                refine am_R.cv (a := 1021) (as' := [.int 41]) (r := []) (v := none) (h1 := am_h (aw_mg w ft ty wd wt sn (((aw_txt aw_tn js i) ++ [32]) ++ [41]) (((mp.drop (aw_txt aw_tn js i).length).drop 1).drop 1)) g) (pc' := 103) rfl rfl rfl rfl (am_wf 21 (by decide) (rfl : (aw_mg w ft ty wd wt sn ((aw_txt aw_tn js i) ++ [32]) ((mp.drop (aw_txt aw_tn js i).length).drop 1)) 21 = _)) rfl rfl (aw_k145 (d + 1) 41 (by simp only [List.length_append, List.length_drop, List.length_singleton]; omega) (by simp only [List.length_append, List.length_drop, List.length_singleton]; omega)) rfl ?_
                refine am_R.nxs 2 (pc' := 131) (lv' := [some (.ref 1021), some (.int (Int32.ofNat k)), some (.int 1), some (.int (Int32.ofNat i + 1)), some (.int (Int32.ofNat (aw_tq (aw_tn a))))]) (st' := []) (h1 := am_h (aw_mg w ft ty wd wt sn (((aw_txt aw_tn js i) ++ [32]) ++ [41]) (((mp.drop (aw_txt aw_tn js i).length).drop 1).drop 1)) g) rfl ?_
                rw [show (Int32.ofNat i + 1 : Int32) = Int32.ofNat (i + 1) from am_add i 1]
                refine am_R.nxs 1 (pc' := 22) (lv' := [some (.ref 1021), some (.int (Int32.ofNat k)), some (.int 1), some (.int (Int32.ofNat (i + 1))), some (.int (Int32.ofNat (aw_tq (aw_tn a))))]) (st' := []) (h1 := am_h (aw_mg w ft ty wd wt sn (((aw_txt aw_tn js i) ++ [32]) ++ [41]) (((mp.drop (aw_txt aw_tn js i).length).drop 1).drop 1)) g) rfl ?_
                have e1 : (((aw_txt aw_tn js i) ++ [32]) ++ [41]) = aw_txt aw_tn js (i + 1) := by
                  rw [aw_txt, hd, hby, if_neg (by omega)]
                have e2 : (((mp.drop (aw_txt aw_tn js i).length).drop 1).drop 1) = mp.drop (aw_txt aw_tn js (i + 1)).length := by
                  rw [← e1]
                  simp only [List.drop_drop, List.length_append, List.length_singleton, Nat.add_assoc]
                rw [e1, e2]
                exact ih (i + 1) _ (by omega)
              · have b90 : (aw_tq (aw_tn a)) = 15 := (am_eqN (i := (aw_tq (aw_tn a))) (n := 15) (by omega) (by omega)).mp (Decidable.not_not.mp b90)
                omega
theorem aw_k143b {w : Nat → am_C} {g : am_H} (d : Nat) {ft ty wr wd wt sn : Int32} (h21 : w 21 = aw_c21 ft ty wr wd wt sn) {ma : List Int32} (h27 : w 27 = am_I 0 ma) (l27 : ma.length = 3) {to : List Int32} (h26 : w 26 = am_I 0 to) (l26 : to.length = 360) (h24 : w 24 = .inr (3, aw_n1.map Value.long)) (h25 : w 25 = .inr (3, aw_n2.map Value.long)) {k : Nat} (hk : k < 3) {js : List Nat} (hmk : ma.getD k 0 = Int32.ofNat js.length) (hl2 : js.length ≤ 120) (ht : ∀ z a : Nat, js[z]? = some a → a < 37 ∧ to.getD (120 * k + z) 0 = aw_tau a) {mp : List Int32} (hpl : mp.length = 400) (hp : aw_pgl js ≤ 400) (h23 : w 23 = am_I 0 mp) (hm : ¬ ma.getD k 0 = 0) : am_R (d + 2) 143 0 [some (.ref 1021), some (.int (Int32.ofNat k)), some (.int 1), none, none] [] (am_h w g) (.inl (some (.int (Int32.ofNat (aw_txt aw_tn js js.length).length)))) (am_h (aw_mg w 0 ty wd wt sn (aw_txt aw_tn js js.length) (mp.drop (aw_txt aw_tn js js.length).length)) g) := by
  refine am_R.nxs 4 (pc' := 4) (lv' := [some (.ref 1021), some (.int (Int32.ofNat k)), some (.int 1), none, none]) (st' := [.int 1, .int (Int32.ofNat k), .ref 1021, .ref 1021]) (h1 := am_h w g) rfl ?_
  refine am_R.cv (a := 1021) (as' := [.int (Int32.ofNat k), .int 1]) (r := [.ref 1021]) (v := some (.int 0)) (h1 := am_h w g) (pc' := 7) rfl rfl rfl rfl (am_wf 21 (by decide) h21) rfl rfl (aw_k133a (d + 1) h21 h27 l27 hk hm) rfl ?_
  refine am_R.cv (a := 1021) (as' := [.int 0]) (r := []) (v := some (.int 0)) (h1 := am_h (am_pu w 21 (aw_c21 0 ty wr wd wt sn)) g) (pc' := 10) rfl rfl rfl rfl (am_wf 21 (by decide) h21) rfl rfl (aw_k99a (w := w) (d + 1) h21 0 (by decide)) rfl ?_
  refine am_R.ites 1 (P := 0 = 0) (T := 15) (F := 13) (lv' := [some (.ref 1021), some (.int (Int32.ofNat k)), some (.int 1), none, none]) (st' := []) (h1 := am_h (am_pu w 21 (aw_c21 0 ty wr wd wt sn)) g) rfl (fun b10 => ?_) (fun b10 => ?_)
  · refine am_R.nxs 2 (pc' := 17) (lv' := [some (.ref 1021), some (.int (Int32.ofNat k)), some (.int 1), none, none]) (st' := [.int 0, .ref 1021]) (h1 := am_h (am_pu w 21 (aw_c21 0 ty wr wd wt sn)) g) rfl ?_
    refine am_R.pf (k := 3) (pc' := 20) (h1 := am_h (aw_mg w 0 ty wd wt sn [] mp) g) rfl (am_wf 21 (by decide) (rfl : am_pu w 21 (aw_c21 0 ty wr wd wt sn) 21 = _)) rfl (Nat.le_of_ble_eq_true rfl) rfl (fun q => by cases q) (am_wsE (k := 21) (by decide) (by decide) (aw_mg_zero h23)) rfl ?_
    refine am_R.nxs 2 (pc' := 22) (lv' := [some (.ref 1021), some (.int (Int32.ofNat k)), some (.int 1), some (.int 0), none]) (st' := []) (h1 := am_h (aw_mg w 0 ty wd wt sn [] mp) g) rfl ?_
    have k9 := aw_k143lb (w := w) (g := g) (ft := 0) (ty := ty) (wd := wd) (wt := wt) (sn := sn) d h27 l27 h26 l26 h24 h25 hk hmk hl2 ht hpl hp js.length 0 none (Nat.zero_add _)
    rw [show aw_txt aw_tn js 0 = [] from rfl, List.length_nil, List.drop_zero] at k9
    exact k9
  · exact absurd rfl b10
theorem aw_k143bb {w : Nat → am_C} {g : am_H} (d : Nat) {ft ty wr wd wt sn : Int32} (h21 : w 21 = aw_c21 ft ty wr wd wt sn) {ma : List Int32} (h27 : w 27 = am_I 0 ma) (l27 : ma.length = 3) {k : Nat} (hk : k < 3) (hm : ma.getD k 0 = 0) : am_R (d + 2) 143 0 [some (.ref 1021), some (.int (Int32.ofNat k)), some (.int 1), none, none] [] (am_h w g) (.inl (some (.int 0))) (am_h (am_pu w 21 (aw_c21 2 ty wr wd wt sn)) g) := by
  refine am_R.nxs 4 (pc' := 4) (lv' := [some (.ref 1021), some (.int (Int32.ofNat k)), some (.int 1), none, none]) (st' := [.int 1, .int (Int32.ofNat k), .ref 1021, .ref 1021]) (h1 := am_h w g) rfl ?_
  refine am_R.cv (a := 1021) (as' := [.int (Int32.ofNat k), .int 1]) (r := [.ref 1021]) (v := some (.int 2)) (h1 := am_h w g) (pc' := 7) rfl rfl rfl rfl (am_wf 21 (by decide) h21) rfl rfl (aw_k133b (d + 1) h21 h27 l27 hk hm) rfl ?_
  refine am_R.cv (a := 1021) (as' := [.int 2]) (r := []) (v := some (.int 1)) (h1 := am_h (am_pu w 21 (aw_c21 2 ty wr wd wt sn)) g) (pc' := 10) rfl rfl rfl rfl (am_wf 21 (by decide) h21) rfl rfl (aw_k99b (w := w) (d + 1) h21 2 (by decide)) rfl ?_
  refine am_R.ites 1 (P := 1 = 0) (T := 15) (F := 13) (lv' := [some (.ref 1021), some (.int (Int32.ofNat k)), some (.int 1), none, none]) (st' := []) (h1 := am_h (am_pu w 21 (aw_c21 2 ty wr wd wt sn)) g) rfl (fun b10 => ?_) (fun b10 => ?_)
  · exact absurd b10 (by decide)
  · refine am_R.nxs 1 (pc' := 14) (lv' := [some (.ref 1021), some (.int (Int32.ofNat k)), some (.int 1), none, none]) (st' := [.int 0]) (h1 := am_h (am_pu w 21 (aw_c21 2 ty wr wd wt sn)) g) rfl ?_
    exact am_R.reti rfl rfl rfl
theorem aw_k147b {w : Nat → am_C} {g : am_H} (d : Nat) {ft ty wr wd wt sn : Int32} (h21 : w 21 = aw_c21 ft ty wr wd wt sn) {ma : List Int32} (h27 : w 27 = am_I 0 ma) (l27 : ma.length = 3) {k : Nat} (hk : k < 3) (hm : ma.getD k 0 = 0) : am_R (d + 3) 147 0 [some (.ref 1021), some (.int (Int32.ofNat k))] [] (am_h w g) (.inl (some (.int 0))) (am_h (am_pu w 21 (aw_c21 2 ty wr wd wt sn)) g) := by
  refine am_R.nxs 3 (pc' := 3) (lv' := [some (.ref 1021), some (.int (Int32.ofNat k))]) (st' := [.int 1, .int (Int32.ofNat k), .ref 1021]) (h1 := am_h w g) rfl ?_
  refine am_R.cv (a := 1021) (as' := [.int (Int32.ofNat k), .int 1]) (r := []) (v := some (.int 0)) (h1 := am_h (am_pu w 21 (aw_c21 2 ty wr wd wt sn)) g) (pc' := 6) rfl rfl rfl rfl (am_wf 21 (by decide) h21) rfl rfl (aw_k143bb d h21 h27 l27 hk hm) rfl ?_
  exact am_R.reti rfl rfl rfl
theorem aw_k143bc {w : Nat → am_C} {g : am_H} (d : Nat) {ft ty wr wd wt sn : Int32} (h21 : w 21 = aw_c21 ft ty wr wd wt sn) (s : Int32) (hs : s < 0 ∨ 2 < s) : am_R (d + 2) 143 0 [some (.ref 1021), some (.int s), some (.int 1), none, none] [] (am_h w g) (.inl (some (.int 0))) (am_h (am_pu w 21 (aw_c21 1 ty wr wd wt sn)) g) := by
  refine am_R.nxs 4 (pc' := 4) (lv' := [some (.ref 1021), some (.int s), some (.int 1), none, none]) (st' := [.int 1, .int s, .ref 1021, .ref 1021]) (h1 := am_h w g) rfl ?_
  refine am_R.cv (a := 1021) (as' := [.int s, .int 1]) (r := [.ref 1021]) (v := some (.int 1)) (h1 := am_h w g) (pc' := 7) rfl rfl rfl rfl (am_wf 21 (by decide) h21) rfl rfl (aw_k133c (d + 1) h21 s 1 (hs.elim Or.inl (fun q => Or.inr (Or.inl q)))) rfl ?_
  refine am_R.cv (a := 1021) (as' := [.int 1]) (r := []) (v := some (.int 1)) (h1 := am_h (am_pu w 21 (aw_c21 1 ty wr wd wt sn)) g) (pc' := 10) rfl rfl rfl rfl (am_wf 21 (by decide) h21) rfl rfl (aw_k99b (w := w) (d + 1) h21 1 (by decide)) rfl ?_
  refine am_R.ites 1 (P := 1 = 0) (T := 15) (F := 13) (lv' := [some (.ref 1021), some (.int s), some (.int 1), none, none]) (st' := []) (h1 := am_h (am_pu w 21 (aw_c21 1 ty wr wd wt sn)) g) rfl (fun b10 => ?_) (fun b10 => ?_)
  · exact absurd b10 (by decide)
  · refine am_R.nxs 1 (pc' := 14) (lv' := [some (.ref 1021), some (.int s), some (.int 1), none, none]) (st' := [.int 0]) (h1 := am_h (am_pu w 21 (aw_c21 1 ty wr wd wt sn)) g) rfl ?_
    exact am_R.reti rfl rfl rfl
theorem aw_k147c {w : Nat → am_C} {g : am_H} (d : Nat) {ft ty wr wd wt sn : Int32} (h21 : w 21 = aw_c21 ft ty wr wd wt sn) (s : Int32) (hs : s < 0 ∨ 2 < s) : am_R (d + 3) 147 0 [some (.ref 1021), some (.int s)] [] (am_h w g) (.inl (some (.int 0))) (am_h (am_pu w 21 (aw_c21 1 ty wr wd wt sn)) g) := by
  refine am_R.nxs 3 (pc' := 3) (lv' := [some (.ref 1021), some (.int s)]) (st' := [.int 1, .int s, .ref 1021]) (h1 := am_h w g) rfl ?_
  refine am_R.cv (a := 1021) (as' := [.int s, .int 1]) (r := []) (v := some (.int 0)) (h1 := am_h (am_pu w 21 (aw_c21 1 ty wr wd wt sn)) g) (pc' := 6) rfl rfl rfl rfl (am_wf 21 (by decide) h21) rfl rfl (aw_k143bc d h21 s hs) rfl ?_
  exact am_R.reti rfl rfl rfl
theorem aw_k147a {w : Nat → am_C} {g : am_H} (d : Nat) {ft ty wr wd wt sn : Int32} (h21 : w 21 = aw_c21 ft ty wr wd wt sn) {ma : List Int32} (h27 : w 27 = am_I 0 ma) (l27 : ma.length = 3) {to : List Int32} (h26 : w 26 = am_I 0 to) (l26 : to.length = 360) (h24 : w 24 = .inr (3, aw_n1.map Value.long)) (h25 : w 25 = .inr (3, aw_n2.map Value.long)) {k : Nat} (hk : k < 3) {js : List Nat} (hmk : ma.getD k 0 = Int32.ofNat js.length) (hl2 : js.length ≤ 120) (ht : ∀ z a : Nat, js[z]? = some a → a < 37 ∧ to.getD (120 * k + z) 0 = aw_tau a) {mp : List Int32} (hpl : mp.length = 400) (hp : aw_pgl js ≤ 400) (h23 : w 23 = am_I 0 mp) (hm : ¬ ma.getD k 0 = 0) : am_R (d + 3) 147 0 [some (.ref 1021), some (.int (Int32.ofNat k))] [] (am_h w g) (.inl (some (.int (Int32.ofNat (aw_txt aw_tn js js.length).length)))) (am_h (aw_mg w 0 ty wd wt sn (aw_txt aw_tn js js.length) (mp.drop (aw_txt aw_tn js js.length).length)) g) := by
  refine am_R.nxs 3 (pc' := 3) (lv' := [some (.ref 1021), some (.int (Int32.ofNat k))]) (st' := [.int 1, .int (Int32.ofNat k), .ref 1021]) (h1 := am_h w g) rfl ?_
  refine am_R.cv (a := 1021) (as' := [.int (Int32.ofNat k), .int 1]) (r := []) (v := some (.int (Int32.ofNat ((aw_txt aw_tn js js.length).length)))) (h1 := am_h (aw_mg w 0 ty wd wt sn (aw_txt aw_tn js js.length) (mp.drop (aw_txt aw_tn js js.length).length)) g) (pc' := 6) rfl rfl rfl rfl (am_wf 21 (by decide) h21) rfl rfl (aw_k143b d h21 h27 l27 h26 l26 h24 h25 hk hmk hl2 ht hpl hp h23 hm) rfl ?_
  exact am_R.reti rfl rfl rfl
