/-! How the class writes a page. -/
/-- the letters of word j -/
def aw_byL : List (List Int32) := [[111, 114], [97, 114, 103, 101, 110, 116], [103, 117, 108, 101, 115], [97, 122, 117, 114, 101], [118, 101, 114, 116], [115, 97, 98, 108, 101], [112, 117, 114, 112, 117, 114, 101], [101, 114, 109, 105, 110, 101], [118, 97, 105, 114], [99, 111, 117, 110, 116, 101, 114, 99, 104, 97, 110, 103, 101, 100], [112, 101, 114], [113, 117, 97, 114, 116, 101, 114, 108, 121], [97, 110, 100], [40], [41], [99, 104, 97, 114, 103, 101, 100], [119, 105, 116, 104], [99, 104, 105, 101, 102], [102, 101, 115, 115], [112, 97, 108, 101], [98, 101, 110, 100], [99, 114, 111, 115, 115], [115, 97, 108, 116, 105, 114, 101], [99, 104, 101, 118, 114, 111, 110], [98, 111, 114, 100, 117, 114, 101], [97], [116, 119, 111], [116, 104, 114, 101, 101], [102, 111, 117, 114], [102, 105, 118, 101], [115, 105, 120], [114, 111, 117, 110, 100, 101, 108], [98, 105, 108, 108, 101, 116], [108, 111, 122, 101, 110, 103, 101], [114, 111, 117, 110, 100, 101, 108, 115], [98, 105, 108, 108, 101, 116, 115], [108, 111, 122, 101, 110, 103, 101, 115], []]
def aw_by (j : Nat) : List Int32 := aw_byL.getD j []
def aw_kdL : List Int32 := [1, 1, 1, 1, 1, 1, 1, 1, 1, 0, 0, 0, 0, 0, 0, 0, 0, 2, 2, 2, 2, 2, 2, 2, 2, 3, 3, 3, 3, 3, 3, 4, 4, 4, 5, 5, 5, 0]
def aw_kd (j : Nat) : Int32 := aw_kdL.getD j 0
def aw_nuL : List Int32 := [0, 1, 2, 3, 4, 5, 6, 7, 8, 9, 0, 0, 0, 0, 0, 0, 0, 0, 0, 0, 0, 0, 0, 0, 0, 1, 2, 3, 4, 5, 6, 0, 0, 0, 0, 0, 0, 0]
def aw_nu (j : Nat) : Int32 := aw_nuL.getD j 0
def aw_isL (c : Option am_C) (t : Nat) (l : List Value) : Bool := match c with
  | some (.inl (ci, fs)) => decide (ci = t) && decide (fs = l)
  | _ => false
def aw_isR (c : Option am_C) (t : Nat) (l : List Value) : Bool := match c with
  | some (.inr (ci, fs)) => decide (ci = t) && decide (fs = l)
  | _ => false
theorem aw_isL_eq {c : Option am_C} {t : Nat} {l : List Value} (h : aw_isL c t l = true) : c = some (.inl (t, l)) := by
  unfold aw_isL at h
  split at h
  · simp only [Bool.and_eq_true, decide_eq_true_eq] at h
    rw [h.1, h.2]
  · cases h
theorem aw_isR_eq {c : Option am_C} {t : Nat} {l : List Value} (h : aw_isR c t l = true) : c = some (.inr (t, l)) := by
  unfold aw_isR at h
  split at h
  · simp only [Bool.and_eq_true, decide_eq_true_eq] at h
    rw [h.1, h.2]
  · cases h
set_option maxRecDepth 100000 in
theorem aw_stB : (List.range 38).all (fun j => aw_isL am_stat[40 + j]? 12 [.ref (78 + j), .int 0] && aw_isR am_stat[78 + j]? 2 ((aw_by j).map Value.int) && aw_isL am_stat[j]? 11 [.ref (40 + j), .int (aw_kd j), .int (aw_nu j), .int (Int32.ofNat j)]) = true := by decide +kernel
theorem aw_stA (j : Nat) (hj : j < 38) : am_stat[40 + j]? = some (.inl (12, [.ref (78 + j), .int 0])) ∧ am_stat[78 + j]? = some (am_I 2 (aw_by j)) ∧ am_stat[j]? = some (.inl (11, [.ref (40 + j), .int (aw_kd j), .int (aw_nu j), .int (Int32.ofNat j)])) := by
  have q := List.all_eq_true.mp aw_stB j (List.mem_range.mpr hj)
  simp only [Bool.and_eq_true] at q
  exact ⟨aw_isL_eq q.1.1, aw_isR_eq q.1.2, aw_isL_eq q.2⟩
theorem aw_st40 {h : am_H} {j : Nat} (hj : j < 38) : am_at h (40 + j) = some (.inl (12, [.ref (78 + j), .int 0])) := by
  unfold am_at
  rw [if_pos (by omega)]
  exact (aw_stA j hj).1
theorem aw_st78 {h : am_H} {j : Nat} (hj : j < 38) : am_at h (78 + j) = some (am_I 2 (aw_by j)) := by
  unfold am_at
  rw [if_pos (by omega)]
  exact (aw_stA j hj).2.1
theorem aw_st0 {h : am_H} {j : Nat} (hj : j < 38) : am_at h j = some (.inl (11, [.ref (40 + j), .int (aw_kd j), .int (aw_nu j), .int (Int32.ofNat j)])) := by
  unfold am_at
  rw [if_pos (by omega)]
  exact (aw_stA j hj).2.2
theorem aw_byA : ∀ j, j < 38 → (aw_by j).length ≤ 14 ∧ ∀ c ∈ aw_by j, ((c &&& 255).toUInt32 % 65536).toInt32 = c ∧ 32 ≤ c ∧ c ≤ 126 ∧ fits .char (.int c) = true := by decide +kernel
theorem aw_by_at {j i : Nat} (hj : j < 38) (hi : i < (aw_by j).length) : (((aw_by j).getD i 0 &&& 255).toUInt32 % 65536).toInt32 = (aw_by j).getD i 0 ∧ aw_chr ((aw_by j).getD i 0) ∧ fits .char (.int ((aw_by j).getD i 0)) = true := by
  have hm : (aw_by j).getD i 0 ∈ aw_by j := by
    rw [List.getD_eq_getElem?_getD, List.getElem?_eq_getElem hi]
    exact List.getElem_mem hi
  obtain ⟨a, b, c, e⟩ := (aw_byA j hj).2 _ hm
  exact ⟨a, ⟨b, c⟩, e⟩
theorem aw_shr0 : ∀ n, n < 15 → Int32.ofNat n >>> ((0 : Int32) &&& 31) = Int32.ofNat n := by decide
section AmPg
variable {d mi pc pc' len : Nat} {lv : am_L} {st : List Value} {h h' : am_H} {o : am_O}
theorem am_R.ci {i n : Nat} (hc : am_code mi pc = some (.monitorexit, len)) (hi : i < n) (hn : n < 2 ^ 31) (hs : (st.map fun v => v.category).sum ≤ 8) (hq : pc + len = pc') (k1 : am_R d mi pc' lv st h o h') : am_R d mi pc lv (.int (Int32.ofNat n) :: .int (Int32.ofNat i) :: st) h o h' := by
  subst hq
  refine am_R.nx (pc' := pc + len) (lv' := lv) (st' := st) (h1 := h) ?_ k1
  have hx : am_spc .monitorexit (.int (Int32.ofNat n) :: .int (Int32.ofNat i) :: st) = some st := by
    simp only [am_spc]
    rw [if_pos ⟨(am_leN (i := 0) (by decide) (by omega)).mpr (Nat.zero_le _), (am_ltN (by omega) hn).mpr hi, hs⟩]
  simp [am_nx, hc, am_ret, am_thr, am_inv, am_one, am_push, am_sto, am_ari, am_br, am_rd, am_wr, am_kind, am_mk, hx]
theorem am_R.ldb {a i : Nat} {xs : List Int32} (hc : am_code mi pc = some (.baload, len)) (ha : am_at h a = some (am_I 2 xs)) (hi : i < xs.length) (hl : xs.length < 2 ^ 31) (hq : pc + len = pc') (k1 : am_R d mi pc' lv (.int (xs.getD i 0) :: st) h o h') : am_R d mi pc lv (.int (Int32.ofNat i) :: .ref a :: st) h o h' := by
  subst hq
  refine am_R.nx (pc' := pc + len) (lv' := lv) (st' := .int (xs.getD i 0) :: st) (h1 := h) ?_ k1
  have hx := am_el_ok (st := st) (t := 2) ha (by rw [List.length_map]; exact hi) (by rw [List.length_map]; exact hl) (am_map_get hi)
  simp [am_nx, hc, am_ret, am_thr, am_inv, am_one, am_push, am_sto, am_ari, am_br, am_rd, hx]
end AmPg
theorem aw_k15 (d : Nat) (h : am_H) {j : Nat} (hj : j < 38)  : am_R (d) 15 0 [some (.ref (40 + j))] [] h (.inl (some (.int 0))) h := by
  refine am_R.ites 2 (P := 1 = 0) (T := 13) (F := 6) (lv' := [some (.ref (40 + j))]) (st' := []) (h1 := h) rfl (fun b3 => ?_) (fun b3 => ?_)
  · exact absurd b3 (by decide)
  · refine am_R.nxs 1 (pc' := 7) (lv' := [some (.ref (40 + j))]) (st' := [.ref (40 + j)]) (h1 := h) rfl ?_
    refine am_R.gf (pc' := 10) (v := .int 0) rfl (aw_st40 hj) rfl rfl rfl ?_
    refine am_R.nxs 1 (pc' := 14) (lv' := [some (.ref (40 + j))]) (st' := [.int 0]) (h1 := h) rfl ?_
    exact am_R.reti rfl rfl rfl
theorem aw_k17 (d : Nat) (h : am_H) {j : Nat} (hj : j < 38)  : am_R (d) 17 0 [some (.ref (40 + j))] [] h (.inl (some (.int 1))) h := by
  refine am_R.ites 2 (P := 1 = 0) (T := 17) (F := 6) (lv' := [some (.ref (40 + j))]) (st' := []) (h1 := h) rfl (fun b3 => ?_) (fun b3 => ?_)
  · exact absurd b3 (by decide)
  · refine am_R.nxs 1 (pc' := 7) (lv' := [some (.ref (40 + j))]) (st' := [.ref (40 + j)]) (h1 := h) rfl ?_
    refine am_R.gf (pc' := 10) (v := .int 0) rfl (aw_st40 hj) rfl rfl rfl ?_
    refine am_R.ites 1 (P := ¬ 0 = 0) (T := 17) (F := 13) (lv' := [some (.ref (40 + j))]) (st' := []) (h1 := h) rfl (fun b10 => ?_) (fun b10 => ?_)
    · exact absurd rfl b10
    · refine am_R.nxs 2 (pc' := 18) (lv' := [some (.ref (40 + j))]) (st' := [.int 1]) (h1 := h) rfl ?_
      exact am_R.reti rfl rfl rfl
theorem aw_k14 (d : Nat) (h : am_H) {j : Nat} (hj : j < 38)  : am_R (d + 1) 14 0 [some (.ref (40 + j))] [] h (.inl (some (.int (Int32.ofNat (aw_by j).length)))) h := by
  refine am_R.nxs 1 (pc' := 1) (lv' := [some (.ref (40 + j))]) (st' := [.ref (40 + j)]) (h1 := h) rfl ?_
  refine am_R.gf (pc' := 4) (v := .ref (78 + j)) rfl (aw_st40 hj) rfl rfl rfl ?_
  refine am_R.ali (xs := (aw_by j)) (pc' := 5) rfl (aw_st78 hj) rfl ?_
  refine am_R.nxs 1 (pc' := 6) (lv' := [some (.ref (40 + j))]) (st' := [.ref (40 + j), .int (Int32.ofNat ((aw_by j).length))]) (h1 := h) rfl ?_
  refine am_R.cv (a := (40 + j)) (as' := []) (r := [.int (Int32.ofNat ((aw_by j).length))]) (v := some (.int 0)) (h1 := h) (pc' := 9) rfl rfl rfl rfl (aw_st40 hj) rfl rfl (aw_k15 d h hj) rfl ?_
  refine am_R.nxs 1 (pc' := 10) (lv' := [some (.ref (40 + j))]) (st' := [.int (Int32.ofNat ((aw_by j).length) >>> (0 &&& 31))]) (h1 := h) rfl ?_
  rw [aw_shr0 _ (by have := (aw_byA j hj).1; omega)]
  exact am_R.reti rfl rfl rfl
theorem aw_k18 (d : Nat) (h : am_H) {j : Nat} (hj : j < 38) (i : Nat) (hi : i < (aw_by j).length) : am_R (d) 18 0 [some (.ref (78 + j)), some (.int (Int32.ofNat i))] [] h (.inl (some (.int ((aw_by j).getD i 0)))) h := by
  have hl := (aw_byA j hj).1
  refine am_R.nxs 2 (pc' := 2) (lv' := [some (.ref (78 + j)), some (.int (Int32.ofNat i))]) (st' := [.ref (78 + j), .int (Int32.ofNat i)]) (h1 := h) rfl ?_
  refine am_R.ali (xs := (aw_by j)) (pc' := 3) rfl (aw_st78 hj) rfl ?_
  refine am_R.ci (i := i) (n := (aw_by j).length) (pc' := 6) rfl (by omega) (by omega) (by decide) rfl ?_
  refine am_R.nxs 2 (pc' := 8) (lv' := [some (.ref (78 + j)), some (.int (Int32.ofNat i))]) (st' := [.int (Int32.ofNat i), .ref (78 + j)]) (h1 := h) rfl ?_
  refine am_R.ldb (i := i) (xs := (aw_by j)) (pc' := 9) rfl (aw_st78 hj) (by omega) (by omega) rfl ?_
  refine am_R.nxs 3 (pc' := 14) (lv' := [some (.ref (78 + j)), some (.int (Int32.ofNat i))]) (st' := [.int ((((((aw_by j).getD i 0) &&& 255)).toUInt32 % 65536).toInt32)]) (h1 := h) rfl ?_
  rw [(aw_by_at hj hi).1]
  exact am_R.reti rfl rfl (aw_by_at hj hi).2.2
theorem aw_k16 (d : Nat) (h : am_H) {j : Nat} (hj : j < 38) (i : Nat) (hi : i < (aw_by j).length) : am_R (d + 1) 16 0 [some (.ref (40 + j)), some (.int (Int32.ofNat i))] [] h (.inl (some (.int ((aw_by j).getD i 0)))) h := by
  refine am_R.nxs 1 (pc' := 1) (lv' := [some (.ref (40 + j)), some (.int (Int32.ofNat i))]) (st' := [.ref (40 + j)]) (h1 := h) rfl ?_
  refine am_R.cv (a := (40 + j)) (as' := []) (r := []) (v := some (.int 1)) (h1 := h) (pc' := 4) rfl rfl rfl rfl (aw_st40 hj) rfl rfl (aw_k17 d h hj) rfl ?_
  refine am_R.ites 1 (P := 1 = 0) (T := 16) (F := 7) (lv' := [some (.ref (40 + j)), some (.int (Int32.ofNat i))]) (st' := []) (h1 := h) rfl (fun b4 => ?_) (fun b4 => ?_)
  · exact absurd b4 (by decide)
  · refine am_R.nxs 1 (pc' := 8) (lv' := [some (.ref (40 + j)), some (.int (Int32.ofNat i))]) (st' := [.ref (40 + j)]) (h1 := h) rfl ?_
    refine am_R.gf (pc' := 11) (v := .ref (78 + j)) rfl (aw_st40 hj) rfl rfl rfl ?_
    refine am_R.nxs 1 (pc' := 12) (lv' := [some (.ref (40 + j)), some (.int (Int32.ofNat i))]) (st' := [.int (Int32.ofNat i), .ref (78 + j)]) (h1 := h) rfl ?_
    refine am_R.cs (mj := 18) (as := [.ref (78 + j), .int (Int32.ofNat i)]) (r := []) (v := some (.int ((aw_by j).getD i 0))) (h1 := h) (pc' := 15) rfl (aw_k18 d h hj i hi) rfl ?_
    exact am_R.reti rfl rfl (aw_by_at hj hi).2.2
/-- the page holds Q, then S -/
def aw_pg (w : Nat → am_C) (tl sp : Nat) (Q S : List Int32) : Nat → am_C := am_pu (am_pu w 3 (am_I 1 (Q ++ S))) 1 (aw_c1 tl Q.length sp)
theorem aw_pg_self {w : Nat → am_C} {tl sp : Nat} {Q S : List Int32} (h1 : w 1 = aw_c1 tl Q.length sp) (h3 : w 3 = am_I 1 (Q ++ S)) : aw_pg w tl sp Q S = w := by
  funext j
  simp only [aw_pg, am_pu]
  split
  · rename_i e
    rw [e, h1]
  · split
    · rename_i e
      rw [e, h3]
    · rfl
theorem aw_pg_put {w : Nat → am_C} {tl sp : Nat} {Q S : List Int32} {c : Int32} (hS : 0 < S.length) : am_pu (am_pu (aw_pg w tl sp Q S) 3 (am_I 1 ((Q ++ S).set Q.length c))) 1 (aw_c1 tl (Q.length + 1) sp) = aw_pg w tl sp (Q ++ [c]) (S.drop 1) := by
  have e : (Q ++ S).set Q.length c = (Q ++ [c]) ++ S.drop 1 := by
    cases S with
    | nil => cases hS
    | cons a S => simp
  rw [e]
  funext j
  simp only [aw_pg, am_pu, List.length_append, List.length_singleton]
  (repeat' split) <;> first | rfl | omega
theorem aw_k88 {w : Nat → am_C} {g : am_H} (d : Nat) {tl sp : Nat} {Q S : List Int32} (c : Int32) (hl : Q.length + S.length = 480) (hS : 0 < S.length) (hc : 0 ≤ c ∧ c ≤ 65535) : am_R d 88 0 [some (.ref 1001), some (.int c)] [] (am_h (aw_pg w tl sp Q S) g) (.inl none) (am_h (aw_pg w tl sp (Q ++ [c]) (S.drop 1)) g) := by
  have hl : (Q ++ S).length = 480 := by rw [List.length_append]; exact hl
  refine am_R.nxs 1 (pc' := 1) (lv' := [some (.ref 1001), some (.int c)]) (st' := [.ref 1001]) (h1 := am_h (aw_pg w tl sp Q S) g) rfl ?_
  refine am_R.gf (pc' := 4) (v := .int (Int32.ofNat Q.length)) rfl (am_wf 1 (by decide) (rfl : (aw_pg w tl sp Q S) 1 = _)) rfl rfl rfl ?_
  refine am_R.ites 2 (P := 480 ≤ Int32.ofNat Q.length) (T := 30) (F := 10) (lv' := [some (.ref 1001), some (.int c)]) (st' := []) (h1 := am_h (aw_pg w tl sp Q S) g) rfl (fun b7 => ?_) (fun b7 => ?_)
  · have b7 : 480 ≤ Q.length := (am_leN (i := 480) (n := Q.length) (by omega) (by omega)).mp b7
    omega
  · have b7 : ¬ 480 ≤ Q.length := fun hq9 => b7 ((am_leN (i := 480) (n := Q.length) (by omega) (by omega)).mpr hq9)
    refine am_R.nxs 1 (pc' := 11) (lv' := [some (.ref 1001), some (.int c)]) (st' := [.ref 1001]) (h1 := am_h (aw_pg w tl sp Q S) g) rfl ?_
    refine am_R.gf (pc' := 14) (v := .ref 1003) rfl (am_wf 1 (by decide) (rfl : (aw_pg w tl sp Q S) 1 = _)) rfl rfl rfl ?_
    refine am_R.nxs 1 (pc' := 15) (lv' := [some (.ref 1001), some (.int c)]) (st' := [.ref 1001, .ref 1003]) (h1 := am_h (aw_pg w tl sp Q S) g) rfl ?_
    refine am_R.gf (pc' := 18) (v := .int (Int32.ofNat Q.length)) rfl (am_wf 1 (by decide) (rfl : (aw_pg w tl sp Q S) 1 = _)) rfl rfl rfl ?_
    refine am_R.nxs 1 (pc' := 19) (lv' := [some (.ref 1001), some (.int c)]) (st' := [.int c, .int (Int32.ofNat Q.length), .ref 1003]) (h1 := am_h (aw_pg w tl sp Q S) g) rfl ?_
    refine am_R.stc (i := Q.length) (xs := (Q ++ S)) (pc' := 20) rfl (am_wf 3 (by decide) (rfl : (aw_pg w tl sp Q S) 3 = _)) (by omega) (by omega) (hc) (am_ws (k := 3) (by decide) (by decide)) rfl ?_
    refine am_R.nxs 2 (pc' := 22) (lv' := [some (.ref 1001), some (.int c)]) (st' := [.ref 1001, .ref 1001]) (h1 := am_h (am_pu (aw_pg w tl sp Q S) 3 (am_I 1 ((Q ++ S).set Q.length c))) g) rfl ?_
    refine am_R.gf (pc' := 25) (v := .int (Int32.ofNat Q.length)) rfl (am_wf 1 (by decide) (rfl : (aw_pg w tl sp Q S) 1 = _)) rfl rfl rfl ?_
    refine am_R.nxs 2 (pc' := 27) (lv' := [some (.ref 1001), some (.int c)]) (st' := [.int (Int32.ofNat Q.length + 1), .ref 1001]) (h1 := am_h (am_pu (aw_pg w tl sp Q S) 3 (am_I 1 ((Q ++ S).set Q.length c))) g) rfl ?_
    rw [show (Int32.ofNat Q.length + 1 : Int32) = Int32.ofNat (Q.length + 1) from am_add Q.length 1]
    refine am_R.pf (k := 3) (pc' := 30) rfl (am_wf 1 (by decide) (rfl : (aw_pg w tl sp Q S) 1 = _)) rfl (Nat.le_of_ble_eq_true rfl) rfl (fun q => by cases q) (am_ws (k := 1) (by decide) (by decide)) rfl ?_
    rw [← aw_pg_put (by omega)]
    exact am_R.ret rfl rfl
theorem aw_k90l {w : Nat → am_C} {g : am_H} (d : Nat) {tl sp j : Nat} {Q S : List Int32} (hj : j < 38) (hl : Q.length + S.length = 480) (hS : (aw_by j).length ≤ S.length) : ∀ m i : Nat, i + m = (aw_by j).length → am_R (d + 3) 90 2 [some (.ref 1001), some (.ref j), some (.int (Int32.ofNat i))] [] (am_h (aw_pg w tl sp (Q ++ (aw_by j).take i) (S.drop i)) g) (.inl none) (am_h (aw_pg w tl sp (Q ++ aw_by j) (S.drop (aw_by j).length)) g) := by
  have hb := (aw_byA j hj).1
  intro m
  induction m with
  | zero =>
    intro i hi
    have hi9 : i = (aw_by j).length := by omega
    refine am_R.nxs 2 (pc' := 4) (lv' := [some (.ref 1001), some (.ref j), some (.int (Int32.ofNat i))]) (st' := [.ref j, .int (Int32.ofNat i)]) (h1 := am_h (aw_pg w tl sp (Q ++ (aw_by j).take i) (S.drop i)) g) rfl ?_
    refine am_R.gf (pc' := 7) (v := .ref (40 + j)) rfl (aw_st0 hj) rfl rfl rfl ?_
    refine am_R.cv (a := (40 + j)) (as' := []) (r := [.int (Int32.ofNat i)]) (v := some (.int (Int32.ofNat ((aw_by j).length)))) (h1 := am_h (aw_pg w tl sp (Q ++ (aw_by j).take i) (S.drop i)) g) (pc' := 10) rfl rfl rfl rfl (aw_st40 hj) rfl rfl (aw_k14 (d + 1) _ hj) rfl ?_
    refine am_R.ites 1 (P := Int32.ofNat ((aw_by j).length) ≤ Int32.ofNat i) (T := 31) (F := 13) (lv' := [some (.ref 1001), some (.ref j), some (.int (Int32.ofNat i))]) (st' := []) (h1 := am_h (aw_pg w tl sp (Q ++ (aw_by j).take i) (S.drop i)) g) rfl (fun b10 => ?_) (fun b10 => ?_)
    · have b10 : (aw_by j).length ≤ i := (am_leN (i := (aw_by j).length) (n := i) (by omega) (by omega)).mp b10
      rw [hi9, List.take_of_length_le (Nat.le_refl _)]
      exact am_R.ret rfl rfl
    · have b10 : ¬ (aw_by j).length ≤ i := fun hq9 => b10 ((am_leN (i := (aw_by j).length) (n := i) (by omega) (by omega)).mpr hq9)
      omega
  | succ m ih =>
    intro i hi
    have hib : i < (aw_by j).length := by omega
    refine am_R.nxs 2 (pc' := 4) (lv' := [some (.ref 1001), some (.ref j), some (.int (Int32.ofNat i))]) (st' := [.ref j, .int (Int32.ofNat i)]) (h1 := am_h (aw_pg w tl sp (Q ++ (aw_by j).take i) (S.drop i)) g) rfl ?_
    refine am_R.gf (pc' := 7) (v := .ref (40 + j)) rfl (aw_st0 hj) rfl rfl rfl ?_
    refine am_R.cv (a := (40 + j)) (as' := []) (r := [.int (Int32.ofNat i)]) (v := some (.int (Int32.ofNat ((aw_by j).length)))) (h1 := am_h (aw_pg w tl sp (Q ++ (aw_by j).take i) (S.drop i)) g) (pc' := 10) rfl rfl rfl rfl (aw_st40 hj) rfl rfl (aw_k14 (d + 1) _ hj) rfl ?_
    refine am_R.ites 1 (P := Int32.ofNat ((aw_by j).length) ≤ Int32.ofNat i) (T := 31) (F := 13) (lv' := [some (.ref 1001), some (.ref j), some (.int (Int32.ofNat i))]) (st' := []) (h1 := am_h (aw_pg w tl sp (Q ++ (aw_by j).take i) (S.drop i)) g) rfl (fun b10 => ?_) (fun b10 => ?_)
    · have b10 : (aw_by j).length ≤ i := (am_leN (i := (aw_by j).length) (n := i) (by omega) (by omega)).mp b10
      omega
    · have b10 : ¬ (aw_by j).length ≤ i := fun hq9 => b10 ((am_leN (i := (aw_by j).length) (n := i) (by omega) (by omega)).mpr hq9)
      refine am_R.nxs 2 (pc' := 15) (lv' := [some (.ref 1001), some (.ref j), some (.int (Int32.ofNat i))]) (st' := [.ref j, .ref 1001]) (h1 := am_h (aw_pg w tl sp (Q ++ (aw_by j).take i) (S.drop i)) g) rfl ?_
      refine am_R.gf (pc' := 18) (v := .ref (40 + j)) rfl (aw_st0 hj) rfl rfl rfl ?_
      refine am_R.nxs 1 (pc' := 19) (lv' := [some (.ref 1001), some (.ref j), some (.int (Int32.ofNat i))]) (st' := [.int (Int32.ofNat i), .ref (40 + j), .ref 1001]) (h1 := am_h (aw_pg w tl sp (Q ++ (aw_by j).take i) (S.drop i)) g) rfl ?_
      refine am_R.cv (a := (40 + j)) (as' := [.int (Int32.ofNat i)]) (r := [.ref 1001]) (v := some (.int ((aw_by j).getD i 0))) (h1 := am_h (aw_pg w tl sp (Q ++ (aw_by j).take i) (S.drop i)) g) (pc' := 22) rfl rfl rfl rfl (aw_st40 hj) rfl rfl (aw_k16 (d + 1) _ hj i hib) rfl ?_
      refine am_R.cv (a := 1001) (as' := [.int ((aw_by j).getD i 0)]) (r := []) (v := none) (h1 := am_h (aw_pg w tl sp ((Q ++ (aw_by j).take i) ++ [(aw_by j).getD i 0]) ((S.drop i).drop 1)) g) (pc' := 25) rfl rfl rfl rfl (am_wf 1 (by decide) (rfl : (aw_pg w tl sp (Q ++ (aw_by j).take i) (S.drop i)) 1 = _)) rfl rfl (aw_k88 (d + 2) ((aw_by j).getD i 0) (by simp; omega) (by simp; omega) ⟨Int32.le_trans (by decide) (aw_by_at hj hib).2.1.1, Int32.le_trans (aw_by_at hj hib).2.1.2 (by decide)⟩) rfl ?_
      refine am_R.nxs 1 (pc' := 28) (lv' := [some (.ref 1001), some (.ref j), some (.int (Int32.ofNat i + 1))]) (st' := []) (h1 := am_h (aw_pg w tl sp ((Q ++ (aw_by j).take i) ++ [(aw_by j).getD i 0]) ((S.drop i).drop 1)) g) rfl ?_
      rw [show (Int32.ofNat i + 1 : Int32) = Int32.ofNat (i + 1) from am_add i 1]
      refine am_R.nxs 1 (pc' := 2) (lv' := [some (.ref 1001), some (.ref j), some (.int (Int32.ofNat (i + 1)))]) (st' := []) (h1 := am_h (aw_pg w tl sp ((Q ++ (aw_by j).take i) ++ [(aw_by j).getD i 0]) ((S.drop i).drop 1)) g) rfl ?_
      have e1 : (Q ++ (aw_by j).take i) ++ [(aw_by j).getD i 0] = Q ++ (aw_by j).take (i + 1) := by
        rw [List.append_assoc, List.take_succ, List.getD_eq_getElem?_getD, List.getElem?_eq_getElem hib]
        rfl
      have e2 : (S.drop i).drop 1 = S.drop (i + 1) := by rw [List.drop_drop]
      rw [e1, e2]
      exact ih (i + 1) (by omega)
theorem aw_k90 {w : Nat → am_C} {g : am_H} (d : Nat) {tl sp j : Nat} {Q S : List Int32} (hj : j < 38) (hl : Q.length + S.length = 480) (hS : (aw_by j).length ≤ S.length) : am_R (d + 3) 90 0 [some (.ref 1001), some (.ref j), none] [] (am_h (aw_pg w tl sp Q S) g) (.inl none) (am_h (aw_pg w tl sp (Q ++ aw_by j) (S.drop (aw_by j).length)) g) := by
  refine am_R.nxs 2 (pc' := 2) (lv' := [some (.ref 1001), some (.ref j), some (.int 0)]) (st' := []) (h1 := am_h (aw_pg w tl sp Q S) g) rfl ?_
  have k := aw_k90l (w := w) (g := g) (tl := tl) (sp := sp) d hj hl hS (aw_by j).length 0 (Nat.zero_add _)
  rw [List.take_zero, List.append_nil, List.drop_zero] at k
  exact k
