/-! How the class cuts a text into words. -/
theorem am_sub {a b : Nat} (h : b ≤ a) : Int32.ofNat a - Int32.ofNat b = Int32.ofNat (a - b) := by
  have e : Int32.ofNat a = Int32.ofNat (a - b) + Int32.ofNat b := by
    rw [am_add, Nat.sub_add_cancel h]
  rw [e]
  exact Int32.add_sub_cancel _ _
section AmSt
variable {d mi pc pc' len : Nat} {lv : am_L} {st : List Value} {h h1 h' : am_H} {o : am_O}
/-- a reference is written into an array -/
theorem am_R.sta {a t i : Nat} {xs : List Value} {v : Value} (hc : am_code mi pc = some (.aastore, len)) (ha : am_at h a = some (.inr (t, xs))) (h4 : 4 ≤ t) (hi : i < xs.length) (hl : xs.length < 2 ^ 31) (hv : am_ok t v h = true) (hs : am_set h a (.inr (t, xs.set i v)) = some h1) (hq : pc + len = pc') (k1 : am_R d mi pc' lv st h1 o h') : am_R d mi pc lv (v :: .int (Int32.ofNat i) :: .ref a :: st) h o h' := by
  subst hq
  refine am_R.nx (pc' := pc + len) (lv' := lv) (st' := st) (h1 := h1) ?_ k1
  have e : (Int32.ofNat i).toNatClampNeg = i := Int32.toNatClampNeg_ofNat_of_lt (by omega)
  have hx : am_wr mi .aastore (v :: .int (Int32.ofNat i) :: .ref a :: st) h = some (st, h1) := by
    simp only [am_wr, am_kind, ha, e]
    rw [if_pos ⟨Or.inr ⟨trivial, h4⟩, am_ixN hi hl, hv⟩, hs]
    rfl
  simp [am_nx, hc, am_ret, am_thr, am_inv, am_one, am_push, am_sto, am_ari, am_br, am_rd, hx]
end AmSt
theorem aw_ws5 {w : Nat → am_C} {g : am_H} {r : Nat} {c : am_C} (hr : r < 4) : am_set (am_h w g) (1005 + 4 * r) c = some (am_h (am_pu w (5 + 4 * r) c) g) := by
  rw [show 1005 + 4 * r = 1000 + (5 + 4 * r) by omega]
  exact am_ws (by omega) (by omega)
theorem aw_ws6 {w : Nat → am_C} {g : am_H} {r : Nat} {c : am_C} (hr : r < 4) : am_set (am_h w g) (1006 + 4 * r) c = some (am_h (am_pu w (6 + 4 * r) c) g) := by
  rw [show 1006 + 4 * r = 1000 + (6 + 4 * r) by omega]
  exact am_ws (by omega) (by omega)
/-- the text from p to e is word j -/
def aw_eqb (tx : List Int32) (p e j : Nat) : Bool := decide (e - p = (aw_by j).length) && (List.range (aw_by j).length).all (fun k => decide (tx.getD (p + k) 0 = (aw_by j).getD k 0))
theorem aw_eqb_iff {tx : List Int32} {p e j : Nat} : aw_eqb tx p e j = true ↔ e - p = (aw_by j).length ∧ ∀ k, k < (aw_by j).length → tx.getD (p + k) 0 = (aw_by j).getD k 0 := by
  unfold aw_eqb
  simp only [Bool.and_eq_true, decide_eq_true_eq, List.all_eq_true, List.mem_range]
/-- the first word from i on that it is -/
def aw_wf (tx : List Int32) (p e : Nat) : Nat → Nat → Nat
  | 0, _ => 37
  | n + 1, i => if aw_eqb tx p e i = true then i else aw_wf tx p e n (i + 1)
def aw_wd (tx : List Int32) (p e : Nat) : Nat := aw_wf tx p e 38 0
theorem aw_wf_lt (tx : List Int32) (p e : Nat) : ∀ n i, i + n ≤ 38 → aw_wf tx p e n i < 38 := by
  intro n
  induction n with
  | zero => intro i _; show 37 < 38; decide
  | succ n ih =>
    intro i hi
    rw [aw_wf]
    split
    · omega
    · exact ih (i + 1) (by omega)
def aw_let (c : Int32) : Bool := decide (97 ≤ c) && decide (c ≤ 122)
/-- where a row of letters ends -/
def aw_run (tx : List Int32) (tl : Nat) : Nat → Nat → Nat
  | 0, e => e
  | n + 1, e => if e < tl ∧ aw_let (tx.getD e 0) = true then aw_run tx tl n (e + 1) else e
/-- the words from p on -/
def aw_tok (tx : List Int32) (tl : Nat) : Nat → Nat → List Nat
  | 0, _ => []
  | n + 1, p => if tl ≤ p then [] else if aw_let (tx.getD p 0) = true then aw_wd tx p (aw_run tx tl tl (p + 1)) :: aw_tok tx tl n (aw_run tx tl tl (p + 1)) else if tx.getD p 0 = 32 then aw_tok tx tl n (p + 1) else aw_wd tx p (p + 1) :: aw_tok tx tl n (p + 1)
theorem aw_k11 (d : Nat) (h : am_H) (c : Int32) : am_R d 11 0 [some (.int c)] [] h (.inl (some (.int (if aw_let c = true then 1 else 0)))) h := by
  refine am_R.ites 3 (P := c < 97) (T := 16) (F := 6) (lv' := [some (.int c)]) (st' := []) (h1 := h) rfl (fun b3 => ?_) (fun b3 => ?_)
  · refine am_R.nxs 1 (pc' := 17) (lv' := [some (.int c)]) (st' := [.int 0]) (h1 := h) rfl ?_
    rw [show aw_let c = false by simp [aw_let, Int32.not_le.mpr b3]]
    exact am_R.reti rfl rfl rfl
  · refine am_R.ites 3 (P := 122 < c) (T := 16) (F := 12) (lv' := [some (.int c)]) (st' := []) (h1 := h) rfl (fun b9 => ?_) (fun b9 => ?_)
    · refine am_R.nxs 1 (pc' := 17) (lv' := [some (.int c)]) (st' := [.int 0]) (h1 := h) rfl ?_
      rw [show aw_let c = false by simp [aw_let, Int32.not_le.mpr b9]]
      exact am_R.reti rfl rfl rfl
    · refine am_R.nxs 2 (pc' := 17) (lv' := [some (.int c)]) (st' := [.int 1]) (h1 := h) rfl ?_
      rw [show aw_let c = true by simp [aw_let, Int32.not_lt.mp b3, Int32.not_lt.mp b9]]
      exact am_R.reti rfl rfl rfl
theorem aw_k101 (d : Nat) (h : am_H) (c : Int32) : am_R d 101 0 [some (.int c)] [] h (.inl (some (.int (if aw_let c = true then 1 else 0)))) h := by
  refine am_R.ites 3 (P := c < 97) (T := 16) (F := 6) (lv' := [some (.int c)]) (st' := []) (h1 := h) rfl (fun b3 => ?_) (fun b3 => ?_)
  · refine am_R.nxs 1 (pc' := 17) (lv' := [some (.int c)]) (st' := [.int 0]) (h1 := h) rfl ?_
    rw [show aw_let c = false by simp [aw_let, Int32.not_le.mpr b3]]
    exact am_R.reti rfl rfl rfl
  · refine am_R.ites 3 (P := 122 < c) (T := 16) (F := 12) (lv' := [some (.int c)]) (st' := []) (h1 := h) rfl (fun b9 => ?_) (fun b9 => ?_)
    · refine am_R.nxs 1 (pc' := 17) (lv' := [some (.int c)]) (st' := [.int 0]) (h1 := h) rfl ?_
      rw [show aw_let c = false by simp [aw_let, Int32.not_le.mpr b9]]
      exact am_R.reti rfl rfl rfl
    · refine am_R.nxs 2 (pc' := 17) (lv' := [some (.int c)]) (st' := [.int 1]) (h1 := h) rfl ?_
      rw [show aw_let c = true by simp [aw_let, Int32.not_lt.mp b3, Int32.not_lt.mp b9]]
      exact am_R.reti rfl rfl rfl
theorem aw_k13l {w : Nat → am_C} {g : am_H} (d : Nat) {tx : List Int32} (h2 : w 2 = am_I 1 tx) (hl : tx.length = 120) {p e : Nat} (hp : p < e) (he : e ≤ 120) {j : Nat} (hj : j < 38) (hn : e - p = (aw_by j).length) : ∀ m i : Nat, i + m = (aw_by j).length → (∀ k, k < i → tx.getD (p + k) 0 = (aw_by j).getD k 0) → am_R (d + 3) 13 28 [some (.ref j), some (.ref 1002), some (.int (Int32.ofNat p)), some (.int (Int32.ofNat e)), some (.int (Int32.ofNat i))] [] (am_h w g) (.inl (some (.int (if aw_eqb tx p e j = true then 1 else 0)))) (am_h w g) := by
  have hb := (aw_byA j hj).1
  intro m
  induction m with
  | zero =>
    intro i hi hz
    refine am_R.nxs 2 (pc' := 31) (lv' := [some (.ref j), some (.ref 1002), some (.int (Int32.ofNat p)), some (.int (Int32.ofNat e)), some (.int (Int32.ofNat i))]) (st' := [.ref j, .int (Int32.ofNat i)]) (h1 := am_h w g) rfl ?_
    refine am_R.gf (pc' := 34) (v := .ref (40 + j)) rfl (aw_st0 hj) rfl rfl rfl ?_
    refine am_R.cv (a := (40 + j)) (as' := []) (r := [.int (Int32.ofNat i)]) (v := some (.int (Int32.ofNat ((aw_by j).length)))) (h1 := am_h w g) (pc' := 37) rfl rfl rfl rfl (aw_st40 hj) rfl rfl (aw_k14 (d + 1) _ hj) rfl ?_
    refine am_R.ites 1 (P := Int32.ofNat ((aw_by j).length) ≤ Int32.ofNat i) (T := 66) (F := 40) (lv' := [some (.ref j), some (.ref 1002), some (.int (Int32.ofNat p)), some (.int (Int32.ofNat e)), some (.int (Int32.ofNat i))]) (st' := []) (h1 := am_h w g) rfl (fun b37 => ?_) (fun b37 => ?_)
    · have b37 : (aw_by j).length ≤ i := (am_leN (i := (aw_by j).length) (n := i) (by omega) (by omega)).mp b37
      refine am_R.nxs 1 (pc' := 67) (lv' := [some (.ref j), some (.ref 1002), some (.int (Int32.ofNat p)), some (.int (Int32.ofNat e)), some (.int (Int32.ofNat i))]) (st' := [.int 1]) (h1 := am_h w g) rfl ?_
      rw [if_pos (aw_eqb_iff.mpr ⟨hn, fun k hk => hz k (by omega)⟩)]
      exact am_R.reti rfl rfl rfl
    · have b37 : ¬ (aw_by j).length ≤ i := fun hq9 => b37 ((am_leN (i := (aw_by j).length) (n := i) (by omega) (by omega)).mpr hq9)
      omega
  | succ m ih =>
    intro i hi hz
    refine am_R.nxs 2 (pc' := 31) (lv' := [some (.ref j), some (.ref 1002), some (.int (Int32.ofNat p)), some (.int (Int32.ofNat e)), some (.int (Int32.ofNat i))]) (st' := [.ref j, .int (Int32.ofNat i)]) (h1 := am_h w g) rfl ?_
    refine am_R.gf (pc' := 34) (v := .ref (40 + j)) rfl (aw_st0 hj) rfl rfl rfl ?_
    refine am_R.cv (a := (40 + j)) (as' := []) (r := [.int (Int32.ofNat i)]) (v := some (.int (Int32.ofNat ((aw_by j).length)))) (h1 := am_h w g) (pc' := 37) rfl rfl rfl rfl (aw_st40 hj) rfl rfl (aw_k14 (d + 1) _ hj) rfl ?_
    refine am_R.ites 1 (P := Int32.ofNat ((aw_by j).length) ≤ Int32.ofNat i) (T := 66) (F := 40) (lv' := [some (.ref j), some (.ref 1002), some (.int (Int32.ofNat p)), some (.int (Int32.ofNat e)), some (.int (Int32.ofNat i))]) (st' := []) (h1 := am_h w g) rfl (fun b37 => ?_) (fun b37 => ?_)
    · have b37 : (aw_by j).length ≤ i := (am_leN (i := (aw_by j).length) (n := i) (by omega) (by omega)).mp b37
      omega
    · have b37 : ¬ (aw_by j).length ≤ i := fun hq9 => b37 ((am_leN (i := (aw_by j).length) (n := i) (by omega) (by omega)).mpr hq9)
      refine am_R.nxs 4 (pc' := 45) (lv' := [some (.ref j), some (.ref 1002), some (.int (Int32.ofNat p)), some (.int (Int32.ofNat e)), some (.int (Int32.ofNat i))]) (st' := [.int (Int32.ofNat p + Int32.ofNat i), .ref 1002]) (h1 := am_h w g) rfl ?_
      rw [show (Int32.ofNat p + Int32.ofNat i : Int32) = Int32.ofNat (p + i) from am_add p i]
      refine am_R.ldc (i := (p + i)) (xs := tx) (pc' := 46) rfl (am_wf 2 (by decide) h2) (by omega) (by omega) rfl ?_
      refine am_R.nxs 1 (pc' := 47) (lv' := [some (.ref j), some (.ref 1002), some (.int (Int32.ofNat p)), some (.int (Int32.ofNat e)), some (.int (Int32.ofNat i))]) (st' := [.ref j, .int (tx.getD (p + i) 0)]) (h1 := am_h w g) rfl ?_
      refine am_R.gf (pc' := 50) (v := .ref (40 + j)) rfl (aw_st0 hj) rfl rfl rfl ?_
      refine am_R.nxs 1 (pc' := 52) (lv' := [some (.ref j), some (.ref 1002), some (.int (Int32.ofNat p)), some (.int (Int32.ofNat e)), some (.int (Int32.ofNat i))]) (st' := [.int (Int32.ofNat i), .ref (40 + j), .int (tx.getD (p + i) 0)]) (h1 := am_h w g) rfl ?_
      refine am_R.cv (a := (40 + j)) (as' := [.int (Int32.ofNat i)]) (r := [.int (tx.getD (p + i) 0)]) (v := some (.int ((aw_by j).getD i 0))) (h1 := am_h w g) (pc' := 55) rfl rfl rfl rfl (aw_st40 hj) rfl rfl (aw_k16 (d + 1) _ hj i (by omega)) rfl ?_
      refine am_R.ites 1 (P := (tx.getD (p + i) 0) = ((aw_by j).getD i 0)) (T := 60) (F := 58) (lv' := [some (.ref j), some (.ref 1002), some (.int (Int32.ofNat p)), some (.int (Int32.ofNat e)), some (.int (Int32.ofNat i))]) (st' := []) (h1 := am_h w g) rfl (fun b55 => ?_) (fun b55 => ?_)
      · refine am_R.nxs 1 (pc' := 63) (lv' := [some (.ref j), some (.ref 1002), some (.int (Int32.ofNat p)), some (.int (Int32.ofNat e)), some (.int (Int32.ofNat i + 1))]) (st' := []) (h1 := am_h w g) rfl ?_
        rw [show (Int32.ofNat i + 1 : Int32) = Int32.ofNat (i + 1) from am_add i 1]
        refine am_R.nxs 1 (pc' := 28) (lv' := [some (.ref j), some (.ref 1002), some (.int (Int32.ofNat p)), some (.int (Int32.ofNat e)), some (.int (Int32.ofNat (i + 1)))]) (st' := []) (h1 := am_h w g) rfl ?_
        refine ih (i + 1) (by omega) (fun k hk => ?_)
        by_cases hki : k = i
        · subst hki
          exact b55
        · exact hz k (by omega)
      · refine am_R.nxs 1 (pc' := 59) (lv' := [some (.ref j), some (.ref 1002), some (.int (Int32.ofNat p)), some (.int (Int32.ofNat e)), some (.int (Int32.ofNat i))]) (st' := [.int 0]) (h1 := am_h w g) rfl ?_
        rw [if_neg (fun z => b55 ((aw_eqb_iff.mp z).2 i (by omega)))]
        exact am_R.reti rfl rfl rfl
theorem aw_k13 {w : Nat → am_C} {g : am_H} (d : Nat) {tx : List Int32} (h2 : w 2 = am_I 1 tx) (hl : tx.length = 120) {p e : Nat} (hp : p < e) (he : e ≤ 120) {j : Nat} (hj : j < 38) : am_R (d + 3) 13 0 [some (.ref j), some (.ref 1002), some (.int (Int32.ofNat p)), some (.int (Int32.ofNat e)), none] [] (am_h w g) (.inl (some (.int (if aw_eqb tx p e j = true then 1 else 0)))) (am_h w g) := by
  have hb := (aw_byA j hj).1
  refine am_R.ites 2 (P := Int32.ofNat p < 0) (T := 23) (F := 4) (lv' := [some (.ref j), some (.ref 1002), some (.int (Int32.ofNat p)), some (.int (Int32.ofNat e)), none]) (st' := []) (h1 := am_h w g) rfl (fun b1 => ?_) (fun b1 => ?_)
  · exact absurd b1 (aw_nn p)
  · refine am_R.nxs 2 (pc' := 6) (lv' := [some (.ref j), some (.ref 1002), some (.int (Int32.ofNat p)), some (.int (Int32.ofNat e)), none]) (st' := [.ref 1002, .int (Int32.ofNat e)]) (h1 := am_h w g) rfl ?_
    refine am_R.ali (xs := tx) (pc' := 7) rfl (am_wf 2 (by decide) h2) rfl ?_
    refine am_R.ites 1 (P := Int32.ofNat tx.length < Int32.ofNat e) (T := 23) (F := 10) (lv' := [some (.ref j), some (.ref 1002), some (.int (Int32.ofNat p)), some (.int (Int32.ofNat e)), none]) (st' := []) (h1 := am_h w g) rfl (fun b7 => ?_) (fun b7 => ?_)
    · have b7 : tx.length < e := (am_ltN (i := tx.length) (n := e) (by omega) (by omega)).mp b7
      omega
    · have b7 : ¬ tx.length < e := fun hq9 => b7 ((am_ltN (i := tx.length) (n := e) (by omega) (by omega)).mpr hq9)
      refine am_R.nxs 3 (pc' := 13) (lv' := [some (.ref j), some (.ref 1002), some (.int (Int32.ofNat p)), some (.int (Int32.ofNat e)), none]) (st' := [.int (Int32.ofNat e - Int32.ofNat p)]) (h1 := am_h w g) rfl ?_
      rw [show (Int32.ofNat e - Int32.ofNat p : Int32) = Int32.ofNat (e - p) from am_sub (by omega)]
      refine am_R.nxs 1 (pc' := 14) (lv' := [some (.ref j), some (.ref 1002), some (.int (Int32.ofNat p)), some (.int (Int32.ofNat e)), none]) (st' := [.ref j, .int (Int32.ofNat (e - p))]) (h1 := am_h w g) rfl ?_
      refine am_R.gf (pc' := 17) (v := .ref (40 + j)) rfl (aw_st0 hj) rfl rfl rfl ?_
      refine am_R.cv (a := (40 + j)) (as' := []) (r := [.int (Int32.ofNat (e - p))]) (v := some (.int (Int32.ofNat ((aw_by j).length)))) (h1 := am_h w g) (pc' := 20) rfl rfl rfl rfl (aw_st40 hj) rfl rfl (aw_k14 (d + 1) _ hj) rfl ?_
      refine am_R.ites 1 (P := Int32.ofNat (e - p) = Int32.ofNat ((aw_by j).length)) (T := 25) (F := 23) (lv' := [some (.ref j), some (.ref 1002), some (.int (Int32.ofNat p)), some (.int (Int32.ofNat e)), none]) (st' := []) (h1 := am_h w g) rfl (fun b20 => ?_) (fun b20 => ?_)
      · have b20 : (e - p) = (aw_by j).length := (am_eqN (i := (e - p)) (n := (aw_by j).length) (by omega) (by omega)).mp b20
        refine am_R.nxs 2 (pc' := 28) (lv' := [some (.ref j), some (.ref 1002), some (.int (Int32.ofNat p)), some (.int (Int32.ofNat e)), some (.int 0)]) (st' := []) (h1 := am_h w g) rfl ?_
        exact aw_k13l d h2 hl hp he hj b20 (aw_by j).length 0 (Nat.zero_add _) (fun k hk => absurd hk (Nat.not_lt_zero k))
      · have b20 : ¬ (e - p) = (aw_by j).length := fun hq9 => b20 ((am_eqN (i := (e - p)) (n := (aw_by j).length) (by omega) (by omega)).mpr hq9)
        refine am_R.nxs 1 (pc' := 24) (lv' := [some (.ref j), some (.ref 1002), some (.int (Int32.ofNat p)), some (.int (Int32.ofNat e)), none]) (st' := [.int 0]) (h1 := am_h w g) rfl ?_
        rw [if_neg (fun z => b20 (aw_eqb_iff.mp z).1)]
        exact am_R.reti rfl rfl rfl
def aw_WL : List Value := (List.range 38).map Value.ref
theorem aw_st38 {h : am_H} : am_at h 38 = some (.inr (4, aw_WL)) := rfl
theorem aw_WL_at {i : Nat} (hi : i < 38) : aw_WL[i]? = some (.ref i) := by
  unfold aw_WL
  rw [List.getElem?_map, List.getElem?_range hi]
  rfl
theorem aw_WL_len : aw_WL.length = 38 := rfl
theorem aw_k12l {w : Nat → am_C} {g : am_H} (d : Nat) {tx : List Int32} (h2 : w 2 = am_I 1 tx) (hl : tx.length = 120) {p e : Nat} (hp : p < e) (he : e ≤ 120) : ∀ m i : Nat, i + m = 38 → am_R (d + 4) 12 2 [some (.ref 1002), some (.int (Int32.ofNat p)), some (.int (Int32.ofNat e)), some (.int (Int32.ofNat i))] [] (am_h w g) (.inl (some (.ref (aw_wf tx p e m i)))) (am_h w g) := by
  have hwl := aw_WL_len
  intro m
  induction m with
  | zero =>
    intro i hi
    refine am_R.nxs 2 (pc' := 6) (lv' := [some (.ref 1002), some (.int (Int32.ofNat p)), some (.int (Int32.ofNat e)), some (.int (Int32.ofNat i))]) (st' := [.ref 38, .int (Int32.ofNat i)]) (h1 := am_h w g) rfl ?_
    refine am_R.al (xs := aw_WL) (pc' := 7) rfl (aw_st38) rfl ?_
    refine am_R.ites 1 (P := Int32.ofNat aw_WL.length ≤ Int32.ofNat i) (T := 36) (F := 10) (lv' := [some (.ref 1002), some (.int (Int32.ofNat p)), some (.int (Int32.ofNat e)), some (.int (Int32.ofNat i))]) (st' := []) (h1 := am_h w g) rfl (fun b7 => ?_) (fun b7 => ?_)
    · have b7 : aw_WL.length ≤ i := (am_leN (i := aw_WL.length) (n := i) (by omega) (by omega)).mp b7
      refine am_R.nxs 1 (pc' := 39) (lv' := [some (.ref 1002), some (.int (Int32.ofNat p)), some (.int (Int32.ofNat e)), some (.int (Int32.ofNat i))]) (st' := [.ref 37]) (h1 := am_h w g) rfl ?_
      exact am_R.ret rfl rfl
    · have b7 : ¬ aw_WL.length ≤ i := fun hq9 => b7 ((am_leN (i := aw_WL.length) (n := i) (by omega) (by omega)).mpr hq9)
      omega
  | succ m ih =>
    intro i hi
    refine am_R.nxs 2 (pc' := 6) (lv' := [some (.ref 1002), some (.int (Int32.ofNat p)), some (.int (Int32.ofNat e)), some (.int (Int32.ofNat i))]) (st' := [.ref 38, .int (Int32.ofNat i)]) (h1 := am_h w g) rfl ?_
    refine am_R.al (xs := aw_WL) (pc' := 7) rfl (aw_st38) rfl ?_
    refine am_R.ites 1 (P := Int32.ofNat aw_WL.length ≤ Int32.ofNat i) (T := 36) (F := 10) (lv' := [some (.ref 1002), some (.int (Int32.ofNat p)), some (.int (Int32.ofNat e)), some (.int (Int32.ofNat i))]) (st' := []) (h1 := am_h w g) rfl (fun b7 => ?_) (fun b7 => ?_)
    · have b7 : aw_WL.length ≤ i := (am_leN (i := aw_WL.length) (n := i) (by omega) (by omega)).mp b7
      omega
    · have b7 : ¬ aw_WL.length ≤ i := fun hq9 => b7 ((am_leN (i := aw_WL.length) (n := i) (by omega) (by omega)).mpr hq9)
      refine am_R.nxs 2 (pc' := 14) (lv' := [some (.ref 1002), some (.int (Int32.ofNat p)), some (.int (Int32.ofNat e)), some (.int (Int32.ofNat i))]) (st' := [.int (Int32.ofNat i), .ref 38]) (h1 := am_h w g) rfl ?_
      refine am_R.lda (i := i) (xs := aw_WL) (v := .ref i) (pc' := 15) rfl (aw_st38) (by decide) (by omega) (by omega) (aw_WL_at (by omega)) rfl ?_
      refine am_R.nxs 3 (pc' := 18) (lv' := [some (.ref 1002), some (.int (Int32.ofNat p)), some (.int (Int32.ofNat e)), some (.int (Int32.ofNat i))]) (st' := [.int (Int32.ofNat e), .int (Int32.ofNat p), .ref 1002, .ref i]) (h1 := am_h w g) rfl ?_
      refine am_R.cv (a := i) (as' := [.ref 1002, .int (Int32.ofNat p), .int (Int32.ofNat e)]) (r := []) (v := some (.int (if aw_eqb tx p e i = true then 1 else 0))) (h1 := am_h w g) (pc' := 21) rfl rfl rfl rfl (aw_st0 (by omega)) rfl rfl (aw_k13 d h2 hl hp he (by omega)) rfl ?_
      refine am_R.ites 1 (P := (if aw_eqb tx p e i = true then 1 else 0) = 0) (T := 30) (F := 24) (lv' := [some (.ref 1002), some (.int (Int32.ofNat p)), some (.int (Int32.ofNat e)), some (.int (Int32.ofNat i))]) (st' := []) (h1 := am_h w g) rfl (fun b21 => ?_) (fun b21 => ?_)
      · refine am_R.nxs 1 (pc' := 33) (lv' := [some (.ref 1002), some (.int (Int32.ofNat p)), some (.int (Int32.ofNat e)), some (.int (Int32.ofNat i + 1))]) (st' := []) (h1 := am_h w g) rfl ?_
        rw [show (Int32.ofNat i + 1 : Int32) = Int32.ofNat (i + 1) from am_add i 1]
        refine am_R.nxs 1 (pc' := 2) (lv' := [some (.ref 1002), some (.int (Int32.ofNat p)), some (.int (Int32.ofNat e)), some (.int (Int32.ofNat (i + 1)))]) (st' := []) (h1 := am_h w g) rfl ?_
        have hq : ¬ aw_eqb tx p e i = true := by
          intro q
          rw [if_pos q] at b21
          exact absurd b21 (by decide)
        rw [show aw_wf tx p e (m + 1) i = aw_wf tx p e m (i + 1) from if_neg hq]
        exact ih (i + 1) (by omega)
      · refine am_R.nxs 2 (pc' := 28) (lv' := [some (.ref 1002), some (.int (Int32.ofNat p)), some (.int (Int32.ofNat e)), some (.int (Int32.ofNat i))]) (st' := [.int (Int32.ofNat i), .ref 38]) (h1 := am_h w g) rfl ?_
        refine am_R.lda (i := i) (xs := aw_WL) (v := .ref i) (pc' := 29) rfl (aw_st38) (by decide) (by omega) (by omega) (aw_WL_at (by omega)) rfl ?_
        have hq : aw_eqb tx p e i = true := by
          by_cases q : aw_eqb tx p e i = true
          · exact q
          · rw [if_neg q] at b21
            exact absurd rfl b21
        rw [show aw_wf tx p e (m + 1) i = i from if_pos hq]
        exact am_R.ret rfl rfl
theorem aw_k12 {w : Nat → am_C} {g : am_H} (d : Nat) {tx : List Int32} (h2 : w 2 = am_I 1 tx) (hl : tx.length = 120) {p e : Nat} (hp : p < e) (he : e ≤ 120) : am_R (d + 4) 12 0 [some (.ref 1002), some (.int (Int32.ofNat p)), some (.int (Int32.ofNat e)), none] [] (am_h w g) (.inl (some (.ref (aw_wd tx p e)))) (am_h w g) := by
  refine am_R.nxs 2 (pc' := 2) (lv' := [some (.ref 1002), some (.int (Int32.ofNat p)), some (.int (Int32.ofNat e)), some (.int 0)]) (st' := []) (h1 := am_h w g) rfl ?_
  exact aw_k12l d h2 hl hp he 38 0 rfl
/-- the Told r holds the words Q, then S -/
def aw_sw (w : Nat → am_C) (r : Nat) (bc sc ic cc dp rd : Int32) (Q : List Nat) (S : List Value) : Nat → am_C := am_pu (am_pu w (6 + 4 * r) (.inr (4, Q.map Value.ref ++ S))) (5 + 4 * r) (aw_cT r (Int32.ofNat Q.length) bc sc ic cc dp rd)
theorem aw_sw5 {w : Nat → am_C} {r : Nat} {bc sc ic cc dp rd : Int32} {Q : List Nat} {S : List Value} : aw_sw w r bc sc ic cc dp rd Q S (5 + 4 * r) = aw_cT r (Int32.ofNat Q.length) bc sc ic cc dp rd := am_pu_eq _ _ _
theorem aw_sw6 {w : Nat → am_C} {r : Nat} {bc sc ic cc dp rd : Int32} {Q : List Nat} {S : List Value} : aw_sw w r bc sc ic cc dp rd Q S (6 + 4 * r) = .inr (4, Q.map Value.ref ++ S) := by
  unfold aw_sw
  rw [am_pu_ne (by omega)]
  exact am_pu_eq _ _ _
theorem aw_sw_other {w : Nat → am_C} {r k : Nat} {bc sc ic cc dp rd : Int32} {Q : List Nat} {S : List Value} (h5 : k ≠ 5 + 4 * r) (h6 : k ≠ 6 + 4 * r) : aw_sw w r bc sc ic cc dp rd Q S k = w k := by
  unfold aw_sw
  rw [am_pu_ne h5, am_pu_ne h6]
theorem aw_sw_put {w : Nat → am_C} {r j : Nat} {bc sc ic cc dp rd : Int32} {Q : List Nat} {S : List Value} (hS : 0 < S.length) : am_pu (am_pu (aw_sw w r bc sc ic cc dp rd Q S) (6 + 4 * r) (.inr (4, (Q.map Value.ref ++ S).set Q.length (.ref j)))) (5 + 4 * r) (aw_cT r (Int32.ofNat (Q.length + 1)) bc sc ic cc dp rd) = aw_sw w r bc sc ic cc dp rd (Q ++ [j]) (S.drop 1) := by
  have e : (Q.map Value.ref ++ S).set Q.length (.ref j) = (Q ++ [j]).map Value.ref ++ S.drop 1 := by
    have hq : Q.length = (Q.map Value.ref).length := (List.length_map ..).symm
    cases S with
    | nil => cases hS
    | cons a S =>
      rw [hq]
      simp
  rw [e]
  funext k
  simp only [aw_sw, am_pu, List.length_append, List.length_singleton]
  (repeat' split) <;> first | rfl | omega
theorem aw_k19 {w : Nat → am_C} {g : am_H} (d : Nat) {r j : Nat} (hr : r < 4) (hj : j < 38) {bc sc ic cc dp rd : Int32} {Q : List Nat} {S : List Value} (hl : Q.length + S.length = 120) (hS : 0 < S.length) : am_R d 19 0 [some (.ref (1005 + 4 * r)), some (.ref j)] [] (am_h (aw_sw w r bc sc ic cc dp rd Q S) g) (.inl none) (am_h (aw_sw w r bc sc ic cc dp rd (Q ++ [j]) (S.drop 1)) g) := by
  have hl : (Q.map Value.ref ++ S).length = 120 := by rw [List.length_append, List.length_map]; exact hl
  refine am_R.nxs 1 (pc' := 1) (lv' := [some (.ref (1005 + 4 * r)), some (.ref j)]) (st' := [.ref (1005 + 4 * r)]) (h1 := am_h (aw_sw w r bc sc ic cc dp rd Q S) g) rfl ?_
  refine am_R.gf (pc' := 4) (v := .int (Int32.ofNat Q.length)) rfl (aw_at5 hr aw_sw5) rfl rfl rfl ?_
  refine am_R.ites 2 (P := 120 ≤ Int32.ofNat Q.length) (T := 29) (F := 9) (lv' := [some (.ref (1005 + 4 * r)), some (.ref j)]) (st' := []) (h1 := am_h (aw_sw w r bc sc ic cc dp rd Q S) g) rfl (fun b6 => ?_) (fun b6 => ?_)
  · have b6 : 120 ≤ Q.length := (am_leN (i := 120) (n := Q.length) (by omega) (by omega)).mp b6
    omega
  · have b6 : ¬ 120 ≤ Q.length := fun hq9 => b6 ((am_leN (i := 120) (n := Q.length) (by omega) (by omega)).mpr hq9)
    refine am_R.nxs 1 (pc' := 10) (lv' := [some (.ref (1005 + 4 * r)), some (.ref j)]) (st' := [.ref (1005 + 4 * r)]) (h1 := am_h (aw_sw w r bc sc ic cc dp rd Q S) g) rfl ?_
    refine am_R.gf (pc' := 13) (v := .ref (1006 + 4 * r)) rfl (aw_at5 hr aw_sw5) rfl rfl rfl ?_
    refine am_R.nxs 1 (pc' := 14) (lv' := [some (.ref (1005 + 4 * r)), some (.ref j)]) (st' := [.ref (1005 + 4 * r), .ref (1006 + 4 * r)]) (h1 := am_h (aw_sw w r bc sc ic cc dp rd Q S) g) rfl ?_
    refine am_R.gf (pc' := 17) (v := .int (Int32.ofNat Q.length)) rfl (aw_at5 hr aw_sw5) rfl rfl rfl ?_
    refine am_R.nxs 1 (pc' := 18) (lv' := [some (.ref (1005 + 4 * r)), some (.ref j)]) (st' := [.ref j, .int (Int32.ofNat Q.length), .ref (1006 + 4 * r)]) (h1 := am_h (aw_sw w r bc sc ic cc dp rd Q S) g) rfl ?_
    refine am_R.sta (i := Q.length) (xs := (Q.map Value.ref ++ S)) (v := .ref j) (t := 4) (pc' := 19) rfl (aw_at6 hr aw_sw6) (by decide) (by omega) (by omega) (by simp only [am_ok, aw_st0 hj]; decide) (aw_ws6 hr) rfl ?_
    refine am_R.nxs 2 (pc' := 21) (lv' := [some (.ref (1005 + 4 * r)), some (.ref j)]) (st' := [.ref (1005 + 4 * r), .ref (1005 + 4 * r)]) (h1 := am_h (am_pu (aw_sw w r bc sc ic cc dp rd Q S) (6 + 4 * r) (.inr (4, (Q.map Value.ref ++ S).set Q.length (.ref j)))) g) rfl ?_
    refine am_R.gf (pc' := 24) (v := .int (Int32.ofNat Q.length)) rfl (aw_at5 hr ((am_pu_ne (by omega)).trans aw_sw5)) rfl rfl rfl ?_
    refine am_R.nxs 2 (pc' := 26) (lv' := [some (.ref (1005 + 4 * r)), some (.ref j)]) (st' := [.int (Int32.ofNat Q.length + 1), .ref (1005 + 4 * r)]) (h1 := am_h (am_pu (aw_sw w r bc sc ic cc dp rd Q S) (6 + 4 * r) (.inr (4, (Q.map Value.ref ++ S).set Q.length (.ref j)))) g) rfl ?_
    rw [show (Int32.ofNat Q.length + 1 : Int32) = Int32.ofNat (Q.length + 1) from am_add Q.length 1]
    refine am_R.pf (k := 1) (pc' := 29) rfl (aw_at5 hr ((am_pu_ne (by omega)).trans aw_sw5)) rfl (Nat.le_of_ble_eq_true rfl) rfl (fun q => by cases q) (aw_ws5 hr) rfl ?_
    rw [← aw_sw_put (by omega)]
    exact am_R.ret rfl rfl
