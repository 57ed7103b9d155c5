/-! The law's world: 45 cells at fixed addresses (w), and what was made since (g). -/
def am_h (w : Nat → am_C) (g : am_H) : am_H := (List.range 45).map w ++ g
def am_pu (w : Nat → am_C) (k : Nat) (c : am_C) : Nat → am_C := fun j => if j = k then c else w j
theorem am_pu_eq (w : Nat → am_C) (k : Nat) (c : am_C) : am_pu w k c k = c := if_pos rfl
theorem am_pu_ne {w : Nat → am_C} {k j : Nat} {c : am_C} (h : j ≠ k) : am_pu w k c j = w j := if_neg h
theorem am_h_len (w : Nat → am_C) (g : am_H) : (am_h w g).length = 45 + g.length := by
  simp [am_h]
theorem am_h_get {w : Nat → am_C} {g : am_H} {k : Nat} (hk : k < 45) : (am_h w g)[k]? = some (w k) := by
  unfold am_h
  rw [List.getElem?_append_left (by simpa using hk), List.getElem?_map, List.getElem?_range hk]
  rfl
theorem am_h_new {w : Nat → am_C} {g : am_H} (j : Nat) : (am_h w g)[45 + j]? = g[j]? := by
  unfold am_h
  rw [List.getElem?_append_right (by simp)]
  simp
theorem am_wf {w : Nat → am_C} {g : am_H} {c : am_C} (k : Nat) (hk : k < 45) (e : w k = c) : am_at (am_h w g) (1000 + k) = some c := by
  unfold am_at
  rw [if_neg (by omega), show 1000 + k - 1000 = k by omega, am_h_get hk, e]
theorem am_gfn {w : Nat → am_C} {g : am_H} {c : am_C} (j : Nat) (e : g[j]? = some c) : am_at (am_h w g) (1045 + j) = some c := by
  unfold am_at
  rw [if_neg (by omega), show 1045 + j - 1000 = 45 + j by omega, am_h_new, e]
theorem am_h_set {w : Nat → am_C} {g : am_H} {k : Nat} {c : am_C} (hk : k < 45) : (am_h w g).set k c = am_h (am_pu w k c) g := by
  unfold am_h
  rw [List.set_append_left (i := k) (h := by simpa using hk)]
  congr 1
  apply List.ext_getElem?
  intro i
  by_cases hi : i < 45
  · rw [List.getElem?_map, List.getElem?_range hi]
    by_cases hik : i = k
    · subst hik
      rw [List.getElem?_set_self (by simpa using hk)]
      simp [am_pu]
    · rw [List.getElem?_set_ne (fun q => hik q.symm), List.getElem?_map, List.getElem?_range hi]
      simp [am_pu, hik]
  · rw [List.getElem?_eq_none (by simp; omega), List.getElem?_eq_none (by simp; omega)]
theorem am_h_setn {w : Nat → am_C} {g : am_H} {j : Nat} {c : am_C} : (am_h w g).set (45 + j) c = am_h w (g.set j c) := by
  unfold am_h
  rw [List.set_append_right (h := by simp)]
  simp
theorem am_h_push {w : Nat → am_C} {g : am_H} {c : am_C} : am_h w g ++ [c] = am_h w (g ++ [c]) := by
  unfold am_h
  rw [List.append_assoc]
theorem am_ws {w : Nat → am_C} {g : am_H} {c : am_C} {k : Nat} (h0 : 0 < k) (hk : k < 45) : am_set (am_h w g) (1000 + k) c = some (am_h (am_pu w k c) g) := by
  unfold am_set
  rw [if_pos ⟨by omega, by rw [am_h_len]; omega⟩, show 1000 + k - 1000 = k by omega, am_h_set hk]
theorem am_gsn {w : Nat → am_C} {g : am_H} {c : am_C} {j : Nat} (hj : j < g.length) : am_set (am_h w g) (1045 + j) c = some (am_h w (g.set j c)) := by
  unfold am_set
  rw [if_pos ⟨by omega, by rw [am_h_len]; omega⟩, show 1045 + j - 1000 = 45 + j by omega, am_h_setn]
/-- an array of ints (0) or chars (1) -/
def am_I (t : Nat) (xs : List Int32) : am_C := .inr (t, xs.map Value.int)
section AmW
variable {d mi pc pc' len : Nat} {lv lv' : am_L} {st st' : List Value} {h h1 h' : am_H} {o : am_O}
/-- a field is written -/
theorem am_R.pf {f a ci k : Nat} {fs : List Value} {v : Value} (hc : am_code mi pc = some (.putfield f, len)) (ha : am_at h a = some (.inl (ci, fs))) (hp : am_pos ci f = some k) (hk : k < fs.length) (hf : fits (am_fty f) v = true) (hfin : am_fin f = true → am_ini mi = true) (hs : am_set h a (.inl (ci, fs.set k v)) = some h1) (hq : pc + len = pc')
    (k1 : am_R d mi pc' lv st h1 o h') : am_R d mi pc lv (v :: .ref a :: st) h o h' := by
  subst hq
  refine am_R.nx (pc' := pc + len) (lv' := lv) (st' := st) (h1 := h1) ?_ k1
  have hx : am_wr mi (.putfield f) (v :: .ref a :: st) h = some (st, h1) := by
    simp only [am_wr, ha, hp]
    rw [if_pos ⟨hk, hf, hfin⟩, hs]
    rfl
  simp [am_nx, hc, am_ret, am_thr, am_inv, am_one, am_push, am_sto, am_ari, am_br, am_rd, hx]
/-- an element of an array of numbers -/
theorem am_el_ok {t a i : Nat} {xs : List Value} {v : Value} (ha : am_at h a = some (.inr (t, xs))) (hi : i < xs.length) (hl : xs.length < 2 ^ 31) (hv : xs[i]? = some v) : am_el t (.int (Int32.ofNat i) :: .ref a :: st) h = some (v :: st) := by
  have e : (Int32.ofNat i).toNatClampNeg = i := Int32.toNatClampNeg_ofNat_of_lt (by omega)
  simp only [am_el, ha, e, hv, Option.map_some]
  rw [if_pos ⟨trivial, am_ixN hi hl⟩]
theorem am_map_get {xs : List Int32} {i : Nat} (hi : i < xs.length) : (xs.map Value.int)[i]? = some (.int (xs.getD i 0)) := by
  rw [List.getElem?_map, List.getD_eq_getElem?_getD, List.getElem?_eq_getElem hi]
  rfl
theorem am_R.ldi {a i : Nat} {xs : List Int32} (hc : am_code mi pc = some (.iaload, len)) (ha : am_at h a = some (am_I 0 xs)) (hi : i < xs.length) (hl : xs.length < 2 ^ 31) (hq : pc + len = pc') (k1 : am_R d mi pc' lv (.int (xs.getD i 0) :: st) h o h') : am_R d mi pc lv (.int (Int32.ofNat i) :: .ref a :: st) h o h' := by
  subst hq
  refine am_R.nx (pc' := pc + len) (lv' := lv) (st' := .int (xs.getD i 0) :: st) (h1 := h) ?_ k1
  have hx := am_el_ok (st := st) (t := 0) ha (by rw [List.length_map]; exact hi) (by rw [List.length_map]; exact hl) (am_map_get hi)
  simp [am_nx, hc, am_ret, am_thr, am_inv, am_one, am_push, am_sto, am_ari, am_br, am_rd, hx]
theorem am_R.ldc {a i : Nat} {xs : List Int32} (hc : am_code mi pc = some (.caload, len)) (ha : am_at h a = some (am_I 1 xs)) (hi : i < xs.length) (hl : xs.length < 2 ^ 31) (hq : pc + len = pc') (k1 : am_R d mi pc' lv (.int (xs.getD i 0) :: st) h o h') : am_R d mi pc lv (.int (Int32.ofNat i) :: .ref a :: st) h o h' := by
  subst hq
  refine am_R.nx (pc' := pc + len) (lv' := lv) (st' := .int (xs.getD i 0) :: st) (h1 := h) ?_ k1
  have hx := am_el_ok (st := st) (t := 1) ha (by rw [List.length_map]; exact hi) (by rw [List.length_map]; exact hl) (am_map_get hi)
  simp [am_nx, hc, am_ret, am_thr, am_inv, am_one, am_push, am_sto, am_ari, am_br, am_rd, hx]
theorem am_st_ok {t k a i : Nat} {xs : List Int32} {v : Int32} (hk : t = k) (ha : am_at h a = some (am_I t xs)) (hi : i < xs.length) (hl : xs.length < 2 ^ 31) (hv : am_ok t (.int v) h = true) (hs : am_set h a (am_I t (xs.set i v)) = some h1) (ins : Instr) (hki : am_kind ins = some k) (hnp : ∀ f, ins ≠ .putfield f) : am_wr mi ins (.int v :: .int (Int32.ofNat i) :: .ref a :: st) h = some (st, h1) := by
  have e : (Int32.ofNat i).toNatClampNeg = i := Int32.toNatClampNeg_ofNat_of_lt (by omega)
  unfold am_wr
  split
  · rename_i f
    exact absurd rfl (hnp f)
  · unfold am_I at ha hs
    simp only [hki, ha, e]
    rw [if_pos ⟨Or.inl hk, am_ixN (by rw [List.length_map]; exact hi) (by rw [List.length_map]; exact hl), hv⟩]
    rw [List.map_set] at hs
    rw [hs]
    rfl
theorem am_R.sti {a i : Nat} {xs : List Int32} {v : Int32} (hc : am_code mi pc = some (.iastore, len)) (ha : am_at h a = some (am_I 0 xs)) (hi : i < xs.length) (hl : xs.length < 2 ^ 31) (hs : am_set h a (am_I 0 (xs.set i v)) = some h1) (hq : pc + len = pc') (k1 : am_R d mi pc' lv st h1 o h') : am_R d mi pc lv (.int v :: .int (Int32.ofNat i) :: .ref a :: st) h o h' := by
  subst hq
  refine am_R.nx (pc' := pc + len) (lv' := lv) (st' := st) (h1 := h1) ?_ k1
  have hx := am_st_ok (mi := mi) (st := st) (k := 0) rfl ha hi hl rfl hs .iastore rfl (fun f q => by cases q)
  simp [am_nx, hc, am_ret, am_thr, am_inv, am_one, am_push, am_sto, am_ari, am_br, am_rd, hx]
theorem am_R.stc {a i : Nat} {xs : List Int32} {v : Int32} (hc : am_code mi pc = some (.castore, len)) (ha : am_at h a = some (am_I 1 xs)) (hi : i < xs.length) (hl : xs.length < 2 ^ 31) (hv : 0 ≤ v ∧ v ≤ 65535) (hs : am_set h a (am_I 1 (xs.set i v)) = some h1) (hq : pc + len = pc') (k1 : am_R d mi pc' lv st h1 o h') : am_R d mi pc lv (.int v :: .int (Int32.ofNat i) :: .ref a :: st) h o h' := by
  subst hq
  refine am_R.nx (pc' := pc + len) (lv' := lv) (st' := st) (h1 := h1) ?_ k1
  have hx := am_st_ok (mi := mi) (st := st) (k := 1) rfl ha hi hl (by simp [am_ok, hv.1, hv.2]) hs .castore rfl (fun f q => by cases q)
  simp [am_nx, hc, am_ret, am_thr, am_inv, am_one, am_push, am_sto, am_ari, am_br, am_rd, hx]
/-- numbers -/
theorem am_inc (i : Nat) : Int32.ofNat i + 1 = Int32.ofNat (i + 1) := by
  rw [Int32.ofNat_add]
  rfl
theorem am_ltN {i n : Nat} (hi : i < 2 ^ 31) (hn : n < 2 ^ 31) : Int32.ofNat i < Int32.ofNat n ↔ i < n := Int32.ofNat_lt_ofNat hi hn
theorem am_leN {i n : Nat} (hi : i < 2 ^ 31) (hn : n < 2 ^ 31) : Int32.ofNat i ≤ Int32.ofNat n ↔ i ≤ n := Int32.ofNat_le_ofNat hi hn
theorem am_eqN {i n : Nat} (hi : i < 2 ^ 31) (hn : n < 2 ^ 31) : Int32.ofNat i = Int32.ofNat n ↔ i = n := by
  constructor
  · intro e
    have := congrArg Int32.toNatClampNeg e
    rw [Int32.toNatClampNeg_ofNat_of_lt hi, Int32.toNatClampNeg_ofNat_of_lt hn] at this
    exact this
  · intro e
    rw [e]
/-- a number that is not below 0 -/
theorem am_natOf {v : Int32} (h : ¬ v < 0) : v = Int32.ofNat v.toNatClampNeg := by
  have h1 : 0 ≤ v := Int32.not_lt.mp h
  have h2 : 0 ≤ v.toInt := Int32.le_iff_toInt_le.mp h1
  apply Int32.toInt_inj.mp
  have h4 : v.toInt ≤ 2147483647 := Int32.toInt_le v
  rw [Int32.toInt_ofNat_of_lt (by unfold Int32.toNatClampNeg; omega)]
  unfold Int32.toNatClampNeg
  omega
end AmW
