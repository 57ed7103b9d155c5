/-! More rules of the small machine: a block of steps that ends in a branch; reads and writes of cells that are known; calls. -/
section AmRules
variable {d mi pc pc' len : Nat} {lv lv' : am_L} {st st' : List Value} {h h1 h' : am_H} {o : am_O}
theorem am_R.ites (k : Nat) {P : Prop} [Decidable P] {T F : Nat} (e : am_nxs k mi pc lv st h = some (if P then T else F, lv', st', h1)) (k1 : P → am_R d mi T lv' st' h1 o h') (k2 : ¬ P → am_R d mi F lv' st' h1 o h') : am_R d mi pc lv st h o h' := by
  by_cases hP : P
  · rw [if_pos hP] at e
    exact am_R.nxs k e (k1 hP)
  · rw [if_neg hP] at e
    exact am_R.nxs k e (k2 hP)
theorem am_nx_gf {f a ci k : Nat} {fs : List Value} {v : Value} (hc : am_code mi pc = some (.getfield f, len)) (ha : am_at h a = some (.inl (ci, fs))) (hp : am_pos ci f = some k) (hv : fs[k]? = some v) : am_nx mi pc lv (.ref a :: st) h = some (pc + len, lv, v :: st, h) := by
  simp [am_nx, hc, am_ret, am_thr, am_inv, am_one, am_push, am_sto, am_ari, am_br, am_rd, ha, hp, hv]
theorem am_R.gf {f a ci k : Nat} {fs : List Value} {v : Value} (hc : am_code mi pc = some (.getfield f, len)) (ha : am_at h a = some (.inl (ci, fs))) (hp : am_pos ci f = some k) (hv : fs[k]? = some v) (hq : pc + len = pc') (k1 : am_R d mi pc' lv (v :: st) h o h') : am_R d mi pc lv (.ref a :: st) h o h' := by
  subst hq
  exact am_R.nx (am_nx_gf hc ha hp hv) k1
theorem am_R.al {a t : Nat} {xs : List Value} (hc : am_code mi pc = some (.arraylength, len)) (ha : am_at h a = some (.inr (t, xs))) (hq : pc + len = pc') (k1 : am_R d mi pc' lv (.int (Int32.ofNat xs.length) :: st) h o h') : am_R d mi pc lv (.ref a :: st) h o h' := by
  subst hq
  refine am_R.nx (pc' := pc + len) (lv' := lv) (st' := .int (Int32.ofNat xs.length) :: st) (h1 := h) ?_ k1
  simp [am_nx, hc, am_ret, am_thr, am_inv, am_one, am_push, am_sto, am_ari, am_br, am_rd, ha]
/-- an index that is a number -/
theorem am_ixN {i n : Nat} (h1 : i < n) (h2 : n < 2 ^ 31) : am_ix (Int32.ofNat i) n = true := by
  unfold am_ix
  rw [decide_eq_true_eq]
  have e : (Int32.ofNat i).toNatClampNeg = i := Int32.toNatClampNeg_ofNat_of_lt (by omega)
  rw [e]
  intro q
  rcases q with q | q
  · exact absurd q (by rw [Int32.not_lt]; exact (Int32.ofNat_le_ofNat (by decide) (by omega)).mpr (Nat.zero_le _))
  · omega
theorem am_R.retE {i : Instr} {v v' : Option Value} (hc : am_code mi pc = some (i, len)) (e : am_ret mi i st = some v) (hv : v = v') : am_R d mi pc lv st h (.inl v') h := by
  subst hv
  exact am_R.ret hc e
end AmRules
