/-! Rules for calls: receivers that are known; static ones. -/
def am_ivx (i : Instr) : Option Nat := match i with
  | .invokevirtual x => some x
  | .invokespecial x => some x
  | .invokeinterface x _ => some x
  | _ => none
section AmCallR
variable {d mi pc pc' len : Nat} {lv : am_L} {st : List Value} {h h1 h' : am_H} {o : am_O} {v : Option Value}
theorem am_clv {x n a ci mj : Nat} {i : Instr} {fs as' r : List Value} (hc : am_code mi pc = some (i, len)) (hi : am_ivx i = some x) (harg : am_arg x = some (n, false)) (hn : as'.length + 1 = n) (ha : am_at h a = some (.inl (ci, fs))) (ht : am_tgt x ci = some mj) (hf : am_fit mj (.ref a :: as') r = true) :
    am_cl mi pc ((Value.ref a :: as').reverse ++ r) h = some (mj, .ref a :: as', r, len) := by
  have hl : n ≤ ((Value.ref a :: as').reverse ++ r).length := by simp; omega
  have hlen : (Value.ref a :: as').reverse.length = n := by simp; omega
  have ht1 : (((Value.ref a :: as').reverse ++ r).take n).reverse = .ref a :: as' := by
    rw [List.take_append_of_le_length (by omega), List.take_of_length_le (by omega), List.reverse_reverse]
  have ht2 : ((Value.ref a :: as').reverse ++ r).drop n = r := by
    rw [List.drop_append_of_le_length (by omega), List.drop_of_length_le (by omega), List.nil_append]
  unfold am_ivx at hi
  split at hi
  · cases hi
    have key : am_inv (.invokevirtual x) ((Value.ref a :: as').reverse ++ r) h = some (mj, .ref a :: as', r) := by
      simp only [am_inv, harg]
      rw [if_pos hl, if_neg (by decide), ht1, ht2]
      simp only [ha, ht]
      rw [if_pos hf]
    simp only [am_cl, hc, am_ret, am_thr, key, Option.map_some]
  · cases hi
    have key : am_inv (.invokespecial x) ((Value.ref a :: as').reverse ++ r) h = some (mj, .ref a :: as', r) := by
      simp only [am_inv, harg]
      rw [if_pos hl, if_neg (by decide), ht1, ht2]
      simp only [ha, ht]
      rw [if_pos hf]
    simp only [am_cl, hc, am_ret, am_thr, key, Option.map_some]
  · rename_i y
    cases hi
    have key : am_inv (.invokeinterface x y) ((Value.ref a :: as').reverse ++ r) h = some (mj, .ref a :: as', r) := by
      simp only [am_inv, harg]
      rw [if_pos hl, if_neg (by decide), ht1, ht2]
      simp only [ha, ht]
      rw [if_pos hf]
    simp only [am_cl, hc, am_ret, am_thr, key, Option.map_some]
  · cases hi
/-- a call that returns -/
theorem am_R.cv {x n a ci mj : Nat} {i : Instr} {fs as' r : List Value} (hc : am_code mi pc = some (i, len)) (hi : am_ivx i = some x) (harg : am_arg x = some (n, false)) (hn : as'.length + 1 = n) (ha : am_at h a = some (.inl (ci, fs))) (ht : am_tgt x ci = some mj) (hf : am_fit mj (.ref a :: as') r = true)
    (c : am_R d mj 0 (am_ent mj (.ref a :: as')) [] h (.inl v) h1) (hq : pc + len = pc') (k : am_R (d + 1) mi pc' lv (v.toList ++ r) h1 o h') : am_R (d + 1) mi pc lv ((Value.ref a :: as').reverse ++ r) h o h' := by
  subst hq
  exact am_R.call (am_clv hc hi harg hn ha ht hf) c k
/-- a call that throws what is not caught here -/
theorem am_R.cvp {x n a ci mj z : Nat} {i : Instr} {fs as' r : List Value} (hc : am_code mi pc = some (i, len)) (hi : am_ivx i = some x) (harg : am_arg x = some (n, false)) (hn : as'.length + 1 = n) (ha : am_at h a = some (.inl (ci, fs))) (ht : am_tgt x ci = some mj) (hf : am_fit mj (.ref a :: as') r = true)
    (c : am_R d mj 0 (am_ent mj (.ref a :: as')) [] h (.inr z) h1) (hh : am_hs mi = []) : am_R (d + 1) mi pc lv ((Value.ref a :: as').reverse ++ r) h (.inr z) h1 := by
  refine am_R.pass (am_clv hc hi harg hn ha ht hf) c ?_ ?_
  · unfold am_hx
    split
    · unfold am_hnd
      rw [hh]
      rfl
    · rfl
  · unfold am_noh
    rw [hh]
    rfl
/-- a call that throws what is caught here -/
theorem am_R.cvc {x n a ci mj z y : Nat} {i : Instr} {fs as' r : List Value} (hc : am_code mi pc = some (i, len)) (hi : am_ivx i = some x) (harg : am_arg x = some (n, false)) (hn : as'.length + 1 = n) (ha : am_at h a = some (.inl (ci, fs))) (ht : am_tgt x ci = some mj) (hf : am_fit mj (.ref a :: as') r = true)
    (c : am_R d mj 0 (am_ent mj (.ref a :: as')) [] h (.inr z) h1) (hz : am_at h1 z = some (.inl (y, []))) (hh : am_hnd mi pc y = some pc') (k : am_R (d + 1) mi pc' lv [.ref z] h1 o h') : am_R (d + 1) mi pc lv ((Value.ref a :: as').reverse ++ r) h o h' := by
  refine am_R.catch (am_clv hc hi harg hn ha ht hf) c ?_ k
  unfold am_hx
  rw [hz]
  exact hh
/-- a static call that returns -/
theorem am_R.cs {mj : Nat} {as r : List Value} (e : am_cl mi pc st h = some (mj, as, r, len)) (c : am_R d mj 0 (am_ent mj as) [] h (.inl v) h1) (hq : pc + len = pc') (k : am_R (d + 1) mi pc' lv (v.toList ++ r) h1 o h') : am_R (d + 1) mi pc lv st h o h' := by
  subst hq
  exact am_R.call e c k
/-- a long is written -/
theorem am_R.stl {a : Nat} {x v : Int64} (hc : am_code mi pc = some (.lastore, len)) (ha : am_at h a = some (.inr (3, [.long x]))) (hs : am_set h a (.inr (3, [.long v])) = some h1) (hq : pc + len = pc') (k1 : am_R d mi pc' lv st h1 o h') : am_R d mi pc lv (.long v :: .int 0 :: .ref a :: st) h o h' := by
  subst hq
  refine am_R.nx (pc' := pc + len) (lv' := lv) (st' := st) (h1 := h1) ?_ k1
  have hx : am_wr mi .lastore (.long v :: .int 0 :: .ref a :: st) h = some (st, h1) := by
    simp only [am_wr, am_kind, ha]
    rw [if_pos ⟨Or.inl trivial, rfl, rfl⟩]
    have e : ([Value.long x].set (Int32.toNatClampNeg 0) (Value.long v)) = [.long v] := rfl
    rw [e, hs]
    rfl
  simp [am_nx, hc, am_ret, am_thr, am_inv, am_one, am_push, am_sto, am_ari, am_br, am_rd, hx]
theorem am_R.ldl {a : Nat} {x : Int64} (hc : am_code mi pc = some (.laload, len)) (ha : am_at h a = some (.inr (3, [.long x]))) (hq : pc + len = pc') (k1 : am_R d mi pc' lv (.long x :: st) h o h') : am_R d mi pc lv (.int 0 :: .ref a :: st) h o h' := by
  subst hq
  refine am_R.nx (pc' := pc + len) (lv' := lv) (st' := .long x :: st) (h1 := h) ?_ k1
  have hx : am_el 3 (.int 0 :: .ref a :: st) h = some (.long x :: st) := by
    simp only [am_el, ha]
    rw [if_pos ⟨trivial, rfl⟩]
    rfl
  simp [am_nx, hc, am_ret, am_thr, am_inv, am_one, am_push, am_sto, am_ari, am_br, am_rd, hx]
/-- 'throw new X(message)' -/
theorem am_R.tw {x : Nat} (hc : am_code mi pc = some (.instanceof x, len)) (hh : am_hs mi = []) : am_R d mi pc lv [] h (.inr (1000 + h.length)) (h ++ [.inl (x, [])]) := by
  refine am_R.thr hc rfl ?_
  unfold am_thr am_noh
  rw [hh]
  rfl
/-- an element of an array of references -/
theorem am_R.lda {a t i : Nat} {xs : List Value} {v : Value} (hc : am_code mi pc = some (.aaload, len)) (ha : am_at h a = some (.inr (t, xs))) (h4 : 4 ≤ t) (hi : i < xs.length) (hl : xs.length < 2 ^ 31) (hv : xs[i]? = some v) (hq : pc + len = pc') (k1 : am_R d mi pc' lv (v :: st) h o h') : am_R d mi pc lv (.int (Int32.ofNat i) :: .ref a :: st) h o h' := by
  subst hq
  refine am_R.nx (pc' := pc + len) (lv' := lv) (st' := v :: st) (h1 := h) ?_ k1
  have e : (Int32.ofNat i).toNatClampNeg = i := Int32.toNatClampNeg_ofNat_of_lt (by omega)
  simp only [am_nx, hc, am_ret, am_thr, am_inv, am_one, am_push, am_sto, am_ari, am_br, am_rd, ha, e, hv, Option.map_some]
  rw [if_pos ⟨h4, am_ixN hi hl⟩]
theorem aw_at5 {w : Nat → am_C} {g : am_H} {r : Nat} {c : am_C} (hr : r < 4) (e : w (5 + 4 * r) = c) : am_at (am_h w g) (1005 + 4 * r) = some c := by
  rw [show 1005 + 4 * r = 1000 + (5 + 4 * r) by omega]
  exact am_wf _ (by omega) e
theorem aw_at6 {w : Nat → am_C} {g : am_H} {r : Nat} {c : am_C} (hr : r < 4) (e : w (6 + 4 * r) = c) : am_at (am_h w g) (1006 + 4 * r) = some c := by
  rw [show 1006 + 4 * r = 1000 + (6 + 4 * r) by omega]
  exact am_wf _ (by omega) e
theorem aw_at7 {w : Nat → am_C} {g : am_H} {r : Nat} {c : am_C} (hr : r < 4) (e : w (7 + 4 * r) = c) : am_at (am_h w g) (1007 + 4 * r) = some c := by
  rw [show 1007 + 4 * r = 1000 + (7 + 4 * r) by omega]
  exact am_wf _ (by omega) e
theorem aw_at8 {w : Nat → am_C} {g : am_H} {r : Nat} {c : am_C} (hr : r < 4) (e : w (8 + 4 * r) = c) : am_at (am_h w g) (1008 + 4 * r) = some c := by
  rw [show 1008 + 4 * r = 1000 + (8 + 4 * r) by omega]
  exact am_wf _ (by omega) e
end AmCallR
