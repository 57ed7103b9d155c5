/-! The small machine's state in the true one: addresses, values, locals, cells. -/
/-- where the cells of the start stand; where the new ones begin; the classes' numbers; the fields' slots; the array classes' numbers; where the script stands, and what it holds -/
abbrev am_X : Type := (Nat → Nat) × Nat × (Nat → ClassId) × (Nat → Nat) × (Nat → ClassId) × Nat × List Int32
def am_ph (X : am_X) (k : Nat) : Nat := if k < 1000 then X.1 k else if k = 1000 then X.2.2.2.2.2.1 else X.2.1 + (k - 1001)
def am_scr (X : am_X) : am_C := .inr (0, X.2.2.2.2.2.2.map Value.int)
def am_v (X : am_X) (v : Value) : Value := match v with
  | .ref a => .ref (am_ph X a)
  | .int x => .int x
  | .long x => .long x
  | .float x => .float x
  | .double x => .double x
  | .null => .null
  | .retAddr x => .retAddr x
theorem am_v_cat (X : am_X) (v : Value) : (am_v X v).category = v.category := by
  cases v <;> rfl
theorem am_v_cats (X : am_X) (st : List Value) : ((st.map (am_v X)).map fun v => v.category).sum = (st.map fun v => v.category).sum := by
  induction st with
  | nil => rfl
  | cons v r ih => simp only [List.map_cons, List.sum_cons, am_v_cat, ih]
/-- the locals -/
def am_Ls (X : am_X) (lv : am_L) (ls : Array Slot) : Prop := ls.size = lv.length ∧ lv_wf ls ∧ ∀ (i : Nat) (v : Value), lv[i]? = some (some v) → ls[i]? = some (.val (am_v X v))
theorem am_Ls.ld {X : am_X} {lv : am_L} {ls : Array Slot} (h : am_Ls X lv ls) {i : Nat} {v : Value} (e : am_ld lv i = some v) : ls[i]? = some (.val (am_v X v)) := by
  refine h.2.2 i v ?_
  unfold am_ld at e
  split at e
  · rename_i w hw
    cases e
    exact hw
  · cases e
def am_ps (X : am_X) (lv : am_L) : List (Nat × Value) := (List.range lv.length).filterMap (fun i => (am_ld lv i).map (fun v => (i, am_v X v)))
theorem am_ld_of {lv : am_L} {i : Nat} {v : Value} (h : lv[i]? = some (some v)) : am_ld lv i = some v := by
  unfold am_ld
  rw [h]
theorem am_ps_mem {X : am_X} {lv : am_L} {i : Nat} {v : Value} (h : lv[i]? = some (some v)) : (i, am_v X v) ∈ am_ps X lv := by
  refine List.mem_filterMap.mpr ⟨i, List.mem_range.mpr (List.getElem?_eq_some_iff.mp h).1, ?_⟩
  rw [am_ld_of h]
  rfl
theorem am_Ls.has {X : am_X} {lv : am_L} {ls : Array Slot} (h : am_Ls X lv ls) : lv_has ls lv.length (am_ps X lv) := by
  refine ⟨h.1, h.2.1, fun q hq => ?_⟩
  obtain ⟨i, -, hi⟩ := List.mem_filterMap.mp hq
  cases hv : am_ld lv i with
  | none => rw [hv] at hi; cases hi
  | some v =>
    rw [hv] at hi
    simp only [Option.map_some, Option.some.injEq] at hi
    subst hi
    exact h.ld hv
theorem am_isL_cat {v : Value} (h : am_isL (some (some v)) = false) : v.category = 1 := by
  cases v <;> first | rfl | (simp [am_isL] at h)
theorem am_Ls.s1 {X : am_X} {lv lv' : am_L} {ls' : Array Slot} {i : Nat} {v : Value} (e : am_s1 lv i v = some lv')
    (h : lv_has ls' lv.length ((i, am_v X v) :: (am_ps X lv).filter (fun q => !(q.1 == i) && !(q.1 + 1 == i && q.2.category == 2)))) : i < lv.length ∧ am_Ls X lv' ls' := by
  unfold am_s1 at e
  split at e
  · rename_i hc
    cases e
    obtain ⟨hi, hf⟩ := hc
    refine ⟨hi, by rw [List.length_set]; exact h.1, h.2.1, fun j w hj => ?_⟩
    by_cases hji : j = i
    · subst hji
      rw [List.getElem?_set_self hi] at hj
      cases hj
      exact h.2.2 (j, am_v X v) List.mem_cons_self
    · rw [List.getElem?_set_ne (fun q => hji q.symm)] at hj
      refine h.2.2 (j, am_v X w) (List.mem_cons_of_mem _ (List.mem_filter.mpr ⟨am_ps_mem hj, ?_⟩))
      have h1 : (j == i) = false := by simpa using hji
      by_cases hj2 : j + 1 = i
      · subst hj2
        have h2 : am_isL lv[j]? = false := by simpa [am_fr] using hf
        rw [hj] at h2
        have h3 := am_isL_cat h2
        simp [h1, am_v_cat, h3]
      · have h2 : (j + 1 == i) = false := by simpa using hj2
        simp [h1, h2]
  · cases e
theorem am_Ls.s2 {X : am_X} {lv lv' : am_L} {ls' : Array Slot} {i : Nat} {v : Value} (e : am_s2 lv i v = some lv')
    (h : lv_has ls' lv.length ((i, am_v X v) :: (am_ps X lv).filter (fun q => !(q.1 == i) && (!(q.1 == i + 1) && !(q.1 + 1 == i && q.2.category == 2))))) : i + 1 < lv.length ∧ am_Ls X lv' ls' := by
  unfold am_s2 at e
  split at e
  · rename_i hc
    cases e
    obtain ⟨hi, hf⟩ := hc
    refine ⟨hi, by rw [List.length_set, List.length_set]; exact h.1, h.2.1, fun j w hj => ?_⟩
    by_cases hj1 : j = i + 1
    · subst hj1
      rw [List.getElem?_set_self (by rw [List.length_set]; exact hi)] at hj
      cases hj
    · rw [List.getElem?_set_ne (fun q => hj1 q.symm)] at hj
      by_cases hji : j = i
      · subst hji
        rw [List.getElem?_set_self (by omega)] at hj
        cases hj
        exact h.2.2 (j, am_v X v) List.mem_cons_self
      · rw [List.getElem?_set_ne (fun q => hji q.symm)] at hj
        refine h.2.2 (j, am_v X w) (List.mem_cons_of_mem _ (List.mem_filter.mpr ⟨am_ps_mem hj, ?_⟩))
        have h1 : (j == i) = false := by simpa using hji
        have h0 : (j == i + 1) = false := by simpa using hj1
        by_cases hj2 : j + 1 = i
        · subst hj2
          have h2 : am_isL lv[j]? = false := by simpa [am_fr] using hf
          rw [hj] at h2
          have h3 := am_isL_cat h2
          simp [h1, h0, am_v_cat, h3]
          try omega
        · have h2 : (j + 1 == i) = false := by simpa using hj2
          simp [h1, h0, h2]
  · cases e
theorem am_s1_lt {lv lv' : am_L} {i : Nat} {v : Value} (e : am_s1 lv i v = some lv') : i < lv.length := by
  unfold am_s1 at e
  split at e
  · rename_i hc; exact hc.1
  · cases e
theorem am_s2_lt {lv lv' : am_L} {i : Nat} {v : Value} (e : am_s2 lv i v = some lv') : i + 1 < lv.length := by
  unfold am_s2 at e
  split at e
  · rename_i hc; exact hc.1
  · cases e
theorem am_s1_len {lv lv' : am_L} {i : Nat} {v : Value} (e : am_s1 lv i v = some lv') : lv'.length = lv.length := by
  unfold am_s1 at e
  split at e
  · cases e; exact List.length_set
  · cases e
theorem am_s2_len {lv lv' : am_L} {i : Nat} {v : Value} (e : am_s2 lv i v = some lv') : lv'.length = lv.length := by
  unfold am_s2 at e
  split at e
  · cases e; rw [List.length_set, List.length_set]
  · cases e
/-- a cell -/
def am_RC (X : am_X) (c : am_C) (cell : Cell) : Prop := match c with
  | .inl (ci, fs) => am_own ci = true ∧ cell.cls = X.2.2.1 ci ∧ cell.vm = .none ∧ ∀ (k f : Nat) (v : Value), (am_lay ci)[k]? = some f → fs[k]? = some v → cell.slots[X.2.2.2.1 f]? = some (am_v X v)
  | .inr (t, xs) => am_oka t = true ∧ cell = arrV (X.2.2.2.2.1 t) xs.length (fun j => am_v X (xs.getD j .null))
/-- the cells that were made, behind the script -/
def am_P (X : am_X) (h : am_H) (H : Heap) : Prop := h[0]? = some (am_scr X) ∧ H.size + 1 = X.2.1 + h.length ∧ ∀ (k : Nat) (c : am_C), h[k + 1]? = some c → ∃ cell, H[X.2.1 + k]? = some cell ∧ am_RC X c cell
theorem am_P.len {X : am_X} {h : am_H} {H : Heap} (hP : am_P X h H) : 1 ≤ h.length ∧ H.size = X.2.1 + (h.length - 1) := by
  have h1 := (List.getElem?_eq_some_iff.mp hP.1).1
  have h2 := hP.2.1
  omega
/-- how many slots they have -/
def am_cs (c : am_C) : Nat := match c with
  | .inl (ci, _) => am_N ci
  | .inr (_, xs) => xs.length
def am_sz (h : am_H) : Nat := (h.map am_cs).sum
theorem am_sz_push (h : am_H) (c : am_C) : am_sz (h ++ [c]) = am_sz h + am_cs c := by
  simp [am_sz]
theorem am_P.push {X : am_X} {h : am_H} {H H' : Heap} {c : am_C} {cell : Cell} (hP : am_P X h H) (e : H'[H.size]? = some cell) (hs : H'.size = H.size + 1) (ho : ∀ q, q < H.size → H'[q]? = H[q]?) (hc : am_RC X c cell) : am_P X (h ++ [c]) H' := by
  obtain ⟨l1, l2⟩ := hP.len
  refine ⟨by rw [List.getElem?_append_left (by omega)]; exact hP.1, by rw [hs, List.length_append]; simp; omega, fun k c' hk => ?_⟩
  by_cases hl : k + 1 < h.length
  · rw [List.getElem?_append_left hl] at hk
    obtain ⟨cell', q1, q2⟩ := hP.2.2 k c' hk
    exact ⟨cell', by rw [ho _ (by omega)]; exact q1, q2⟩
  · rw [List.getElem?_append_right (by omega)] at hk
    have hz : k + 1 - h.length < 1 := (List.getElem?_eq_some_iff.mp hk).1
    rw [show k + 1 - h.length = 0 by omega] at hk
    simp only [List.getElem?_cons_zero, Option.some.injEq] at hk
    subst hk
    exact ⟨cell, by rw [show X.2.1 + k = H.size by omega]; exact e, hc⟩
theorem am_P.set {X : am_X} {h : am_H} {H H' : Heap} {c : am_C} {cell : Cell} {k : Nat} (hP : am_P X h H) (hk : k + 1 < h.length) (e : H'[X.2.1 + k]? = some cell) (hs : H'.size = H.size) (ho : ∀ q, q ≠ X.2.1 + k → H'[q]? = H[q]?) (hc : am_RC X c cell) : am_P X (h.set (k + 1) c) H' := by
  refine ⟨by rw [List.getElem?_set_ne (by omega)]; exact hP.1, by rw [hs, List.length_set]; exact hP.2.1, fun j c' hj => ?_⟩
  by_cases hjk : j = k
  · subst hjk
    rw [List.getElem?_set_self hk] at hj
    cases hj
    exact ⟨cell, e, hc⟩
  · rw [List.getElem?_set_ne (by omega)] at hj
    obtain ⟨cell', q1, q2⟩ := hP.2.2 j c' hj
    exact ⟨cell', by rw [ho _ (by omega)]; exact q1, q2⟩
theorem am_sto_len {i : Instr} {lv lv' : am_L} {st st' : List Value} (e : am_sto i lv st = some (lv', st')) : lv'.length = lv.length := by
  have one : ∀ {k : Nat} {w : Value} {r : List Value}, (am_s1 lv k w).map (fun l => (l, r)) = some (lv', st') → lv'.length = lv.length := by
    intro k w r h
    cases hv : am_s1 lv k w with
    | none => rw [hv] at h; cases h
    | some z =>
      rw [hv] at h
      simp only [Option.map_some, Option.some.injEq, Prod.mk.injEq] at h
      rw [← h.1]
      exact am_s1_len hv
  have two : ∀ {k : Nat} {w : Value} {r : List Value}, (am_s2 lv k w).map (fun l => (l, r)) = some (lv', st') → lv'.length = lv.length := by
    intro k w r h
    cases hv : am_s2 lv k w with
    | none => rw [hv] at h; cases h
    | some z =>
      rw [hv] at h
      simp only [Option.map_some, Option.some.injEq, Prod.mk.injEq] at h
      rw [← h.1]
      exact am_s2_len hv
  unfold am_sto at e
  split at e <;> first | (cases e; done) | skip
  all_goals (split at e <;> first | (exact one e) | (exact two e) | (cases e))
