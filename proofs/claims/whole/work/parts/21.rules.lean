/-! Rules of the small machine: more steps and more depth do no harm; a step, a call, an end. -/
theorem am_zero (d mi pc : Nat) (lv : am_L) (st : List Value) (h : am_H) : am_run 0 d mi pc lv st h = none := by
  cases d <;> rfl
theorem am_succ (n d mi pc : Nat) (lv : am_L) (st : List Value) (h : am_H) : am_run (n + 1) d mi pc lv st h = (match am_code mi pc with
    | none => none
    | some (i, len) => match am_ret mi i st with
      | some v => some (.inl v, h)
      | none => match am_thr mi i st with
        | some x => some (.inr (1000 + h.length), h ++ [.inl (x, [])])
        | none => match am_inv i st h with
          | some (mj, as, r) => match d with
            | 0 => none
            | d' + 1 => match am_run n d' mj 0 (am_ent mj as) [] h with
              | none => none
              | some (.inl v, h') => am_run n (d' + 1) mi (pc + len) lv (v.toList ++ r) h'
              | some (.inr a, h') => match am_hx mi pc h' a with
                | some pc' => am_run n (d' + 1) mi pc' lv [.ref a] h'
                | none => if am_noh mi = true then some (.inr a, h') else none
          | none => match am_one mi i len pc lv st h with
            | some (pc', lv', st', h') => am_run n d mi pc' lv' st' h'
            | none => none) := by
  rfl
theorem am_up : ∀ (n d mi pc : Nat) (lv : am_L) (st : List Value) (h : am_H) (q : am_O × am_H), am_run n d mi pc lv st h = some q → am_run (n + 1) d mi pc lv st h = some q ∧ am_run (n + 1) (d + 1) mi pc lv st h = some q := by
  intro n
  induction n with
  | zero =>
    intro d mi pc lv st h q hr
    rw [am_zero] at hr
    cases hr
  | succ n ih =>
    intro d mi pc lv st h q hr
    rw [am_succ] at hr
    rw [am_succ (n + 1) d, am_succ (n + 1) (d + 1)]
    cases hc : am_code mi pc with
    | none => rw [hc] at hr; cases hr
    | some z =>
      obtain ⟨i, len⟩ := z
      simp only [hc] at hr ⊢
      cases h1 : am_ret mi i st with
      | some v => simp only [h1] at hr ⊢; exact ⟨hr, hr⟩
      | none =>
        simp only [h1] at hr ⊢
        cases h2 : am_thr mi i st with
        | some x => simp only [h2] at hr ⊢; exact ⟨hr, hr⟩
        | none =>
          simp only [h2] at hr ⊢
          cases h3 : am_inv i st h with
          | some z =>
            obtain ⟨mj, as, r⟩ := z
            simp only [h3] at hr ⊢
            cases d with
            | zero => cases hr
            | succ d' =>
              simp only at hr ⊢
              cases h4 : am_run n d' mj 0 (am_ent mj as) [] h with
              | none => rw [h4] at hr; cases hr
              | some z =>
                obtain ⟨o, h'⟩ := z
                rw [(ih _ _ _ _ _ _ _ h4).1, (ih _ _ _ _ _ _ _ h4).2]
                simp only [h4] at hr
                cases o with
                | inl v => exact ih _ _ _ _ _ _ _ hr
                | inr a =>
                  simp only at hr ⊢
                  cases h5 : am_hx mi pc h' a with
                  | some pc' => simp only [h5] at hr ⊢; exact ih _ _ _ _ _ _ _ hr
                  | none => simp only [h5] at hr ⊢; exact ⟨hr, hr⟩
          | none =>
            simp only [h3] at hr ⊢
            cases h4 : am_one mi i len pc lv st h with
            | none => rw [h4] at hr; cases hr
            | some z =>
              obtain ⟨pc', lv', st', h'⟩ := z
              simp only [h4] at hr ⊢
              exact ih _ _ _ _ _ _ _ hr
theorem am_more {n d mi pc : Nat} {lv : am_L} {st : List Value} {h : am_H} {q : am_O × am_H} (k : Nat) (hr : am_run n d mi pc lv st h = some q) : am_run (n + k) d mi pc lv st h = some q := by
  induction k with
  | zero => exact hr
  | succ k ih => exact (am_up _ _ _ _ _ _ _ _ ih).1
theorem am_R.deep {d mi pc : Nat} {lv : am_L} {st : List Value} {h h' : am_H} {o : am_O} (k : Nat) (hr : am_R d mi pc lv st h o h') : am_R (d + k) mi pc lv st h o h' := by
  induction k with
  | zero => exact hr
  | succ k ih =>
    obtain ⟨n, hn⟩ := ih
    exact ⟨n + 1, (am_up _ _ _ _ _ _ _ _ hn).2⟩
/-- one step that neither calls nor ends -/
def am_nx (mi pc : Nat) (lv : am_L) (st : List Value) (h : am_H) : Option am_S := match am_code mi pc with
  | none => none
  | some (i, len) => match am_ret mi i st with
    | some _ => none
    | none => match am_thr mi i st with
      | some _ => none
      | none => match am_inv i st h with
        | some _ => none
        | none => am_one mi i len pc lv st h
theorem am_R.nx {d mi pc pc' : Nat} {lv lv' : am_L} {st st' : List Value} {h h1 h' : am_H} {o : am_O} (e : am_nx mi pc lv st h = some (pc', lv', st', h1)) (k : am_R d mi pc' lv' st' h1 o h') : am_R d mi pc lv st h o h' := by
  obtain ⟨n, hn⟩ := k
  refine ⟨n + 1, ?_⟩
  rw [am_succ]
  unfold am_nx at e
  cases hc : am_code mi pc with
  | none => rw [hc] at e; cases e
  | some z =>
    obtain ⟨i, len⟩ := z
    simp only [hc] at e ⊢
    cases h1 : am_ret mi i st with
    | some v => rw [h1] at e; cases e
    | none =>
      simp only [h1] at e ⊢
      cases h2 : am_thr mi i st with
      | some x => rw [h2] at e; cases e
      | none =>
        simp only [h2] at e ⊢
        cases h3 : am_inv i st h with
        | some z => rw [h3] at e; cases e
        | none =>
          simp only [h3] at e ⊢
          rw [e]
          exact hn
/-- several such steps at once -/
def am_nxs : Nat → Nat → Nat → am_L → List Value → am_H → Option am_S
  | 0, _, pc, lv, st, h => some (pc, lv, st, h)
  | k + 1, mi, pc, lv, st, h => match am_nx mi pc lv st h with
    | some (pc', lv', st', h') => am_nxs k mi pc' lv' st' h'
    | none => none
theorem am_R.nxs {d mi : Nat} {o : am_O} {h' : am_H} : ∀ (k : Nat) {pc pc' : Nat} {lv lv' : am_L} {st st' : List Value} {h h1 : am_H}, am_nxs k mi pc lv st h = some (pc', lv', st', h1) → am_R d mi pc' lv' st' h1 o h' → am_R d mi pc lv st h o h' := by
  intro k
  induction k with
  | zero =>
    intro pc pc' lv lv' st st' h h1 e r
    cases e
    exact r
  | succ k ih =>
    intro pc pc' lv lv' st st' h h1 e r
    rw [am_nxs] at e
    cases h4 : am_nx mi pc lv st h with
    | none => rw [h4] at e; cases e
    | some z =>
      obtain ⟨p2, l2, s2, g2⟩ := z
      rw [h4] at e
      exact am_R.nx h4 (ih e r)
/-- the end of a method -/
theorem am_R.ret {d mi pc len : Nat} {lv : am_L} {st : List Value} {h : am_H} {i : Instr} {v : Option Value} (hc : am_code mi pc = some (i, len)) (e : am_ret mi i st = some v) : am_R d mi pc lv st h (.inl v) h := by
  refine ⟨1, ?_⟩
  rw [am_succ, hc]
  simp only [e]
theorem am_R.thr {d mi pc len x : Nat} {lv : am_L} {st : List Value} {h : am_H} {i : Instr} (hc : am_code mi pc = some (i, len)) (h1 : am_ret mi i st = none) (e : am_thr mi i st = some x) : am_R d mi pc lv st h (.inr (1000 + h.length)) (h ++ [.inl (x, [])]) := by
  refine ⟨1, ?_⟩
  rw [am_succ, hc]
  simp only [h1, e]
/-- the call at pc: callee, arguments, the rest of the stack, the length of the instruction -/
def am_cl (mi pc : Nat) (st : List Value) (h : am_H) : Option (Nat × List Value × List Value × Nat) := match am_code mi pc with
  | none => none
  | some (i, len) => match am_ret mi i st with
    | some _ => none
    | none => match am_thr mi i st with
      | some _ => none
      | none => (am_inv i st h).map (fun z => (z.1, z.2.1, z.2.2, len))
theorem am_cl_spec {mi pc mj len : Nat} {st as r : List Value} {h : am_H} (e : am_cl mi pc st h = some (mj, as, r, len)) : ∃ i, am_code mi pc = some (i, len) ∧ am_ret mi i st = none ∧ am_thr mi i st = none ∧ am_inv i st h = some (mj, as, r) := by
  unfold am_cl at e
  cases hc : am_code mi pc with
  | none => rw [hc] at e; cases e
  | some z =>
    obtain ⟨i, l2⟩ := z
    simp only [hc] at e
    cases h1 : am_ret mi i st with
    | some v => rw [h1] at e; cases e
    | none =>
      simp only [h1] at e
      cases h2 : am_thr mi i st with
      | some x => rw [h2] at e; cases e
      | none =>
        simp only [h2] at e
        cases h3 : am_inv i st h with
        | none => rw [h3] at e; cases e
        | some z =>
          obtain ⟨a1, a2, a3⟩ := z
          rw [h3] at e
          simp only [Option.map_some, Option.some.injEq, Prod.mk.injEq] at e
          obtain ⟨rfl, rfl, rfl, rfl⟩ := e
          exact ⟨i, rfl, h1, h2, h3⟩
/-- a call that returns -/
theorem am_R.call {d mi pc mj len : Nat} {lv : am_L} {st as r : List Value} {h h1 h' : am_H} {o : am_O} {v : Option Value} (e : am_cl mi pc st h = some (mj, as, r, len)) (c : am_R d mj 0 (am_ent mj as) [] h (.inl v) h1) (k : am_R (d + 1) mi (pc + len) lv (v.toList ++ r) h1 o h') : am_R (d + 1) mi pc lv st h o h' := by
  obtain ⟨i, hc, e1, e2, e3⟩ := am_cl_spec e
  obtain ⟨n1, c⟩ := c
  obtain ⟨n2, k⟩ := k
  refine ⟨n1 + n2 + 1, ?_⟩
  rw [am_succ, hc]
  simp only [e1, e2, e3]
  rw [am_more n2 c]
  simp only
  rw [Nat.add_comm n1 n2]
  exact am_more n1 k
/-- a call that throws, and is not caught here -/
theorem am_R.pass {d mi pc mj len a : Nat} {lv : am_L} {st as r : List Value} {h h1 : am_H} (e : am_cl mi pc st h = some (mj, as, r, len)) (c : am_R d mj 0 (am_ent mj as) [] h (.inr a) h1) (hh : am_hx mi pc h1 a = none) (hn : am_noh mi = true) : am_R (d + 1) mi pc lv st h (.inr a) h1 := by
  obtain ⟨i, hc, e1, e2, e3⟩ := am_cl_spec e
  obtain ⟨n1, c⟩ := c
  refine ⟨n1 + 1, ?_⟩
  rw [am_succ, hc]
  simp only [e1, e2, e3]
  rw [c]
  simp only [hh, hn, if_true]
/-- a call that throws, and is caught here -/
theorem am_R.catch {d mi pc pc' mj len a : Nat} {lv : am_L} {st as r : List Value} {h h1 h' : am_H} {o : am_O} (e : am_cl mi pc st h = some (mj, as, r, len)) (c : am_R d mj 0 (am_ent mj as) [] h (.inr a) h1) (hh : am_hx mi pc h1 a = some pc') (k : am_R (d + 1) mi pc' lv [.ref a] h1 o h') : am_R (d + 1) mi pc lv st h o h' := by
  obtain ⟨i, hc, e1, e2, e3⟩ := am_cl_spec e
  obtain ⟨n1, c⟩ := c
  obtain ⟨n2, k⟩ := k
  refine ⟨n1 + n2 + 1, ?_⟩
  rw [am_succ, hc]
  simp only [e1, e2, e3]
  rw [am_more n2 c]
  simp only [hh]
  rw [Nat.add_comm n1 n2]
  exact am_more n1 k
/-- it ends in one way -/
theorem am_R.one_end {d mi pc : Nat} {lv : am_L} {st : List Value} {h h1 h2 : am_H} {o1 o2 : am_O} (a : am_R d mi pc lv st h o1 h1) (b : am_R d mi pc lv st h o2 h2) : o1 = o2 ∧ h1 = h2 := by
  obtain ⟨n1, a⟩ := a
  obtain ⟨n2, b⟩ := b
  have a' := am_more n2 a
  have b' := am_more n1 b
  rw [Nat.add_comm n2 n1, a'] at b'
  simp only [Option.some.injEq, Prod.mk.injEq] at b'
  exact b'
