/-! What follows from the tables' lists. -/
def am_ty (t : Nat) : FieldType := match t with
  | 0 => .int
  | 1 => .char
  | 2 => .byte
  | 3 => .long
  | t + 4 => .object (am_en (t + 4))
theorem am_ty_obj {t : Nat} (h : 4 ≤ t) : am_ty t = .object (am_en t) := by
  obtain ⟨k, rfl⟩ := Nat.exists_eq_add_of_le h
  rw [Nat.add_comm]
  rfl
theorem am_ty_ref {t : Nat} (h : 4 ≤ t) : (am_ty t).isReference = true := by
  rw [am_ty_obj h]
  rfl
def am_idx (f : Nat) : List Nat → Option Nat
  | [] => none
  | g :: r => if g = f then some 0 else (am_idx f r).map (fun k => k + 1)
theorem am_idx_ok {f : Nat} : ∀ {l : List Nat} {k : Nat}, am_idx f l = some k → l[k]? = some f := by
  intro l
  induction l with
  | nil => intro k h; cases h
  | cons g r ih =>
    intro k h
    rw [am_idx] at h
    split at h
    · rename_i hg
      cases h
      rw [hg]
      rfl
    · cases hr : am_idx f r with
      | none => rw [hr] at h; cases h
      | some j =>
        rw [hr] at h
        simp only [Option.map_some, Option.some.injEq] at h
        subst h
        exact ih hr
/-- the place of a field among its class's fields -/
def am_pos (ci f : Nat) : Option Nat := am_idx f (am_lay ci)
theorem am_pos_ok {ci f k : Nat} (h : am_pos ci f = some k) : (am_lay ci)[k]? = some f := am_idx_ok h
/-- the fields of a new object -/
def am_new (ci : Nat) : Option (List Value) := if am_own ci = true then some ((am_lay ci).map (fun f => defaultValue (am_fty f))) else none
theorem am_new_ok {ci k f : Nat} {fs : List Value} {v : Value} (h : am_new ci = some fs) (hk : (am_lay ci)[k]? = some f) (hv : fs[k]? = some v) : v = defaultValue (am_fty f) := by
  unfold am_new at h
  split at h
  · cases h
    rw [List.getElem?_map, hk] at hv
    cases hv
    rfl
  · cases h
