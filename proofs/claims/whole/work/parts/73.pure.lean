/-! Reading, as a pure function over the words: where it faults, or the tables, the counts and the breaches that it comes to. -/
abbrev aw_T := Nat → Nat → Int32
def aw_up (T : aw_T) (k i : Nat) (v : Int32) : aw_T := fun k' i' => if k' = k ∧ i' = i then v else T k' i'
theorem aw_up_eq (T : aw_T) (k i : Nat) (v : Int32) : aw_up T k i v k i = v := if_pos ⟨rfl, rfl⟩
theorem aw_up_ne {T : aw_T} {k i k' i' : Nat} {v : Int32} (h : k' ≠ k ∨ i' ≠ i) : aw_up T k i v k' i' = T k' i' := if_neg (fun q => by omega)
/-- the word at p, 37 where there is none -/
def aw_w (js : List Nat) (p : Nat) : Nat := js.getD p 37
def aw_isn (j : Nat) : Bool := decide (25 ≤ j ∧ j ≤ 30)
def aw_shp (a b : Nat) : Bool := if a = 25 then decide (31 ≤ b ∧ b ≤ 33) else decide (34 ≤ b ∧ b ≤ 36)
def aw_chv (a b : Nat) : Nat := if a = 25 then b - 31 else b - 34
/-- a divided field of two tinctures -/
def aw_tw (T : aw_T) (s : Nat) : Bool := decide (0 < T 35 s ∧ T 36 (2 * s) < 100 ∧ T 36 (2 * s + 1) < 100)
def aw_cto (tw : Bool) (c : Nat) : Bool := decide (c < 9) || (tw && decide (c = 9))
def aw_cl (t : Int32) : Int32 := if t < 0 ∨ 6 < t then 0 else if t < 2 then 1 else 2
def aw_bk (c a b : Int32) : Bool := decide (¬ aw_cl c = 0 ∧ aw_cl c = aw_cl a ∧ aw_cl c = aw_cl b)
/-- tables, shields, items, charges, depth, breaches -/
abbrev aw_S := aw_T × Nat × Nat × Nat × Nat × List Nat
abbrev aw_Res := Nat ⊕ (Nat × aw_S)
/-- charges at p: where they fault -/
def aw_fch (js : List Nat) (may : Bool) (p : Nat) : Option Nat := if aw_isn (aw_w js p) = true then (if aw_shp (aw_w js p) (aw_w js (p + 1)) = true then (if aw_cto may (aw_w js (p + 2)) = true then none else some (p + 2)) else some (p + 1)) else some p
/-- a breach, or none -/
def aw_ab (b : Bool) (p : Nat) (br : List Nat) : List Nat := if b = true then br ++ [p] else br
/-- the tables as an item begins -/
def aw_t0 (T : aw_T) (s i : Nat) : aw_T := aw_up (aw_up (aw_up T 38 s (Int32.ofNat (i + 1))) 39 (4 * s + i) 0) 42 (4 * s + i) 0
/-- charges on the field -/
def aw_Pcf (js : List Nat) (s i : Nat) (S : aw_S) (p : Nat) : aw_Res := match S with
  | (T, sh, ic, cc, dp, br) => match aw_fch js (aw_tw T s) p with
    | some q => .inl q
    | none => .inr (p + 3, (aw_up (aw_up (aw_up (aw_t0 T s i) 42 (4 * s + i) (Int32.ofNat (aw_w js p - 24))) 41 (4 * s + i) (Int32.ofNat (aw_chv (aw_w js p) (aw_w js (p + 1))))) 40 (4 * s + i) (Int32.ofNat (aw_w js (p + 2))), sh, ic + 1, cc + (aw_w js p - 24), dp, aw_ab (aw_bk (Int32.ofNat (aw_w js (p + 2))) (T 36 (2 * s)) (T 36 (2 * s + 1))) (p + 2) br))
/-- charges on an ordinary; p is behind 'charged' -/
def aw_Pon (js : List Nat) (n : Nat) (co : Nat) (S : aw_S) (p : Nat) : aw_Res := match S with
  | (T, sh, ic, cc, dp, br) => if aw_w js p = 16 then (match aw_fch js false (p + 1) with
    | some q => .inl q
    | none => .inr (p + 4, (aw_up (aw_up (aw_up T 42 n (Int32.ofNat (aw_w js (p + 1) - 24))) 41 n (Int32.ofNat (aw_chv (aw_w js (p + 1)) (aw_w js (p + 2))))) 43 n (Int32.ofNat (aw_w js (p + 3))), sh, ic, cc + (aw_w js (p + 1) - 24), dp, aw_ab (aw_bk (Int32.ofNat (aw_w js (p + 3))) (Int32.ofNat co) (Int32.ofNat co)) (p + 3) br))) else .inl p
/-- an ordinary; p is at its 'a' -/
def aw_Por (js : List Nat) (s i : Nat) (S : aw_S) (p : Nat) : aw_Res := match S with
  | (T, sh, ic, cc, dp, br) => if aw_cto (aw_tw T s) (aw_w js (p + 2)) = true then
      (if aw_w js (p + 1) ≤ 19 ∧ aw_w js (p + 3) = 15 then aw_Pon js (4 * s + i) (aw_w js (p + 2)) (aw_up (aw_up (aw_t0 T s i) 39 (4 * s + i) (aw_tau (aw_w js (p + 1)))) 40 (4 * s + i) (Int32.ofNat (aw_w js (p + 2))), sh, ic + 1, cc, dp, aw_ab (aw_bk (Int32.ofNat (aw_w js (p + 2))) (T 36 (2 * s)) (T 36 (2 * s + 1))) (p + 2) br) (p + 4)
       else .inr (p + 3, (aw_up (aw_up (aw_t0 T s i) 39 (4 * s + i) (aw_tau (aw_w js (p + 1)))) 40 (4 * s + i) (Int32.ofNat (aw_w js (p + 2))), sh, ic + 1, cc, dp, aw_ab (aw_bk (Int32.ofNat (aw_w js (p + 2))) (T 36 (2 * s)) (T 36 (2 * s + 1))) (p + 2) br)))
    else .inl (p + 2)
def aw_Pit (js : List Nat) (s i : Nat) (S : aw_S) (p : Nat) : aw_Res := if aw_w js p = 25 ∧ 17 ≤ aw_w js (p + 1) ∧ aw_w js (p + 1) ≤ 24 then aw_Por js s i S p else aw_Pcf js s i S p
/-- the items from the i-th on, at most k -/
def aw_Pis (js : List Nat) (s : Nat) : Nat → Nat → aw_S → Nat → aw_Res
  | 0, _, S, p => if aw_isn (aw_w js p) = true then .inl p else .inr (p, S)
  | k + 1, i, S, p => if aw_isn (aw_w js p) = true then (match aw_Pit js s i S p with
    | .inl q => .inl q
    | .inr (p', S') => aw_Pis js s k (i + 1) S' p') else .inr (p, S)
def aw_nsT (T : aw_T) (sh dpt : Nat) : aw_T := aw_up (aw_up (aw_up T 35 sh 0) 37 sh (Int32.ofNat dpt)) 38 sh 0
/-- a part; q is its place in the table, dpt the depth of its shield -/
def aw_Ppt (js : List Nat) (N : Nat → aw_S → Nat → aw_Res) (dpt : Nat) (lv : Bool) (q : Nat) (S : aw_S) (p : Nat) : aw_Res := match S with
  | (T, sh, ic, cc, dp, br) => if aw_w js p < 9 then .inr (p + 1, (aw_up T 36 q (Int32.ofNat (aw_w js p)), sh, ic, cc, dp, br))
    else if lv = true ∧ aw_w js p = 13 then (match N sh (aw_up (aw_nsT T sh (dpt + 1)) 36 q (Int32.ofNat (100 + sh)), sh + 1, ic, cc, max dp (dpt + 1), br) (p + 1) with
      | .inl z => .inl z
      | .inr (p', S') => if aw_w js p' = 14 then .inr (p' + 1, S') else .inl p')
    else .inl p
def aw_Ppp (js : List Nat) (N : Nat → aw_S → Nat → aw_Res) (dpt : Nat) (lv : Bool) (s : Nat) (S : aw_S) (p : Nat) : aw_Res := match aw_Ppt js N dpt lv (2 * s) S p with
  | .inl z => .inl z
  | .inr (p1, S1) => if aw_w js p1 = 12 then aw_Ppt js N dpt lv (2 * s + 1) S1 (p1 + 1) else .inl p1
/-- the number of a division -/
def aw_dv (j : Nat) : Int32 := if j = 19 then 1 else if j = 18 then 2 else if j = 20 then 3 else 4
def aw_Pfd (js : List Nat) (N : Nat → aw_S → Nat → aw_Res) (dpt : Nat) (lv : Bool) (s : Nat) (S : aw_S) (p : Nat) : aw_Res := match S with
  | (T, sh, ic, cc, dp, br) => if aw_w js p < 9 then .inr (p + 1, (aw_up (aw_up T 36 (2 * s) (Int32.ofNat (aw_w js p))) 36 (2 * s + 1) (Int32.ofNat (aw_w js p)), sh, ic, cc, dp, br))
    else if aw_w js p = 11 then aw_Ppp js N dpt lv s (aw_up T 35 s 4, sh, ic, cc, dp, br) (p + 1)
    else if aw_w js p = 10 then (if 18 ≤ aw_w js (p + 1) ∧ aw_w js (p + 1) ≤ 20 then aw_Ppp js N dpt lv s (aw_up T 35 s (aw_dv (aw_w js (p + 1))), sh, ic, cc, dp, br) (p + 2) else .inl (p + 1))
    else .inl p
def aw_Psb (js : List Nat) (N : Nat → aw_S → Nat → aw_Res) (dpt : Nat) (lv : Bool) (s : Nat) (S : aw_S) (p : Nat) : aw_Res := match aw_Pfd js N dpt lv s S p with
  | .inl z => .inl z
  | .inr (p1, S1) => aw_Pis js s 4 0 S1 p1
/-- a shield that l more levels may lie in -/
def aw_Psh (js : List Nat) : Nat → Nat → aw_S → Nat → aw_Res
  | 0, s, S, p => aw_Psb js (fun _ _ p => .inl p) 3 false s S p
  | l + 1, s, S, p => aw_Psb js (fun s S p => aw_Psh js l s S p) (2 - l) true s S p
def aw_P (js : List Nat) (T : aw_T) : Nat ⊕ aw_S := match aw_Psh js 2 0 (aw_nsT T 0 1, 1, 0, 0, 1, []) 0 with
  | .inl z => .inl z
  | .inr (p', S') => if p' = js.length then .inr S' else .inl p'
theorem aw_isn_iff {j : Nat} : aw_isn j = true ↔ 25 ≤ j ∧ j ≤ 30 := by
  unfold aw_isn
  rw [decide_eq_true_eq]
theorem aw_shp_iff {a b : Nat} : aw_shp a b = true ↔ (a = 25 ∧ 31 ≤ b ∧ b ≤ 33) ∨ (a ≠ 25 ∧ 34 ≤ b ∧ b ≤ 36) := by
  unfold aw_shp
  split
  · rw [decide_eq_true_eq]
    omega
  · rw [decide_eq_true_eq]
    omega
theorem aw_cto_iff {t : Bool} {c : Nat} : aw_cto t c = true ↔ c < 9 ∨ (t = true ∧ c = 9) := by
  unfold aw_cto
  rw [Bool.or_eq_true, Bool.and_eq_true, decide_eq_true_eq, decide_eq_true_eq]
theorem aw_w_lt {js : List Nat} {p : Nat} (h : aw_w js p < 37) : p < js.length := by
  unfold aw_w at h
  rw [List.getD_eq_getElem?_getD] at h
  by_cases q : p < js.length
  · exact q
  · rw [List.getElem?_eq_none (by omega)] at h
    exact absurd h (by decide)
theorem aw_w_at {js : List Nat} {p : Nat} (h : p < js.length) : js[p]? = some (aw_w js p) := by
  unfold aw_w
  rw [List.getD_eq_getElem?_getD, List.getElem?_eq_getElem h]
  rfl
theorem aw_w_end {js : List Nat} {p : Nat} (h : js.length ≤ p) : aw_w js p = 37 := by
  unfold aw_w
  rw [List.getD_eq_getElem?_getD, List.getElem?_eq_none h]
  rfl
theorem aw_fch_none {js : List Nat} {may : Bool} {p : Nat} (h : aw_fch js may p = none) : aw_isn (aw_w js p) = true ∧ aw_shp (aw_w js p) (aw_w js (p + 1)) = true ∧ aw_cto may (aw_w js (p + 2)) = true := by
  unfold aw_fch at h
  split at h
  · rename_i a
    split at h
    · rename_i b
      split at h
      · rename_i c
        exact ⟨a, b, c⟩
      · cases h
    · cases h
  · cases h
theorem aw_fch_some {js : List Nat} {may : Bool} {p q : Nat} (h : aw_fch js may p = some q) : (q = p ∧ ¬ aw_isn (aw_w js p) = true) ∨ (q = p + 1 ∧ aw_isn (aw_w js p) = true ∧ ¬ aw_shp (aw_w js p) (aw_w js (p + 1)) = true) ∨ (q = p + 2 ∧ aw_isn (aw_w js p) = true ∧ aw_shp (aw_w js p) (aw_w js (p + 1)) = true ∧ ¬ aw_cto may (aw_w js (p + 2)) = true) := by
  unfold aw_fch at h
  split at h
  · rename_i a
    split at h
    · rename_i b
      split at h
      · cases h
      · rename_i c
        cases h
        exact .inr (.inr ⟨rfl, a, b, c⟩)
    · rename_i b
      cases h
      exact .inr (.inl ⟨rfl, a, b⟩)
  · rename_i a
    cases h
    exact .inl ⟨rfl, a⟩
