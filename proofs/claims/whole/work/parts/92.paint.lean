/-! Painting, as a pure function of the tables; that both sides seek charges alike. -/
def aw_ck (at_ len k : Int32) : Bool := if 0 ≤ at_ ∧ at_ < len then (match aw_fr at_ len k 8 0, aw_sp at_ len k 8 0 with
  | some (some r), some r' => decide (r = r' ∧ (k = 1 → r = 0) ∧ 0 ≤ r ∧ r < k)
  | _, _ => false) else (match aw_fr at_ len k 8 0 with
  | some none => true
  | _ => false)
def aw_lens : List Int32 := [24, 12, 6, 8, 4, 2]
def aw_offs : List Int32 := [0, 8, 4, 2]
set_option maxRecDepth 100000 in
theorem aw_ckA : aw_lens.all (fun len => aw_offs.all (fun c => (List.range 6).all (fun k => (List.range 24).all (fun a => aw_ck (Int32.ofNat a - c) len (Int32.ofNat (k + 1)))))) = true := by decide +kernel
theorem aw_ckB {len c : Int32} (hl : len ∈ aw_lens) (hc : c ∈ aw_offs) {k a : Nat} (h1 : 1 ≤ k) (h2 : k ≤ 6) (ha : a < 24) : aw_ck (Int32.ofNat a - c) len (Int32.ofNat k) = true := by
  have q1 := List.all_eq_true.mp aw_ckA len hl
  have q2 := List.all_eq_true.mp q1 c hc
  have q3 := List.all_eq_true.mp q2 (k - 1) (List.mem_range.mpr (by omega))
  have q4 := List.all_eq_true.mp q3 a (List.mem_range.mpr ha)
  rw [show k - 1 + 1 = k by omega] at q4
  exact q4
theorem aw_ck_in {at_ len k : Int32} (h : aw_ck at_ len k = true) (h0 : 0 ≤ at_ ∧ at_ < len) : ∃ r, aw_fr at_ len k 8 0 = some (some r) ∧ aw_sp at_ len k 8 0 = some r ∧ (k = 1 → r = 0) ∧ 0 ≤ r ∧ r < k := by
  unfold aw_ck at h
  rw [if_pos h0] at h
  split at h
  · rename_i r r' e1 e2
    have := of_decide_eq_true h
    exact ⟨r, e1, by rw [this.1]; exact e2, this.2.1, this.2.2.1, this.2.2.2⟩
  · cases h
theorem aw_ck_out {at_ len k : Int32} (h : aw_ck at_ len k = true) (h0 : ¬ (0 ≤ at_ ∧ at_ < len)) : aw_fr at_ len k 8 0 = some none := by
  unfold aw_ck at h
  rw [if_neg h0] at h
  split at h
  · rename_i e
    exact e
  · cases h
theorem aw_sub0 (a : Nat) : Int32.ofNat a - 0 = Int32.ofNat a := Int32.sub_zero _
/-- a box, and a cell in it -/
def aw_m3 (m : Nat) : Prop := m = 24 ∨ m = 12 ∨ m = 6
theorem aw_len3 {m : Nat} (h : aw_m3 m) : Int32.ofNat m ∈ aw_lens ∧ Int32.ofNat m / 3 ∈ aw_lens ∧ Int32.ofNat m - 2 * (Int32.ofNat m / 3) ∈ aw_lens ∧ Int32.ofNat m / 3 ∈ aw_offs ∧ Int32.ofNat m - Int32.ofNat m / 3 - Int32.ofNat m / 3 = Int32.ofNat m - 2 * (Int32.ofNat m / 3) := by
  rcases h with h | h | h <;> subst h <;> decide +kernel
theorem aw_posA {a m : Nat} (h : a < m) (hm : m < 100) : 0 ≤ Int32.ofNat a ∧ Int32.ofNat a < Int32.ofNat m := ⟨(am_leN (i := 0) (by decide) (by omega)).mpr (Nat.zero_le _), (am_ltN (by omega) (by omega)).mpr h⟩
theorem aw_small {r k : Int32} {n : Nat} (h1 : 0 ≤ r) (h2 : r < Int32.ofNat n) (hn : n < 100) : ∃ m, m < n ∧ r = Int32.ofNat m := by
  have e := am_natOf (v := r) (fun q => absurd h1 (Int32.not_le.mpr q))
  rw [e] at h2
  have h3 : r.toNatClampNeg < 2 ^ 31 := by
    have := Int32.toInt_lt r
    unfold Int32.toNatClampNeg
    omega
  exact ⟨r.toNatClampNeg, (am_ltN h3 (by omega)).mp h2, e⟩
theorem aw_rowsA : ∀ n, n < 7 → 1 ≤ n → (Int32.ofNat n + 1) / 2 = aw_all (Int32.ofNat n) ∧ ∃ k, k < 4 ∧ 1 ≤ k ∧ aw_all (Int32.ofNat n) = Int32.ofNat k ∧ ∀ r, r < k → ∃ c, c < 4 ∧ 1 ≤ c ∧ aw_cin (Int32.ofNat n) (Int32.ofNat r) = Int32.ofNat c ∧ aw_inr (Int32.ofNat n) (Int32.ofNat r) = Int32.ofNat c := by decide +kernel
theorem aw_nzk {k : Nat} (h1 : 1 ≤ k) (h2 : k < 100) : ¬ Int32.ofNat k = 0 := fun q => by
  have := (am_eqN (n := 0) (by omega) (by decide)).mp q
  omega
/-- charges on the field -/
theorem aw_eq0 {m n a b num : Nat} (hm : aw_m3 m) (hn : aw_m3 n) (ha : a < m) (hb : b < n) (h1 : 1 ≤ num) (h6 : num ≤ 6) (ch : Nat) : ∃ r j : Int32, aw_sp (Int32.ofNat b) (Int32.ofNat n) (aw_all (Int32.ofNat num)) 8 0 = some r ∧ ¬ aw_all (Int32.ofNat num) = 0 ∧ ¬ aw_inr (Int32.ofNat num) r = 0 ∧ aw_sp (Int32.ofNat a) (Int32.ofNat m) (aw_inr (Int32.ofNat num) r) 8 0 = some j ∧ ¬ (Int32.ofNat num + 1) / 2 = 0 ∧ aw_rsc ch (aw_cin (Int32.ofNat num)) (Int32.ofNat a) (Int32.ofNat b) (Int32.ofNat m) (Int32.ofNat n) ((Int32.ofNat num + 1) / 2) = some (aw_cg ch (Int32.ofNat a - j * Int32.ofNat m / aw_inr (Int32.ofNat num) r) (Int32.ofNat b - r * Int32.ofNat n / aw_all (Int32.ofNat num)) ((j + 1) * Int32.ofNat m / aw_inr (Int32.ofNat num) r - j * Int32.ofNat m / aw_inr (Int32.ofNat num) r) ((r + 1) * Int32.ofNat n / aw_all (Int32.ofNat num) - r * Int32.ofNat n / aw_all (Int32.ofNat num))) := by
  have hm' : m ≤ 24 := by rcases hm with h | h | h <;> omega
  have hn' : n ≤ 24 := by rcases hn with h | h | h <;> omega
  obtain ⟨e0, k, k4, k1, ek, hr⟩ := aw_rowsA num (by omega) h1
  rw [e0, ek]
  have c1 := aw_ckB (len := Int32.ofNat n) (c := 0) (aw_len3 hn).1 (by decide) k1 (show k ≤ 6 by omega) (show b < 24 by omega)
  rw [aw_sub0] at c1
  obtain ⟨r, f1, f2, -, f3, f4⟩ := aw_ck_in c1 (aw_posA hb (by omega))
  obtain ⟨rn, r1, r2⟩ := aw_small (k := 0) f3 f4 (by omega)
  subst r2
  obtain ⟨c, c4, c0, ec, ei⟩ := hr rn r1
  have c2 := aw_ckB (len := Int32.ofNat m) (c := 0) (aw_len3 hm).1 (by decide) c0 (show c ≤ 6 by omega) (show a < 24 by omega)
  rw [aw_sub0] at c2
  obtain ⟨j, g1, g2, -, g3, g4⟩ := aw_ck_in c2 (aw_posA ha (by omega))
  have nk := aw_nzk k1 (by omega)
  have nc := aw_nzk c0 (by omega)
  refine ⟨Int32.ofNat rn, j, f2, nk, by rw [ei]; exact nc, by rw [ei]; exact g2, nk, ?_⟩
  unfold aw_rsc
  rw [f1]
  dsimp only
  rw [ec, if_neg nc]
  unfold aw_rwc
  rw [g1, ei]
/-- charges on an ordinary: the row and the charge in it -/
def aw_ors (j : Nat) (ch : Nat) (num x y w h : Int32) : Option Bool := if j = 17 then aw_rsc ch (fun _ => num) x y w (h / 3) 1 else if j = 18 then aw_rsc ch (fun _ => num) x (y - h / 3) w (h - 2 * (h / 3)) 1 else aw_rsc ch (fun _ => (1 : Int32)) (x - w / 3) y (w - 2 * (w / 3)) h num
def aw_midB (m a : Nat) : Bool := (aw_mid (Int32.ofNat a) (Int32.ofNat m) == decide (0 ≤ Int32.ofNat a - Int32.ofNat m / 3 ∧ Int32.ofNat a - Int32.ofNat m / 3 < Int32.ofNat m - 2 * (Int32.ofNat m / 3))) && (aw_oc 17 0 (Int32.ofNat a) 0 (Int32.ofNat m) == decide (0 ≤ Int32.ofNat a ∧ Int32.ofNat a < Int32.ofNat m / 3))
set_option maxRecDepth 100000 in
theorem aw_midK : [24, 12, 6].all (fun m => (List.range 24).all (fun a => aw_midB m a)) = true := by decide +kernel
theorem aw_midA {m a : Nat} (hm : aw_m3 m) (ha : a < m) : (aw_mid (Int32.ofNat a) (Int32.ofNat m) = true ↔ (0 ≤ Int32.ofNat a - Int32.ofNat m / 3 ∧ Int32.ofNat a - Int32.ofNat m / 3 < Int32.ofNat m - 2 * (Int32.ofNat m / 3))) ∧ (aw_oc 17 0 (Int32.ofNat a) 0 (Int32.ofNat m) = true ↔ (0 ≤ Int32.ofNat a ∧ Int32.ofNat a < Int32.ofNat m / 3)) := by
  have q := fun (m : Nat) (h : m ∈ [24, 12, 6]) => List.all_eq_true.mp (List.all_eq_true.mp aw_midK m h) a (List.mem_range.mpr (show a < 24 by rcases hm with h | h | h <;> omega))
  have q2 : aw_midB m a = true := by
    rcases hm with h | h | h <;> subst h
    · exact q 24 (by decide)
    · exact q 12 (by decide)
    · exact q 6 (by decide)
  unfold aw_midB at q2
  rw [Bool.and_eq_true, beq_iff_eq, beq_iff_eq] at q2
  constructor
  · rw [q2.1, decide_eq_true_eq]
  · rw [q2.2, decide_eq_true_eq]
theorem aw_oc17 (x y w h : Int32) : aw_oc 17 x y w h = aw_oc 17 0 y 0 h := (show aw_oc 17 x y w h = decide (¬ h / 3 ≤ y) from if_pos rfl).trans (show aw_oc 17 0 y 0 h = decide (¬ h / 3 ≤ y) from if_pos rfl).symm
theorem aw_oc18 (x y w h : Int32) : aw_oc 18 x y w h = aw_mid y h := rfl
theorem aw_oc19 (x y w h : Int32) : aw_oc 19 x y w h = aw_mid x w := rfl
/-- not on the ordinary: no charge there -/
theorem aw_eqn {m n a b num : Nat} (hm : aw_m3 m) (hn : aw_m3 n) (ha : a < m) (hb : b < n) (h1 : 1 ≤ num) (h6 : num ≤ 6) (ch : Nat) {j : Nat} (hj : 17 ≤ j ∧ j ≤ 19) (h : ¬ aw_oc j (Int32.ofNat a) (Int32.ofNat b) (Int32.ofNat m) (Int32.ofNat n) = true) : aw_ors j ch (Int32.ofNat num) (Int32.ofNat a) (Int32.ofNat b) (Int32.ofNat m) (Int32.ofNat n) = some false := by
  have hm' : m ≤ 24 := by rcases hm with h | h | h <;> omega
  have hn' : n ≤ 24 := by rcases hn with h | h | h <;> omega
  rcases (by omega : j = 17 ∨ j = 18 ∨ j = 19) with q | q | q <;> subst q
  · rw [aw_oc17, (aw_midA hn hb).2] at h
    have c1 := aw_ckB (len := Int32.ofNat n / 3) (c := 0) (aw_len3 hn).2.1 (by decide) (k := 1) (by decide) (by decide) (show b < 24 by omega)
    rw [aw_sub0] at c1
    show aw_rsc ch (fun _ => Int32.ofNat num) _ _ _ _ (Int32.ofNat 1) = _
    unfold aw_rsc
    rw [aw_ck_out c1 h]
  · rw [aw_oc18, (aw_midA hn hb).1] at h
    have c1 := aw_ckB (len := Int32.ofNat n - 2 * (Int32.ofNat n / 3)) (c := Int32.ofNat n / 3) (aw_len3 hn).2.2.1 (aw_len3 hn).2.2.2.1 (k := 1) (by decide) (by decide) (show b < 24 by omega)
    show aw_rsc ch (fun _ => Int32.ofNat num) _ _ _ _ (Int32.ofNat 1) = _
    unfold aw_rsc
    rw [aw_ck_out c1 h]
  · rw [aw_oc19, (aw_midA hm ha).1] at h
    have c1 := aw_ckB (len := Int32.ofNat n) (c := 0) (aw_len3 hn).1 (by decide) h1 h6 (show b < 24 by omega)
    rw [aw_sub0] at c1
    obtain ⟨r, f1, -⟩ := aw_ck_in c1 (aw_posA hb (by omega))
    have c2 := aw_ckB (len := Int32.ofNat m - 2 * (Int32.ofNat m / 3)) (c := Int32.ofNat m / 3) (aw_len3 hm).2.2.1 (aw_len3 hm).2.2.2.1 (k := 1) (by decide) (by decide) (show a < 24 by omega)
    show aw_rsc ch (fun _ => (1 : Int32)) _ _ _ _ _ = _
    unfold aw_rsc
    rw [f1]
    dsimp only
    rw [if_neg (by decide)]
    unfold aw_rwc
    rw [show (1 : Int32) = Int32.ofNat 1 from rfl, aw_ck_out c2 h]
/-- on the ordinary -/
theorem aw_eq1 {m n a b num : Nat} (hm : aw_m3 m) (hn : aw_m3 n) (ha : a < m) (hb : b < n) (h1 : 1 ≤ num) (h6 : num ≤ 6) (ch : Nat) {jj : Nat} (hj : jj = 17 ∨ jj = 18) (h : aw_oc jj (Int32.ofNat a) (Int32.ofNat b) (Int32.ofNat m) (Int32.ofNat n) = true) : ∃ j : Int32, aw_sp (Int32.ofNat a) (Int32.ofNat m) (Int32.ofNat num) 8 0 = some j ∧ aw_ors jj ch (Int32.ofNat num) (Int32.ofNat a) (Int32.ofNat b) (Int32.ofNat m) (Int32.ofNat n) = some (aw_cg ch (Int32.ofNat a - j * Int32.ofNat m / Int32.ofNat num) ((if jj = 17 then Int32.ofNat b else Int32.ofNat b - Int32.ofNat n / 3) - 0 * (if jj = 17 then Int32.ofNat n / 3 else Int32.ofNat n - Int32.ofNat n / 3 - Int32.ofNat n / 3) / 1) ((j + 1) * Int32.ofNat m / Int32.ofNat num - j * Int32.ofNat m / Int32.ofNat num) ((0 + 1) * (if jj = 17 then Int32.ofNat n / 3 else Int32.ofNat n - Int32.ofNat n / 3 - Int32.ofNat n / 3) / 1 - 0 * (if jj = 17 then Int32.ofNat n / 3 else Int32.ofNat n - Int32.ofNat n / 3 - Int32.ofNat n / 3) / 1)) := by
  have hm' : m ≤ 24 := by rcases hm with h | h | h <;> omega
  have hn' : n ≤ 24 := by rcases hn with h | h | h <;> omega
  have c2 := aw_ckB (len := Int32.ofNat m) (c := 0) (aw_len3 hm).1 (by decide) h1 h6 (show a < 24 by omega)
  rw [aw_sub0] at c2
  obtain ⟨j, g1, g2, -⟩ := aw_ck_in c2 (aw_posA ha (by omega))
  refine ⟨j, g2, ?_⟩
  have nn := aw_nzk h1 (by omega)
  rcases hj with q | q <;> subst q
  · rw [aw_oc17, (aw_midA hn hb).2] at h
    have c1 := aw_ckB (len := Int32.ofNat n / 3) (c := 0) (aw_len3 hn).2.1 (by decide) (k := 1) (by decide) (by decide) (show b < 24 by omega)
    rw [aw_sub0] at c1
    obtain ⟨r, f1, -, f3, -⟩ := aw_ck_in c1 h
    have f3 := f3 rfl
    subst f3
    rw [if_pos rfl, if_pos rfl]
    show aw_rsc ch (fun _ => Int32.ofNat num) _ _ _ _ (Int32.ofNat 1) = _
    unfold aw_rsc
    rw [f1]
    dsimp only
    rw [if_neg nn]
    unfold aw_rwc
    rw [g1]
    rfl
  · rw [aw_oc18, (aw_midA hn hb).1] at h
    have c1 := aw_ckB (len := Int32.ofNat n - 2 * (Int32.ofNat n / 3)) (c := Int32.ofNat n / 3) (aw_len3 hn).2.2.1 (aw_len3 hn).2.2.2.1 (k := 1) (by decide) (by decide) (show b < 24 by omega)
    obtain ⟨r, f1, -, f3, -⟩ := aw_ck_in c1 h
    have f3 := f3 rfl
    subst f3
    rw [if_neg (by decide), if_neg (by decide), (aw_len3 hn).2.2.2.2]
    show aw_rsc ch (fun _ => Int32.ofNat num) _ _ _ _ (Int32.ofNat 1) = _
    unfold aw_rsc
    rw [f1]
    dsimp only
    rw [if_neg nn]
    unfold aw_rwc
    rw [g1]
    rfl
theorem aw_eq2 {m n a b num : Nat} (hm : aw_m3 m) (hn : aw_m3 n) (ha : a < m) (hb : b < n) (h1 : 1 ≤ num) (h6 : num ≤ 6) (ch : Nat) (h : aw_oc 19 (Int32.ofNat a) (Int32.ofNat b) (Int32.ofNat m) (Int32.ofNat n) = true) : ∃ r : Int32, aw_sp (Int32.ofNat b) (Int32.ofNat n) (Int32.ofNat num) 8 0 = some r ∧ aw_sp (Int32.ofNat a - Int32.ofNat m / 3) (Int32.ofNat m - Int32.ofNat m / 3 - Int32.ofNat m / 3) 1 8 0 = some 0 ∧ aw_ors 19 ch (Int32.ofNat num) (Int32.ofNat a) (Int32.ofNat b) (Int32.ofNat m) (Int32.ofNat n) = some (aw_cg ch (Int32.ofNat a - Int32.ofNat m / 3 - 0 * (Int32.ofNat m - Int32.ofNat m / 3 - Int32.ofNat m / 3) / 1) (Int32.ofNat b - r * Int32.ofNat n / Int32.ofNat num) ((0 + 1) * (Int32.ofNat m - Int32.ofNat m / 3 - Int32.ofNat m / 3) / 1 - 0 * (Int32.ofNat m - Int32.ofNat m / 3 - Int32.ofNat m / 3) / 1) ((r + 1) * Int32.ofNat n / Int32.ofNat num - r * Int32.ofNat n / Int32.ofNat num)) := by
  have hm' : m ≤ 24 := by rcases hm with h | h | h <;> omega
  have hn' : n ≤ 24 := by rcases hn with h | h | h <;> omega
  rw [aw_oc19, (aw_midA hm ha).1] at h
  have c1 := aw_ckB (len := Int32.ofNat n) (c := 0) (aw_len3 hn).1 (by decide) h1 h6 (show b < 24 by omega)
  rw [aw_sub0] at c1
  obtain ⟨r, f1, f2, -⟩ := aw_ck_in c1 (aw_posA hb (by omega))
  have c2 := aw_ckB (len := Int32.ofNat m - 2 * (Int32.ofNat m / 3)) (c := Int32.ofNat m / 3) (aw_len3 hm).2.2.1 (aw_len3 hm).2.2.2.1 (k := 1) (by decide) (by decide) (show a < 24 by omega)
  obtain ⟨j, g1, g2, g3, -⟩ := aw_ck_in c2 h
  have g3 := g3 rfl
  subst g3
  rw [(aw_len3 hm).2.2.2.2]
  refine ⟨r, f2, g2, ?_⟩
  show aw_rsc ch (fun _ => (1 : Int32)) _ _ _ _ _ = _
  unfold aw_rsc
  rw [f1]
  dsimp only
  rw [if_neg (by decide)]
  unfold aw_rwc
  rw [show (1 : Int32) = Int32.ofNat 1 from rfl, g1]
/-- charges of the field cover the cell -/
def aw_fcv (ch : Nat) (num x y w h : Int32) : Bool := (aw_rsc ch (aw_cin num) x y w h ((num + 1) / 2)).getD false
def aw_ocv (j ch : Nat) (num x y w h : Int32) : Bool := (aw_ors j ch num x y w h).getD false
/-- what item n gives the cell, or -1 -/
def aw_gv (T : aw_T) (s n : Nat) (first : Bool) (x y w h : Int32) : Int32 := if T 39 n = 0 then (if aw_fcv (T 41 n).toNatClampNeg (T 42 n) x y w h = true then (if T 40 n = 9 then T 36 (if first = true then 2 * s + 1 else 2 * s) else T 40 n) else -1) else if ¬ T 42 n = 0 ∧ aw_ocv (aw_od (T 39 n)) (T 41 n).toNatClampNeg (T 42 n) x y w h = true then T 43 n else if aw_oc (aw_od (T 39 n)) x y w h = true then (if T 40 n = 9 then T 36 (if first = true then 2 * s + 1 else 2 * s) else T 40 n) else -1
def aw_pi (T : aw_T) (s : Nat) (first : Bool) (x y w h : Int32) : Nat → Int32 → Int32
  | 0, F => F
  | i + 1, F => if aw_gv T s (4 * s + i) first x y w h < 0 then aw_pi T s first x y w h i F else aw_gv T s (4 * s + i) first x y w h
/-- is it in the first part -/
def aw_fs (k : Nat) (x y w h : Int32) : Bool := if k = 0 then true else if k = 1 then decide (¬ w / 2 ≤ x) else if k = 2 then decide (¬ h / 2 ≤ y) else if k = 3 then decide (¬ x * h < y * w) else decide ((¬ w / 2 ≤ x) ↔ (¬ h / 2 ≤ y))
def aw_h1 (b : Bool) (x w : Int32) : Int32 := if b = true then (if w / 2 ≤ x then x - w / 2 else x) else x
def aw_h2 (b : Bool) (x w : Int32) : Int32 := if b = true then (if w / 2 ≤ x then w - w / 2 else w / 2) else w
def aw_fl (T : aw_T) (P : Nat → Int32 → Int32 → Int32 → Int32 → Int32) (s k : Nat) (x y w h : Int32) : Int32 := if T 36 (if aw_fs k x y w h = true then 2 * s else 2 * s + 1) < 100 then T 36 (if aw_fs k x y w h = true then 2 * s else 2 * s + 1) else P ((T 36 (if aw_fs k x y w h = true then 2 * s else 2 * s + 1)).toNatClampNeg - 100) (aw_h1 (decide (k = 1 ∨ k = 4)) x w) (aw_h1 (decide (k = 2 ∨ k = 4)) y h) (aw_h2 (decide (k = 1 ∨ k = 4)) x w) (aw_h2 (decide (k = 2 ∨ k = 4)) y h)
/-- the tincture of a cell of shield s -/
def aw_pn (T : aw_T) : Nat → Nat → Int32 → Int32 → Int32 → Int32 → Int32
  | 0, _, _, _, _, _ => -1
  | l + 1, s, x, y, w, h => aw_pi T s (aw_fs (T 35 s).toNatClampNeg x y w h) x y w h (T 38 s).toNatClampNeg (aw_fl T (aw_pn T l) s (T 35 s).toNatClampNeg x y w h)
