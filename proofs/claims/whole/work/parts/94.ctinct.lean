/-! tinctureAt of the class paints as the tables say. -/
def aw_bt (T : aw_T) (n : Nat) (x y w h : Int32) : List (Bool × Int32) := if T 39 n = 0 then [(aw_fcv (T 41 n).toNatClampNeg (T 42 n) x y w h, T 40 n)] else (aw_oc (aw_od (T 39 n)) x y w h, T 40 n) :: (if T 42 n = 0 then [] else [(aw_ocv (aw_od (T 39 n)) (T 41 n).toNatClampNeg (T 42 n) x y w h, T 43 n)])
def aw_bts (T : aw_T) (s : Nat) (x y w h : Int32) : Nat → List (Bool × Int32)
  | 0 => []
  | i + 1 => aw_bts T s x y w h i ++ aw_bt T (4 * s + i) x y w h
/-- a cell of a box that l levels may still divide -/
def aw_bx (l : Nat) (x y w h : Int32) : Prop := ∃ a b m n : Nat, aw_m3 m ∧ aw_m3 n ∧ a < m ∧ b < n ∧ x = Int32.ofNat a ∧ y = Int32.ofNat b ∧ w = Int32.ofNat m ∧ h = Int32.ofNat n ∧ (l ≤ 1 ∨ (l = 2 ∧ 12 ≤ m ∧ 12 ≤ n) ∨ (l = 3 ∧ m = 24 ∧ n = 24))
def aw_hvB (m a : Nat) : Bool := decide (aw_h1 true (Int32.ofNat a) (Int32.ofNat m) = Int32.ofNat (if m / 2 ≤ a then a - m / 2 else a) ∧ aw_h2 true (Int32.ofNat a) (Int32.ofNat m) = Int32.ofNat (m / 2))
set_option maxRecDepth 100000 in
theorem aw_hvK : [24, 12].all (fun m => (List.range 24).all (fun a => aw_hvB m a)) = true := by decide +kernel
theorem aw_hv {m a : Nat} (hm : m = 24 ∨ m = 12) (ha : a < m) (c : Bool) : ∃ a' m', aw_h1 c (Int32.ofNat a) (Int32.ofNat m) = Int32.ofNat a' ∧ aw_h2 c (Int32.ofNat a) (Int32.ofNat m) = Int32.ofNat m' ∧ a' < m' ∧ aw_m3 m' ∧ m / 2 ≤ m' := by
  cases c with
  | false =>
    refine ⟨a, m, rfl, rfl, ha, ?_, by omega⟩
    unfold aw_m3
    omega
  | true =>
    have q := List.all_eq_true.mp (List.all_eq_true.mp aw_hvK m (by rcases hm with h | h <;> subst h <;> decide)) a (List.mem_range.mpr (by omega))
    have q2 := of_decide_eq_true q
    refine ⟨_, _, q2.1, q2.2, ?_, ?_, Nat.le_refl _⟩
    · split <;> omega
    · unfold aw_m3
      omega
theorem aw_bx_half {l : Nat} (hl : 1 ≤ l) {x y w h : Int32} (hb : aw_bx (l + 1) x y w h) (c c' : Bool) : aw_bx l (aw_h1 c x w) (aw_h1 c' y h) (aw_h2 c x w) (aw_h2 c' y h) := by
  obtain ⟨a, b, m, n, hm, hn, ha, hb, ex, ey, ew, eh, hv⟩ := hb
  subst ex ey ew eh
  have hm' : m = 24 ∨ m = 12 := by
    rcases hm with q | q | q <;> omega
  have hn' : n = 24 ∨ n = 12 := by
    rcases hn with q | q | q <;> omega
  obtain ⟨a', m', e1, e2, e3, e4, e5⟩ := aw_hv hm' ha c
  obtain ⟨b', n', f1, f2, f3, f4, f5⟩ := aw_hv hn' hb c'
  exact ⟨a', b', m', n', e4, f4, e3, f3, e1, f1, e2, f2, by omega⟩
theorem aw_ofA : ∀ n, n < 200 → (Int32.ofNat n).toNatClampNeg = n := by decide +kernel
theorem aw_swA {ch m : Nat} (hc : ch < 3) (h1 : 1 ≤ m) (h6 : m ≤ 6) : 31 ≤ aw_swd (Int32.ofNat ch) (Int32.ofNat m) ∧ aw_swd (Int32.ofNat ch) (Int32.ofNat m) ≤ 36 ∧ (aw_swd (Int32.ofNat ch) (Int32.ofNat m) - 31) % 3 = ch := by
  have key : ∀ ch, ch < 3 → ∀ m, m < 7 → 1 ≤ m → 31 ≤ aw_swd (Int32.ofNat ch) (Int32.ofNat m) ∧ aw_swd (Int32.ofNat ch) (Int32.ofNat m) ≤ 36 ∧ (aw_swd (Int32.ofNat ch) (Int32.ofNat m) - 31) % 3 = ch := by decide +kernel
  exact key ch hc m (by omega) h1
theorem aw_LY_O {g : am_H} (d : Nat) {a j : Nat} {v : Int32} (h1 : 17 ≤ j) (h2 : j ≤ 24) (ha : g[a]? = some (aw_cO j v)) (x y bw bh : Int32) : aw_LY g (d + 4) a x y bw bh (aw_oc j x y bw bh) v :=
  ⟨7, _, 60, 1, ha, rfl, fun _ => rfl, fun w => aw_k60 (d + 3) h1 h2 ha x y bw bh, rfl, rfl⟩
theorem aw_LY_F {g : am_H} (d : Nat) {a ch m : Nat} {v : Int32} (hc : ch < 3) (h1 : 1 ≤ m) (h6 : m ≤ 6) (ha : g[a]? = some (aw_cC (aw_swd (Int32.ofNat ch) (Int32.ofNat m)) (Int32.ofNat m) .null v)) {x y bw bh : Int32} {l : Nat} (hb : aw_bx l x y bw bh) : aw_LY g (d + 4) a x y bw bh (aw_fcv ch (Int32.ofNat m) x y bw bh) v := by
  obtain ⟨a0, b0, m0, n0, hm, hn, ha0, hb0, ex, ey, ew, eh, -⟩ := hb
  subst ex ey ew eh
  obtain ⟨s1, s2, s3⟩ := aw_swA hc h1 h6
  obtain ⟨r, j, -, -, -, -, nz, e⟩ := aw_eq0 hm hn ha0 hb0 h1 h6 ch
  refine ⟨6, _, 52, 3, ha, rfl, fun _ => rfl, fun w => ?_, rfl, rfl⟩
  have k := aw_k52_0 (w := w) d s1 s2 ha (Int32.ofNat a0) (Int32.ofNat b0) (Int32.ofNat m0) (Int32.ofNat n0) nz (by rw [s3]; exact e)
  unfold aw_fcv
  rw [e]
  exact k
theorem aw_LY_N {g : am_H} (d : Nat) {a ch m jj : Nat} {v : Int32} (hc : ch < 3) (h1 : 1 ≤ m) (h6 : m ≤ 6) (hj1 : 17 ≤ jj) (hj2 : jj ≤ 19) (ha : g[a]? = some (aw_cC (aw_swd (Int32.ofNat ch) (Int32.ofNat m)) (Int32.ofNat m) (.ref jj) v)) {x y bw bh : Int32} {l : Nat} (hb : aw_bx l x y bw bh) : aw_LY g (d + 4) a x y bw bh (aw_ocv jj ch (Int32.ofNat m) x y bw bh) v := by
  obtain ⟨a0, b0, m0, n0, hm, hn, ha0, hb0, ex, ey, ew, eh, -⟩ := hb
  subst ex ey ew eh
  obtain ⟨s1, s2, s3⟩ := aw_swA hc h1 h6
  have hs : ∃ b, aw_ors jj ch (Int32.ofNat m) (Int32.ofNat a0) (Int32.ofNat b0) (Int32.ofNat m0) (Int32.ofNat n0) = some b := by
    by_cases ho : aw_oc jj (Int32.ofNat a0) (Int32.ofNat b0) (Int32.ofNat m0) (Int32.ofNat n0) = true
    · by_cases h19 : jj = 19
      · subst h19
        obtain ⟨r, -, -, e⟩ := aw_eq2 hm hn ha0 hb0 h1 h6 ch ho
        exact ⟨_, e⟩
      · obtain ⟨j, -, e⟩ := aw_eq1 hm hn ha0 hb0 h1 h6 ch (show jj = 17 ∨ jj = 18 by omega) ho
        exact ⟨_, e⟩
    · exact ⟨_, aw_eqn hm hn ha0 hb0 h1 h6 ch ⟨hj1, hj2⟩ ho⟩
  obtain ⟨b, e⟩ := hs
  refine ⟨6, _, 52, 3, ha, rfl, fun _ => rfl, fun w => ?_, rfl, rfl⟩
  unfold aw_ocv
  rw [e]
  have nm := aw_nzk h1 (by omega)
  rcases (by omega : jj = 17 ∨ jj = 18 ∨ jj = 19) with q | q | q <;> subst q
  · exact aw_k52_17 (w := w) d s1 s2 ha (Int32.ofNat a0) (Int32.ofNat b0) (Int32.ofNat m0) (Int32.ofNat n0) (by decide) (by rw [s3]; exact e)
  · exact aw_k52_18 (w := w) d s1 s2 ha (Int32.ofNat a0) (Int32.ofNat b0) (Int32.ofNat m0) (Int32.ofNat n0) (by decide) (by rw [s3]; exact e)
  · exact aw_k52_19 (w := w) d s1 s2 ha (Int32.ofNat a0) (Int32.ofNat b0) (Int32.ofNat m0) (Int32.ofNat n0) nm (by rw [s3]; exact e)
/-- the layers of an item -/
theorem aw_bt_ly {g : am_H} {T : aw_T} {s n : Nat} (d : Nat) (hV : aw_VI T s n) {M : List Nat} (hA : aw_All g M (aw_lc T n)) {x y bw bh : Int32} {l : Nat} (hb : aw_bx l x y bw bh) : (aw_bt T n x y bw bh).length = M.length ∧ ∀ k c : Nat, M[k]? = some c → ∃ b t, (aw_bt T n x y bw bh)[k]? = some (b, t) ∧ aw_LY g (d + 4) c x y bw bh b t := by
  obtain ⟨-, hV⟩ := hV
  unfold aw_lc at hA
  unfold aw_bt
  rcases hV with ⟨h39, ch, m, hc, h1, h6, e41, e42⟩ | ⟨j, j1, j2, e39, hV⟩
  · rw [if_pos h39] at hA ⊢
    rw [e41, e42] at hA ⊢
    rw [aw_ofA ch (by omega)]
    unfold aw_All at hA
    rcases M with _ | ⟨c0, _ | ⟨c1, M⟩⟩
    · exact absurd (congrArg List.length hA) (by simp)
    · refine ⟨rfl, fun k c hk => ?_⟩
      rcases k with _ | k
      · cases hk
        simp only [List.map_cons, List.map_nil, List.cons.injEq] at hA
        exact ⟨_, _, rfl, aw_LY_F d hc h1 h6 hA.1 hb⟩
      · cases hk
    · exact absurd (congrArg List.length hA) (by simp)
  · obtain ⟨o1, o2⟩ := aw_odA j (by omega) j1
    rw [e39] at hA ⊢
    rw [if_neg o2] at hA ⊢
    rw [o1] at hA ⊢
    rcases hV with e42 | ⟨hj, ch, m, c2, hc, h1, h6, hc2, e41, e42, e43⟩
    · rw [if_pos e42] at hA ⊢
      unfold aw_All at hA
      rcases M with _ | ⟨c0, _ | ⟨c1, M⟩⟩
      · exact absurd (congrArg List.length hA) (by simp)
      · refine ⟨rfl, fun k c hk => ?_⟩
        rcases k with _ | k
        · cases hk
          simp only [List.map_cons, List.map_nil, List.cons.injEq] at hA
          exact ⟨_, _, rfl, aw_LY_O d j1 j2 hA.1 x y bw bh⟩
        · cases hk
      · exact absurd (congrArg List.length hA) (by simp)
    · have nz : ¬ T 42 n = 0 := by
        rw [e42]
        exact aw_nzk h1 (by omega)
      rw [if_neg nz] at hA ⊢
      rw [e41, e42] at hA ⊢
      rw [aw_ofA ch (by omega)]
      unfold aw_All at hA
      rcases M with _ | ⟨c0, _ | ⟨c1, _ | ⟨c3, M⟩⟩⟩
      · exact absurd (congrArg List.length hA) (by simp)
      · exact absurd (congrArg List.length hA) (by simp)
      · simp only [List.map_cons, List.map_nil, List.cons.injEq] at hA
        refine ⟨rfl, fun k c hk => ?_⟩
        rcases k with _ | _ | k
        · cases hk
          exact ⟨_, _, rfl, aw_LY_O d j1 j2 hA.1 x y bw bh⟩
        · cases hk
          exact ⟨_, _, rfl, aw_LY_N d hc h1 h6 j1 hj hA.2.1 hb⟩
        · cases hk
      · exact absurd (congrArg List.length hA) (by simp)
theorem aw_bts_ly {g : am_H} {T : aw_T} {s : Nat} (d : Nat) {x y bw bh : Int32} {l : Nat} (hb : aw_bx l x y bw bh) : ∀ (i : Nat) (L : List Nat), (∀ j, j < i → aw_VI T s (4 * s + j)) → aw_All g L (aw_lcs T s i) → (aw_bts T s x y bw bh i).length = L.length ∧ ∀ k c : Nat, L[k]? = some c → ∃ b t, (aw_bts T s x y bw bh i)[k]? = some (b, t) ∧ aw_LY g (d + 4) c x y bw bh b t := by
  intro i
  induction i with
  | zero =>
    intro L _ hA
    have h0 : L = [] := by
      cases L with
      | nil => rfl
      | cons a L => cases hA
    subst h0
    exact ⟨rfl, fun k c hk => by cases hk⟩
  | succ i ih =>
    intro L hV hA
    rw [aw_lcs] at hA
    obtain ⟨L1, M, e, h1, h2⟩ : ∃ L1 M, L = L1 ++ M ∧ aw_All g L1 (aw_lcs T s i) ∧ aw_All g M (aw_lc T (4 * s + i)) := by
      refine ⟨L.take (aw_lcs T s i).length, L.drop (aw_lcs T s i).length, (List.take_append_drop _ _).symm, ?_, ?_⟩
      · unfold aw_All at hA ⊢
        rw [List.map_take, hA, List.map_append, List.take_left' (by rw [List.length_map])]
      · unfold aw_All at hA ⊢
        rw [List.map_drop, hA, List.map_append, List.drop_left' (by rw [List.length_map])]
    subst e
    obtain ⟨a1, a2⟩ := ih L1 (fun j hj => hV j (by omega)) h1
    obtain ⟨b1, b2⟩ := aw_bt_ly d (hV i (by omega)) h2 hb
    rw [aw_bts]
    refine ⟨by rw [List.length_append, List.length_append, a1, b1], fun k c hk => ?_⟩
    by_cases hkl : k < L1.length
    · rw [List.getElem?_append_left hkl] at hk
      rw [List.getElem?_append_left (by omega)]
      exact a2 k c hk
    · rw [List.getElem?_append_right (by omega)] at hk
      rw [List.getElem?_append_right (by omega), a1]
      exact b2 _ c hk
theorem aw_pk_app (A B : List (Bool × Int32)) (F O : Int32) : ∀ m, m ≤ A.length → aw_pk (A ++ B) F O m = aw_pk A F O m := by
  intro m
  induction m with
  | zero => intro _; rfl
  | succ m ih =>
    intro hm
    rw [aw_pk, aw_pk, ih (by omega), List.getD_eq_getElem?_getD, List.getElem?_append_left (by omega), ← List.getD_eq_getElem?_getD]
theorem aw_pk_one (A : List (Bool × Int32)) (b : Bool) (t F O : Int32) : aw_pk (A ++ [(b, t)]) F O (A ++ [(b, t)]).length = if b = true then (if t = 9 then O else t) else aw_pk A F O A.length := by
  rw [List.length_append, List.length_singleton, aw_pk, List.getD_eq_getElem?_getD, List.getElem?_append_right (Nat.le_refl _), Nat.sub_self, aw_pk_app A _ F O A.length (Nat.le_refl _)]
  rfl
theorem aw_nneg {c : Nat} (h : c < 200) : ¬ Int32.ofNat c < 0 := Int32.not_lt.mpr ((am_leN (i := 0) (by decide) (by omega)).mpr (Nat.zero_le _))
theorem aw_n9 {c : Nat} (h : c < 200) : Int32.ofNat c = 9 ↔ c = 9 := am_eqN (n := 9) (by omega) (by decide)
/-- what the layers give is what the items give -/
theorem aw_pk_pi {T : aw_T} {s : Nat} {first : Bool} {x y bw bh F O : Int32} (hO : aw_tw T s = true → O = T 36 (if first = true then 2 * s + 1 else 2 * s) ∧ ¬ O < 0) : ∀ i, (∀ j, j < i → aw_VI T s (4 * s + j)) → aw_pk (aw_bts T s x y bw bh i) F O (aw_bts T s x y bw bh i).length = aw_pi T s first x y bw bh i F := by
  intro i
  induction i with
  | zero => intro _; rfl
  | succ i ih =>
    intro hV
    have ih := ih (fun j hj => hV j (by omega))
    obtain ⟨⟨c, c9, ec, hc⟩, hV⟩ := hV i (by omega)
    have hcol : ∀ b : Bool, (if b = true then (if T 40 (4 * s + i) = 9 then O else T 40 (4 * s + i)) else aw_pi T s first x y bw bh i F) = (if (if b = true then (if T 40 (4 * s + i) = 9 then T 36 (if first = true then 2 * s + 1 else 2 * s) else T 40 (4 * s + i)) else -1) < 0 then aw_pi T s first x y bw bh i F else (if b = true then (if T 40 (4 * s + i) = 9 then T 36 (if first = true then 2 * s + 1 else 2 * s) else T 40 (4 * s + i)) else -1)) := by
      intro b
      cases b with
      | false =>
        exact (if_pos (by decide : (-1 : Int32) < 0)).symm
      | true =>
        rw [if_pos rfl, if_pos rfl]
        by_cases h9 : T 40 (4 * s + i) = 9
        · rw [if_pos h9, if_pos h9]
          rw [ec, aw_n9 (by omega)] at h9
          obtain ⟨o1, o2⟩ := hO (hc h9)
          rw [← o1, if_neg o2]
        · rw [if_neg h9, if_neg h9, ec, if_neg (aw_nneg (by omega))]
    rw [aw_bts, aw_pi]
    rcases hV with ⟨h39, -⟩ | ⟨j, j1, j2, e39, hV⟩
    · rw [show aw_bt T (4 * s + i) x y bw bh = [(aw_fcv (T 41 (4 * s + i)).toNatClampNeg (T 42 (4 * s + i)) x y bw bh, T 40 (4 * s + i))] from if_pos h39, aw_pk_one, ih]
      rw [show aw_gv T s (4 * s + i) first x y bw bh = (if aw_fcv (T 41 (4 * s + i)).toNatClampNeg (T 42 (4 * s + i)) x y bw bh = true then (if T 40 (4 * s + i) = 9 then T 36 (if first = true then 2 * s + 1 else 2 * s) else T 40 (4 * s + i)) else -1) from if_pos h39]
      exact hcol _
    · obtain ⟨-, o2⟩ := aw_odA j (by omega) j1
      have n39 : ¬ T 39 (4 * s + i) = 0 := by
        rw [e39]
        exact o2
      rcases hV with e42 | ⟨hj, ch, m, c2, hc, h1, h6, hc2, e41, e42, e43⟩
      · rw [show aw_bt T (4 * s + i) x y bw bh = [(aw_oc (aw_od (T 39 (4 * s + i))) x y bw bh, T 40 (4 * s + i))] from (if_neg n39).trans (by rw [if_pos e42]), aw_pk_one, ih]
        rw [show aw_gv T s (4 * s + i) first x y bw bh = (if aw_oc (aw_od (T 39 (4 * s + i))) x y bw bh = true then (if T 40 (4 * s + i) = 9 then T 36 (if first = true then 2 * s + 1 else 2 * s) else T 40 (4 * s + i)) else -1) from (if_neg n39).trans (if_neg (fun q => q.1 e42))]
        exact hcol _
      · have nz : ¬ T 42 (4 * s + i) = 0 := by
          rw [e42]
          exact aw_nzk h1 (by omega)
        rw [show aw_bt T (4 * s + i) x y bw bh = [(aw_oc (aw_od (T 39 (4 * s + i))) x y bw bh, T 40 (4 * s + i))] ++ [(aw_ocv (aw_od (T 39 (4 * s + i))) (T 41 (4 * s + i)).toNatClampNeg (T 42 (4 * s + i)) x y bw bh, T 43 (4 * s + i))] from (if_neg n39).trans (by rw [if_neg nz]; rfl), ← List.append_assoc, aw_pk_one, aw_pk_one, ih]
        by_cases hv : aw_ocv (aw_od (T 39 (4 * s + i))) (T 41 (4 * s + i)).toNatClampNeg (T 42 (4 * s + i)) x y bw bh = true
        · rw [if_pos hv, show aw_gv T s (4 * s + i) first x y bw bh = T 43 (4 * s + i) from (if_neg n39).trans (if_pos ⟨nz, hv⟩), e43, if_neg (fun q => by have := (aw_n9 (by omega)).mp q; omega), if_neg (aw_nneg (by omega))]
        · rw [if_neg hv, show aw_gv T s (4 * s + i) first x y bw bh = (if aw_oc (aw_od (T 39 (4 * s + i))) x y bw bh = true then (if T 40 (4 * s + i) = 9 then T 36 (if first = true then 2 * s + 1 else 2 * s) else T 40 (4 * s + i)) else -1) from (if_neg n39).trans (if_neg (fun q => hv q.2))]
          exact hcol _
theorem aw_v100 : ∀ t, t < 9 → Int32.ofNat t < 100 := by decide
theorem aw_v108 : ∀ s, s < 8 → ¬ Int32.ofNat (100 + s) < 100 ∧ (Int32.ofNat (100 + s)).toNatClampNeg - 100 = s := by decide
/-- a shield of the class paints as the tables say -/
theorem aw_c_tinct {g : am_H} {T : aw_T} {lo hi shi : Nat} (d : Nat) : ∀ (l slo a s : Nat) (x y bw bh : Int32), l ≤ 3 → aw_RS g T lo hi shi l slo a s → aw_bx l x y bw bh → ∀ w : Nat → am_C, am_R (d + 5 + 2 * l) 49 0 [some (.ref (1045 + a)), some (.int x), some (.int y), some (.int bw), some (.int bh), none, none, none] [] (am_h w g) (.inl (some (.int (aw_pn T l s x y bw bh)))) (am_h w g) := by
  intro l
  induction l with
  | zero => intro slo a s x y bw bh _ h; exact absurd h id
  | succ l ih =>
    intro slo a s x y bw bh hl h hb w
    obtain ⟨q1, q2, la, f1, f2, L, k, i, a1, a2, a3, a4, a5, a6, a7, a8, a9, a10, a11, a12, a12', a12v, a13, a14⟩ := h
    have hv1 := aw_RP_PT a13
    have hv2 := aw_RP_PT a14
    have e35 : (T 35 s).toNatClampNeg = k := by
      rw [a8]
      exact aw_ofA k (by omega)
    have e38 : (T 38 s).toNatClampNeg = i := by
      rw [a10]
      exact aw_ofA i (by omega)
    rw [aw_pn, e35, e38]
    have hpart : ∀ f v, aw_RP g lo hi (aw_RS g T lo hi shi l (s + 1)) f v → aw_TA g (d + 5 + 2 * l) f (aw_h1 (decide (k = 1 ∨ k = 4)) x bw) (aw_h1 (decide (k = 2 ∨ k = 4)) y bh) (aw_h2 (decide (k = 1 ∨ k = 4)) x bw) (aw_h2 (decide (k = 2 ∨ k = 4)) y bh) (if v < 100 then v else aw_pn T l (v.toNatClampNeg - 100) (aw_h1 (decide (k = 1 ∨ k = 4)) x bw) (aw_h1 (decide (k = 2 ∨ k = 4)) y bh) (aw_h2 (decide (k = 1 ∨ k = 4)) x bw) (aw_h2 (decide (k = 2 ∨ k = 4)) y bh)) := by
      intro f v hp
      obtain ⟨-, -, hp⟩ := hp
      rcases hp with ⟨t, t9, et, hc⟩ | ⟨s', s8, es, hR⟩
      · rw [if_pos (by rw [et]; exact aw_v100 t t9)]
        exact .inl hc
      · obtain ⟨z1, z2⟩ := aw_v108 s' s8
        rw [es, if_neg z1, z2]
        obtain ⟨fs, hc⟩ := aw_RS_cell hR
        have hl1 : 1 ≤ l := by
          cases l with
          | zero => exact absurd hR id
          | succ l => omega
        exact .inr ⟨fs, hc, ih (s + 1) f s' _ _ _ _ (by omega) hR (aw_bx_half hl1 hb _ _)⟩
    have hT : aw_TA g (d + 5 + 2 * l) (if aw_fs k x y bw bh = true then f1 else f2) (aw_h1 (decide (k = 1 ∨ k = 4)) x bw) (aw_h1 (decide (k = 2 ∨ k = 4)) y bh) (aw_h2 (decide (k = 1 ∨ k = 4)) x bw) (aw_h2 (decide (k = 2 ∨ k = 4)) y bh) (aw_fl T (aw_pn T l) s k x y bw bh) := by
      unfold aw_fl
      by_cases hf : aw_fs k x y bw bh = true
      · rw [if_pos hf, if_pos hf]
        exact hpart _ _ a13
      · rw [if_neg hf, if_neg hf]
        exact hpart _ _ a14
    obtain ⟨b1, b2⟩ := aw_bts_ly (d + 2 * l + 2) hb i L a12v a11
    have kf := aw_k50 (w := w) (d + 5 + 2 * l) x y bw bh (aw_fl T (aw_pn T l) s k x y bw bh) a7 a5 hT
    have hO : aw_tw T s = true → aw_ot (aw_fl T (aw_pn T l) s k x y bw bh) (T 36 (2 * s)) (T 36 (2 * s + 1)) = T 36 (if aw_fs k x y bw bh = true then 2 * s + 1 else 2 * s) ∧ ¬ aw_ot (aw_fl T (aw_pn T l) s k x y bw bh) (T 36 (2 * s)) (T 36 (2 * s + 1)) < 0 := by
      intro htw
      have htw := of_decide_eq_true htw
      have p1 : aw_pl (T 36 (2 * s)) = T 36 (2 * s) := if_pos htw.2.1
      have p2 : aw_pl (T 36 (2 * s + 1)) = T 36 (2 * s + 1) := if_pos htw.2.2
      have nn : ∀ f v, aw_PT g f v → ¬ v < 0 := by
        intro f v hv
        rcases hv with ⟨t, t9, et, -⟩ | ⟨n, fs, n8, en, -⟩
        · rw [et]
          exact aw_nneg (by omega)
        · rw [en]
          exact aw_nneg (by omega)
      unfold aw_ot aw_fl
      rw [p1, p2]
      by_cases hf : aw_fs k x y bw bh = true
      · rw [if_pos hf, if_pos htw.2.1, if_neg (fun z => z rfl), if_pos hf]
        exact ⟨rfl, nn _ _ hv2⟩
      · rw [if_neg hf, if_pos htw.2.2, if_neg hf]
        by_cases he : T 36 (2 * s + 1) = T 36 (2 * s)
        · rw [if_neg (fun z => z he), he]
          exact ⟨rfl, nn _ _ hv1⟩
        · rw [if_pos he]
          exact ⟨rfl, nn _ _ hv1⟩
    rw [← aw_pk_pi hO i a12v]
    rw [show (aw_bts T s x y bw bh i).length = L.length from b1]
    have kl := aw_k49l (w := w) (d + 2 * l + 5) a5 a6 a12' hv1 hv2 x y bw bh (aw_fl T (aw_pn T l) s k x y bw bh) (BT := aw_bts T s x y bw bh i) b2 L.length none (Nat.le_refl _)
    rw [show d + 5 + 2 * (l + 1) = d + 2 * l + 5 + 2 by omega]
    rw [show d + 5 + 2 * l + 1 = d + 2 * l + 5 + 1 by omega] at kf
    refine am_R.nxs 5 (pc' := 6) (lv' := [some (.ref (1045 + a)), some (.int x), some (.int y), some (.int bw), some (.int bh), none, none, none]) (st' := [.int bh, .int bw, .int y, .int x, .ref (1045 + a)]) (h1 := am_h w g) rfl ?_
    refine am_R.cv (a := 1045 + a) (as' := [.int x, .int y, .int bw, .int bh]) (r := []) (v := some (.int (aw_fl T (aw_pn T l) s k x y bw bh))) (h1 := am_h w g) (pc' := 9) rfl rfl rfl rfl (am_gfn a a5) rfl rfl kf rfl ?_
    refine am_R.nxs 2 (pc' := 12) (lv' := [some (.ref (1045 + a)), some (.int x), some (.int y), some (.int bw), some (.int bh), some (.int (aw_fl T (aw_pn T l) s k x y bw bh)), none, none]) (st' := [.ref (1045 + a)]) (h1 := am_h w g) rfl ?_
    refine am_R.gf (pc' := 15) (v := .int (Int32.ofNat L.length)) rfl (am_gfn a a5) rfl rfl rfl ?_
    refine am_R.nxs 3 (pc' := 19) (lv' := [some (.ref (1045 + a)), some (.int x), some (.int y), some (.int bw), some (.int bh), some (.int (aw_fl T (aw_pn T l) s k x y bw bh)), some (.int (Int32.ofNat L.length - 1)), none]) (st' := []) (h1 := am_h w g) rfl ?_
    exact kl
