/-! How the reference cuts a text into words. -/
theorem aw_cmp0 {x y : Int64} : lg_cmp x y = 0 ↔ x = y := by
  unfold lg_cmp
  constructor
  · intro h
    split at h
    · cases h
    · split at h
      · assumption
      · cases h
  · intro h
    subst h
    rw [if_neg (Int64.lt_irrefl), if_pos rfl]
theorem aw_cmpL {x : Int64} (h : 0 < x) : ¬ lg_cmp x 0 ≤ 0 := by
  unfold lg_cmp
  rw [if_pos h]
  decide
/-- the letters of a word as two numbers -/
def aw_v (tx : List Int32) (p m : Nat) : Int64 := (tx.getD (p + m) 0 - 97 + 1).toInt64
def aw_co (tx : List Int32) (p : Nat) : Nat → Int64 × Int64
  | 0 => (0, 0)
  | m + 1 => if m < 8 then (32 * (aw_co tx p m).1 + aw_v tx p m, (aw_co tx p m).2) else ((aw_co tx p m).1, 32 * (aw_co tx p m).2 + aw_v tx p m)
/-- the last name with these numbers -/
def aw_fd (a b : Int64) : Nat → Int32
  | 0 => -1
  | k + 1 => if lg_cmp (aw_n1.getD k 0) 0 ≤ 0 then aw_fd a b k else if ¬ lg_cmp (aw_n1.getD k 0) a = 0 then aw_fd a b k else if ¬ lg_cmp (aw_n2.getD k 0) b = 0 then aw_fd a b k else Int32.ofNat k
/-- base 32 -/
def aw_vl (D : Nat → Nat) : Nat → Nat
  | 0 => 0
  | m + 1 => 32 * aw_vl D m + D m
theorem aw_vl_inj {D E : Nat → Nat} : ∀ m n, (∀ k, k < m → 1 ≤ D k ∧ D k < 32) → (∀ k, k < n → 1 ≤ E k ∧ E k < 32) → aw_vl D m = aw_vl E n → m = n ∧ ∀ k, k < m → D k = E k := by
  intro m
  induction m with
  | zero =>
    intro n hD hE h
    cases n with
    | zero => exact ⟨rfl, fun k hk => absurd hk (Nat.not_lt_zero k)⟩
    | succ n =>
      have := (hE n (by omega)).1
      rw [aw_vl, aw_vl] at h
      omega
  | succ m ih =>
    intro n hD hE h
    cases n with
    | zero =>
      have := (hD m (by omega)).1
      rw [aw_vl, aw_vl] at h
      omega
    | succ n =>
      have a := hD m (by omega)
      have b := hE n (by omega)
      rw [aw_vl, aw_vl] at h
      have e1 : aw_vl D m = aw_vl E n := by omega
      have e2 : D m = E n := by omega
      obtain ⟨q1, q2⟩ := ih n (fun k hk => hD k (by omega)) (fun k hk => hE k (by omega)) e1
      refine ⟨by omega, fun k hk => ?_⟩
      by_cases hk2 : k = m
      · subst hk2
        rw [e2, q1]
      · exact q2 k (by omega)
theorem aw_vl_lt {D : Nat → Nat} : ∀ m, (∀ k, k < m → D k < 32) → aw_vl D m < 32 ^ m := by
  intro m
  induction m with
  | zero => intro _; exact Nat.one_pos
  | succ m ih =>
    intro h
    have a := ih (fun k hk => h k (by omega))
    have b := h m (by omega)
    rw [aw_vl, Nat.pow_succ]
    omega
theorem aw_d64 : ∀ d, d < 27 → (Int32.ofNat (96 + d) - 97 + 1).toInt64 = Int64.ofNat d := by decide +kernel
/-- the digits are such and such -/
def aw_Dg (tx : List Int32) (p m : Nat) (D : Nat → Nat) : Prop := ∀ k, k < m → 1 ≤ D k ∧ D k < 27 ∧ tx.getD (p + k) 0 = Int32.ofNat (96 + D k)
theorem aw_co_eq {tx : List Int32} {p : Nat} {D : Nat → Nat} : ∀ m, m ≤ 16 → aw_Dg tx p m D → aw_co tx p m = (Int64.ofNat (aw_vl D (min m 8)), Int64.ofNat (aw_vl (fun k => D (8 + k)) (m - 8))) := by
  intro m
  induction m with
  | zero => intro _ _; rfl
  | succ m ih =>
    intro hm h
    have q := ih (by omega) (fun k hk => h k (by omega))
    have ev : aw_v tx p m = Int64.ofNat (D m) := by
      unfold aw_v
      rw [(h m (by omega)).2.2]
      exact aw_d64 _ (h m (by omega)).2.1
    rw [aw_co, q, ev]
    by_cases h8 : m < 8
    · rw [if_pos h8, show min m 8 = m by omega, show min (m + 1) 8 = m + 1 by omega, show m - 8 = 0 by omega, show m + 1 - 8 = 0 by omega]
      simp only [Prod.mk.injEq, and_true]
      rw [show aw_vl D (m + 1) = 32 * aw_vl D m + D m from rfl, Int64.ofNat_add, Int64.ofNat_mul]
      rfl
    · rw [if_neg h8, show min m 8 = 8 by omega, show min (m + 1) 8 = 8 by omega, show m + 1 - 8 = m - 8 + 1 by omega]
      simp only [Prod.mk.injEq, true_and]
      rw [show aw_vl (fun k => D (8 + k)) (m - 8 + 1) = 32 * aw_vl (fun k => D (8 + k)) (m - 8) + D (8 + (m - 8)) from rfl, Int64.ofNat_add, Int64.ofNat_mul, show 8 + (m - 8) = m by omega]
      rfl
def aw_db (j k : Nat) : Nat := ((aw_by j).getD k 0).toNatClampNeg - 96
set_option maxRecDepth 100000 in
theorem aw_nmC : ∀ k, k < 37 → aw_n1.getD k 0 ≤ 0 ∨ ∃ j, j < 37 ∧ aw_tq j = k ∧ j ≠ 13 ∧ j ≠ 14 ∧ aw_n1.getD k 0 = Int64.ofNat (aw_vl (aw_db j) (min (aw_by j).length 8)) ∧ aw_n2.getD k 0 = Int64.ofNat (aw_vl (fun i => aw_db j (8 + i)) ((aw_by j).length - 8)) := by decide +kernel
set_option maxRecDepth 100000 in
theorem aw_dbB : (List.range 37).all (fun j => decide (j = 13 ∨ j = 14) || (decide (1 ≤ (aw_by j).length ∧ (aw_by j).length ≤ 16) && (List.range (aw_by j).length).all (fun k => decide (1 ≤ aw_db j k ∧ aw_db j k < 27 ∧ (aw_by j).getD k 0 = Int32.ofNat (96 + aw_db j k))))) = true := by decide +kernel
theorem aw_dbA (j : Nat) (hj : j < 37) (h1 : j ≠ 13) (h2 : j ≠ 14) : 1 ≤ (aw_by j).length ∧ (aw_by j).length ≤ 16 ∧ ∀ k, k < (aw_by j).length → 1 ≤ aw_db j k ∧ aw_db j k < 27 ∧ (aw_by j).getD k 0 = Int32.ofNat (96 + aw_db j k) := by
  have q := List.all_eq_true.mp aw_dbB j (List.mem_range.mpr hj)
  simp only [Bool.or_eq_true, Bool.and_eq_true, decide_eq_true_eq, List.all_eq_true, List.mem_range] at q
  rcases q with q | q
  · omega
  · exact ⟨q.1.1, q.1.2, q.2⟩
set_option maxRecDepth 100000 in
theorem aw_fdA : ∀ j, j < 37 → j ≠ 13 → j ≠ 14 → aw_fd (Int64.ofNat (aw_vl (aw_db j) (min (aw_by j).length 8))) (Int64.ofNat (aw_vl (fun i => aw_db j (8 + i)) ((aw_by j).length - 8))) 37 = aw_tau j := by decide +kernel
theorem aw_fd_none {a b : Int64} : ∀ n, n ≤ 37 → (∀ k, k < n → ¬ aw_n1.getD k 0 ≤ 0 → aw_n1.getD k 0 = a → aw_n2.getD k 0 = b → False) → aw_fd a b n = -1 := by
  intro n
  induction n with
  | zero => intro _ _; rfl
  | succ n ih =>
    intro hn h
    have q := ih (by omega) (fun k hk => h k (by omega))
    rw [aw_fd]
    split
    · exact q
    · rename_i h1
      split
      · exact q
      · rename_i h2
        split
        · exact q
        · rename_i h3
          refine absurd (h n (by omega) (fun z => h1 ?_) (aw_cmp0.mp (Decidable.not_not.mp h2)) (aw_cmp0.mp (Decidable.not_not.mp h3))) id
          unfold lg_cmp
          rw [if_neg (Int64.not_lt.mpr z)]
          split <;> decide
theorem aw_wf_spec {tx : List Int32} {p e : Nat} : ∀ n i, (aw_eqb tx p e (aw_wf tx p e n i) = true ∧ i ≤ aw_wf tx p e n i ∧ aw_wf tx p e n i < i + n) ∨ (aw_wf tx p e n i = 37 ∧ ∀ j, i ≤ j → j < i + n → ¬ aw_eqb tx p e j = true) := by
  intro n
  induction n with
  | zero => intro i; exact .inr ⟨rfl, fun j h1 h2 => absurd h2 (by omega)⟩
  | succ n ih =>
    intro i
    rw [aw_wf]
    split
    · rename_i h
      exact .inl ⟨h, Nat.le_refl _, by omega⟩
    · rename_i h
      rcases ih (i + 1) with ⟨a, b, c⟩ | ⟨a, b⟩
      · exact .inl ⟨a, by omega, by omega⟩
      · refine .inr ⟨a, fun j h1 h2 => ?_⟩
        by_cases hj : j = i
        · subst hj
          exact h
        · exact b j (by omega) (by omega)
theorem aw_by37 : (aw_by 37).length = 0 := rfl
set_option maxRecDepth 100000 in
theorem aw_by1314 : ∀ j, j < 38 → ((j = 13 → (aw_by j).getD 0 0 = 40 ∧ (aw_by j).length = 1) ∧ (j = 14 → (aw_by j).getD 0 0 = 41 ∧ (aw_by j).length = 1) ∧ ((aw_by j).length = 1 → j ≠ 13 → j ≠ 14 → aw_let ((aw_by j).getD 0 0) = true)) := by decide +kernel
theorem aw_let_of {tx : List Int32} {i : Nat} (h : aw_let (tx.getD i 0) = true) : ∃ d, 1 ≤ d ∧ d < 27 ∧ tx.getD i 0 = Int32.ofNat (96 + d) := by
  unfold aw_let at h
  simp only [Bool.and_eq_true, decide_eq_true_eq] at h
  obtain ⟨h1, h2⟩ := h
  have h3 := am_natOf (v := tx.getD i 0) (fun q => absurd (Int32.lt_of_lt_of_le q (by decide : (0 : Int32) ≤ 97)) (Int32.not_lt.mpr h1))
  have h4 := Int32.le_iff_toInt_le.mp h1
  have h5 := Int32.le_iff_toInt_le.mp h2
  have e1 : (97 : Int32).toInt = 97 := by decide
  have e2 : (122 : Int32).toInt = 122 := by decide
  have e3 : (tx.getD i 0).toNatClampNeg = (tx.getD i 0).toInt.toNat := rfl
  refine ⟨(tx.getD i 0).toNatClampNeg - 96, by omega, by omega, ?_⟩
  rw [show 96 + ((tx.getD i 0).toNatClampNeg - 96) = (tx.getD i 0).toNatClampNeg by omega]
  exact h3
/-- a row of letters: what the reference finds is the class's word -/
theorem aw_find {tx : List Int32} {p e : Nat} (hp : p < e) (he : e - p ≤ 16) (hL : ∀ k, p ≤ k → k < e → aw_let (tx.getD k 0) = true) : aw_fd (aw_co tx p (e - p)).1 (aw_co tx p (e - p)).2 37 = aw_tau (aw_wd tx p e) := by
  rcases aw_wf_spec (tx := tx) (p := p) (e := e) 38 0 with ⟨h1, -, h2⟩ | ⟨h1, h2⟩
  · have h3 : aw_wd tx p e < 38 := by unfold aw_wd; omega
    have h1 : aw_eqb tx p e (aw_wd tx p e) = true := h1
    obtain ⟨q1, q2⟩ := aw_eqb_iff.mp h1
    have h37 : aw_wd tx p e ≠ 37 := by
      intro z
      rw [z, aw_by37] at q1
      omega
    have hc : aw_wd tx p e ≠ 13 ∧ aw_wd tx p e ≠ 14 := by
      have hb := aw_by1314 _ h3
      constructor
      · intro z
        have := hL p (Nat.le_refl _) hp
        have q := q2 0 (by rw [(hb.1 z).2]; decide)
        rw [Nat.add_zero, (hb.1 z).1] at q
        rw [q] at this
        exact absurd this (by decide)
      · intro z
        have := hL p (Nat.le_refl _) hp
        have q := q2 0 (by rw [(hb.2.1 z).2]; decide)
        rw [Nat.add_zero, (hb.2.1 z).1] at q
        rw [q] at this
        exact absurd this (by decide)
    obtain ⟨d1, d2, d3⟩ := aw_dbA _ (by omega) hc.1 hc.2
    have hD : aw_Dg tx p (e - p) (aw_db (aw_wd tx p e)) := by
      intro k hk
      rw [q1] at hk
      have := d3 k hk
      exact ⟨this.1, this.2.1, by rw [q2 k hk]; exact this.2.2⟩
    rw [aw_co_eq (e - p) he hD, q1]
    exact aw_fdA _ (by omega) hc.1 hc.2
  · rw [show aw_wd tx p e = 37 from h1]
    have hD : ∃ D : Nat → Nat, aw_Dg tx p (e - p) D := by
      refine ⟨fun k => (tx.getD (p + k) 0).toNatClampNeg - 96, fun k hk => ?_⟩
      obtain ⟨dd, e1, e2, e3⟩ := aw_let_of (hL (p + k) (by omega) (by omega))
      have e4 : (tx.getD (p + k) 0).toNatClampNeg = 96 + dd := by
        rw [e3]
        exact Int32.toNatClampNeg_ofNat_of_lt (by omega)
      dsimp only
      rw [e4, show 96 + dd - 96 = dd by omega]
      exact ⟨e1, e2, e3⟩
    obtain ⟨D, hD⟩ := hD
    rw [aw_co_eq (e - p) he hD]
    refine aw_fd_none 37 (Nat.le_refl _) (fun k hk a1 a2 a3 => ?_)
    rcases aw_nmC k hk with q | ⟨j, j1, j2, j3, j4, j5, j6⟩
    · exact a1 q
    · obtain ⟨d1, d2, d3⟩ := aw_dbA j j1 j3 j4
      have inj : ∀ a b : Nat, a < 2 ^ 63 → b < 2 ^ 63 → Int64.ofNat a = Int64.ofNat b → a = b := by
        intro a b ha hb h
        have := congrArg Int64.toInt h
        rw [Int64.toInt_ofNat_of_lt ha, Int64.toInt_ofNat_of_lt hb] at this
        omega
      have p8 : (32 : Nat) ^ 8 < 2 ^ 63 := by decide
      have up : ∀ m, m ≤ 8 → (32 : Nat) ^ m ≤ 32 ^ 8 := fun m hm => Nat.pow_le_pow_right (by decide) hm
      have e1 : aw_vl (aw_db j) (min (aw_by j).length 8) = aw_vl D (min (e - p) 8) := by
        refine inj _ _ ?_ ?_ (by rw [← j5]; exact a2)
        · exact Nat.lt_of_lt_of_le (aw_vl_lt _ (fun i hi => by have := (d3 i (by omega)).2.1; omega)) (Nat.le_trans (up _ (by omega)) (Nat.le_of_lt p8))
        · exact Nat.lt_of_lt_of_le (aw_vl_lt _ (fun i hi => by have := (hD i (by omega)).2.1; omega)) (Nat.le_trans (up _ (by omega)) (Nat.le_of_lt p8))
      have e2 : aw_vl (fun i => aw_db j (8 + i)) ((aw_by j).length - 8) = aw_vl (fun i => D (8 + i)) (e - p - 8) := by
        refine inj _ _ ?_ ?_ (by rw [← j6]; exact a3)
        · exact Nat.lt_of_lt_of_le (aw_vl_lt _ (fun i hi => by have := (d3 (8 + i) (by omega)).2.1; omega)) (Nat.le_trans (up _ (by omega)) (Nat.le_of_lt p8))
        · exact Nat.lt_of_lt_of_le (aw_vl_lt _ (fun i hi => by have := (hD (8 + i) (by omega)).2.1; omega)) (Nat.le_trans (up _ (by omega)) (Nat.le_of_lt p8))
      obtain ⟨f1, f2⟩ := aw_vl_inj _ _ (fun i hi => by have := d3 i (by omega); omega) (fun i hi => by have := hD i (by omega); omega) e1
      obtain ⟨f3, f4⟩ := aw_vl_inj _ _ (fun i hi => by have := d3 (8 + i) (by omega); omega) (fun i hi => by have := hD (8 + i) (by omega); omega) e2
      have f5 : e - p = (aw_by j).length := by omega
      refine h2 j (Nat.zero_le _) (by omega) (aw_eqb_iff.mpr ⟨f5, fun i hi => ?_⟩)
      rw [(d3 i hi).2.2, (hD i (by omega)).2.2]
      by_cases hi8 : i < 8
      · rw [f2 i (by omega)]
      · have := f4 (i - 8) (by omega)
        rw [show 8 + (i - 8) = i by omega] at this
        rw [this]
theorem aw_long {tx : List Int32} {p e : Nat} (hp : p < e) (he : 16 < e - p) : aw_tau (aw_wd tx p e) = -1 := by
  rcases aw_wf_spec (tx := tx) (p := p) (e := e) 38 0 with ⟨h1, -, h2⟩ | ⟨h1, h2⟩
  · obtain ⟨q1, q2⟩ := aw_eqb_iff.mp h1
    have := (aw_byA (aw_wf tx p e 38 0) (by omega)).1
    omega
  · rw [show aw_wd tx p e = 37 from h1]
    rfl
theorem aw_one {tx : List Int32} {p : Nat} (hL : ¬ aw_let (tx.getD p 0) = true) : aw_tau (aw_wd tx p (p + 1)) = if tx.getD p 0 = 40 then 15 else if tx.getD p 0 = 41 then 16 else -1 := by
  rcases aw_wf_spec (tx := tx) (p := p) (e := p + 1) 38 0 with ⟨h1, -, h2⟩ | ⟨h1, h2⟩
  · have h1 : aw_eqb tx p (p + 1) (aw_wd tx p (p + 1)) = true := h1
    obtain ⟨q1, q2⟩ := aw_eqb_iff.mp h1
    have hb := aw_by1314 (aw_wd tx p (p + 1)) (by unfold aw_wd; omega)
    have q := q2 0 (by omega)
    rw [Nat.add_zero] at q
    by_cases c1 : aw_wd tx p (p + 1) = 13
    · rw [q, (hb.1 c1).1, c1]
      rfl
    · by_cases c2 : aw_wd tx p (p + 1) = 14
      · rw [q, (hb.2.1 c2).1, c2]
        rfl
      · have := hb.2.2 (by omega) c1 c2
        rw [← q] at this
        exact absurd this hL
  · have e13 := h2 13 (by decide) (by decide)
    have e14 := h2 14 (by decide) (by decide)
    rw [aw_eqb_iff] at e13 e14
    rw [show aw_wd tx p (p + 1) = 37 from h1, if_neg, if_neg]
    · rfl
    · intro z
      refine e14 ⟨by rw [Nat.add_sub_cancel_left]; rfl, fun k hk => ?_⟩
      have : k = 0 := by have : (aw_by 14).length = 1 := rfl; omega
      subst this
      rw [Nat.add_zero, z]
      rfl
    · intro z
      refine e13 ⟨by rw [Nat.add_sub_cancel_left]; rfl, fun k hk => ?_⟩
      have : k = 0 := by have : (aw_by 13).length = 1 := rfl; omega
      subst this
      rw [Nat.add_zero, z]
      rfl
theorem aw_k102a {w : Nat → am_C} {g : am_H} (d : Nat) {ft ty wr wd wt sn : Int32} (h21 : w 21 = aw_c21 ft ty wr wd wt sn) (h24 : w 24 = .inr (3, aw_n1.map Value.long)) (h25 : w 25 = .inr (3, aw_n2.map Value.long)) {tx mt : List Int32} (h22 : w 22 = am_I 0 mt) (hmt : mt.length = 120) {tl : Nat} (htl : tl ≤ 120) (heq : ∀ i, i < tl → mt.getD i 0 = tx.getD i 0) {p e : Nat} (hp : p < e) (he : e ≤ tl) {o : am_O} {h' : am_H} (k : (∀ y : Option Value, am_R d 102 93 [some (.ref 1021), some (.int (Int32.ofNat p)), some (.int (Int32.ofNat e)), some (.long (aw_co tx p (e - p)).1), none, some (.long (aw_co tx p (e - p)).2), none, some (.int (Int32.ofNat e)), y] [] (am_h w g) o h')) : ∀ n m : Nat, ∀ x8 : Option Value, p + m + n = e → am_R d 102 18 [some (.ref 1021), some (.int (Int32.ofNat p)), some (.int (Int32.ofNat e)), some (.long (aw_co tx p m).1), none, some (.long (aw_co tx p m).2), none, some (.int (Int32.ofNat (p + m))), x8] [] (am_h w g) o h' := by
  intro n
  induction n with
  | zero =>
    intro m x8 hm
    refine am_R.ites 3 (P := Int32.ofNat e ≤ Int32.ofNat (p + m)) (T := 93) (F := 24) (lv' := [some (.ref 1021), some (.int (Int32.ofNat p)), some (.int (Int32.ofNat e)), some (.long ((aw_co tx p m).1)), none, some (.long ((aw_co tx p m).2)), none, some (.int (Int32.ofNat (p + m))), x8]) (st' := []) (h1 := am_h w g) rfl (fun b21 => ?_) (fun b21 => ?_)
    · have b21 : e ≤ (p + m) := (am_leN (i := e) (n := (p + m)) (by omega) (by omega)).mp b21
      rw [show m = e - p by omega, show p + (e - p) = e by omega]
      exact k x8
    · have b21 : ¬ e ≤ (p + m) := fun hq9 => b21 ((am_leN (i := e) (n := (p + m)) (by omega) (by omega)).mpr hq9)
      omega
  | succ n ih =>
    intro m x8 hm
    refine am_R.ites 3 (P := Int32.ofNat e ≤ Int32.ofNat (p + m)) (T := 93) (F := 24) (lv' := [some (.ref 1021), some (.int (Int32.ofNat p)), some (.int (Int32.ofNat e)), some (.long ((aw_co tx p m).1)), none, some (.long ((aw_co tx p m).2)), none, some (.int (Int32.ofNat (p + m))), x8]) (st' := []) (h1 := am_h w g) rfl (fun b21 => ?_) (fun b21 => ?_)
    · have b21 : e ≤ (p + m) := (am_leN (i := e) (n := (p + m)) (by omega) (by omega)).mp b21
      omega
    · have b21 : ¬ e ≤ (p + m) := fun hq9 => b21 ((am_leN (i := e) (n := (p + m)) (by omega) (by omega)).mpr hq9)
      refine am_R.nxs 1 (pc' := 25) (lv' := [some (.ref 1021), some (.int (Int32.ofNat p)), some (.int (Int32.ofNat e)), some (.long ((aw_co tx p m).1)), none, some (.long ((aw_co tx p m).2)), none, some (.int (Int32.ofNat (p + m))), x8]) (st' := [.ref 1021]) (h1 := am_h w g) rfl ?_
      refine am_R.gf (pc' := 28) (v := .ref 1022) rfl (am_wf 21 (by decide) h21) rfl rfl rfl ?_
      refine am_R.nxs 1 (pc' := 30) (lv' := [some (.ref 1021), some (.int (Int32.ofNat p)), some (.int (Int32.ofNat e)), some (.long ((aw_co tx p m).1)), none, some (.long ((aw_co tx p m).2)), none, some (.int (Int32.ofNat (p + m))), x8]) (st' := [.int (Int32.ofNat (p + m)), .ref 1022]) (h1 := am_h w g) rfl ?_
      refine am_R.ldi (i := (p + m)) (xs := mt) (pc' := 31) rfl (am_wf 22 (by decide) h22) (by omega) (by omega) rfl ?_
      rw [heq _ (by omega)]
      refine am_R.nxs 8 (pc' := 42) (lv' := [some (.ref 1021), some (.int (Int32.ofNat p)), some (.int (Int32.ofNat e)), some (.long ((aw_co tx p m).1)), none, some (.long ((aw_co tx p m).2)), none, some (.int (Int32.ofNat (p + m))), some (.int (((tx.getD (p + m) 0) - 97) + 1))]) (st' := [.int (Int32.ofNat (p + m) - Int32.ofNat p)]) (h1 := am_h w g) rfl ?_
      rw [show (Int32.ofNat (p + m) - Int32.ofNat p : Int32) = Int32.ofNat ((p + m) - p) from am_sub (by omega)]
      refine am_R.ites 2 (P := 8 ≤ Int32.ofNat ((p + m) - p)) (T := 59) (F := 47) (lv' := [some (.ref 1021), some (.int (Int32.ofNat p)), some (.int (Int32.ofNat e)), some (.long ((aw_co tx p m).1)), none, some (.long ((aw_co tx p m).2)), none, some (.int (Int32.ofNat (p + m))), some (.int (((tx.getD (p + m) 0) - 97) + 1))]) (st' := []) (h1 := am_h w g) rfl (fun b44 => ?_) (fun b44 => ?_)
      · have b44 : 8 ≤ ((p + m) - p) := (am_leN (i := 8) (n := ((p + m) - p)) (by omega) (by omega)).mp b44
        refine am_R.nxs 5 (pc' := 65) (lv' := [some (.ref 1021), some (.int (Int32.ofNat p)), some (.int (Int32.ofNat e)), some (.long ((aw_co tx p m).1)), none, some (.long ((aw_co tx p m).2)), none, some (.int (Int32.ofNat (p + m))), some (.int (((tx.getD (p + m) 0) - 97) + 1))]) (st' := [.int (Int32.ofNat (p + m) - Int32.ofNat p)]) (h1 := am_h w g) rfl ?_
        rw [show (Int32.ofNat (p + m) - Int32.ofNat p : Int32) = Int32.ofNat ((p + m) - p) from am_sub (by omega)]
        refine am_R.ites 2 (P := 8 ≤ Int32.ofNat ((p + m) - p)) (T := 75) (F := 70) (lv' := [some (.ref 1021), some (.int (Int32.ofNat p)), some (.int (Int32.ofNat e)), some (.long ((aw_co tx p m).1)), none, some (.long ((aw_co tx p m).2)), none, some (.int (Int32.ofNat (p + m))), some (.int (((tx.getD (p + m) 0) - 97) + 1))]) (st' := []) (h1 := am_h w g) rfl (fun b67 => ?_) (fun b67 => ?_)
        · have b67 : 8 ≤ ((p + m) - p) := (am_leN (i := 8) (n := ((p + m) - p)) (by omega) (by omega)).mp b67
          refine am_R.nxs 8 (pc' := 90) (lv' := [some (.ref 1021), some (.int (Int32.ofNat p)), some (.int (Int32.ofNat e)), some (.long ((aw_co tx p m).1)), none, some (.long ((32 * (aw_co tx p m).2) + ((((tx.getD (p + m) 0) - 97) + 1)).toInt64)), none, some (.int (Int32.ofNat (p + m) + 1)), some (.int (((tx.getD (p + m) 0) - 97) + 1))]) (st' := []) (h1 := am_h w g) rfl ?_
          rw [show (Int32.ofNat (p + m) + 1 : Int32) = Int32.ofNat ((p + m) + 1) from am_add (p + m) 1]
          refine am_R.nxs 1 (pc' := 18) (lv' := [some (.ref 1021), some (.int (Int32.ofNat p)), some (.int (Int32.ofNat e)), some (.long ((aw_co tx p m).1)), none, some (.long ((32 * (aw_co tx p m).2) + ((((tx.getD (p + m) 0) - 97) + 1)).toInt64)), none, some (.int (Int32.ofNat ((p + m) + 1))), some (.int (((tx.getD (p + m) 0) - 97) + 1))]) (st' := []) (h1 := am_h w g) rfl ?_
          have q := ih (m + 1) (some (.int (tx.getD (p + m) 0 - 97 + 1))) (by omega)
          rw [show aw_co tx p (m + 1) = ((aw_co tx p m).1, 32 * (aw_co tx p m).2 + aw_v tx p m) from if_neg (by omega)] at q
          exact q
        · have b67 : ¬ 8 ≤ ((p + m) - p) := fun hq9 => b67 ((am_leN (i := 8) (n := ((p + m) - p)) (by omega) (by omega)).mpr hq9)
          refine am_R.nxs 4 (pc' := 90) (lv' := [some (.ref 1021), some (.int (Int32.ofNat p)), some (.int (Int32.ofNat e)), some (.long ((aw_co tx p m).1)), none, some (.long ((aw_co tx p m).2)), none, some (.int (Int32.ofNat (p + m) + 1)), some (.int (((tx.getD (p + m) 0) - 97) + 1))]) (st' := []) (h1 := am_h w g) rfl ?_
          rw [show (Int32.ofNat (p + m) + 1 : Int32) = Int32.ofNat ((p + m) + 1) from am_add (p + m) 1]
          refine am_R.nxs 1 (pc' := 18) (lv' := [some (.ref 1021), some (.int (Int32.ofNat p)), some (.int (Int32.ofNat e)), some (.long ((aw_co tx p m).1)), none, some (.long ((aw_co tx p m).2)), none, some (.int (Int32.ofNat ((p + m) + 1))), some (.int (((tx.getD (p + m) 0) - 97) + 1))]) (st' := []) (h1 := am_h w g) rfl ?_
          omega
      · have b44 : ¬ 8 ≤ ((p + m) - p) := fun hq9 => b44 ((am_leN (i := 8) (n := ((p + m) - p)) (by omega) (by omega)).mpr hq9)
        refine am_R.nxs 11 (pc' := 65) (lv' := [some (.ref 1021), some (.int (Int32.ofNat p)), some (.int (Int32.ofNat e)), some (.long ((32 * (aw_co tx p m).1) + ((((tx.getD (p + m) 0) - 97) + 1)).toInt64)), none, some (.long ((aw_co tx p m).2)), none, some (.int (Int32.ofNat (p + m))), some (.int (((tx.getD (p + m) 0) - 97) + 1))]) (st' := [.int (Int32.ofNat (p + m) - Int32.ofNat p)]) (h1 := am_h w g) rfl ?_
        rw [show (Int32.ofNat (p + m) - Int32.ofNat p : Int32) = Int32.ofNat ((p + m) - p) from am_sub (by omega)]
        refine am_R.ites 2 (P := 8 ≤ Int32.ofNat ((p + m) - p)) (T := 75) (F := 70) (lv' := [some (.ref 1021), some (.int (Int32.ofNat p)), some (.int (Int32.ofNat e)), some (.long ((32 * (aw_co tx p m).1) + ((((tx.getD (p + m) 0) - 97) + 1)).toInt64)), none, some (.long ((aw_co tx p m).2)), none, some (.int (Int32.ofNat (p + m))), some (.int (((tx.getD (p + m) 0) - 97) + 1))]) (st' := []) (h1 := am_h w g) rfl (fun b67 => ?_) (fun b67 => ?_)
        · have b67 : 8 ≤ ((p + m) - p) := (am_leN (i := 8) (n := ((p + m) - p)) (by omega) (by omega)).mp b67
          refine am_R.nxs 8 (pc' := 90) (lv' := [some (.ref 1021), some (.int (Int32.ofNat p)), some (.int (Int32.ofNat e)), some (.long ((32 * (aw_co tx p m).1) + ((((tx.getD (p + m) 0) - 97) + 1)).toInt64)), none, some (.long ((32 * (aw_co tx p m).2) + ((((tx.getD (p + m) 0) - 97) + 1)).toInt64)), none, some (.int (Int32.ofNat (p + m) + 1)), some (.int (((tx.getD (p + m) 0) - 97) + 1))]) (st' := []) (h1 := am_h w g) rfl ?_
          rw [show (Int32.ofNat (p + m) + 1 : Int32) = Int32.ofNat ((p + m) + 1) from am_add (p + m) 1]
          refine am_R.nxs 1 (pc' := 18) (lv' := [some (.ref 1021), some (.int (Int32.ofNat p)), some (.int (Int32.ofNat e)), some (.long ((32 * (aw_co tx p m).1) + ((((tx.getD (p + m) 0) - 97) + 1)).toInt64)), none, some (.long ((32 * (aw_co tx p m).2) + ((((tx.getD (p + m) 0) - 97) + 1)).toInt64)), none, some (.int (Int32.ofNat ((p + m) + 1))), some (.int (((tx.getD (p + m) 0) - 97) + 1))]) (st' := []) (h1 := am_h w g) rfl ?_
          omega
        · have b67 : ¬ 8 ≤ ((p + m) - p) := fun hq9 => b67 ((am_leN (i := 8) (n := ((p + m) - p)) (by omega) (by omega)).mpr hq9)
          refine am_R.nxs 4 (pc' := 90) (lv' := [some (.ref 1021), some (.int (Int32.ofNat p)), some (.int (Int32.ofNat e)), some (.long ((32 * (aw_co tx p m).1) + ((((tx.getD (p + m) 0) - 97) + 1)).toInt64)), none, some (.long ((aw_co tx p m).2)), none, some (.int (Int32.ofNat (p + m) + 1)), some (.int (((tx.getD (p + m) 0) - 97) + 1))]) (st' := []) (h1 := am_h w g) rfl ?_
          rw [show (Int32.ofNat (p + m) + 1 : Int32) = Int32.ofNat ((p + m) + 1) from am_add (p + m) 1]
          refine am_R.nxs 1 (pc' := 18) (lv' := [some (.ref 1021), some (.int (Int32.ofNat p)), some (.int (Int32.ofNat e)), some (.long ((32 * (aw_co tx p m).1) + ((((tx.getD (p + m) 0) - 97) + 1)).toInt64)), none, some (.long ((aw_co tx p m).2)), none, some (.int (Int32.ofNat ((p + m) + 1))), some (.int (((tx.getD (p + m) 0) - 97) + 1))]) (st' := []) (h1 := am_h w g) rfl ?_
          have q := ih (m + 1) (some (.int (tx.getD (p + m) 0 - 97 + 1))) (by omega)
          rw [show aw_co tx p (m + 1) = (32 * (aw_co tx p m).1 + aw_v tx p m, (aw_co tx p m).2) from if_pos (by omega)] at q
          exact q
theorem aw_k102b {w : Nat → am_C} {g : am_H} (d : Nat) {ft ty wr wd wt sn : Int32} (h21 : w 21 = aw_c21 ft ty wr wd wt sn) (h24 : w 24 = .inr (3, aw_n1.map Value.long)) (h25 : w 25 = .inr (3, aw_n2.map Value.long)) {tx mt : List Int32} (h22 : w 22 = am_I 0 mt) (hmt : mt.length = 120) {tl : Nat} (htl : tl ≤ 120) (heq : ∀ i, i < tl → mt.getD i 0 = tx.getD i 0) {p e : Nat} {a b : Int64} : ∀ n k : Nat, k + n = 37 → am_R d 102 99 [some (.ref 1021), some (.int (Int32.ofNat p)), some (.int (Int32.ofNat e)), some (.long a), none, some (.long b), none, some (.int (aw_fd a b k)), some (.int (Int32.ofNat k))] [] (am_h w g) (.inl (some (.int (aw_fd a b 37)))) (am_h w g) := by
  have l24 : aw_n1.length = 37 := rfl
  have l25 : aw_n2.length = 37 := rfl
  intro n
  induction n with
  | zero =>
    intro k hk
    refine am_R.ites 3 (P := 37 ≤ Int32.ofNat k) (T := 158) (F := 106) (lv' := [some (.ref 1021), some (.int (Int32.ofNat p)), some (.int (Int32.ofNat e)), some (.long a), none, some (.long b), none, some (.int (aw_fd a b k)), some (.int (Int32.ofNat k))]) (st' := []) (h1 := am_h w g) rfl (fun b103 => ?_) (fun b103 => ?_)
    · have b103 : 37 ≤ k := (am_leN (i := 37) (n := k) (by omega) (by omega)).mp b103
      refine am_R.nxs 1 (pc' := 160) (lv' := [some (.ref 1021), some (.int (Int32.ofNat p)), some (.int (Int32.ofNat e)), some (.long a), none, some (.long b), none, some (.int (aw_fd a b k)), some (.int (Int32.ofNat k))]) (st' := [.int (aw_fd a b k)]) (h1 := am_h w g) rfl ?_
      rw [show k = 37 by omega]
      exact am_R.reti rfl rfl rfl
    · have b103 : ¬ 37 ≤ k := fun hq9 => b103 ((am_leN (i := 37) (n := k) (by omega) (by omega)).mpr hq9)
      omega
  | succ n ih =>
    intro k hk
    refine am_R.ites 3 (P := 37 ≤ Int32.ofNat k) (T := 158) (F := 106) (lv' := [some (.ref 1021), some (.int (Int32.ofNat p)), some (.int (Int32.ofNat e)), some (.long a), none, some (.long b), none, some (.int (aw_fd a b k)), some (.int (Int32.ofNat k))]) (st' := []) (h1 := am_h w g) rfl (fun b103 => ?_) (fun b103 => ?_)
    · have b103 : 37 ≤ k := (am_leN (i := 37) (n := k) (by omega) (by omega)).mp b103
      omega
    · have b103 : ¬ 37 ≤ k := fun hq9 => b103 ((am_leN (i := 37) (n := k) (by omega) (by omega)).mpr hq9)
      refine am_R.nxs 1 (pc' := 107) (lv' := [some (.ref 1021), some (.int (Int32.ofNat p)), some (.int (Int32.ofNat e)), some (.long a), none, some (.long b), none, some (.int (aw_fd a b k)), some (.int (Int32.ofNat k))]) (st' := [.ref 1021]) (h1 := am_h w g) rfl ?_
      refine am_R.gf (pc' := 110) (v := .ref 1024) rfl (am_wf 21 (by decide) h21) rfl rfl rfl ?_
      refine am_R.nxs 1 (pc' := 112) (lv' := [some (.ref 1021), some (.int (Int32.ofNat p)), some (.int (Int32.ofNat e)), some (.long a), none, some (.long b), none, some (.int (aw_fd a b k)), some (.int (Int32.ofNat k))]) (st' := [.int (Int32.ofNat k), .ref 1024]) (h1 := am_h w g) rfl ?_
      refine am_R.ldL (i := k) (xs := aw_n1) (pc' := 113) rfl (am_wf 24 (by decide) h24) (by omega) (by omega) rfl ?_
      refine am_R.ites 3 (P := (lg_cmp (aw_n1.getD k 0) 0) ≤ 0) (T := 148) (F := 118) (lv' := [some (.ref 1021), some (.int (Int32.ofNat p)), some (.int (Int32.ofNat e)), some (.long a), none, some (.long b), none, some (.int (aw_fd a b k)), some (.int (Int32.ofNat k))]) (st' := []) (h1 := am_h w g) rfl (fun b115 => ?_) (fun b115 => ?_)
      · refine am_R.nxs 3 (pc' := 155) (lv' := [some (.ref 1021), some (.int (Int32.ofNat p)), some (.int (Int32.ofNat e)), some (.long a), none, some (.long b), none, some (.int (aw_fd a b k)), some (.int (Int32.ofNat k + 1))]) (st' := []) (h1 := am_h w g) rfl ?_
        rw [show (Int32.ofNat k + 1 : Int32) = Int32.ofNat (k + 1) from am_add k 1]
        refine am_R.nxs 1 (pc' := 99) (lv' := [some (.ref 1021), some (.int (Int32.ofNat p)), some (.int (Int32.ofNat e)), some (.long a), none, some (.long b), none, some (.int (aw_fd a b k)), some (.int (Int32.ofNat (k + 1)))]) (st' := []) (h1 := am_h w g) rfl ?_
        have q := ih (k + 1) (by omega)
        rw [show aw_fd a b (k + 1) = aw_fd a b k from if_pos b115] at q
        exact q
      · refine am_R.nxs 1 (pc' := 119) (lv' := [some (.ref 1021), some (.int (Int32.ofNat p)), some (.int (Int32.ofNat e)), some (.long a), none, some (.long b), none, some (.int (aw_fd a b k)), some (.int (Int32.ofNat k))]) (st' := [.ref 1021]) (h1 := am_h w g) rfl ?_
        refine am_R.gf (pc' := 122) (v := .ref 1024) rfl (am_wf 21 (by decide) h21) rfl rfl rfl ?_
        refine am_R.nxs 1 (pc' := 124) (lv' := [some (.ref 1021), some (.int (Int32.ofNat p)), some (.int (Int32.ofNat e)), some (.long a), none, some (.long b), none, some (.int (aw_fd a b k)), some (.int (Int32.ofNat k))]) (st' := [.int (Int32.ofNat k), .ref 1024]) (h1 := am_h w g) rfl ?_
        refine am_R.ldL (i := k) (xs := aw_n1) (pc' := 125) rfl (am_wf 24 (by decide) h24) (by omega) (by omega) rfl ?_
        refine am_R.ites 3 (P := ¬ (lg_cmp (aw_n1.getD k 0) a) = 0) (T := 148) (F := 130) (lv' := [some (.ref 1021), some (.int (Int32.ofNat p)), some (.int (Int32.ofNat e)), some (.long a), none, some (.long b), none, some (.int (aw_fd a b k)), some (.int (Int32.ofNat k))]) (st' := []) (h1 := am_h w g) rfl (fun b127 => ?_) (fun b127 => ?_)
        · refine am_R.nxs 3 (pc' := 155) (lv' := [some (.ref 1021), some (.int (Int32.ofNat p)), some (.int (Int32.ofNat e)), some (.long a), none, some (.long b), none, some (.int (aw_fd a b k)), some (.int (Int32.ofNat k + 1))]) (st' := []) (h1 := am_h w g) rfl ?_
          rw [show (Int32.ofNat k + 1 : Int32) = Int32.ofNat (k + 1) from am_add k 1]
          refine am_R.nxs 1 (pc' := 99) (lv' := [some (.ref 1021), some (.int (Int32.ofNat p)), some (.int (Int32.ofNat e)), some (.long a), none, some (.long b), none, some (.int (aw_fd a b k)), some (.int (Int32.ofNat (k + 1)))]) (st' := []) (h1 := am_h w g) rfl ?_
          have q := ih (k + 1) (by omega)
          rw [show aw_fd a b (k + 1) = aw_fd a b k from (if_neg b115).trans (if_pos b127)] at q
          exact q
        · refine am_R.nxs 1 (pc' := 131) (lv' := [some (.ref 1021), some (.int (Int32.ofNat p)), some (.int (Int32.ofNat e)), some (.long a), none, some (.long b), none, some (.int (aw_fd a b k)), some (.int (Int32.ofNat k))]) (st' := [.ref 1021]) (h1 := am_h w g) rfl ?_
          refine am_R.gf (pc' := 134) (v := .ref 1025) rfl (am_wf 21 (by decide) h21) rfl rfl rfl ?_
          refine am_R.nxs 1 (pc' := 136) (lv' := [some (.ref 1021), some (.int (Int32.ofNat p)), some (.int (Int32.ofNat e)), some (.long a), none, some (.long b), none, some (.int (aw_fd a b k)), some (.int (Int32.ofNat k))]) (st' := [.int (Int32.ofNat k), .ref 1025]) (h1 := am_h w g) rfl ?_
          refine am_R.ldL (i := k) (xs := aw_n2) (pc' := 137) rfl (am_wf 25 (by decide) h25) (by omega) (by omega) rfl ?_
          refine am_R.ites 3 (P := ¬ (lg_cmp (aw_n2.getD k 0) b) = 0) (T := 148) (F := 143) (lv' := [some (.ref 1021), some (.int (Int32.ofNat p)), some (.int (Int32.ofNat e)), some (.long a), none, some (.long b), none, some (.int (aw_fd a b k)), some (.int (Int32.ofNat k))]) (st' := []) (h1 := am_h w g) rfl (fun b140 => ?_) (fun b140 => ?_)
          · refine am_R.nxs 3 (pc' := 155) (lv' := [some (.ref 1021), some (.int (Int32.ofNat p)), some (.int (Int32.ofNat e)), some (.long a), none, some (.long b), none, some (.int (aw_fd a b k)), some (.int (Int32.ofNat k + 1))]) (st' := []) (h1 := am_h w g) rfl ?_
            rw [show (Int32.ofNat k + 1 : Int32) = Int32.ofNat (k + 1) from am_add k 1]
            refine am_R.nxs 1 (pc' := 99) (lv' := [some (.ref 1021), some (.int (Int32.ofNat p)), some (.int (Int32.ofNat e)), some (.long a), none, some (.long b), none, some (.int (aw_fd a b k)), some (.int (Int32.ofNat (k + 1)))]) (st' := []) (h1 := am_h w g) rfl ?_
            have q := ih (k + 1) (by omega)
            rw [show aw_fd a b (k + 1) = aw_fd a b k from (if_neg b115).trans ((if_neg b127).trans (if_pos b140))] at q
            exact q
          · refine am_R.nxs 4 (pc' := 155) (lv' := [some (.ref 1021), some (.int (Int32.ofNat p)), some (.int (Int32.ofNat e)), some (.long a), none, some (.long b), none, some (.int (Int32.ofNat k)), some (.int (Int32.ofNat k + 1))]) (st' := []) (h1 := am_h w g) rfl ?_
            rw [show (Int32.ofNat k + 1 : Int32) = Int32.ofNat (k + 1) from am_add k 1]
            refine am_R.nxs 1 (pc' := 99) (lv' := [some (.ref 1021), some (.int (Int32.ofNat p)), some (.int (Int32.ofNat e)), some (.long a), none, some (.long b), none, some (.int (Int32.ofNat k)), some (.int (Int32.ofNat (k + 1)))]) (st' := []) (h1 := am_h w g) rfl ?_
            have q := ih (k + 1) (by omega)
            rw [show aw_fd a b (k + 1) = Int32.ofNat k from (if_neg b115).trans ((if_neg b127).trans (if_neg b140))] at q
            exact q
theorem aw_k102 {w : Nat → am_C} {g : am_H} (d : Nat) {ft ty wr wd wt sn : Int32} (h21 : w 21 = aw_c21 ft ty wr wd wt sn) (h24 : w 24 = .inr (3, aw_n1.map Value.long)) (h25 : w 25 = .inr (3, aw_n2.map Value.long)) {tx mt : List Int32} (h22 : w 22 = am_I 0 mt) (hmt : mt.length = 120) {tl : Nat} (htl : tl ≤ 120) (heq : ∀ i, i < tl → mt.getD i 0 = tx.getD i 0) {p e : Nat} (hp : p < e) (he : e ≤ tl) (hL : ∀ k, p ≤ k → k < e → aw_let (tx.getD k 0) = true) : am_R d 102 0 [some (.ref 1021), some (.int (Int32.ofNat p)), some (.int (Int32.ofNat e)), none, none, none, none, none, none] [] (am_h w g) (.inl (some (.int (aw_tau (aw_wd tx p e))))) (am_h w g) := by
  refine am_R.nxs 3 (pc' := 3) (lv' := [some (.ref 1021), some (.int (Int32.ofNat p)), some (.int (Int32.ofNat e)), none, none, none, none, none, none]) (st' := [.int (Int32.ofNat e - Int32.ofNat p)]) (h1 := am_h w g) rfl ?_
  rw [show (Int32.ofNat e - Int32.ofNat p : Int32) = Int32.ofNat (e - p) from am_sub (by omega)]
  refine am_R.ites 2 (P := Int32.ofNat (e - p) ≤ 16) (T := 10) (F := 8) (lv' := [some (.ref 1021), some (.int (Int32.ofNat p)), some (.int (Int32.ofNat e)), none, none, none, none, none, none]) (st' := []) (h1 := am_h w g) rfl (fun b5 => ?_) (fun b5 => ?_)
  · have b5 : (e - p) ≤ 16 := (am_leN (i := (e - p)) (n := 16) (by omega) (by omega)).mp b5
    refine am_R.nxs 6 (pc' := 18) (lv' := [some (.ref 1021), some (.int (Int32.ofNat p)), some (.int (Int32.ofNat e)), some (.long 0), none, some (.long 0), none, some (.int (Int32.ofNat p)), none]) (st' := []) (h1 := am_h w g) rfl ?_
    refine aw_k102a d h21 h24 h25 h22 hmt htl heq hp he (fun y => ?_) (e - p) 0 none (by omega)
    refine am_R.nxs 4 (pc' := 99) (lv' := [some (.ref 1021), some (.int (Int32.ofNat p)), some (.int (Int32.ofNat e)), some (.long (aw_co tx p (e - p)).1), none, some (.long (aw_co tx p (e - p)).2), none, some (.int (-1)), some (.int 0)]) (st' := []) (h1 := am_h w g) rfl ?_
    rw [← aw_find hp (by omega) hL]
    exact aw_k102b d h21 h24 h25 h22 hmt htl heq 37 0 rfl
  · have b5 : ¬ (e - p) ≤ 16 := fun hq9 => b5 ((am_leN (i := (e - p)) (n := 16) (by omega) (by omega)).mpr hq9)
    refine am_R.nxs 1 (pc' := 9) (lv' := [some (.ref 1021), some (.int (Int32.ofNat p)), some (.int (Int32.ofNat e)), none, none, none, none, none, none]) (st' := [.int (-1)]) (h1 := am_h w g) rfl ?_
    rw [aw_long hp (by omega)]
    exact am_R.reti rfl rfl rfl
/-- the reference holds the words Q, then S -/
def aw_mw (w : Nat → am_C) (ft ty wr wt sn : Int32) (Q : List Nat) (S : List Int32) : Nat → am_C := am_pu (am_pu w 32 (am_I 0 (Q.map aw_tau ++ S))) 21 (aw_c21 ft ty wr (Int32.ofNat Q.length) wt sn)
theorem aw_mw21 {w : Nat → am_C} {ft ty wr wt sn : Int32} {Q : List Nat} {S : List Int32} : aw_mw w ft ty wr wt sn Q S 21 = aw_c21 ft ty wr (Int32.ofNat Q.length) wt sn := am_pu_eq _ _ _
theorem aw_mw32 {w : Nat → am_C} {ft ty wr wt sn : Int32} {Q : List Nat} {S : List Int32} : aw_mw w ft ty wr wt sn Q S 32 = am_I 0 (Q.map aw_tau ++ S) := by
  unfold aw_mw
  rw [am_pu_ne (by decide)]
  exact am_pu_eq _ _ _
theorem aw_mw_other {w : Nat → am_C} {ft ty wr wt sn : Int32} {Q : List Nat} {S : List Int32} {k : Nat} {c : am_C} (h5 : k ≠ 21) (h6 : k ≠ 32) (e : w k = c) : aw_mw w ft ty wr wt sn Q S k = c := by
  unfold aw_mw
  rw [am_pu_ne h5, am_pu_ne h6, e]
theorem aw_mw_put {w : Nat → am_C} {j : Nat} {ft ty wr wt sn v : Int32} {Q : List Nat} {S : List Int32} (hS : 0 < S.length) (hv : v = aw_tau j) : am_pu (am_pu (aw_mw w ft ty wr wt sn Q S) 32 (am_I 0 ((Q.map aw_tau ++ S).set Q.length v))) 21 (aw_c21 ft ty wr (Int32.ofNat (Q.length + 1)) wt sn) = aw_mw w ft ty wr wt sn (Q ++ [j]) (S.drop 1) := by
  have e : (Q.map aw_tau ++ S).set Q.length v = (Q ++ [j]).map aw_tau ++ S.drop 1 := by
    have hq : Q.length = (Q.map aw_tau).length := (List.length_map ..).symm
    cases S with
    | nil => cases hS
    | cons a S =>
      rw [hq, hv]
      simp
  rw [e]
  funext k
  simp only [aw_mw, am_pu, List.length_append, List.length_singleton]
  (repeat' split) <;> first | rfl | omega
theorem aw_run_let {tx : List Int32} {tl : Nat} : ∀ n e k, e ≤ k → k < aw_run tx tl n e → aw_let (tx.getD k 0) = true := by
  intro n
  induction n with
  | zero =>
    intro e k h1 h2
    rw [aw_run] at h2
    omega
  | succ n ih =>
    intro e k h1 h2
    rw [aw_run] at h2
    split at h2
    · rename_i h
      by_cases hk : k = e
      · subst hk
        exact h.2
      · exact ih (e + 1) k (by omega) h2
    · omega
theorem aw_run_more {tx : List Int32} {tl : Nat} : ∀ n e, e < tl → tl ≤ e + n → aw_let (tx.getD e 0) = true → aw_run tx tl n e = aw_run tx tl tl (e + 1) := by
  have hh : ∀ n m e, tl ≤ e + n → tl ≤ e + m → aw_run tx tl n e = aw_run tx tl m e := by
    intro n
    induction n with
    | zero =>
      intro m e h1 h2
      cases m with
      | zero => rfl
      | succ m => rw [aw_run, aw_run, if_neg (fun q => absurd q.1 (by omega))]
    | succ n ih =>
      intro m e h1 h2
      cases m with
      | zero => rw [aw_run, aw_run, if_neg (fun q => absurd q.1 (by omega))]
      | succ m =>
        rw [aw_run, aw_run]
        split
        · exact ih m (e + 1) (by omega) (by omega)
        · rfl
  intro n e h1 h2 h3
  cases n with
  | zero => omega
  | succ n =>
    rw [aw_run, if_pos ⟨h1, h3⟩]
    exact hh _ _ _ (by omega) (by omega)
theorem aw_run_stop {tx : List Int32} {tl : Nat} (n e : Nat) (h : ¬ aw_let (tx.getD e 0) = true) : aw_run tx tl n e = e := by
  cases n with
  | zero => rfl
  | succ n => exact if_neg (fun q => h q.2)
theorem aw_k100i {w : Nat → am_C} {g : am_H} (d : Nat) {ft wr wt sn : Int32} (h24 : w 24 = .inr (3, aw_n1.map Value.long)) (h25 : w 25 = .inr (3, aw_n2.map Value.long)) {tx mt : List Int32} (h22 : w 22 = am_I 0 mt) (hmt : mt.length = 120) {tl : Nat} (htl : tl ≤ 120) (heq : ∀ i, i < tl → mt.getD i 0 = tx.getD i 0) {Q : List Nat} {S : List Int32} (p : Nat) {o : am_O} {h' : am_H} : ∀ n e : Nat, tl ≤ e + n → e ≤ tl → am_R (d + 1) 100 43 [some (.ref 1021), some (.int (Int32.ofNat p)), some (.int (Int32.ofNat (aw_run tx tl n e)))] [] (am_h (aw_mw w ft (Int32.ofNat tl) wr wt sn Q S) g) o h' → am_R (d + 1) 100 17 [some (.ref 1021), some (.int (Int32.ofNat p)), some (.int (Int32.ofNat e))] [] (am_h (aw_mw w ft (Int32.ofNat tl) wr wt sn Q S) g) o h' := by
  intro n
  induction n with
  | zero =>
    intro e he hel k
    refine am_R.nxs 2 (pc' := 19) (lv' := [some (.ref 1021), some (.int (Int32.ofNat p)), some (.int (Int32.ofNat e))]) (st' := [.ref 1021, .int (Int32.ofNat e)]) (h1 := am_h (aw_mw w ft (Int32.ofNat tl) wr wt sn Q S) g) rfl ?_
    refine am_R.gf (pc' := 22) (v := .int (Int32.ofNat tl)) rfl (am_wf 21 (by decide) (aw_mw21 : (aw_mw w ft (Int32.ofNat tl) wr wt sn Q S) 21 = _)) rfl rfl rfl ?_
    refine am_R.ites 1 (P := Int32.ofNat tl ≤ Int32.ofNat e) (T := 43) (F := 25) (lv' := [some (.ref 1021), some (.int (Int32.ofNat p)), some (.int (Int32.ofNat e))]) (st' := []) (h1 := am_h (aw_mw w ft (Int32.ofNat tl) wr wt sn Q S) g) rfl (fun b22 => ?_) (fun b22 => ?_)
    · have b22 : tl ≤ e := (am_leN (i := tl) (n := e) (by omega) (by omega)).mp b22
      exact k
    · have b22 : ¬ tl ≤ e := fun hq9 => b22 ((am_leN (i := tl) (n := e) (by omega) (by omega)).mpr hq9)
      omega
  | succ n ih =>
    intro e he hel k
    refine am_R.nxs 2 (pc' := 19) (lv' := [some (.ref 1021), some (.int (Int32.ofNat p)), some (.int (Int32.ofNat e))]) (st' := [.ref 1021, .int (Int32.ofNat e)]) (h1 := am_h (aw_mw w ft (Int32.ofNat tl) wr wt sn Q S) g) rfl ?_
    refine am_R.gf (pc' := 22) (v := .int (Int32.ofNat tl)) rfl (am_wf 21 (by decide) (aw_mw21 : (aw_mw w ft (Int32.ofNat tl) wr wt sn Q S) 21 = _)) rfl rfl rfl ?_
    refine am_R.ites 1 (P := Int32.ofNat tl ≤ Int32.ofNat e) (T := 43) (F := 25) (lv' := [some (.ref 1021), some (.int (Int32.ofNat p)), some (.int (Int32.ofNat e))]) (st' := []) (h1 := am_h (aw_mw w ft (Int32.ofNat tl) wr wt sn Q S) g) rfl (fun b22 => ?_) (fun b22 => ?_)
    · have b22 : tl ≤ e := (am_leN (i := tl) (n := e) (by omega) (by omega)).mp b22
      rw [show aw_run tx tl (n + 1) e = e from if_neg (fun q => absurd q.1 (by omega))] at k
      exact k
    · have b22 : ¬ tl ≤ e := fun hq9 => b22 ((am_leN (i := tl) (n := e) (by omega) (by omega)).mpr hq9)
      refine am_R.nxs 1 (pc' := 26) (lv' := [some (.ref 1021), some (.int (Int32.ofNat p)), some (.int (Int32.ofNat e))]) (st' := [.ref 1021]) (h1 := am_h (aw_mw w ft (Int32.ofNat tl) wr wt sn Q S) g) rfl ?_
      refine am_R.gf (pc' := 29) (v := .ref 1022) rfl (am_wf 21 (by decide) (aw_mw21 : (aw_mw w ft (Int32.ofNat tl) wr wt sn Q S) 21 = _)) rfl rfl rfl ?_
      refine am_R.nxs 1 (pc' := 30) (lv' := [some (.ref 1021), some (.int (Int32.ofNat p)), some (.int (Int32.ofNat e))]) (st' := [.int (Int32.ofNat e), .ref 1022]) (h1 := am_h (aw_mw w ft (Int32.ofNat tl) wr wt sn Q S) g) rfl ?_
      refine am_R.ldi (i := e) (xs := mt) (pc' := 31) rfl (am_wf 22 (by decide) (aw_mw_other (by decide) (by decide) h22 : (aw_mw w ft (Int32.ofNat tl) wr wt sn Q S) 22 = _)) (by omega) (by omega) rfl ?_
      rw [heq _ (by omega)]
      refine am_R.cs (mj := 101) (as := [.int (tx.getD e 0)]) (r := []) (v := some (.int (if aw_let (tx.getD e 0) = true then 1 else 0))) (h1 := am_h (aw_mw w ft (Int32.ofNat tl) wr wt sn Q S) g) (pc' := 34) rfl (aw_k101 d _ _) rfl ?_
      refine am_R.ites 1 (P := (if aw_let (tx.getD e 0) = true then 1 else 0) = 0) (T := 43) (F := 37) (lv' := [some (.ref 1021), some (.int (Int32.ofNat p)), some (.int (Int32.ofNat e))]) (st' := []) (h1 := am_h (aw_mw w ft (Int32.ofNat tl) wr wt sn Q S) g) rfl (fun b34 => ?_) (fun b34 => ?_)
      · rw [show aw_run tx tl (n + 1) e = e from if_neg (fun q => aw_ltN b34 q.2)] at k
        exact k
      · refine am_R.nxs 1 (pc' := 40) (lv' := [some (.ref 1021), some (.int (Int32.ofNat p)), some (.int (Int32.ofNat e + 1))]) (st' := []) (h1 := am_h (aw_mw w ft (Int32.ofNat tl) wr wt sn Q S) g) rfl ?_
        rw [show (Int32.ofNat e + 1 : Int32) = Int32.ofNat (e + 1) from am_add e 1]
        refine am_R.nxs 1 (pc' := 17) (lv' := [some (.ref 1021), some (.int (Int32.ofNat p)), some (.int (Int32.ofNat (e + 1)))]) (st' := []) (h1 := am_h (aw_mw w ft (Int32.ofNat tl) wr wt sn Q S) g) rfl ?_
        rw [show aw_run tx tl (n + 1) e = aw_run tx tl n (e + 1) from if_pos ⟨by omega, aw_ltI b34⟩] at k
        exact ih (e + 1) (by omega) (by omega) k
theorem aw_k100l {w : Nat → am_C} {g : am_H} (d : Nat) {ft wr wt sn : Int32} (h24 : w 24 = .inr (3, aw_n1.map Value.long)) (h25 : w 25 = .inr (3, aw_n2.map Value.long)) {tx mt : List Int32} (h22 : w 22 = am_I 0 mt) (hmt : mt.length = 120) {tl : Nat} (htl : tl ≤ 120) (heq : ∀ i, i < tl → mt.getD i 0 = tx.getD i 0) : ∀ (n p : Nat) (Q : List Nat) (S : List Int32) (x2 : Option Value), tl ≤ p + n → p ≤ tl → Q.length ≤ p → Q.length + S.length = 120 → am_R (d + 1) 100 7 [some (.ref 1021), some (.int (Int32.ofNat p)), x2] [] (am_h (aw_mw w ft (Int32.ofNat tl) wr wt sn Q S) g) (.inl none) (am_h (aw_mw w ft 0 wr wt sn (Q ++ aw_tok tx tl n p) (S.drop (aw_tok tx tl n p).length)) g) := by
  intro n
  induction n with
  | zero =>
    intro p Q S x2 hp hpl hq hs
    refine am_R.nxs 2 (pc' := 9) (lv' := [some (.ref 1021), some (.int (Int32.ofNat p)), x2]) (st' := [.ref 1021, .int (Int32.ofNat p)]) (h1 := am_h (aw_mw w ft (Int32.ofNat tl) wr wt sn Q S) g) rfl ?_
    refine am_R.gf (pc' := 12) (v := .int (Int32.ofNat tl)) rfl (am_wf 21 (by decide) (aw_mw21 : (aw_mw w ft (Int32.ofNat tl) wr wt sn Q S) 21 = _)) rfl rfl rfl ?_
    refine am_R.ites 1 (P := Int32.ofNat tl ≤ Int32.ofNat p) (T := 147) (F := 15) (lv' := [some (.ref 1021), some (.int (Int32.ofNat p)), x2]) (st' := []) (h1 := am_h (aw_mw w ft (Int32.ofNat tl) wr wt sn Q S) g) rfl (fun b12 => ?_) (fun b12 => ?_)
    · have b12 : tl ≤ p := (am_leN (i := tl) (n := p) (by omega) (by omega)).mp b12
      refine am_R.nxs 2 (pc' := 149) (lv' := [some (.ref 1021), some (.int (Int32.ofNat p)), x2]) (st' := [.int 0, .ref 1021]) (h1 := am_h (aw_mw w ft (Int32.ofNat tl) wr wt sn Q S) g) rfl ?_
      refine am_R.pf (k := 1) (pc' := 152) rfl (am_wf 21 (by decide) (aw_mw21 : (aw_mw w ft (Int32.ofNat tl) wr wt sn Q S) 21 = _)) rfl (Nat.le_of_ble_eq_true rfl) rfl (fun q => by cases q) (am_ws (k := 21) (by decide) (by decide)) rfl ?_
      have e0 : am_pu (aw_mw w ft (Int32.ofNat tl) wr wt sn Q S) 21 (aw_c21 ft 0 wr (Int32.ofNat Q.length) wt sn) = aw_mw w ft 0 wr wt sn Q S := by
        funext k
        simp only [aw_mw, am_pu]
        (repeat' split) <;> first | rfl | omega
      rw [show aw_tok tx tl 0 p = [] from rfl, List.append_nil, List.length_nil, List.drop_zero, ← e0]
      exact am_R.ret rfl rfl
    · have b12 : ¬ tl ≤ p := fun hq9 => b12 ((am_leN (i := tl) (n := p) (by omega) (by omega)).mpr hq9)
      omega
  | succ n ih =>
    intro p Q S x2 hp hpl hq hs
    refine am_R.nxs 2 (pc' := 9) (lv' := [some (.ref 1021), some (.int (Int32.ofNat p)), x2]) (st' := [.ref 1021, .int (Int32.ofNat p)]) (h1 := am_h (aw_mw w ft (Int32.ofNat tl) wr wt sn Q S) g) rfl ?_
    refine am_R.gf (pc' := 12) (v := .int (Int32.ofNat tl)) rfl (am_wf 21 (by decide) (aw_mw21 : (aw_mw w ft (Int32.ofNat tl) wr wt sn Q S) 21 = _)) rfl rfl rfl ?_
    refine am_R.ites 1 (P := Int32.ofNat tl ≤ Int32.ofNat p) (T := 147) (F := 15) (lv' := [some (.ref 1021), some (.int (Int32.ofNat p)), x2]) (st' := []) (h1 := am_h (aw_mw w ft (Int32.ofNat tl) wr wt sn Q S) g) rfl (fun b12 => ?_) (fun b12 => ?_)
    · have b12 : tl ≤ p := (am_leN (i := tl) (n := p) (by omega) (by omega)).mp b12
      refine am_R.nxs 2 (pc' := 149) (lv' := [some (.ref 1021), some (.int (Int32.ofNat p)), x2]) (st' := [.int 0, .ref 1021]) (h1 := am_h (aw_mw w ft (Int32.ofNat tl) wr wt sn Q S) g) rfl ?_
      refine am_R.pf (k := 1) (pc' := 152) rfl (am_wf 21 (by decide) (aw_mw21 : (aw_mw w ft (Int32.ofNat tl) wr wt sn Q S) 21 = _)) rfl (Nat.le_of_ble_eq_true rfl) rfl (fun q => by cases q) (am_ws (k := 21) (by decide) (by decide)) rfl ?_
      have e0 : am_pu (aw_mw w ft (Int32.ofNat tl) wr wt sn Q S) 21 (aw_c21 ft 0 wr (Int32.ofNat Q.length) wt sn) = aw_mw w ft 0 wr wt sn Q S := by
        funext k
        simp only [aw_mw, am_pu]
        (repeat' split) <;> first | rfl | omega
      rw [show aw_tok tx tl (n + 1) p = [] from if_pos (by omega), List.append_nil, List.length_nil, List.drop_zero, ← e0]
      exact am_R.ret rfl rfl
    · have b12 : ¬ tl ≤ p := fun hq9 => b12 ((am_leN (i := tl) (n := p) (by omega) (by omega)).mpr hq9)
      refine am_R.nxs 2 (pc' := 17) (lv' := [some (.ref 1021), some (.int (Int32.ofNat p)), some (.int (Int32.ofNat p))]) (st' := []) (h1 := am_h (aw_mw w ft (Int32.ofNat tl) wr wt sn Q S) g) rfl ?_
      have hrun := aw_run_le (tx := tx) (tl := tl) tl p (by omega)
      have hln : (Q.map aw_tau ++ S).length = 120 := by rw [List.length_append, List.length_map]; exact hs
      refine aw_k100i d h24 h25 h22 hmt htl heq p tl p (by omega) (by omega) ?_
      refine am_R.ites 3 (P := Int32.ofNat (aw_run tx tl tl p) ≤ Int32.ofNat p) (T := 78) (F := 48) (lv' := [some (.ref 1021), some (.int (Int32.ofNat p)), some (.int (Int32.ofNat (aw_run tx tl tl p)))]) (st' := []) (h1 := am_h (aw_mw w ft (Int32.ofNat tl) wr wt sn Q S) g) rfl (fun b45 => ?_) (fun b45 => ?_)
      · have b45 : (aw_run tx tl tl p) ≤ p := (am_leN (i := (aw_run tx tl tl p)) (n := p) (by omega) (by omega)).mp b45
        refine am_R.nxs 1 (pc' := 79) (lv' := [some (.ref 1021), some (.int (Int32.ofNat p)), some (.int (Int32.ofNat (aw_run tx tl tl p)))]) (st' := [.ref 1021]) (h1 := am_h (aw_mw w ft (Int32.ofNat tl) wr wt sn Q S) g) rfl ?_
        refine am_R.gf (pc' := 82) (v := .ref 1022) rfl (am_wf 21 (by decide) (aw_mw21 : (aw_mw w ft (Int32.ofNat tl) wr wt sn Q S) 21 = _)) rfl rfl rfl ?_
        refine am_R.nxs 1 (pc' := 83) (lv' := [some (.ref 1021), some (.int (Int32.ofNat p)), some (.int (Int32.ofNat (aw_run tx tl tl p)))]) (st' := [.int (Int32.ofNat p), .ref 1022]) (h1 := am_h (aw_mw w ft (Int32.ofNat tl) wr wt sn Q S) g) rfl ?_
        refine am_R.ldi (i := p) (xs := mt) (pc' := 84) rfl (am_wf 22 (by decide) (aw_mw_other (by decide) (by decide) h22 : (aw_mw w ft (Int32.ofNat tl) wr wt sn Q S) 22 = _)) (by omega) (by omega) rfl ?_
        rw [heq _ (by omega)]
        refine am_R.ites 2 (P := (tx.getD p 0) = 32) (T := 141) (F := 89) (lv' := [some (.ref 1021), some (.int (Int32.ofNat p)), some (.int (Int32.ofNat (aw_run tx tl tl p)))]) (st' := []) (h1 := am_h (aw_mw w ft (Int32.ofNat tl) wr wt sn Q S) g) rfl (fun b86 => ?_) (fun b86 => ?_)
        · refine am_R.nxs 1 (pc' := 144) (lv' := [some (.ref 1021), some (.int (Int32.ofNat p + 1)), some (.int (Int32.ofNat (aw_run tx tl tl p)))]) (st' := []) (h1 := am_h (aw_mw w ft (Int32.ofNat tl) wr wt sn Q S) g) rfl ?_
          rw [show (Int32.ofNat p + 1 : Int32) = Int32.ofNat (p + 1) from am_add p 1]
          refine am_R.nxs 1 (pc' := 7) (lv' := [some (.ref 1021), some (.int (Int32.ofNat (p + 1))), some (.int (Int32.ofNat (aw_run tx tl tl p)))]) (st' := []) (h1 := am_h (aw_mw w ft (Int32.ofNat tl) wr wt sn Q S) g) rfl ?_
          have hnl : ¬ aw_let (tx.getD p 0) = true := by
            intro z
            have z2 := aw_run_more (tx := tx) (tl := tl) tl p (by omega) (by omega) z
            have z3 := aw_run_le (tx := tx) (tl := tl) tl (p + 1) (by omega)
            omega
          have hr1 := aw_run_stop (tl := tl) tl p hnl
          rw [hr1, show aw_tok tx tl (n + 1) p = aw_tok tx tl n (p + 1) from (if_neg (by omega)).trans ((if_neg hnl).trans (if_pos b86))]
          exact ih (p + 1) Q S _ (by omega) (by omega) (by omega) hs
        · refine am_R.nxs 1 (pc' := 90) (lv' := [some (.ref 1021), some (.int (Int32.ofNat p)), some (.int (Int32.ofNat (aw_run tx tl tl p)))]) (st' := [.ref 1021]) (h1 := am_h (aw_mw w ft (Int32.ofNat tl) wr wt sn Q S) g) rfl ?_
          refine am_R.gf (pc' := 93) (v := .ref 1032) rfl (am_wf 21 (by decide) (aw_mw21 : (aw_mw w ft (Int32.ofNat tl) wr wt sn Q S) 21 = _)) rfl rfl rfl ?_
          refine am_R.nxs 1 (pc' := 94) (lv' := [some (.ref 1021), some (.int (Int32.ofNat p)), some (.int (Int32.ofNat (aw_run tx tl tl p)))]) (st' := [.ref 1021, .ref 1032]) (h1 := am_h (aw_mw w ft (Int32.ofNat tl) wr wt sn Q S) g) rfl ?_
          refine am_R.gf (pc' := 97) (v := .int (Int32.ofNat Q.length)) rfl (am_wf 21 (by decide) (aw_mw21 : (aw_mw w ft (Int32.ofNat tl) wr wt sn Q S) 21 = _)) rfl rfl rfl ?_
          refine am_R.nxs 1 (pc' := 98) (lv' := [some (.ref 1021), some (.int (Int32.ofNat p)), some (.int (Int32.ofNat (aw_run tx tl tl p)))]) (st' := [.ref 1021, .int (Int32.ofNat Q.length), .ref 1032]) (h1 := am_h (aw_mw w ft (Int32.ofNat tl) wr wt sn Q S) g) rfl ?_
          refine am_R.gf (pc' := 101) (v := .ref 1022) rfl (am_wf 21 (by decide) (aw_mw21 : (aw_mw w ft (Int32.ofNat tl) wr wt sn Q S) 21 = _)) rfl rfl rfl ?_
          refine am_R.nxs 1 (pc' := 102) (lv' := [some (.ref 1021), some (.int (Int32.ofNat p)), some (.int (Int32.ofNat (aw_run tx tl tl p)))]) (st' := [.int (Int32.ofNat p), .ref 1022, .int (Int32.ofNat Q.length), .ref 1032]) (h1 := am_h (aw_mw w ft (Int32.ofNat tl) wr wt sn Q S) g) rfl ?_
          refine am_R.ldi (i := p) (xs := mt) (pc' := 103) rfl (am_wf 22 (by decide) (aw_mw_other (by decide) (by decide) h22 : (aw_mw w ft (Int32.ofNat tl) wr wt sn Q S) 22 = _)) (by omega) (by omega) rfl ?_
          rw [heq _ (by omega)]
          refine am_R.ites 2 (P := ¬ (tx.getD p 0) = 40) (T := 113) (F := 108) (lv' := [some (.ref 1021), some (.int (Int32.ofNat p)), some (.int (Int32.ofNat (aw_run tx tl tl p)))]) (st' := [.int (Int32.ofNat Q.length), .ref 1032]) (h1 := am_h (aw_mw w ft (Int32.ofNat tl) wr wt sn Q S) g) rfl (fun b105 => ?_) (fun b105 => ?_)
          · refine am_R.nxs 1 (pc' := 114) (lv' := [some (.ref 1021), some (.int (Int32.ofNat p)), some (.int (Int32.ofNat (aw_run tx tl tl p)))]) (st' := [.ref 1021, .int (Int32.ofNat Q.length), .ref 1032]) (h1 := am_h (aw_mw w ft (Int32.ofNat tl) wr wt sn Q S) g) rfl ?_
            refine am_R.gf (pc' := 117) (v := .ref 1022) rfl (am_wf 21 (by decide) (aw_mw21 : (aw_mw w ft (Int32.ofNat tl) wr wt sn Q S) 21 = _)) rfl rfl rfl ?_
            refine am_R.nxs 1 (pc' := 118) (lv' := [some (.ref 1021), some (.int (Int32.ofNat p)), some (.int (Int32.ofNat (aw_run tx tl tl p)))]) (st' := [.int (Int32.ofNat p), .ref 1022, .int (Int32.ofNat Q.length), .ref 1032]) (h1 := am_h (aw_mw w ft (Int32.ofNat tl) wr wt sn Q S) g) rfl ?_
            refine am_R.ldi (i := p) (xs := mt) (pc' := 119) rfl (am_wf 22 (by decide) (aw_mw_other (by decide) (by decide) h22 : (aw_mw w ft (Int32.ofNat tl) wr wt sn Q S) 22 = _)) (by omega) (by omega) rfl ?_
            rw [heq _ (by omega)]
            refine am_R.ites 2 (P := ¬ (tx.getD p 0) = 41) (T := 129) (F := 124) (lv' := [some (.ref 1021), some (.int (Int32.ofNat p)), some (.int (Int32.ofNat (aw_run tx tl tl p)))]) (st' := [.int (Int32.ofNat Q.length), .ref 1032]) (h1 := am_h (aw_mw w ft (Int32.ofNat tl) wr wt sn Q S) g) rfl (fun b121 => ?_) (fun b121 => ?_)
            · refine am_R.nxs 1 (pc' := 130) (lv' := [some (.ref 1021), some (.int (Int32.ofNat p)), some (.int (Int32.ofNat (aw_run tx tl tl p)))]) (st' := [.int (-1), .int (Int32.ofNat Q.length), .ref 1032]) (h1 := am_h (aw_mw w ft (Int32.ofNat tl) wr wt sn Q S) g) rfl ?_
              refine am_R.sti (i := Q.length) (xs := (Q.map aw_tau ++ S)) (pc' := 131) rfl (am_wf 32 (by decide) (aw_mw32 : (aw_mw w ft (Int32.ofNat tl) wr wt sn Q S) 32 = _)) (by omega) (by omega) (am_ws (k := 32) (by decide) (by decide)) rfl ?_
              refine am_R.nxs 2 (pc' := 133) (lv' := [some (.ref 1021), some (.int (Int32.ofNat p)), some (.int (Int32.ofNat (aw_run tx tl tl p)))]) (st' := [.ref 1021, .ref 1021]) (h1 := am_h (am_pu (aw_mw w ft (Int32.ofNat tl) wr wt sn Q S) 32 (am_I 0 ((Q.map aw_tau ++ S).set Q.length (-1)))) g) rfl ?_
              refine am_R.gf (pc' := 136) (v := .int (Int32.ofNat Q.length)) rfl (am_wf 21 (by decide) (aw_mw21 : (aw_mw w ft (Int32.ofNat tl) wr wt sn Q S) 21 = _)) rfl rfl rfl ?_
              refine am_R.nxs 2 (pc' := 138) (lv' := [some (.ref 1021), some (.int (Int32.ofNat p)), some (.int (Int32.ofNat (aw_run tx tl tl p)))]) (st' := [.int (Int32.ofNat Q.length + 1), .ref 1021]) (h1 := am_h (am_pu (aw_mw w ft (Int32.ofNat tl) wr wt sn Q S) 32 (am_I 0 ((Q.map aw_tau ++ S).set Q.length (-1)))) g) rfl ?_
              rw [show (Int32.ofNat Q.length + 1 : Int32) = Int32.ofNat (Q.length + 1) from am_add Q.length 1]
              refine am_R.pf (k := 14) (pc' := 141) rfl (am_wf 21 (by decide) (aw_mw21 : (aw_mw w ft (Int32.ofNat tl) wr wt sn Q S) 21 = _)) rfl (Nat.le_of_ble_eq_true rfl) rfl (fun q => by cases q) (am_ws (k := 21) (by decide) (by decide)) rfl ?_
              refine am_R.nxs 1 (pc' := 144) (lv' := [some (.ref 1021), some (.int (Int32.ofNat p + 1)), some (.int (Int32.ofNat (aw_run tx tl tl p)))]) (st' := []) (h1 := am_h (am_pu (am_pu (aw_mw w ft (Int32.ofNat tl) wr wt sn Q S) 32 (am_I 0 ((Q.map aw_tau ++ S).set Q.length (-1)))) 21 (aw_c21 ft (Int32.ofNat tl) wr (Int32.ofNat (Q.length + 1)) wt sn)) g) rfl ?_
              rw [show (Int32.ofNat p + 1 : Int32) = Int32.ofNat (p + 1) from am_add p 1]
              refine am_R.nxs 1 (pc' := 7) (lv' := [some (.ref 1021), some (.int (Int32.ofNat (p + 1))), some (.int (Int32.ofNat (aw_run tx tl tl p)))]) (st' := []) (h1 := am_h (am_pu (am_pu (aw_mw w ft (Int32.ofNat tl) wr wt sn Q S) 32 (am_I 0 ((Q.map aw_tau ++ S).set Q.length (-1)))) 21 (aw_c21 ft (Int32.ofNat tl) wr (Int32.ofNat (Q.length + 1)) wt sn)) g) rfl ?_
              have hnl : ¬ aw_let (tx.getD p 0) = true := by
                intro z
                have z2 := aw_run_more (tx := tx) (tl := tl) tl p (by omega) (by omega) z
                have z3 := aw_run_le (tx := tx) (tl := tl) tl (p + 1) (by omega)
                omega
              have hr1 := aw_run_stop (tl := tl) tl p hnl
              rw [hr1, show aw_tok tx tl (n + 1) p = aw_wd tx p (p + 1) :: aw_tok tx tl n (p + 1) from (if_neg (by omega)).trans ((if_neg hnl).trans (if_neg b86))]
              have k := ih (p + 1) (Q ++ [aw_wd tx p (p + 1)]) (S.drop 1) (some (.int (Int32.ofNat p))) (by omega) (by omega) (by rw [List.length_append, List.length_singleton]; omega) (by rw [List.length_append, List.length_singleton, List.length_drop]; omega)
              rw [← aw_mw_put (j := aw_wd tx p (p + 1)) (by omega) (by rw [aw_one hnl, if_neg b105, if_neg b121]), List.append_assoc, List.drop_drop, Nat.add_comm 1] at k
              exact k
            · refine am_R.nxs 2 (pc' := 130) (lv' := [some (.ref 1021), some (.int (Int32.ofNat p)), some (.int (Int32.ofNat (aw_run tx tl tl p)))]) (st' := [.int 16, .int (Int32.ofNat Q.length), .ref 1032]) (h1 := am_h (aw_mw w ft (Int32.ofNat tl) wr wt sn Q S) g) rfl ?_
              refine am_R.sti (i := Q.length) (xs := (Q.map aw_tau ++ S)) (pc' := 131) rfl (am_wf 32 (by decide) (aw_mw32 : (aw_mw w ft (Int32.ofNat tl) wr wt sn Q S) 32 = _)) (by omega) (by omega) (am_ws (k := 32) (by decide) (by decide)) rfl ?_
              refine am_R.nxs 2 (pc' := 133) (lv' := [some (.ref 1021), some (.int (Int32.ofNat p)), some (.int (Int32.ofNat (aw_run tx tl tl p)))]) (st' := [.ref 1021, .ref 1021]) (h1 := am_h (am_pu (aw_mw w ft (Int32.ofNat tl) wr wt sn Q S) 32 (am_I 0 ((Q.map aw_tau ++ S).set Q.length 16))) g) rfl ?_
              refine am_R.gf (pc' := 136) (v := .int (Int32.ofNat Q.length)) rfl (am_wf 21 (by decide) (aw_mw21 : (aw_mw w ft (Int32.ofNat tl) wr wt sn Q S) 21 = _)) rfl rfl rfl ?_
              refine am_R.nxs 2 (pc' := 138) (lv' := [some (.ref 1021), some (.int (Int32.ofNat p)), some (.int (Int32.ofNat (aw_run tx tl tl p)))]) (st' := [.int (Int32.ofNat Q.length + 1), .ref 1021]) (h1 := am_h (am_pu (aw_mw w ft (Int32.ofNat tl) wr wt sn Q S) 32 (am_I 0 ((Q.map aw_tau ++ S).set Q.length 16))) g) rfl ?_
              rw [show (Int32.ofNat Q.length + 1 : Int32) = Int32.ofNat (Q.length + 1) from am_add Q.length 1]
              refine am_R.pf (k := 14) (pc' := 141) rfl (am_wf 21 (by decide) (aw_mw21 : (aw_mw w ft (Int32.ofNat tl) wr wt sn Q S) 21 = _)) rfl (Nat.le_of_ble_eq_true rfl) rfl (fun q => by cases q) (am_ws (k := 21) (by decide) (by decide)) rfl ?_
              refine am_R.nxs 1 (pc' := 144) (lv' := [some (.ref 1021), some (.int (Int32.ofNat p + 1)), some (.int (Int32.ofNat (aw_run tx tl tl p)))]) (st' := []) (h1 := am_h (am_pu (am_pu (aw_mw w ft (Int32.ofNat tl) wr wt sn Q S) 32 (am_I 0 ((Q.map aw_tau ++ S).set Q.length 16))) 21 (aw_c21 ft (Int32.ofNat tl) wr (Int32.ofNat (Q.length + 1)) wt sn)) g) rfl ?_
              rw [show (Int32.ofNat p + 1 : Int32) = Int32.ofNat (p + 1) from am_add p 1]
              refine am_R.nxs 1 (pc' := 7) (lv' := [some (.ref 1021), some (.int (Int32.ofNat (p + 1))), some (.int (Int32.ofNat (aw_run tx tl tl p)))]) (st' := []) (h1 := am_h (am_pu (am_pu (aw_mw w ft (Int32.ofNat tl) wr wt sn Q S) 32 (am_I 0 ((Q.map aw_tau ++ S).set Q.length 16))) 21 (aw_c21 ft (Int32.ofNat tl) wr (Int32.ofNat (Q.length + 1)) wt sn)) g) rfl ?_
              have hnl : ¬ aw_let (tx.getD p 0) = true := by
                intro z
                have z2 := aw_run_more (tx := tx) (tl := tl) tl p (by omega) (by omega) z
                have z3 := aw_run_le (tx := tx) (tl := tl) tl (p + 1) (by omega)
                omega
              have hr1 := aw_run_stop (tl := tl) tl p hnl
              rw [hr1, show aw_tok tx tl (n + 1) p = aw_wd tx p (p + 1) :: aw_tok tx tl n (p + 1) from (if_neg (by omega)).trans ((if_neg hnl).trans (if_neg b86))]
              have k := ih (p + 1) (Q ++ [aw_wd tx p (p + 1)]) (S.drop 1) (some (.int (Int32.ofNat p))) (by omega) (by omega) (by rw [List.length_append, List.length_singleton]; omega) (by rw [List.length_append, List.length_singleton, List.length_drop]; omega)
              rw [← aw_mw_put (j := aw_wd tx p (p + 1)) (by omega) (by rw [aw_one hnl, if_neg b105, if_pos (Decidable.not_not.mp b121)]), List.append_assoc, List.drop_drop, Nat.add_comm 1] at k
              exact k
          · refine am_R.nxs 2 (pc' := 130) (lv' := [some (.ref 1021), some (.int (Int32.ofNat p)), some (.int (Int32.ofNat (aw_run tx tl tl p)))]) (st' := [.int 15, .int (Int32.ofNat Q.length), .ref 1032]) (h1 := am_h (aw_mw w ft (Int32.ofNat tl) wr wt sn Q S) g) rfl ?_
            refine am_R.sti (i := Q.length) (xs := (Q.map aw_tau ++ S)) (pc' := 131) rfl (am_wf 32 (by decide) (aw_mw32 : (aw_mw w ft (Int32.ofNat tl) wr wt sn Q S) 32 = _)) (by omega) (by omega) (am_ws (k := 32) (by decide) (by decide)) rfl ?_
            refine am_R.nxs 2 (pc' := 133) (lv' := [some (.ref 1021), some (.int (Int32.ofNat p)), some (.int (Int32.ofNat (aw_run tx tl tl p)))]) (st' := [.ref 1021, .ref 1021]) (h1 := am_h (am_pu (aw_mw w ft (Int32.ofNat tl) wr wt sn Q S) 32 (am_I 0 ((Q.map aw_tau ++ S).set Q.length 15))) g) rfl ?_
            refine am_R.gf (pc' := 136) (v := .int (Int32.ofNat Q.length)) rfl (am_wf 21 (by decide) (aw_mw21 : (aw_mw w ft (Int32.ofNat tl) wr wt sn Q S) 21 = _)) rfl rfl rfl ?_
            refine am_R.nxs 2 (pc' := 138) (lv' := [some (.ref 1021), some (.int (Int32.ofNat p)), some (.int (Int32.ofNat (aw_run tx tl tl p)))]) (st' := [.int (Int32.ofNat Q.length + 1), .ref 1021]) (h1 := am_h (am_pu (aw_mw w ft (Int32.ofNat tl) wr wt sn Q S) 32 (am_I 0 ((Q.map aw_tau ++ S).set Q.length 15))) g) rfl ?_
            rw [show (Int32.ofNat Q.length + 1 : Int32) = Int32.ofNat (Q.length + 1) from am_add Q.length 1]
            refine am_R.pf (k := 14) (pc' := 141) rfl (am_wf 21 (by decide) (aw_mw21 : (aw_mw w ft (Int32.ofNat tl) wr wt sn Q S) 21 = _)) rfl (Nat.le_of_ble_eq_true rfl) rfl (fun q => by cases q) (am_ws (k := 21) (by decide) (by decide)) rfl ?_
            refine am_R.nxs 1 (pc' := 144) (lv' := [some (.ref 1021), some (.int (Int32.ofNat p + 1)), some (.int (Int32.ofNat (aw_run tx tl tl p)))]) (st' := []) (h1 := am_h (am_pu (am_pu (aw_mw w ft (Int32.ofNat tl) wr wt sn Q S) 32 (am_I 0 ((Q.map aw_tau ++ S).set Q.length 15))) 21 (aw_c21 ft (Int32.ofNat tl) wr (Int32.ofNat (Q.length + 1)) wt sn)) g) rfl ?_
            rw [show (Int32.ofNat p + 1 : Int32) = Int32.ofNat (p + 1) from am_add p 1]
            refine am_R.nxs 1 (pc' := 7) (lv' := [some (.ref 1021), some (.int (Int32.ofNat (p + 1))), some (.int (Int32.ofNat (aw_run tx tl tl p)))]) (st' := []) (h1 := am_h (am_pu (am_pu (aw_mw w ft (Int32.ofNat tl) wr wt sn Q S) 32 (am_I 0 ((Q.map aw_tau ++ S).set Q.length 15))) 21 (aw_c21 ft (Int32.ofNat tl) wr (Int32.ofNat (Q.length + 1)) wt sn)) g) rfl ?_
            have hnl : ¬ aw_let (tx.getD p 0) = true := by
              intro z
              have z2 := aw_run_more (tx := tx) (tl := tl) tl p (by omega) (by omega) z
              have z3 := aw_run_le (tx := tx) (tl := tl) tl (p + 1) (by omega)
              omega
            have hr1 := aw_run_stop (tl := tl) tl p hnl
            rw [hr1, show aw_tok tx tl (n + 1) p = aw_wd tx p (p + 1) :: aw_tok tx tl n (p + 1) from (if_neg (by omega)).trans ((if_neg hnl).trans (if_neg b86))]
            have k := ih (p + 1) (Q ++ [aw_wd tx p (p + 1)]) (S.drop 1) (some (.int (Int32.ofNat p))) (by omega) (by omega) (by rw [List.length_append, List.length_singleton]; omega) (by rw [List.length_append, List.length_singleton, List.length_drop]; omega)
            rw [← aw_mw_put (j := aw_wd tx p (p + 1)) (by omega) (by rw [aw_one hnl, if_pos (Decidable.not_not.mp b105)]), List.append_assoc, List.drop_drop, Nat.add_comm 1] at k
            exact k
      · have b45 : ¬ (aw_run tx tl tl p) ≤ p := fun hq9 => b45 ((am_leN (i := (aw_run tx tl tl p)) (n := p) (by omega) (by omega)).mpr hq9)
        refine am_R.nxs 1 (pc' := 49) (lv' := [some (.ref 1021), some (.int (Int32.ofNat p)), some (.int (Int32.ofNat (aw_run tx tl tl p)))]) (st' := [.ref 1021]) (h1 := am_h (aw_mw w ft (Int32.ofNat tl) wr wt sn Q S) g) rfl ?_
        refine am_R.gf (pc' := 52) (v := .ref 1032) rfl (am_wf 21 (by decide) (aw_mw21 : (aw_mw w ft (Int32.ofNat tl) wr wt sn Q S) 21 = _)) rfl rfl rfl ?_
        refine am_R.nxs 1 (pc' := 53) (lv' := [some (.ref 1021), some (.int (Int32.ofNat p)), some (.int (Int32.ofNat (aw_run tx tl tl p)))]) (st' := [.ref 1021, .ref 1032]) (h1 := am_h (aw_mw w ft (Int32.ofNat tl) wr wt sn Q S) g) rfl ?_
        refine am_R.gf (pc' := 56) (v := .int (Int32.ofNat Q.length)) rfl (am_wf 21 (by decide) (aw_mw21 : (aw_mw w ft (Int32.ofNat tl) wr wt sn Q S) 21 = _)) rfl rfl rfl ?_
        refine am_R.nxs 3 (pc' := 59) (lv' := [some (.ref 1021), some (.int (Int32.ofNat p)), some (.int (Int32.ofNat (aw_run tx tl tl p)))]) (st' := [.int (Int32.ofNat (aw_run tx tl tl p)), .int (Int32.ofNat p), .ref 1021, .int (Int32.ofNat Q.length), .ref 1032]) (h1 := am_h (aw_mw w ft (Int32.ofNat tl) wr wt sn Q S) g) rfl ?_
        refine am_R.cv (a := 1021) (as' := [.int (Int32.ofNat p), .int (Int32.ofNat (aw_run tx tl tl p))]) (r := [.int (Int32.ofNat Q.length), .ref 1032]) (v := some (.int (aw_tau (aw_wd tx p (aw_run tx tl tl p))))) (h1 := am_h (aw_mw w ft (Int32.ofNat tl) wr wt sn Q S) g) (pc' := 62) rfl rfl rfl rfl (am_wf 21 (by decide) (aw_mw21 : (aw_mw w ft (Int32.ofNat tl) wr wt sn Q S) 21 = _)) rfl rfl (aw_k102 (w := (aw_mw w ft (Int32.ofNat tl) wr wt sn Q S)) d aw_mw21 (aw_mw_other (by decide) (by decide) h24) (aw_mw_other (by decide) (by decide) h25) (aw_mw_other (by decide) (by decide) h22) hmt htl heq (by omega) (by omega) (aw_run_let tl p)) rfl ?_
        refine am_R.sti (i := Q.length) (xs := (Q.map aw_tau ++ S)) (pc' := 63) rfl (am_wf 32 (by decide) (aw_mw32 : (aw_mw w ft (Int32.ofNat tl) wr wt sn Q S) 32 = _)) (by omega) (by omega) (am_ws (k := 32) (by decide) (by decide)) rfl ?_
        refine am_R.nxs 2 (pc' := 65) (lv' := [some (.ref 1021), some (.int (Int32.ofNat p)), some (.int (Int32.ofNat (aw_run tx tl tl p)))]) (st' := [.ref 1021, .ref 1021]) (h1 := am_h (am_pu (aw_mw w ft (Int32.ofNat tl) wr wt sn Q S) 32 (am_I 0 ((Q.map aw_tau ++ S).set Q.length (aw_tau (aw_wd tx p (aw_run tx tl tl p)))))) g) rfl ?_
        refine am_R.gf (pc' := 68) (v := .int (Int32.ofNat Q.length)) rfl (am_wf 21 (by decide) (aw_mw21 : (aw_mw w ft (Int32.ofNat tl) wr wt sn Q S) 21 = _)) rfl rfl rfl ?_
        refine am_R.nxs 2 (pc' := 70) (lv' := [some (.ref 1021), some (.int (Int32.ofNat p)), some (.int (Int32.ofNat (aw_run tx tl tl p)))]) (st' := [.int (Int32.ofNat Q.length + 1), .ref 1021]) (h1 := am_h (am_pu (aw_mw w ft (Int32.ofNat tl) wr wt sn Q S) 32 (am_I 0 ((Q.map aw_tau ++ S).set Q.length (aw_tau (aw_wd tx p (aw_run tx tl tl p)))))) g) rfl ?_
        rw [show (Int32.ofNat Q.length + 1 : Int32) = Int32.ofNat (Q.length + 1) from am_add Q.length 1]
        refine am_R.pf (k := 14) (pc' := 73) rfl (am_wf 21 (by decide) (aw_mw21 : (aw_mw w ft (Int32.ofNat tl) wr wt sn Q S) 21 = _)) rfl (Nat.le_of_ble_eq_true rfl) rfl (fun q => by cases q) (am_ws (k := 21) (by decide) (by decide)) rfl ?_
        refine am_R.nxs 4 (pc' := 7) (lv' := [some (.ref 1021), some (.int (Int32.ofNat (aw_run tx tl tl p))), some (.int (Int32.ofNat (aw_run tx tl tl p)))]) (st' := []) (h1 := am_h (am_pu (am_pu (aw_mw w ft (Int32.ofNat tl) wr wt sn Q S) 32 (am_I 0 ((Q.map aw_tau ++ S).set Q.length (aw_tau (aw_wd tx p (aw_run tx tl tl p)))))) 21 (aw_c21 ft (Int32.ofNat tl) wr (Int32.ofNat (Q.length + 1)) wt sn)) g) rfl ?_
        have hlet : aw_let (tx.getD p 0) = true := aw_run_let (tl := tl) tl p p (Nat.le_refl _) (by omega)
        have hre := aw_run_more (tx := tx) (tl := tl) tl p (by omega) (by omega) hlet
        rw [show aw_tok tx tl (n + 1) p = aw_wd tx p (aw_run tx tl tl p) :: aw_tok tx tl n (aw_run tx tl tl p) from (if_neg (by omega)).trans ((if_pos hlet).trans (by rw [hre]))]
        have k := ih (aw_run tx tl tl p) (Q ++ [aw_wd tx p (aw_run tx tl tl p)]) (S.drop 1) (some (.int (Int32.ofNat (aw_run tx tl tl p)))) (by omega) (by omega) (by rw [List.length_append, List.length_singleton]; omega) (by rw [List.length_append, List.length_singleton, List.length_drop]; omega)
        rw [← aw_mw_put (j := aw_wd tx p (aw_run tx tl tl p)) (by omega) rfl, List.append_assoc, List.drop_drop, Nat.add_comm 1] at k
        exact k
theorem aw_mw_zero {w : Nat → am_C} {ft ty wr wt sn : Int32} {wl : List Int32} (hW : w 32 = am_I 0 wl) : am_pu w 21 (aw_c21 ft ty wr 0 wt sn) = aw_mw w ft ty wr wt sn [] wl := by
  funext k
  simp only [aw_mw, am_pu, List.map_nil, List.nil_append, List.length_nil]
  (repeat' split) <;> first | rfl | omega | (rename_i e; rw [e, hW])
theorem aw_k100 {w : Nat → am_C} {g : am_H} (d : Nat) {ft wr wt sn : Int32} (h24 : w 24 = .inr (3, aw_n1.map Value.long)) (h25 : w 25 = .inr (3, aw_n2.map Value.long)) {tx mt : List Int32} (h22 : w 22 = am_I 0 mt) (hmt : mt.length = 120) {tl : Nat} (htl : tl ≤ 120) (heq : ∀ i, i < tl → mt.getD i 0 = tx.getD i 0) {wd : Int32} (h21 : w 21 = aw_c21 ft (Int32.ofNat tl) wr wd wt sn) {wl : List Int32} (hW : w 32 = am_I 0 wl) (hwl : wl.length = 120) : am_R (d + 1) 100 0 [some (.ref 1021), none, none] [] (am_h w g) (.inl none) (am_h (aw_mw w ft 0 wr wt sn (aw_tok tx tl tl 0) (wl.drop (aw_tok tx tl tl 0).length)) g) := by
  refine am_R.nxs 2 (pc' := 2) (lv' := [some (.ref 1021), none, none]) (st' := [.int 0, .ref 1021]) (h1 := am_h w g) rfl ?_
  refine am_R.pf (k := 14) (pc' := 5) rfl (am_wf 21 (by decide) h21) rfl (Nat.le_of_ble_eq_true rfl) rfl (fun q => by cases q) (am_ws (k := 21) (by decide) (by decide)) rfl ?_
  refine am_R.nxs 2 (pc' := 7) (lv' := [some (.ref 1021), some (.int 0), none]) (st' := []) (h1 := am_h (am_pu w 21 (aw_c21 ft (Int32.ofNat tl) wr 0 wt sn)) g) rfl ?_
  rw [aw_mw_zero hW]
  exact aw_k100l d h24 h25 h22 hmt htl heq tl 0 [] wl none (by omega) (Nat.zero_le _) (Nat.le_refl _) (by rw [hwl]; rfl)
