/-! The steps of the reference's reading, word by word. -/
theorem aw_tt_of {js : List Nat} {p : Nat} {P : Int32 → Nat → Prop} (h38 : aw_w js p < 38) (h1 : ∀ j, j < 38 → P (aw_tau j) j) (h2 : P (-2) 37) : P (aw_tt js p) (aw_w js p) := by
  unfold aw_tt
  split
  · exact h1 _ h38
  · rename_i h
    rw [aw_w_end (by omega)]
    exact h2
theorem aw_t_it {js : List Nat} {p : Nat} (h38 : aw_w js p < 38) : aw_it (aw_tt js p) = true ↔ aw_w js p < 9 := aw_tt_of (P := fun t j => (aw_it t = true ↔ j < 9)) h38 (by decide +kernel) (by decide +kernel)
theorem aw_t_i9 {js : List Nat} {p : Nat} (h38 : aw_w js p < 38) : (aw_tt js p) = 9 ↔ aw_w js p = 10 := aw_tt_of (P := fun t j => (t = 9 ↔ j = 10)) h38 (by decide +kernel) (by decide +kernel)
theorem aw_t_i13 {js : List Nat} {p : Nat} (h38 : aw_w js p < 38) : (aw_tt js p) = 13 ↔ aw_w js p = 11 := aw_tt_of (P := fun t j => (t = 13 ↔ j = 11)) h38 (by decide +kernel) (by decide +kernel)
theorem aw_t_i10 {js : List Nat} {p : Nat} (h38 : aw_w js p < 38) : (aw_tt js p) = 10 ↔ aw_w js p = 19 := aw_tt_of (P := fun t j => (t = 10 ↔ j = 19)) h38 (by decide +kernel) (by decide +kernel)
theorem aw_t_i11 {js : List Nat} {p : Nat} (h38 : aw_w js p < 38) : (aw_tt js p) = 11 ↔ aw_w js p = 18 := aw_tt_of (P := fun t j => (t = 11 ↔ j = 18)) h38 (by decide +kernel) (by decide +kernel)
theorem aw_t_i12 {js : List Nat} {p : Nat} (h38 : aw_w js p < 38) : (aw_tt js p) = 12 ↔ aw_w js p = 20 := aw_tt_of (P := fun t j => (t = 12 ↔ j = 20)) h38 (by decide +kernel) (by decide +kernel)
theorem aw_t_i15 {js : List Nat} {p : Nat} (h38 : aw_w js p < 38) : (aw_tt js p) = 15 ↔ aw_w js p = 13 := aw_tt_of (P := fun t j => (t = 15 ↔ j = 13)) h38 (by decide +kernel) (by decide +kernel)
theorem aw_t_i16 {js : List Nat} {p : Nat} (h38 : aw_w js p < 38) : (aw_tt js p) = 16 ↔ aw_w js p = 14 := aw_tt_of (P := fun t j => (t = 16 ↔ j = 14)) h38 (by decide +kernel) (by decide +kernel)
theorem aw_t_i14 {js : List Nat} {p : Nat} (h38 : aw_w js p < 38) : (aw_tt js p) = 14 ↔ aw_w js p = 12 := aw_tt_of (P := fun t j => (t = 14 ↔ j = 12)) h38 (by decide +kernel) (by decide +kernel)
theorem aw_t_i24 {js : List Nat} {p : Nat} (h38 : aw_w js p < 38) : (aw_tt js p) = 24 ↔ aw_w js p = 16 := aw_tt_of (P := fun t j => (t = 24 ↔ j = 16)) h38 (by decide +kernel) (by decide +kernel)
theorem aw_t_i23 {js : List Nat} {p : Nat} (h38 : aw_w js p < 38) : (aw_tt js p) = 23 ↔ aw_w js p = 15 := aw_tt_of (P := fun t j => (t = 23 ↔ j = 15)) h38 (by decide +kernel) (by decide +kernel)
theorem aw_t_i36 {js : List Nat} {p : Nat} (h38 : aw_w js p < 38) : (aw_tt js p) = 36 ↔ aw_w js p = 9 := aw_tt_of (P := fun t j => (t = 36 ↔ j = 9)) h38 (by decide +kernel) (by decide +kernel)
theorem aw_t_i17 {js : List Nat} {p : Nat} (h38 : aw_w js p < 38) : (aw_tt js p) = 17 ↔ aw_w js p = 25 := aw_tt_of (P := fun t j => (t = 17 ↔ j = 25)) h38 (by decide +kernel) (by decide +kernel)
theorem aw_t_in {js : List Nat} {p : Nat} (h38 : aw_w js p < 38) : aw_in (aw_tt js p) = true ↔ 26 ≤ aw_w js p ∧ aw_w js p ≤ 30 := aw_tt_of (P := fun t j => (aw_in t = true ↔ 26 ≤ j ∧ j ≤ 30)) h38 (by decide +kernel) (by decide +kernel)
theorem aw_t_is {js : List Nat} {p : Nat} (h38 : aw_w js p < 38) : (¬ (aw_tt js p) < 25 ∧ ¬ 27 < (aw_tt js p)) ↔ 31 ≤ aw_w js p ∧ aw_w js p ≤ 33 := aw_tt_of (P := fun t j => ((¬ t < 25 ∧ ¬ 27 < t) ↔ 31 ≤ j ∧ j ≤ 33)) h38 (by decide +kernel) (by decide +kernel)
theorem aw_t_isb {js : List Nat} {p : Nat} (h38 : aw_w js p < 38) : aw_is (aw_tt js p) = true ↔ 31 ≤ aw_w js p ∧ aw_w js p ≤ 33 := aw_tt_of (P := fun t j => (aw_is t = true ↔ 31 ≤ j ∧ j ≤ 33)) h38 (by decide +kernel) (by decide +kernel)
theorem aw_t_ip {js : List Nat} {p : Nat} (h38 : aw_w js p < 38) : (¬ (aw_tt js p) < 28 ∧ ¬ 30 < (aw_tt js p)) ↔ 34 ≤ aw_w js p ∧ aw_w js p ≤ 36 := aw_tt_of (P := fun t j => ((¬ t < 28 ∧ ¬ 30 < t) ↔ 34 ≤ j ∧ j ≤ 36)) h38 (by decide +kernel) (by decide +kernel)
theorem aw_t_ib {js : List Nat} {p : Nat} (h38 : aw_w js p < 38) : aw_ib (aw_tt js p) = true ↔ 17 ≤ aw_w js p ∧ aw_w js p ≤ 19 := aw_tt_of (P := fun t j => (aw_ib t = true ↔ 17 ≤ j ∧ j ≤ 19)) h38 (by decide +kernel) (by decide +kernel)
theorem aw_t_io {js : List Nat} {p : Nat} (h38 : aw_w js p < 38) : aw_io (aw_tt js p) = true ↔ 20 ≤ aw_w js p ∧ aw_w js p ≤ 24 := aw_tt_of (P := fun t j => (aw_io t = true ↔ 20 ≤ j ∧ j ≤ 24)) h38 (by decide +kernel) (by decide +kernel)
theorem aw_t_vt {js : List Nat} {p : Nat} (h38 : aw_w js p < 38) : (aw_w js p) < 9 → (aw_tt js p) = Int32.ofNat (aw_w js p) := aw_tt_of (P := fun t j => j < 9 → t = Int32.ofNat j) h38 (by decide +kernel) (by decide +kernel)
theorem aw_t_vn {js : List Nat} {p : Nat} (h38 : aw_w js p < 38) : 26 ≤ (aw_w js p) ∧ (aw_w js p) ≤ 30 → (aw_tt js p) - 31 + 2 = Int32.ofNat ((aw_w js p) - 24) := aw_tt_of (P := fun t j => 26 ≤ j ∧ j ≤ 30 → t - 31 + 2 = Int32.ofNat (j - 24)) h38 (by decide +kernel) (by decide +kernel)
theorem aw_t_vs {js : List Nat} {p : Nat} (h38 : aw_w js p < 38) : 31 ≤ (aw_w js p) ∧ (aw_w js p) ≤ 33 → (aw_tt js p) - 25 = Int32.ofNat ((aw_w js p) - 31) := aw_tt_of (P := fun t j => 31 ≤ j ∧ j ≤ 33 → t - 25 = Int32.ofNat (j - 31)) h38 (by decide +kernel) (by decide +kernel)
theorem aw_t_vp {js : List Nat} {p : Nat} (h38 : aw_w js p < 38) : 34 ≤ (aw_w js p) ∧ (aw_w js p) ≤ 36 → (aw_tt js p) - 28 = Int32.ofNat ((aw_w js p) - 34) := aw_tt_of (P := fun t j => 34 ≤ j ∧ j ≤ 36 → t - 28 = Int32.ofNat (j - 34)) h38 (by decide +kernel) (by decide +kernel)
theorem aw_t_tau {js : List Nat} {p : Nat} (h : aw_w js p < 37) : aw_tt js p = aw_tau (aw_w js p) := if_pos (aw_w_lt h)
def aw_B (n : Nat) (T T' : aw_T) : Prop := ∀ i, i < n → T' 33 i = T 33 i ∧ T' 34 i = T 34 i
def aw_E (T U : aw_T) : Prop := ∀ k, 35 ≤ k → ∀ i, T k i = U k i
theorem aw_B_refl (n : Nat) (T : aw_T) : aw_B n T T := fun _ _ => ⟨rfl, rfl⟩
theorem aw_B_trans {n m : Nat} {T T1 T2 : aw_T} (h1 : aw_B n T T1) (h2 : aw_B m T1 T2) (hm : n ≤ m) : aw_B n T T2 := fun i hi => ⟨((h2 i (by omega)).1).trans (h1 i hi).1, ((h2 i (by omega)).2).trans (h1 i hi).2⟩
theorem aw_B_up {n k i : Nat} {T T' : aw_T} {v : Int32} (hk : 35 ≤ k) (h : aw_B n T T') : aw_B n T (aw_up T' k i v) := fun j hj => ⟨(aw_up_ne (.inl (by omega))).trans (h j hj).1, (aw_up_ne (.inl (by omega))).trans (h j hj).2⟩
theorem aw_B_ph {n m : Nat} {T T' : aw_T} {e a : Int32} (hm : n ≤ m) (h : aw_B n T T') : aw_B n T (aw_ph T' m e a) := by
  intro j hj
  unfold aw_ph
  exact ⟨((aw_up_ne (.inl (by omega))).trans (aw_up_ne (.inr (by omega)))).trans (h j hj).1, ((aw_up_ne (.inr (by omega))).trans (aw_up_ne (.inl (by omega)))).trans (h j hj).2⟩
theorem aw_E_refl (T : aw_T) : aw_E T T := fun _ _ _ => rfl
theorem aw_E_up {T U : aw_T} {k i : Nat} {v : Int32} (h : aw_E T U) : aw_E (aw_up T k i v) (aw_up U k i v) := by
  intro k' hk i'
  unfold aw_up
  split
  · rfl
  · exact h k' hk i'
theorem aw_E_ph {T U : aw_T} {m : Nat} {e a : Int32} (h : aw_E T U) : aw_E (aw_ph T m e a) U := by
  intro k hk i
  unfold aw_ph
  rw [aw_up_ne (.inl (by omega)), aw_up_ne (.inl (by omega))]
  exact h k hk i
theorem aw_E_trans {T U V : aw_T} (h : aw_E T U) (h2 : aw_E U V) : aw_E T V := fun k hk i => (h k hk i).trans (h2 k hk i)
theorem aw_E_upup {T U : aw_T} {k i : Nat} {v v' : Int32} (h : aw_E T U) : aw_E (aw_up (aw_up T k i v) k i v') (aw_up U k i v') := by
  intro k' hk i'
  unfold aw_up
  split
  · rfl
  · exact h k' hk i'
theorem aw_up_comm {T : aw_T} {k i k' i' : Nat} {v v' : Int32} (h : k ≠ k') : aw_up (aw_up T k i v) k' i' v' = aw_up (aw_up T k' i' v') k i v := by
  funext a b
  unfold aw_up
  (repeat' split) <;> first | rfl | omega
theorem aw_p33 (T : aw_T) (n : Nat) (e a : Int32) : aw_ph T n e a 33 n = e := (aw_up_ne (.inl (by decide))).trans (aw_up_eq ..)
theorem aw_p34 (T : aw_T) (n : Nat) (e a : Int32) : aw_ph T n e a 34 n = a := aw_up_eq ..
theorem aw_p_ne {T : aw_T} {n k i : Nat} {e a : Int32} (h : 35 ≤ k ∨ i ≠ n) : aw_ph T n e a k i = T k i := by
  unfold aw_ph
  rw [aw_up_ne (by omega), aw_up_ne (by omega)]
theorem aw_tw_up {T : aw_T} {k i s : Nat} {v : Int32} (hk : k ≠ 35 ∧ k ≠ 36) : aw_tw (aw_up T k i v) s = aw_tw T s := by
  unfold aw_tw
  rw [aw_up_ne (.inl (by omega)), aw_up_ne (.inl (by omega)), aw_up_ne (.inl (by omega))]
theorem aw_tw_E {T U : aw_T} (h : aw_E T U) (s : Nat) : aw_tw T s = aw_tw U s := by
  unfold aw_tw
  rw [h 35 (by decide), h 36 (by decide), h 36 (by decide)]
theorem aw_g53z {w : Nat → am_C} {g : am_H} {d : Nat} {ft wr : Int32} {js : List Nat} (hj : js.length ≤ 120) {WS : List Int32} (h32 : w 32 = am_I 0 (js.map aw_tau ++ WS)) (hw : js.length + WS.length = 120) (h38 : ∀ p, aw_w js p < 38) {p n sh : Nat} {T : aw_T} {s i : Nat} (he : T 33 n = 53) (ha : T 34 n = Int32.ofNat s)  (hs : s < 40) (hi : T 38 s = Int32.ofNat i) (hi4 : i ≤ 4) (hn : n + 6 ≤ 300) (h : ¬ aw_isn (aw_w js p) = true) (hp : p ≤ js.length) {o : am_O} {h' : am_H} (k : aw_G w g d ft wr js p n sh T o h') : aw_G w g d ft wr js p (n + 1) sh T o h' := by
  have c := aw_k106_53 (w := w) (g := g) d (ft := ft) (wr := wr) (wd := Int32.ofNat js.length) (n := n) (sh := sh) (T := T) s (aw_tt js p) i hs hi hi4 (by omega)
  rw [show aw_f110 s i n T (aw_tt js p) = (2, n, T) from (if_neg (fun q => h (aw_isn_iff.mpr (by have := (aw_t_i17 (h38 p)).mp q; omega)))).trans (if_neg (fun q => h (aw_isn_iff.mpr (by have := (aw_t_in (h38 p)).mp q; omega))))] at c
  exact aw_s2 hj h32 hw he ha (by omega) hp c k
theorem aw_g53a {w : Nat → am_C} {g : am_H} {d : Nat} {ft wr : Int32} {js : List Nat} (hj : js.length ≤ 120) {WS : List Int32} (h32 : w 32 = am_I 0 (js.map aw_tau ++ WS)) (hw : js.length + WS.length = 120) (h38 : ∀ p, aw_w js p < 38) {p n sh : Nat} {T : aw_T} {s i : Nat} (he : T 33 n = 53) (ha : T 34 n = Int32.ofNat s)  (hs : s < 40) (hi : T 38 s = Int32.ofNat i) (hi4 : i ≤ 4) (hn : n + 6 ≤ 300) (h4 : i ≠ 4) (h : aw_w js p = 25) {o : am_O} {h' : am_H} (k : aw_G w g d ft wr js (p + 1) (n + 1 + 1) sh (aw_ph (aw_ph (aw_up (aw_up (aw_up T 38 s (Int32.ofNat (i + 1))) 39 (4 * s + i) 0) 42 (4 * s + i) 0) n 53 (Int32.ofNat s)) (n + 1) 54 (Int32.ofNat (4 * s + i))) o h') : aw_G w g d ft wr js p (n + 1) sh T o h' := by
  have c := aw_k106_53 (w := w) (g := g) d (ft := ft) (wr := wr) (wd := Int32.ofNat js.length) (n := n) (sh := sh) (T := T) s (aw_tt js p) i hs hi hi4 (by omega)
  rw [show aw_f110 s i n T (aw_tt js p) = (1, n + 1 + 1, (aw_ph (aw_ph (aw_up (aw_up (aw_up T 38 s (Int32.ofNat (i + 1))) 39 (4 * s + i) 0) 42 (4 * s + i) 0) n 53 (Int32.ofNat s)) (n + 1) 54 (Int32.ofNat (4 * s + i)))) from (if_pos ((aw_t_i17 (h38 p)).mpr h)).trans (if_neg h4)] at c
  exact aw_s1 hj h32 hw he ha (by omega) (aw_w_lt (by omega)) c k
theorem aw_g53n {w : Nat → am_C} {g : am_H} {d : Nat} {ft wr : Int32} {js : List Nat} (hj : js.length ≤ 120) {WS : List Int32} (h32 : w 32 = am_I 0 (js.map aw_tau ++ WS)) (hw : js.length + WS.length = 120) (h38 : ∀ p, aw_w js p < 38) {p n sh : Nat} {T : aw_T} {s i : Nat} (he : T 33 n = 53) (ha : T 34 n = Int32.ofNat s)  (hs : s < 40) (hi : T 38 s = Int32.ofNat i) (hi4 : i ≤ 4) (hn : n + 6 ≤ 300) (h4 : i ≠ 4) (h1 : 26 ≤ aw_w js p) (h2 : aw_w js p ≤ 30) {o : am_O} {h' : am_H} (k : aw_G w g d ft wr js (p + 1) (n + 1 + 1 + 1) sh (aw_ph (aw_ph (aw_up (aw_ph (aw_up (aw_up (aw_up T 38 s (Int32.ofNat (i + 1))) 39 (4 * s + i) 0) 42 (4 * s + i) 0) n 53 (Int32.ofNat s)) 42 (4 * s + i) (Int32.ofNat (aw_w js p - 24))) (n + 1) 56 (Int32.ofNat (4 * s + i))) (n + 1 + 1) 55 (Int32.ofNat (4 * s + i))) o h') : aw_G w g d ft wr js p (n + 1) sh T o h' := by
  have c := aw_k106_53 (w := w) (g := g) d (ft := ft) (wr := wr) (wd := Int32.ofNat js.length) (n := n) (sh := sh) (T := T) s (aw_tt js p) i hs hi hi4 (by omega)
  rw [show aw_f110 s i n T (aw_tt js p) = (1, n + 1 + 1 + 1, (aw_ph (aw_ph (aw_up (aw_ph (aw_up (aw_up (aw_up T 38 s (Int32.ofNat (i + 1))) 39 (4 * s + i) 0) 42 (4 * s + i) 0) n 53 (Int32.ofNat s)) 42 (4 * s + i) (Int32.ofNat (aw_w js p - 24))) (n + 1) 56 (Int32.ofNat (4 * s + i))) (n + 1 + 1) 55 (Int32.ofNat (4 * s + i)))) from (if_neg (fun q => by have := (aw_t_i17 (h38 p)).mp q; omega)).trans ((if_pos ((aw_t_in (h38 p)).mpr ⟨h1, h2⟩)).trans ((if_neg h4).trans (by rw [aw_t_vn (h38 p) ⟨h1, h2⟩])))] at c
  exact aw_s1 hj h32 hw he ha (by omega) (aw_w_lt (by omega)) c k
theorem aw_g53f {w : Nat → am_C} {g : am_H} {d : Nat} {ft wr : Int32} {js : List Nat} (hj : js.length ≤ 120) {WS : List Int32} (h32 : w 32 = am_I 0 (js.map aw_tau ++ WS)) (hw : js.length + WS.length = 120) (h38 : ∀ p, aw_w js p < 38) {p n sh : Nat} {T : aw_T} {s : Nat} (he : T 33 n = 53) (ha : T 34 n = Int32.ofNat s) (hs : s < 40) (hi : T 38 s = Int32.ofNat 4) (hn : n + 6 ≤ 300) (h : aw_isn (aw_w js p) = true) (hp : p ≤ js.length) : ∃ n' sh' T', aw_G w g d ft wr js p (n + 1) sh T (.inl (some (.int (Int32.ofNat p)))) (am_h (aw_mt w ft wr (Int32.ofNat js.length) n' sh' T') g) := by
  have c := aw_k106_53 (w := w) (g := g) d (ft := ft) (wr := wr) (wd := Int32.ofNat js.length) (n := n) (sh := sh) (T := T) s (aw_tt js p) 4 hs hi (by omega) (by omega)
  have hz : aw_f110 s 4 n T (aw_tt js p) = (0, n, T) := by
    rw [aw_isn_iff] at h
    by_cases q : aw_w js p = 25
    · exact (if_pos ((aw_t_i17 (h38 p)).mpr q)).trans (if_pos rfl)
    · exact (if_neg (fun z => q ((aw_t_i17 (h38 p)).mp z))).trans ((if_pos ((aw_t_in (h38 p)).mpr (by omega))).trans (if_pos rfl))
  rw [hz] at c
  exact ⟨_, _, _, aw_s0 hj h32 hw he ha (by omega) hp c⟩
theorem aw_g54s {w : Nat → am_C} {g : am_H} {d : Nat} {ft wr : Int32} {js : List Nat} (hj : js.length ≤ 120) {WS : List Int32} (h32 : w 32 = am_I 0 (js.map aw_tau ++ WS)) (hw : js.length + WS.length = 120) (h38 : ∀ p, aw_w js p < 38) {p n sh : Nat} {T : aw_T} {a : Nat} (he : T 33 n = 54) (ha : T 34 n = Int32.ofNat a)  (ha1 : a < 160) (hn : n + 6 ≤ 300) (h1 : 31 ≤ aw_w js p) (h2 : aw_w js p ≤ 33) {o : am_O} {h' : am_H} (k : aw_G w g d ft wr js (p + 1) (n + 1) sh (aw_ph (aw_up (aw_up T 42 a 1) 41 a (Int32.ofNat (aw_w js p - 31))) n 56 (Int32.ofNat a)) o h') : aw_G w g d ft wr js p (n + 1) sh T o h' := by
  have c := aw_k106_54 (w := w) (g := g) d (ft := ft) (wr := wr) (wd := Int32.ofNat js.length) (n := n) (sh := sh) (T := T) a (aw_tt js p) ha1 (by omega)
  rw [show aw_f112 a n T (aw_tt js p) = (1, n + 1, (aw_ph (aw_up (aw_up T 42 a 1) 41 a (Int32.ofNat (aw_w js p - 31))) n 56 (Int32.ofNat a))) from (if_pos ((aw_t_isb (h38 p)).mpr ⟨h1, h2⟩)).trans (by rw [aw_up_comm (by decide), aw_t_vs (h38 p) ⟨h1, h2⟩])] at c
  exact aw_s1 hj h32 hw he ha (by omega) (aw_w_lt (by omega)) c k
theorem aw_g54b {w : Nat → am_C} {g : am_H} {d : Nat} {ft wr : Int32} {js : List Nat} (hj : js.length ≤ 120) {WS : List Int32} (h32 : w 32 = am_I 0 (js.map aw_tau ++ WS)) (hw : js.length + WS.length = 120) (h38 : ∀ p, aw_w js p < 38) {p n sh : Nat} {T : aw_T} {a : Nat} (he : T 33 n = 54) (ha : T 34 n = Int32.ofNat a)  (ha1 : a < 160) (hn : n + 6 ≤ 300) (h1 : 17 ≤ aw_w js p) (h2 : aw_w js p ≤ 19) {o : am_O} {h' : am_H} (k : aw_G w g d ft wr js (p + 1) (n + 1 + 1) sh (aw_ph (aw_ph (aw_up T 39 a (aw_tau (aw_w js p))) n 57 (Int32.ofNat a)) (n + 1) 56 (Int32.ofNat a)) o h') : aw_G w g d ft wr js p (n + 1) sh T o h' := by
  have c := aw_k106_54 (w := w) (g := g) d (ft := ft) (wr := wr) (wd := Int32.ofNat js.length) (n := n) (sh := sh) (T := T) a (aw_tt js p) ha1 (by omega)
  rw [show aw_f112 a n T (aw_tt js p) = (1, n + 1 + 1, (aw_ph (aw_ph (aw_up T 39 a (aw_tau (aw_w js p))) n 57 (Int32.ofNat a)) (n + 1) 56 (Int32.ofNat a))) from (if_neg (fun q => by have := (aw_t_isb (h38 p)).mp q; omega)).trans ((if_pos ((aw_t_ib (h38 p)).mpr ⟨h1, h2⟩)).trans (by rw [aw_t_tau (by omega)]))] at c
  exact aw_s1 hj h32 hw he ha (by omega) (aw_w_lt (by omega)) c k
theorem aw_g54o {w : Nat → am_C} {g : am_H} {d : Nat} {ft wr : Int32} {js : List Nat} (hj : js.length ≤ 120) {WS : List Int32} (h32 : w 32 = am_I 0 (js.map aw_tau ++ WS)) (hw : js.length + WS.length = 120) (h38 : ∀ p, aw_w js p < 38) {p n sh : Nat} {T : aw_T} {a : Nat} (he : T 33 n = 54) (ha : T 34 n = Int32.ofNat a)  (ha1 : a < 160) (hn : n + 6 ≤ 300) (h1 : 20 ≤ aw_w js p) (h2 : aw_w js p ≤ 24) {o : am_O} {h' : am_H} (k : aw_G w g d ft wr js (p + 1) (n + 1) sh (aw_ph (aw_up T 39 a (aw_tau (aw_w js p))) n 56 (Int32.ofNat a)) o h') : aw_G w g d ft wr js p (n + 1) sh T o h' := by
  have c := aw_k106_54 (w := w) (g := g) d (ft := ft) (wr := wr) (wd := Int32.ofNat js.length) (n := n) (sh := sh) (T := T) a (aw_tt js p) ha1 (by omega)
  rw [show aw_f112 a n T (aw_tt js p) = (1, n + 1, (aw_ph (aw_up T 39 a (aw_tau (aw_w js p))) n 56 (Int32.ofNat a))) from (if_neg (fun q => by have := (aw_t_isb (h38 p)).mp q; omega)).trans ((if_neg (fun q => by have := (aw_t_ib (h38 p)).mp q; omega)).trans (by rw [if_pos ((aw_t_io (h38 p)).mpr ⟨h1, h2⟩), aw_t_tau (by omega)]))] at c
  exact aw_s1 hj h32 hw he ha (by omega) (aw_w_lt (by omega)) c k
theorem aw_g54f {w : Nat → am_C} {g : am_H} {d : Nat} {ft wr : Int32} {js : List Nat} (hj : js.length ≤ 120) {WS : List Int32} (h32 : w 32 = am_I 0 (js.map aw_tau ++ WS)) (hw : js.length + WS.length = 120) (h38 : ∀ p, aw_w js p < 38) {p n sh : Nat} {T : aw_T} {a : Nat} (he : T 33 n = 54) (ha : T 34 n = Int32.ofNat a)  (ha1 : a < 160) (hn : n + 6 ≤ 300) (h1 : ¬ (31 ≤ aw_w js p ∧ aw_w js p ≤ 33)) (h2 : ¬ (17 ≤ aw_w js p ∧ aw_w js p ≤ 24)) (hp : p ≤ js.length) : ∃ n' sh' T', aw_G w g d ft wr js p (n + 1) sh T (.inl (some (.int (Int32.ofNat p)))) (am_h (aw_mt w ft wr (Int32.ofNat js.length) n' sh' T') g) := by
  have c := aw_k106_54 (w := w) (g := g) d (ft := ft) (wr := wr) (wd := Int32.ofNat js.length) (n := n) (sh := sh) (T := T) a (aw_tt js p) ha1 (by omega)
  rw [show aw_f112 a n T (aw_tt js p) = (0, n + 1, (aw_ph (aw_up T 39 a (aw_tt js p)) n 56 (Int32.ofNat a))) from (if_neg (fun q => by have := (aw_t_isb (h38 p)).mp q; omega)).trans ((if_neg (fun q => by have := (aw_t_ib (h38 p)).mp q; omega)).trans (by rw [if_neg (fun q => by have := (aw_t_io (h38 p)).mp q; omega)]))] at c
  exact ⟨_, _, _, aw_s0 hj h32 hw he ha (by omega) hp c⟩
theorem aw_g55 {w : Nat → am_C} {g : am_H} {d : Nat} {ft wr : Int32} {js : List Nat} (hj : js.length ≤ 120) {WS : List Int32} (h32 : w 32 = am_I 0 (js.map aw_tau ++ WS)) (hw : js.length + WS.length = 120) (h38 : ∀ p, aw_w js p < 38) {p n sh : Nat} {T : aw_T} {a : Nat} (he : T 33 n = 55) (ha : T 34 n = Int32.ofNat a)  (ha1 : a < 160) (hn : n + 6 ≤ 300) (h1 : 34 ≤ aw_w js p) (h2 : aw_w js p ≤ 36) {o : am_O} {h' : am_H} (k : aw_G w g d ft wr js (p + 1) n sh (aw_up T 41 a (Int32.ofNat (aw_w js p - 34))) o h') : aw_G w g d ft wr js p (n + 1) sh T o h' := by
  have c := aw_k106_55 (w := w) (g := g) d (ft := ft) (wr := wr) (wd := Int32.ofNat js.length) (n := n) (sh := sh) (T := T) a (aw_tt js p) ha1
  rw [show aw_f55 a n T (aw_tt js p) = (1, n, aw_up T 41 a (Int32.ofNat (aw_w js p - 34))) from by unfold aw_f55; rw [if_pos ((aw_t_ip (h38 p)).mpr ⟨h1, h2⟩), aw_t_vp (h38 p) ⟨h1, h2⟩]] at c
  exact aw_s1 hj h32 hw he ha (by omega) (aw_w_lt (by omega)) c k
theorem aw_g55f {w : Nat → am_C} {g : am_H} {d : Nat} {ft wr : Int32} {js : List Nat} (hj : js.length ≤ 120) {WS : List Int32} (h32 : w 32 = am_I 0 (js.map aw_tau ++ WS)) (hw : js.length + WS.length = 120) (h38 : ∀ p, aw_w js p < 38) {p n sh : Nat} {T : aw_T} {a : Nat} (he : T 33 n = 55) (ha : T 34 n = Int32.ofNat a)  (ha1 : a < 160) (hn : n + 6 ≤ 300) (h1 : ¬ (34 ≤ aw_w js p ∧ aw_w js p ≤ 36)) (hp : p ≤ js.length) : ∃ n' sh' T', aw_G w g d ft wr js p (n + 1) sh T (.inl (some (.int (Int32.ofNat p)))) (am_h (aw_mt w ft wr (Int32.ofNat js.length) n' sh' T') g) := by
  have c := aw_k106_55 (w := w) (g := g) d (ft := ft) (wr := wr) (wd := Int32.ofNat js.length) (n := n) (sh := sh) (T := T) a (aw_tt js p) ha1
  rw [show aw_f55 a n T (aw_tt js p) = (0, n, aw_up T 41 a ((aw_tt js p) - 28)) from by unfold aw_f55; rw [if_neg (fun q => h1 ((aw_t_ip (h38 p)).mp q))]] at c
  exact ⟨_, _, _, aw_s0 hj h32 hw he ha (by omega) hp c⟩
theorem aw_g60 {w : Nat → am_C} {g : am_H} {d : Nat} {ft wr : Int32} {js : List Nat} (hj : js.length ≤ 120) {WS : List Int32} (h32 : w 32 = am_I 0 (js.map aw_tau ++ WS)) (hw : js.length + WS.length = 120) (h38 : ∀ p, aw_w js p < 38) {p n sh : Nat} {T : aw_T} {a : Nat} (he : T 33 n = 60) (ha : T 34 n = Int32.ofNat a)  (ha1 : a < 160) (hn : n + 6 ≤ 300) (h1 : 34 ≤ aw_w js p) (h2 : aw_w js p ≤ 36) {o : am_O} {h' : am_H} (k : aw_G w g d ft wr js (p + 1) n sh (aw_up T 41 a (Int32.ofNat (aw_w js p - 34))) o h') : aw_G w g d ft wr js p (n + 1) sh T o h' := by
  have c := aw_k106_60 (w := w) (g := g) d (ft := ft) (wr := wr) (wd := Int32.ofNat js.length) (n := n) (sh := sh) (T := T) a (aw_tt js p) ha1
  rw [show aw_f55 a n T (aw_tt js p) = (1, n, aw_up T 41 a (Int32.ofNat (aw_w js p - 34))) from by unfold aw_f55; rw [if_pos ((aw_t_ip (h38 p)).mpr ⟨h1, h2⟩), aw_t_vp (h38 p) ⟨h1, h2⟩]] at c
  exact aw_s1 hj h32 hw he ha (by omega) (aw_w_lt (by omega)) c k
theorem aw_g60f {w : Nat → am_C} {g : am_H} {d : Nat} {ft wr : Int32} {js : List Nat} (hj : js.length ≤ 120) {WS : List Int32} (h32 : w 32 = am_I 0 (js.map aw_tau ++ WS)) (hw : js.length + WS.length = 120) (h38 : ∀ p, aw_w js p < 38) {p n sh : Nat} {T : aw_T} {a : Nat} (he : T 33 n = 60) (ha : T 34 n = Int32.ofNat a)  (ha1 : a < 160) (hn : n + 6 ≤ 300) (h1 : ¬ (34 ≤ aw_w js p ∧ aw_w js p ≤ 36)) (hp : p ≤ js.length) : ∃ n' sh' T', aw_G w g d ft wr js p (n + 1) sh T (.inl (some (.int (Int32.ofNat p)))) (am_h (aw_mt w ft wr (Int32.ofNat js.length) n' sh' T') g) := by
  have c := aw_k106_60 (w := w) (g := g) d (ft := ft) (wr := wr) (wd := Int32.ofNat js.length) (n := n) (sh := sh) (T := T) a (aw_tt js p) ha1
  rw [show aw_f55 a n T (aw_tt js p) = (0, n, aw_up T 41 a ((aw_tt js p) - 28)) from by unfold aw_f55; rw [if_neg (fun q => h1 ((aw_t_ip (h38 p)).mp q))]] at c
  exact ⟨_, _, _, aw_s0 hj h32 hw he ha (by omega) hp c⟩
theorem aw_g59 {w : Nat → am_C} {g : am_H} {d : Nat} {ft wr : Int32} {js : List Nat} (hj : js.length ≤ 120) {WS : List Int32} (h32 : w 32 = am_I 0 (js.map aw_tau ++ WS)) (hw : js.length + WS.length = 120) (h38 : ∀ p, aw_w js p < 38) {p n sh : Nat} {T : aw_T} {a : Nat} (he : T 33 n = 59) (ha : T 34 n = Int32.ofNat a)  (ha1 : a < 160) (hn : n + 6 ≤ 300) (h1 : 31 ≤ aw_w js p) (h2 : aw_w js p ≤ 33) {o : am_O} {h' : am_H} (k : aw_G w g d ft wr js (p + 1) n sh (aw_up T 41 a (Int32.ofNat (aw_w js p - 31))) o h') : aw_G w g d ft wr js p (n + 1) sh T o h' := by
  have c := aw_k106_59 (w := w) (g := g) d (ft := ft) (wr := wr) (wd := Int32.ofNat js.length) (n := n) (sh := sh) (T := T) a (aw_tt js p) ha1
  rw [show aw_f59 a n T (aw_tt js p) = (1, n, aw_up T 41 a (Int32.ofNat (aw_w js p - 31))) from by unfold aw_f59; rw [if_pos ((aw_t_is (h38 p)).mpr ⟨h1, h2⟩), aw_t_vs (h38 p) ⟨h1, h2⟩]] at c
  exact aw_s1 hj h32 hw he ha (by omega) (aw_w_lt (by omega)) c k
theorem aw_g59f {w : Nat → am_C} {g : am_H} {d : Nat} {ft wr : Int32} {js : List Nat} (hj : js.length ≤ 120) {WS : List Int32} (h32 : w 32 = am_I 0 (js.map aw_tau ++ WS)) (hw : js.length + WS.length = 120) (h38 : ∀ p, aw_w js p < 38) {p n sh : Nat} {T : aw_T} {a : Nat} (he : T 33 n = 59) (ha : T 34 n = Int32.ofNat a)  (ha1 : a < 160) (hn : n + 6 ≤ 300) (h1 : ¬ (31 ≤ aw_w js p ∧ aw_w js p ≤ 33)) (hp : p ≤ js.length) : ∃ n' sh' T', aw_G w g d ft wr js p (n + 1) sh T (.inl (some (.int (Int32.ofNat p)))) (am_h (aw_mt w ft wr (Int32.ofNat js.length) n' sh' T') g) := by
  have c := aw_k106_59 (w := w) (g := g) d (ft := ft) (wr := wr) (wd := Int32.ofNat js.length) (n := n) (sh := sh) (T := T) a (aw_tt js p) ha1
  rw [show aw_f59 a n T (aw_tt js p) = (0, n, aw_up T 41 a ((aw_tt js p) - 25)) from by unfold aw_f59; rw [if_neg (fun q => h1 ((aw_t_is (h38 p)).mp q))]] at c
  exact ⟨_, _, _, aw_s0 hj h32 hw he ha (by omega) hp c⟩
theorem aw_t_vc {js : List Nat} {p : Nat} (h38 : aw_w js p < 38) : aw_w js p < 10 → (if aw_tt js p = 36 then 9 else aw_tt js p) = Int32.ofNat (aw_w js p) := aw_tt_of (P := fun t j => j < 10 → (if t = 36 then 9 else t) = Int32.ofNat j) h38 (by decide +kernel) (by decide +kernel)
theorem aw_g56 {w : Nat → am_C} {g : am_H} {d : Nat} {ft wr : Int32} {js : List Nat} (hj : js.length ≤ 120) {WS : List Int32} (h32 : w 32 = am_I 0 (js.map aw_tau ++ WS)) (hw : js.length + WS.length = 120) (h38 : ∀ p, aw_w js p < 38) {p n sh : Nat} {T : aw_T} {a : Nat} (he : T 33 n = 56) (ha : T 34 n = Int32.ofNat a)  (ha1 : a < 160) (hn : n + 6 ≤ 300) (h1 : aw_cto (aw_tw T (a / 4)) (aw_w js p) = true) {o : am_O} {h' : am_H} (k : aw_G w g d ft wr js (p + 1) n sh (aw_up T 40 a (Int32.ofNat (aw_w js p))) o h') : aw_G w g d ft wr js p (n + 1) sh T o h' := by
  have c := aw_k106_56 (w := w) (g := g) d (ft := ft) (wr := wr) (wd := Int32.ofNat js.length) (n := n) (sh := sh) (T := T) a (aw_tt js p) ha1
  rw [show aw_f56 a n T (aw_tt js p) = (1, n, aw_up T 40 a (Int32.ofNat (aw_w js p))) from by
    have h2 := aw_cto_iff.mp h1
    unfold aw_f56
    rw [aw_t_vc (h38 p) (by omega), aw_tw_up (by decide), if_pos]
    rcases h2 with h2 | h2
    · exact .inl ((aw_t_it (h38 p)).mpr h2)
    · exact .inr ⟨(aw_t_i36 (h38 p)).mpr h2.2, h2.1⟩] at c
  exact aw_s1 hj h32 hw he ha (by omega) (aw_w_lt (by have := aw_cto_iff.mp h1; omega)) c k
theorem aw_g56f {w : Nat → am_C} {g : am_H} {d : Nat} {ft wr : Int32} {js : List Nat} (hj : js.length ≤ 120) {WS : List Int32} (h32 : w 32 = am_I 0 (js.map aw_tau ++ WS)) (hw : js.length + WS.length = 120) (h38 : ∀ p, aw_w js p < 38) {p n sh : Nat} {T : aw_T} {a : Nat} (he : T 33 n = 56) (ha : T 34 n = Int32.ofNat a)  (ha1 : a < 160) (hn : n + 6 ≤ 300) (h1 : ¬ aw_cto (aw_tw T (a / 4)) (aw_w js p) = true) (hp : p ≤ js.length) : ∃ n' sh' T', aw_G w g d ft wr js p (n + 1) sh T (.inl (some (.int (Int32.ofNat p)))) (am_h (aw_mt w ft wr (Int32.ofNat js.length) n' sh' T') g) := by
  have c := aw_k106_56 (w := w) (g := g) d (ft := ft) (wr := wr) (wd := Int32.ofNat js.length) (n := n) (sh := sh) (T := T) a (aw_tt js p) ha1
  rw [show aw_f56 a n T (aw_tt js p) = (0, n, aw_up T 40 a (if aw_tt js p = 36 then 9 else aw_tt js p)) from by
    unfold aw_f56
    rw [aw_tw_up (by decide), if_neg]
    rintro (q | q)
    · exact h1 (aw_cto_iff.mpr (.inl ((aw_t_it (h38 p)).mp q)))
    · exact h1 (aw_cto_iff.mpr (.inr ⟨q.2, (aw_t_i36 (h38 p)).mp q.1⟩))] at c
  exact ⟨_, _, _, aw_s0 hj h32 hw he ha (by omega) hp c⟩
theorem aw_g61 {w : Nat → am_C} {g : am_H} {d : Nat} {ft wr : Int32} {js : List Nat} (hj : js.length ≤ 120) {WS : List Int32} (h32 : w 32 = am_I 0 (js.map aw_tau ++ WS)) (hw : js.length + WS.length = 120) (h38 : ∀ p, aw_w js p < 38) {p n sh : Nat} {T : aw_T} {a : Nat} (he : T 33 n = 61) (ha : T 34 n = Int32.ofNat a)  (ha1 : a < 160) (hn : n + 6 ≤ 300) (h1 : aw_w js p < 9) {o : am_O} {h' : am_H} (k : aw_G w g d ft wr js (p + 1) n sh (aw_up T 43 a (Int32.ofNat (aw_w js p))) o h') : aw_G w g d ft wr js p (n + 1) sh T o h' := by
  have c := aw_k106_61 (w := w) (g := g) d (ft := ft) (wr := wr) (wd := Int32.ofNat js.length) (n := n) (sh := sh) (T := T) a (aw_tt js p) ha1
  rw [show aw_f61 a n T (aw_tt js p) = (1, n, aw_up T 43 a (Int32.ofNat (aw_w js p))) from by unfold aw_f61; rw [if_pos ((aw_t_it (h38 p)).mpr h1), aw_t_vt (h38 p) h1]] at c
  exact aw_s1 hj h32 hw he ha (by omega) (aw_w_lt (by omega)) c k
theorem aw_g61f {w : Nat → am_C} {g : am_H} {d : Nat} {ft wr : Int32} {js : List Nat} (hj : js.length ≤ 120) {WS : List Int32} (h32 : w 32 = am_I 0 (js.map aw_tau ++ WS)) (hw : js.length + WS.length = 120) (h38 : ∀ p, aw_w js p < 38) {p n sh : Nat} {T : aw_T} {a : Nat} (he : T 33 n = 61) (ha : T 34 n = Int32.ofNat a)  (ha1 : a < 160) (hn : n + 6 ≤ 300) (h1 : ¬ aw_w js p < 9) (hp : p ≤ js.length) : ∃ n' sh' T', aw_G w g d ft wr js p (n + 1) sh T (.inl (some (.int (Int32.ofNat p)))) (am_h (aw_mt w ft wr (Int32.ofNat js.length) n' sh' T') g) := by
  have c := aw_k106_61 (w := w) (g := g) d (ft := ft) (wr := wr) (wd := Int32.ofNat js.length) (n := n) (sh := sh) (T := T) a (aw_tt js p) ha1
  rw [show aw_f61 a n T (aw_tt js p) = (0, n, aw_up T 43 a (aw_tt js p)) from by unfold aw_f61; rw [if_neg (fun q => h1 ((aw_t_it (h38 p)).mp q))]] at c
  exact ⟨_, _, _, aw_s0 hj h32 hw he ha (by omega) hp c⟩
theorem aw_g57 {w : Nat → am_C} {g : am_H} {d : Nat} {ft wr : Int32} {js : List Nat} (hj : js.length ≤ 120) {WS : List Int32} (h32 : w 32 = am_I 0 (js.map aw_tau ++ WS)) (hw : js.length + WS.length = 120) (h38 : ∀ p, aw_w js p < 38) {p n sh : Nat} {T : aw_T} {a : Nat} (he : T 33 n = 57) (ha : T 34 n = Int32.ofNat a)  (hn : n + 6 ≤ 300) (h1 : aw_w js p = 15) {o : am_O} {h' : am_H} (k : aw_G w g d ft wr js (p + 1) (n + 1 + 1) sh (aw_ph (aw_ph T n 58 (Int32.ofNat a)) (n + 1) 24 0) o h') : aw_G w g d ft wr js p (n + 1) sh T o h' := by
  have c := aw_k106_57 (w := w) (g := g) d (ft := ft) (wr := wr) (wd := Int32.ofNat js.length) (n := n) (sh := sh) (T := T) a (aw_tt js p) (by omega)
  rw [show aw_f57 a n T (aw_tt js p) = (1, n + 1 + 1, (aw_ph (aw_ph T n 58 (Int32.ofNat a)) (n + 1) 24 0)) from if_pos ((aw_t_i23 (h38 p)).mpr h1)] at c
  exact aw_s1 hj h32 hw he ha (by omega) (aw_w_lt (by omega)) c k
theorem aw_g57z {w : Nat → am_C} {g : am_H} {d : Nat} {ft wr : Int32} {js : List Nat} (hj : js.length ≤ 120) {WS : List Int32} (h32 : w 32 = am_I 0 (js.map aw_tau ++ WS)) (hw : js.length + WS.length = 120) (h38 : ∀ p, aw_w js p < 38) {p n sh : Nat} {T : aw_T} {a : Nat} (he : T 33 n = 57) (ha : T 34 n = Int32.ofNat a)  (hn : n + 6 ≤ 300) (h1 : ¬ aw_w js p = 15) (hp : p ≤ js.length) {o : am_O} {h' : am_H} (k : aw_G w g d ft wr js p n sh T o h') : aw_G w g d ft wr js p (n + 1) sh T o h' := by
  have c := aw_k106_57 (w := w) (g := g) d (ft := ft) (wr := wr) (wd := Int32.ofNat js.length) (n := n) (sh := sh) (T := T) a (aw_tt js p) (by omega)
  rw [show aw_f57 a n T (aw_tt js p) = (2, n, T) from if_neg (fun q => h1 ((aw_t_i23 (h38 p)).mp q))] at c
  exact aw_s2 hj h32 hw he ha (by omega) hp c k
theorem aw_g58a {w : Nat → am_C} {g : am_H} {d : Nat} {ft wr : Int32} {js : List Nat} (hj : js.length ≤ 120) {WS : List Int32} (h32 : w 32 = am_I 0 (js.map aw_tau ++ WS)) (hw : js.length + WS.length = 120) (h38 : ∀ p, aw_w js p < 38) {p n sh : Nat} {T : aw_T} {a : Nat} (he : T 33 n = 58) (ha : T 34 n = Int32.ofNat a)  (ha1 : a < 160) (hn : n + 6 ≤ 300) (h1 : aw_w js p = 25) {o : am_O} {h' : am_H} (k : aw_G w g d ft wr js (p + 1) (n + 1 + 1) sh (aw_ph (aw_ph (aw_up T 42 a 1) n 61 (Int32.ofNat a)) (n + 1) 59 (Int32.ofNat a)) o h') : aw_G w g d ft wr js p (n + 1) sh T o h' := by
  have c := aw_k106_58 (w := w) (g := g) d (ft := ft) (wr := wr) (wd := Int32.ofNat js.length) (n := n) (sh := sh) (T := T) a (aw_tt js p) ha1 (by omega)
  rw [show aw_f58 a n T (aw_tt js p) = (1, n + 1 + 1, (aw_ph (aw_ph (aw_up T 42 a 1) n 61 (Int32.ofNat a)) (n + 1) 59 (Int32.ofNat a))) from if_pos ((aw_t_i17 (h38 p)).mpr h1)] at c
  exact aw_s1 hj h32 hw he ha (by omega) (aw_w_lt (by omega)) c k
theorem aw_g58n {w : Nat → am_C} {g : am_H} {d : Nat} {ft wr : Int32} {js : List Nat} (hj : js.length ≤ 120) {WS : List Int32} (h32 : w 32 = am_I 0 (js.map aw_tau ++ WS)) (hw : js.length + WS.length = 120) (h38 : ∀ p, aw_w js p < 38) {p n sh : Nat} {T : aw_T} {a : Nat} (he : T 33 n = 58) (ha : T 34 n = Int32.ofNat a)  (ha1 : a < 160) (hn : n + 6 ≤ 300) (h1 : 26 ≤ aw_w js p) (h2 : aw_w js p ≤ 30) {o : am_O} {h' : am_H} (k : aw_G w g d ft wr js (p + 1) (n + 1 + 1) sh (aw_ph (aw_ph (aw_up T 42 a (Int32.ofNat (aw_w js p - 24))) n 61 (Int32.ofNat a)) (n + 1) 60 (Int32.ofNat a)) o h') : aw_G w g d ft wr js p (n + 1) sh T o h' := by
  have c := aw_k106_58 (w := w) (g := g) d (ft := ft) (wr := wr) (wd := Int32.ofNat js.length) (n := n) (sh := sh) (T := T) a (aw_tt js p) ha1 (by omega)
  rw [show aw_f58 a n T (aw_tt js p) = (1, n + 1 + 1, (aw_ph (aw_ph (aw_up T 42 a (Int32.ofNat (aw_w js p - 24))) n 61 (Int32.ofNat a)) (n + 1) 60 (Int32.ofNat a))) from (if_neg (fun q => by have := (aw_t_i17 (h38 p)).mp q; omega)).trans (by rw [if_pos ((aw_t_in (h38 p)).mpr ⟨h1, h2⟩), aw_t_vn (h38 p) ⟨h1, h2⟩])] at c
  exact aw_s1 hj h32 hw he ha (by omega) (aw_w_lt (by omega)) c k
theorem aw_g58f {w : Nat → am_C} {g : am_H} {d : Nat} {ft wr : Int32} {js : List Nat} (hj : js.length ≤ 120) {WS : List Int32} (h32 : w 32 = am_I 0 (js.map aw_tau ++ WS)) (hw : js.length + WS.length = 120) (h38 : ∀ p, aw_w js p < 38) {p n sh : Nat} {T : aw_T} {a : Nat} (he : T 33 n = 58) (ha : T 34 n = Int32.ofNat a)  (ha1 : a < 160) (hn : n + 6 ≤ 300) (h1 : ¬ aw_isn (aw_w js p) = true) (hp : p ≤ js.length) : ∃ n' sh' T', aw_G w g d ft wr js p (n + 1) sh T (.inl (some (.int (Int32.ofNat p)))) (am_h (aw_mt w ft wr (Int32.ofNat js.length) n' sh' T') g) := by
  have c := aw_k106_58 (w := w) (g := g) d (ft := ft) (wr := wr) (wd := Int32.ofNat js.length) (n := n) (sh := sh) (T := T) a (aw_tt js p) ha1 (by omega)
  rw [show aw_f58 a n T (aw_tt js p) = (0, n + 1 + 1, (aw_ph (aw_ph (aw_up T 42 a ((aw_tt js p) - 31 + 2)) n 61 (Int32.ofNat a)) (n + 1) 60 (Int32.ofNat a))) from (if_neg (fun q => h1 (aw_isn_iff.mpr (by have := (aw_t_i17 (h38 p)).mp q; omega)))).trans (by rw [if_neg (fun q => h1 (aw_isn_iff.mpr (by have := (aw_t_in (h38 p)).mp q; omega)))])] at c
  exact ⟨_, _, _, aw_s0 hj h32 hw he ha (by omega) hp c⟩
theorem aw_g14 {w : Nat → am_C} {g : am_H} {d : Nat} {ft wr : Int32} {js : List Nat} (hj : js.length ≤ 120) {WS : List Int32} (h32 : w 32 = am_I 0 (js.map aw_tau ++ WS)) (hw : js.length + WS.length = 120) (h38 : ∀ p, aw_w js p < 38) {p n sh : Nat} {T : aw_T}  (he : T 33 n = 14) (ha : T 34 n = 0) (hn : n + 6 ≤ 300) (h1 : aw_w js p = 12) {o : am_O} {h' : am_H} (k : aw_G w g d ft wr js (p + 1) n sh T o h') : aw_G w g d ft wr js p (n + 1) sh T o h' := by
  have c := aw_k106_14 (w := w) (g := g) d (ft := ft) (wr := wr) (wd := Int32.ofNat js.length) (n := n) (sh := sh) (T := T) 0 (aw_tt js p)
  rw [show aw_fe 14 n T (aw_tt js p) = (1, n, T) from by unfold aw_fe; rw [if_pos ((aw_t_i14 (h38 p)).mpr h1)]] at c
  exact aw_s1 hj h32 hw he ha (by omega) (aw_w_lt (by omega)) c k
theorem aw_g14f {w : Nat → am_C} {g : am_H} {d : Nat} {ft wr : Int32} {js : List Nat} (hj : js.length ≤ 120) {WS : List Int32} (h32 : w 32 = am_I 0 (js.map aw_tau ++ WS)) (hw : js.length + WS.length = 120) (h38 : ∀ p, aw_w js p < 38) {p n sh : Nat} {T : aw_T}  (he : T 33 n = 14) (ha : T 34 n = 0) (hn : n + 6 ≤ 300) (h1 : ¬ aw_w js p = 12) (hp : p ≤ js.length) : ∃ n' sh' T', aw_G w g d ft wr js p (n + 1) sh T (.inl (some (.int (Int32.ofNat p)))) (am_h (aw_mt w ft wr (Int32.ofNat js.length) n' sh' T') g) := by
  have c := aw_k106_14 (w := w) (g := g) d (ft := ft) (wr := wr) (wd := Int32.ofNat js.length) (n := n) (sh := sh) (T := T) 0 (aw_tt js p)
  rw [show aw_fe 14 n T (aw_tt js p) = (0, n, T) from by unfold aw_fe; rw [if_neg (fun q => h1 ((aw_t_i14 (h38 p)).mp q))]] at c
  exact ⟨_, _, _, aw_s0 hj h32 hw he ha (by omega) hp c⟩
theorem aw_g16 {w : Nat → am_C} {g : am_H} {d : Nat} {ft wr : Int32} {js : List Nat} (hj : js.length ≤ 120) {WS : List Int32} (h32 : w 32 = am_I 0 (js.map aw_tau ++ WS)) (hw : js.length + WS.length = 120) (h38 : ∀ p, aw_w js p < 38) {p n sh : Nat} {T : aw_T}  (he : T 33 n = 16) (ha : T 34 n = 0) (hn : n + 6 ≤ 300) (h1 : aw_w js p = 14) {o : am_O} {h' : am_H} (k : aw_G w g d ft wr js (p + 1) n sh T o h') : aw_G w g d ft wr js p (n + 1) sh T o h' := by
  have c := aw_k106_16 (w := w) (g := g) d (ft := ft) (wr := wr) (wd := Int32.ofNat js.length) (n := n) (sh := sh) (T := T) 0 (aw_tt js p)
  rw [show aw_fe 16 n T (aw_tt js p) = (1, n, T) from by unfold aw_fe; rw [if_pos ((aw_t_i16 (h38 p)).mpr h1)]] at c
  exact aw_s1 hj h32 hw he ha (by omega) (aw_w_lt (by omega)) c k
theorem aw_g16f {w : Nat → am_C} {g : am_H} {d : Nat} {ft wr : Int32} {js : List Nat} (hj : js.length ≤ 120) {WS : List Int32} (h32 : w 32 = am_I 0 (js.map aw_tau ++ WS)) (hw : js.length + WS.length = 120) (h38 : ∀ p, aw_w js p < 38) {p n sh : Nat} {T : aw_T}  (he : T 33 n = 16) (ha : T 34 n = 0) (hn : n + 6 ≤ 300) (h1 : ¬ aw_w js p = 14) (hp : p ≤ js.length) : ∃ n' sh' T', aw_G w g d ft wr js p (n + 1) sh T (.inl (some (.int (Int32.ofNat p)))) (am_h (aw_mt w ft wr (Int32.ofNat js.length) n' sh' T') g) := by
  have c := aw_k106_16 (w := w) (g := g) d (ft := ft) (wr := wr) (wd := Int32.ofNat js.length) (n := n) (sh := sh) (T := T) 0 (aw_tt js p)
  rw [show aw_fe 16 n T (aw_tt js p) = (0, n, T) from by unfold aw_fe; rw [if_neg (fun q => h1 ((aw_t_i16 (h38 p)).mp q))]] at c
  exact ⟨_, _, _, aw_s0 hj h32 hw he ha (by omega) hp c⟩
theorem aw_g24 {w : Nat → am_C} {g : am_H} {d : Nat} {ft wr : Int32} {js : List Nat} (hj : js.length ≤ 120) {WS : List Int32} (h32 : w 32 = am_I 0 (js.map aw_tau ++ WS)) (hw : js.length + WS.length = 120) (h38 : ∀ p, aw_w js p < 38) {p n sh : Nat} {T : aw_T}  (he : T 33 n = 24) (ha : T 34 n = 0) (hn : n + 6 ≤ 300) (h1 : aw_w js p = 16) {o : am_O} {h' : am_H} (k : aw_G w g d ft wr js (p + 1) n sh T o h') : aw_G w g d ft wr js p (n + 1) sh T o h' := by
  have c := aw_k106_24 (w := w) (g := g) d (ft := ft) (wr := wr) (wd := Int32.ofNat js.length) (n := n) (sh := sh) (T := T) 0 (aw_tt js p)
  rw [show aw_fe 24 n T (aw_tt js p) = (1, n, T) from by unfold aw_fe; rw [if_pos ((aw_t_i24 (h38 p)).mpr h1)]] at c
  exact aw_s1 hj h32 hw he ha (by omega) (aw_w_lt (by omega)) c k
theorem aw_g24f {w : Nat → am_C} {g : am_H} {d : Nat} {ft wr : Int32} {js : List Nat} (hj : js.length ≤ 120) {WS : List Int32} (h32 : w 32 = am_I 0 (js.map aw_tau ++ WS)) (hw : js.length + WS.length = 120) (h38 : ∀ p, aw_w js p < 38) {p n sh : Nat} {T : aw_T}  (he : T 33 n = 24) (ha : T 34 n = 0) (hn : n + 6 ≤ 300) (h1 : ¬ aw_w js p = 16) (hp : p ≤ js.length) : ∃ n' sh' T', aw_G w g d ft wr js p (n + 1) sh T (.inl (some (.int (Int32.ofNat p)))) (am_h (aw_mt w ft wr (Int32.ofNat js.length) n' sh' T') g) := by
  have c := aw_k106_24 (w := w) (g := g) d (ft := ft) (wr := wr) (wd := Int32.ofNat js.length) (n := n) (sh := sh) (T := T) 0 (aw_tt js p)
  rw [show aw_fe 24 n T (aw_tt js p) = (0, n, T) from by unfold aw_fe; rw [if_neg (fun q => h1 ((aw_t_i24 (h38 p)).mp q))]] at c
  exact ⟨_, _, _, aw_s0 hj h32 hw he ha (by omega) hp c⟩
theorem aw_g50t {w : Nat → am_C} {g : am_H} {d : Nat} {ft wr : Int32} {js : List Nat} (hj : js.length ≤ 120) {WS : List Int32} (h32 : w 32 = am_I 0 (js.map aw_tau ++ WS)) (hw : js.length + WS.length = 120) (h38 : ∀ p, aw_w js p < 38) {p n sh : Nat} {T : aw_T} {s : Nat} (he : T 33 n = 50) (ha : T 34 n = Int32.ofNat s)  (hs : s < 40) (hn : n + 6 ≤ 300) (h1 : aw_w js p < 9) {o : am_O} {h' : am_H} (k : aw_G w g d ft wr js (p + 1) (n + 1) sh (aw_up (aw_up (aw_ph T n 53 (Int32.ofNat s)) 36 (2 * s) (Int32.ofNat (aw_w js p))) 36 (2 * s + 1) (Int32.ofNat (aw_w js p))) o h') : aw_G w g d ft wr js p (n + 1) sh T o h' := by
  have c := aw_k106_50 (w := w) (g := g) d (ft := ft) (wr := wr) (wd := Int32.ofNat js.length) (n := n) (sh := sh) (T := T) s (aw_tt js p) hs (by omega)
  rw [show aw_f107 s n T (aw_tt js p) = (1, n + 1, aw_up (aw_up (aw_ph T n 53 (Int32.ofNat s)) 36 (2 * s) (Int32.ofNat (aw_w js p))) 36 (2 * s + 1) (Int32.ofNat (aw_w js p))) from (if_pos ((aw_t_it (h38 p)).mpr h1)).trans (by rw [aw_t_vt (h38 p) h1])] at c
  exact aw_s1 hj h32 hw he ha (by omega) (aw_w_lt (by omega)) c k
theorem aw_g50p {w : Nat → am_C} {g : am_H} {d : Nat} {ft wr : Int32} {js : List Nat} (hj : js.length ≤ 120) {WS : List Int32} (h32 : w 32 = am_I 0 (js.map aw_tau ++ WS)) (hw : js.length + WS.length = 120) (h38 : ∀ p, aw_w js p < 38) {p n sh : Nat} {T : aw_T} {s : Nat} (he : T 33 n = 50) (ha : T 34 n = Int32.ofNat s)  (hs : s < 40) (hn : n + 6 ≤ 300) (h1 : aw_w js p = 10) {o : am_O} {h' : am_H} (k : aw_G w g d ft wr js (p + 1) (n + 1 + 1 + 1 + 1 + 1) sh (aw_up (aw_ph (aw_ph (aw_ph (aw_ph (aw_ph T n 53 (Int32.ofNat s)) (n + 1) 52 (Int32.ofNat (2 * s + 1))) (n + 1 + 1) 14 0) (n + 1 + 1 + 1) 52 (Int32.ofNat (2 * s))) (n + 1 + 1 + 1 + 1) 51 (Int32.ofNat s)) 35 s 4) o h') : aw_G w g d ft wr js p (n + 1) sh T o h' := by
  have c := aw_k106_50 (w := w) (g := g) d (ft := ft) (wr := wr) (wd := Int32.ofNat js.length) (n := n) (sh := sh) (T := T) s (aw_tt js p) hs (by omega)
  rw [show aw_f107 s n T (aw_tt js p) = (1, n + 1 + 1 + 1 + 1 + 1, aw_up (aw_ph (aw_ph (aw_ph (aw_ph (aw_ph T n 53 (Int32.ofNat s)) (n + 1) 52 (Int32.ofNat (2 * s + 1))) (n + 1 + 1) 14 0) (n + 1 + 1 + 1) 52 (Int32.ofNat (2 * s))) (n + 1 + 1 + 1 + 1) 51 (Int32.ofNat s)) 35 s 4) from (if_neg (fun q => by have := (aw_t_it (h38 p)).mp q; omega)).trans (if_pos ((aw_t_i9 (h38 p)).mpr h1))] at c
  exact aw_s1 hj h32 hw he ha (by omega) (aw_w_lt (by omega)) c k
theorem aw_g50q {w : Nat → am_C} {g : am_H} {d : Nat} {ft wr : Int32} {js : List Nat} (hj : js.length ≤ 120) {WS : List Int32} (h32 : w 32 = am_I 0 (js.map aw_tau ++ WS)) (hw : js.length + WS.length = 120) (h38 : ∀ p, aw_w js p < 38) {p n sh : Nat} {T : aw_T} {s : Nat} (he : T 33 n = 50) (ha : T 34 n = Int32.ofNat s)  (hs : s < 40) (hn : n + 6 ≤ 300) (h1 : aw_w js p = 11) {o : am_O} {h' : am_H} (k : aw_G w g d ft wr js (p + 1) (n + 1 + 1 + 1 + 1) sh (aw_up (aw_ph (aw_ph (aw_ph (aw_ph T n 53 (Int32.ofNat s)) (n + 1) 52 (Int32.ofNat (2 * s + 1))) (n + 1 + 1) 14 0) (n + 1 + 1 + 1) 52 (Int32.ofNat (2 * s))) 35 s 4) o h') : aw_G w g d ft wr js p (n + 1) sh T o h' := by
  have c := aw_k106_50 (w := w) (g := g) d (ft := ft) (wr := wr) (wd := Int32.ofNat js.length) (n := n) (sh := sh) (T := T) s (aw_tt js p) hs (by omega)
  rw [show aw_f107 s n T (aw_tt js p) = (1, n + 1 + 1 + 1 + 1, aw_up (aw_ph (aw_ph (aw_ph (aw_ph T n 53 (Int32.ofNat s)) (n + 1) 52 (Int32.ofNat (2 * s + 1))) (n + 1 + 1) 14 0) (n + 1 + 1 + 1) 52 (Int32.ofNat (2 * s))) 35 s 4) from (if_neg (fun q => by have := (aw_t_it (h38 p)).mp q; omega)).trans ((if_neg (fun q => by have := (aw_t_i9 (h38 p)).mp q; omega)).trans (by rw [if_pos ((aw_t_i13 (h38 p)).mpr h1)]))] at c
  exact aw_s1 hj h32 hw he ha (by omega) (aw_w_lt (by omega)) c k
theorem aw_g50f {w : Nat → am_C} {g : am_H} {d : Nat} {ft wr : Int32} {js : List Nat} (hj : js.length ≤ 120) {WS : List Int32} (h32 : w 32 = am_I 0 (js.map aw_tau ++ WS)) (hw : js.length + WS.length = 120) (h38 : ∀ p, aw_w js p < 38) {p n sh : Nat} {T : aw_T} {s : Nat} (he : T 33 n = 50) (ha : T 34 n = Int32.ofNat s)  (hs : s < 40) (hn : n + 6 ≤ 300) (h1 : ¬ aw_w js p < 9) (h2 : ¬ aw_w js p = 10) (h3 : ¬ aw_w js p = 11) (hp : p ≤ js.length) : ∃ n' sh' T', aw_G w g d ft wr js p (n + 1) sh T (.inl (some (.int (Int32.ofNat p)))) (am_h (aw_mt w ft wr (Int32.ofNat js.length) n' sh' T') g) := by
  have c := aw_k106_50 (w := w) (g := g) d (ft := ft) (wr := wr) (wd := Int32.ofNat js.length) (n := n) (sh := sh) (T := T) s (aw_tt js p) hs (by omega)
  rw [show aw_f107 s n T (aw_tt js p) = (0, n + 1 + 1 + 1 + 1, aw_up (aw_ph (aw_ph (aw_ph (aw_ph T n 53 (Int32.ofNat s)) (n + 1) 52 (Int32.ofNat (2 * s + 1))) (n + 1 + 1) 14 0) (n + 1 + 1 + 1) 52 (Int32.ofNat (2 * s))) 35 s 4) from (if_neg (fun q => by have := (aw_t_it (h38 p)).mp q; omega)).trans ((if_neg (fun q => by have := (aw_t_i9 (h38 p)).mp q; omega)).trans (by rw [if_neg (fun q => h3 ((aw_t_i13 (h38 p)).mp q))]))] at c
  exact ⟨_, _, _, aw_s0 hj h32 hw he ha (by omega) hp c⟩
theorem aw_t_dv {js : List Nat} {p : Nat} (h38 : aw_w js p < 38) : 18 ≤ aw_w js p ∧ aw_w js p ≤ 20 → (if aw_tt js p = 10 then 1 else if aw_tt js p = 11 then 2 else 3) = aw_dv (aw_w js p) ∧ (aw_tt js p = 10 ∨ aw_tt js p = 11 ∨ aw_tt js p = 12) := aw_tt_of (P := fun t j => 18 ≤ j ∧ j ≤ 20 → (if t = 10 then 1 else if t = 11 then 2 else 3) = aw_dv j ∧ (t = 10 ∨ t = 11 ∨ t = 12)) h38 (by decide +kernel) (by decide +kernel)
theorem aw_t_dn {js : List Nat} {p : Nat} (h38 : aw_w js p < 38) : (aw_tt js p = 10 ∨ aw_tt js p = 11 ∨ aw_tt js p = 12) → 18 ≤ aw_w js p ∧ aw_w js p ≤ 20 := aw_tt_of (P := fun t j => (t = 10 ∨ t = 11 ∨ t = 12) → 18 ≤ j ∧ j ≤ 20) h38 (by decide +kernel) (by decide +kernel)
theorem aw_g51 {w : Nat → am_C} {g : am_H} {d : Nat} {ft wr : Int32} {js : List Nat} (hj : js.length ≤ 120) {WS : List Int32} (h32 : w 32 = am_I 0 (js.map aw_tau ++ WS)) (hw : js.length + WS.length = 120) (h38 : ∀ p, aw_w js p < 38) {p n sh : Nat} {T : aw_T} {s : Nat} (he : T 33 n = 51) (ha : T 34 n = Int32.ofNat s)  (hs : s < 40) (hn : n + 6 ≤ 300) (h1 : 18 ≤ aw_w js p) (h2 : aw_w js p ≤ 20) {o : am_O} {h' : am_H} (k : aw_G w g d ft wr js (p + 1) n sh (aw_up T 35 s (aw_dv (aw_w js p))) o h') : aw_G w g d ft wr js p (n + 1) sh T o h' := by
  have c := aw_k106_51 (w := w) (g := g) d (ft := ft) (wr := wr) (wd := Int32.ofNat js.length) (n := n) (sh := sh) (T := T) s (aw_tt js p) hs
  rw [show aw_f51 s n T (aw_tt js p) = (1, n, aw_up T 35 s (aw_dv (aw_w js p))) from by unfold aw_f51; rw [(aw_t_dv (h38 p) ⟨h1, h2⟩).1, if_pos (aw_t_dv (h38 p) ⟨h1, h2⟩).2]] at c
  exact aw_s1 hj h32 hw he ha (by omega) (aw_w_lt (by omega)) c k
theorem aw_g51f {w : Nat → am_C} {g : am_H} {d : Nat} {ft wr : Int32} {js : List Nat} (hj : js.length ≤ 120) {WS : List Int32} (h32 : w 32 = am_I 0 (js.map aw_tau ++ WS)) (hw : js.length + WS.length = 120) (h38 : ∀ p, aw_w js p < 38) {p n sh : Nat} {T : aw_T} {s : Nat} (he : T 33 n = 51) (ha : T 34 n = Int32.ofNat s)  (hs : s < 40) (hn : n + 6 ≤ 300) (h1 : ¬ (18 ≤ aw_w js p ∧ aw_w js p ≤ 20)) (hp : p ≤ js.length) : ∃ n' sh' T', aw_G w g d ft wr js p (n + 1) sh T (.inl (some (.int (Int32.ofNat p)))) (am_h (aw_mt w ft wr (Int32.ofNat js.length) n' sh' T') g) := by
  have c := aw_k106_51 (w := w) (g := g) d (ft := ft) (wr := wr) (wd := Int32.ofNat js.length) (n := n) (sh := sh) (T := T) s (aw_tt js p) hs
  rw [show aw_f51 s n T (aw_tt js p) = (0, n, aw_up T 35 s (if aw_tt js p = 10 then 1 else if aw_tt js p = 11 then 2 else 3)) from by unfold aw_f51; rw [if_neg (fun q => h1 (aw_t_dn (h38 p) q))]] at c
  exact ⟨_, _, _, aw_s0 hj h32 hw he ha (by omega) hp c⟩
theorem aw_g52t {w : Nat → am_C} {g : am_H} {d : Nat} {ft wr : Int32} {js : List Nat} (hj : js.length ≤ 120) {WS : List Int32} (h32 : w 32 = am_I 0 (js.map aw_tau ++ WS)) (hw : js.length + WS.length = 120) (h38 : ∀ p, aw_w js p < 38) {p n sh : Nat} {T : aw_T} {a : Nat} (he : T 33 n = 52) (ha : T 34 n = Int32.ofNat a)  (ha1 : a < 80) (hs : sh < 40) (hn : n + 6 ≤ 300) (h1 : aw_w js p < 9) {o : am_O} {h' : am_H} (k : aw_G w g d ft wr js (p + 1) n sh (aw_up T 36 a (Int32.ofNat (aw_w js p))) o h') : aw_G w g d ft wr js p (n + 1) sh T o h' := by
  have c := aw_k106_52 (w := w) (g := g) d (ft := ft) (wr := wr) (wd := Int32.ofNat js.length) (n := n) (sh := sh) (T := T) a (aw_tt js p) ha1 (by omega) hs
  rw [show aw_f109 a n sh T (aw_tt js p) = (1, n, sh, aw_up T 36 a (Int32.ofNat (aw_w js p))) from (if_neg (fun q => by have := (aw_t_i15 (h38 p)).mp q; omega)).trans (by rw [if_pos ((aw_t_it (h38 p)).mpr h1), aw_t_vt (h38 p) h1])] at c
  exact aw_s1 hj h32 hw he ha (by omega) (aw_w_lt (by omega)) c k
theorem aw_g52f {w : Nat → am_C} {g : am_H} {d : Nat} {ft wr : Int32} {js : List Nat} (hj : js.length ≤ 120) {WS : List Int32} (h32 : w 32 = am_I 0 (js.map aw_tau ++ WS)) (hw : js.length + WS.length = 120) (h38 : ∀ p, aw_w js p < 38) {p n sh : Nat} {T : aw_T} {a : Nat} (he : T 33 n = 52) (ha : T 34 n = Int32.ofNat a)  (ha1 : a < 80) (hs : sh < 40) (hn : n + 6 ≤ 300) (h1 : ¬ aw_w js p < 9) (h2 : ¬ aw_w js p = 13) (hp : p ≤ js.length) : ∃ n' sh' T', aw_G w g d ft wr js p (n + 1) sh T (.inl (some (.int (Int32.ofNat p)))) (am_h (aw_mt w ft wr (Int32.ofNat js.length) n' sh' T') g) := by
  have c := aw_k106_52 (w := w) (g := g) d (ft := ft) (wr := wr) (wd := Int32.ofNat js.length) (n := n) (sh := sh) (T := T) a (aw_tt js p) ha1 (by omega) hs
  rw [show aw_f109 a n sh T (aw_tt js p) = (0, n, sh, aw_up T 36 a (aw_tt js p)) from (if_neg (fun q => by have := (aw_t_i15 (h38 p)).mp q; omega)).trans (by rw [if_neg (fun q => h1 ((aw_t_it (h38 p)).mp q))])] at c
  exact ⟨_, _, _, aw_s0 hj h32 hw he ha (by omega) hp c⟩
theorem aw_up37 {T : aw_T} {a : Nat} {v : Int32} {i : Nat} : aw_up T 36 a v 37 i = T 37 i := aw_up_ne (.inl (by decide))
theorem aw_g52d {w : Nat → am_C} {g : am_H} {d : Nat} {ft wr : Int32} {js : List Nat} (hj : js.length ≤ 120) {WS : List Int32} (h32 : w 32 = am_I 0 (js.map aw_tau ++ WS)) (hw : js.length + WS.length = 120) (h38 : ∀ p, aw_w js p < 38) {p n sh : Nat} {T : aw_T} {a : Nat} (he : T 33 n = 52) (ha : T 34 n = Int32.ofNat a)  (ha1 : a < 80) (hs : sh < 40) (hn : n + 6 ≤ 300) (h1 : aw_w js p = 13) (h2 : T 37 (a / 2) = 3) (hp : p ≤ js.length) : ∃ n' sh' T', aw_G w g d ft wr js p (n + 1) sh T (.inl (some (.int (Int32.ofNat p)))) (am_h (aw_mt w ft wr (Int32.ofNat js.length) n' sh' T') g) := by
  have c := aw_k106_52 (w := w) (g := g) d (ft := ft) (wr := wr) (wd := Int32.ofNat js.length) (n := n) (sh := sh) (T := T) a (aw_tt js p) ha1 (by omega) hs
  rw [show aw_f109 a n sh T (aw_tt js p) = (0, n, sh, aw_up T 36 a (aw_tt js p)) from (if_pos ((aw_t_i15 (h38 p)).mpr h1)).trans (if_pos (aw_up37.trans h2))] at c
  exact ⟨_, _, _, aw_s0 hj h32 hw he ha (by omega) hp c⟩
theorem aw_g52o {w : Nat → am_C} {g : am_H} {d : Nat} {ft wr : Int32} {js : List Nat} (hj : js.length ≤ 120) {WS : List Int32} (h32 : w 32 = am_I 0 (js.map aw_tau ++ WS)) (hw : js.length + WS.length = 120) (h38 : ∀ p, aw_w js p < 38) {p n sh : Nat} {T : aw_T} {a : Nat} (he : T 33 n = 52) (ha : T 34 n = Int32.ofNat a)  (ha1 : a < 80) (hs : sh < 40) (hn : n + 6 ≤ 300) (h1 : aw_w js p = 13) (h2 : ¬ T 37 (a / 2) = 3) {o : am_O} {h' : am_H} (k : aw_G w g d ft wr js (p + 1) (n + 1 + 1) (sh + 1) (aw_ph (aw_ph (aw_up (aw_nsv (aw_up T 36 a (aw_tt js p)) sh (T 37 (a / 2) + 1)) 36 a (Int32.ofNat (100 + sh))) n 16 0) (n + 1) 50 (Int32.ofNat sh)) o h') : aw_G w g d ft wr js p (n + 1) sh T o h' := by
  have c := aw_k106_52 (w := w) (g := g) d (ft := ft) (wr := wr) (wd := Int32.ofNat js.length) (n := n) (sh := sh) (T := T) a (aw_tt js p) ha1 (by omega) hs
  rw [show aw_f109 a n sh T (aw_tt js p) = (1, n + 1 + 1, sh + 1, (aw_ph (aw_ph (aw_up (aw_nsv (aw_up T 36 a (aw_tt js p)) sh (T 37 (a / 2) + 1)) 36 a (Int32.ofNat (100 + sh))) n 16 0) (n + 1) 50 (Int32.ofNat sh))) from (if_pos ((aw_t_i15 (h38 p)).mpr h1)).trans ((if_neg (fun q => h2 (aw_up37.symm.trans q))).trans (by rw [aw_up37]; rfl))] at c
  exact aw_s1 hj h32 hw he ha (by omega) (aw_w_lt (by omega)) c k
