/-! paint of the reference, as a whole. -/
/-- the tables below shield s are such as can be -/
def aw_WP (W : Nat → Prop) (v : Int32) : Prop := (∃ t, t < 9 ∧ v = Int32.ofNat t) ∨ (∃ s, s < 8 ∧ v = Int32.ofNat (100 + s) ∧ W s)
def aw_WT (T : aw_T) : Nat → Nat → Prop
  | 0, _ => False
  | l + 1, s => s < 8 ∧ (∃ k, k ≤ 4 ∧ T 35 s = Int32.ofNat k) ∧ (∃ i, i ≤ 4 ∧ T 38 s = Int32.ofNat i ∧ ∀ j, j < i → aw_VI T s (4 * s + j)) ∧ aw_WP (aw_WT T l) (T 36 (2 * s)) ∧ aw_WP (aw_WT T l) (T 36 (2 * s + 1))
theorem aw_k114p {w : Nat → am_C} {g : am_H} (d : Nat) {ft wr wd : Int32} {n0 sh : Nat} {T : aw_T} (cx cy : Int32) : ∀ (l s kk : Nat) (x y bw bh : Int32) (x9 x10 x11 : Option Value), l ≤ 3 → kk + l ≤ 4 → aw_WT T l s → aw_bx l x y bw bh → am_R (d + 5) 114 19 [some (.ref 1021), some (.int cx), some (.int cy), some (.int (Int32.ofNat s)), some (.int x), some (.int y), some (.int bw), some (.int bh), some (.int (Int32.ofNat kk)), x9, x10, x11] [] (am_h (aw_mt w ft wr wd n0 sh T) g) (.inl (some (.int (aw_pn T l s x y bw bh)))) (am_h (aw_mt w ft wr wd n0 sh T) g) := by
  intro l
  induction l with
  | zero => intro s kk x y bw bh x9 x10 x11 _ _ h; exact absurd h id
  | succ l ih =>
    intro s kk x y bw bh x9 x10 x11 hl hkl hW hb
    obtain ⟨hs, ⟨k, k4, e35⟩, ⟨i, i4, e38, hV⟩, hp1, hp2⟩ := hW
    have e35' : (T 35 s).toNatClampNeg = k := by
      rw [e35]
      exact aw_ofA k (by omega)
    have e38' : (T 38 s).toNatClampNeg = i := by
      rw [e38]
      exact aw_ofA i (by omega)
    rw [aw_pn, e35', e38']
    have hnest : ∀ s1, aw_WT T l s1 → ∀ y9 y10 y11 : Option Value, am_R (d + 5) 114 19 [some (.ref 1021), some (.int cx), some (.int cy), some (.int (Int32.ofNat s1)), some (.int (aw_h1 (decide (k = 1 ∨ k = 4)) x bw)), some (.int (aw_h1 (decide (k = 2 ∨ k = 4)) y bh)), some (.int (aw_h2 (decide (k = 1 ∨ k = 4)) x bw)), some (.int (aw_h2 (decide (k = 2 ∨ k = 4)) y bh)), some (.int (Int32.ofNat (kk + 1))), y9, y10, y11] [] (am_h (aw_mt w ft wr wd n0 sh T) g) (.inl (some (.int (aw_pn T l s1 (aw_h1 (decide (k = 1 ∨ k = 4)) x bw) (aw_h1 (decide (k = 2 ∨ k = 4)) y bh) (aw_h2 (decide (k = 1 ∨ k = 4)) x bw) (aw_h2 (decide (k = 2 ∨ k = 4)) y bh))))) (am_h (aw_mt w ft wr wd n0 sh T) g) := by
      intro s1 hW1 y9 y10 y11
      have hl1 : 1 ≤ l := by
        cases l with
        | zero => exact absurd hW1 id
        | succ l => omega
      exact ih s1 (kk + 1) _ _ _ _ y9 y10 y11 (by omega) (by omega) hW1 (aw_bx_half hl1 hb _ _)
    rcases (by omega : k = 0 ∨ k = 1 ∨ k = 2 ∨ k = 3 ∨ k = 4) with q | q | q | q | q <;> subst q
    · refine aw_k114a_0 d cx cy hs x y bw bh kk (by omega) e35 e38 x9 x10 x11 (fun hf => ?_) (fun hf => ?_)
      · rw [hf]
        refine aw_k114i_1 d cx cy hs x y bw bh kk hb i4 hV (fun v10 v11 => ?_) i x11 (Nat.le_refl _)
        unfold aw_fl
        rw [if_pos hf]
        rcases hp1 with ⟨t, t9, et⟩ | ⟨s1, s8, es, hW1⟩
        · rw [if_pos (by rw [et]; exact aw_v100 t t9), et]
          exact aw_k114t_1 d cx cy hs x y bw bh kk t9 et v10 v11
        · obtain ⟨z1, z2⟩ := aw_v108 s1 s8
          rw [es, if_neg z1, z2]
          exact aw_k114n_10 d cx cy hs x y bw bh kk s8 es e35 v10 v11 (hnest s1 hW1)
      · rw [Bool.not_eq_true] at hf
        rw [hf]
        refine aw_k114i_0 d cx cy hs x y bw bh kk hb i4 hV (fun v10 v11 => ?_) i x11 (Nat.le_refl _)
        unfold aw_fl
        rw [hf, if_neg (show ¬ (false = true) from Bool.false_ne_true)]
        rcases hp2 with ⟨t, t9, et⟩ | ⟨s1, s8, es, hW1⟩
        · rw [if_pos (by rw [et]; exact aw_v100 t t9), et]
          exact aw_k114t_0 d cx cy hs x y bw bh kk t9 et v10 v11
        · obtain ⟨z1, z2⟩ := aw_v108 s1 s8
          rw [es, if_neg z1, z2]
          exact aw_k114n_00 d cx cy hs x y bw bh kk s8 es e35 v10 v11 (hnest s1 hW1)
    · refine aw_k114a_1 d cx cy hs x y bw bh kk (by omega) e35 e38 x9 x10 x11 (fun hf => ?_) (fun hf => ?_)
      · rw [hf]
        refine aw_k114i_1 d cx cy hs x y bw bh kk hb i4 hV (fun v10 v11 => ?_) i x11 (Nat.le_refl _)
        unfold aw_fl
        rw [if_pos hf]
        rcases hp1 with ⟨t, t9, et⟩ | ⟨s1, s8, es, hW1⟩
        · rw [if_pos (by rw [et]; exact aw_v100 t t9), et]
          exact aw_k114t_1 d cx cy hs x y bw bh kk t9 et v10 v11
        · obtain ⟨z1, z2⟩ := aw_v108 s1 s8
          rw [es, if_neg z1, z2]
          exact aw_k114n_11 d cx cy hs x y bw bh kk s8 es e35 v10 v11 (hnest s1 hW1)
      · rw [Bool.not_eq_true] at hf
        rw [hf]
        refine aw_k114i_0 d cx cy hs x y bw bh kk hb i4 hV (fun v10 v11 => ?_) i x11 (Nat.le_refl _)
        unfold aw_fl
        rw [hf, if_neg (show ¬ (false = true) from Bool.false_ne_true)]
        rcases hp2 with ⟨t, t9, et⟩ | ⟨s1, s8, es, hW1⟩
        · rw [if_pos (by rw [et]; exact aw_v100 t t9), et]
          exact aw_k114t_0 d cx cy hs x y bw bh kk t9 et v10 v11
        · obtain ⟨z1, z2⟩ := aw_v108 s1 s8
          rw [es, if_neg z1, z2]
          exact aw_k114n_01 d cx cy hs x y bw bh kk s8 es e35 v10 v11 (hnest s1 hW1)
    · refine aw_k114a_2 d cx cy hs x y bw bh kk (by omega) e35 e38 x9 x10 x11 (fun hf => ?_) (fun hf => ?_)
      · rw [hf]
        refine aw_k114i_1 d cx cy hs x y bw bh kk hb i4 hV (fun v10 v11 => ?_) i x11 (Nat.le_refl _)
        unfold aw_fl
        rw [if_pos hf]
        rcases hp1 with ⟨t, t9, et⟩ | ⟨s1, s8, es, hW1⟩
        · rw [if_pos (by rw [et]; exact aw_v100 t t9), et]
          exact aw_k114t_1 d cx cy hs x y bw bh kk t9 et v10 v11
        · obtain ⟨z1, z2⟩ := aw_v108 s1 s8
          rw [es, if_neg z1, z2]
          exact aw_k114n_12 d cx cy hs x y bw bh kk s8 es e35 v10 v11 (hnest s1 hW1)
      · rw [Bool.not_eq_true] at hf
        rw [hf]
        refine aw_k114i_0 d cx cy hs x y bw bh kk hb i4 hV (fun v10 v11 => ?_) i x11 (Nat.le_refl _)
        unfold aw_fl
        rw [hf, if_neg (show ¬ (false = true) from Bool.false_ne_true)]
        rcases hp2 with ⟨t, t9, et⟩ | ⟨s1, s8, es, hW1⟩
        · rw [if_pos (by rw [et]; exact aw_v100 t t9), et]
          exact aw_k114t_0 d cx cy hs x y bw bh kk t9 et v10 v11
        · obtain ⟨z1, z2⟩ := aw_v108 s1 s8
          rw [es, if_neg z1, z2]
          exact aw_k114n_02 d cx cy hs x y bw bh kk s8 es e35 v10 v11 (hnest s1 hW1)
    · refine aw_k114a_3 d cx cy hs x y bw bh kk (by omega) e35 e38 x9 x10 x11 (fun hf => ?_) (fun hf => ?_)
      · rw [hf]
        refine aw_k114i_1 d cx cy hs x y bw bh kk hb i4 hV (fun v10 v11 => ?_) i x11 (Nat.le_refl _)
        unfold aw_fl
        rw [if_pos hf]
        rcases hp1 with ⟨t, t9, et⟩ | ⟨s1, s8, es, hW1⟩
        · rw [if_pos (by rw [et]; exact aw_v100 t t9), et]
          exact aw_k114t_1 d cx cy hs x y bw bh kk t9 et v10 v11
        · obtain ⟨z1, z2⟩ := aw_v108 s1 s8
          rw [es, if_neg z1, z2]
          exact aw_k114n_13 d cx cy hs x y bw bh kk s8 es e35 v10 v11 (hnest s1 hW1)
      · rw [Bool.not_eq_true] at hf
        rw [hf]
        refine aw_k114i_0 d cx cy hs x y bw bh kk hb i4 hV (fun v10 v11 => ?_) i x11 (Nat.le_refl _)
        unfold aw_fl
        rw [hf, if_neg (show ¬ (false = true) from Bool.false_ne_true)]
        rcases hp2 with ⟨t, t9, et⟩ | ⟨s1, s8, es, hW1⟩
        · rw [if_pos (by rw [et]; exact aw_v100 t t9), et]
          exact aw_k114t_0 d cx cy hs x y bw bh kk t9 et v10 v11
        · obtain ⟨z1, z2⟩ := aw_v108 s1 s8
          rw [es, if_neg z1, z2]
          exact aw_k114n_03 d cx cy hs x y bw bh kk s8 es e35 v10 v11 (hnest s1 hW1)
    · refine aw_k114a_4 d cx cy hs x y bw bh kk (by omega) e35 e38 x9 x10 x11 (fun hf => ?_) (fun hf => ?_)
      · rw [hf]
        refine aw_k114i_1 d cx cy hs x y bw bh kk hb i4 hV (fun v10 v11 => ?_) i x11 (Nat.le_refl _)
        unfold aw_fl
        rw [if_pos hf]
        rcases hp1 with ⟨t, t9, et⟩ | ⟨s1, s8, es, hW1⟩
        · rw [if_pos (by rw [et]; exact aw_v100 t t9), et]
          exact aw_k114t_1 d cx cy hs x y bw bh kk t9 et v10 v11
        · obtain ⟨z1, z2⟩ := aw_v108 s1 s8
          rw [es, if_neg z1, z2]
          exact aw_k114n_14 d cx cy hs x y bw bh kk s8 es e35 v10 v11 (hnest s1 hW1)
      · rw [Bool.not_eq_true] at hf
        rw [hf]
        refine aw_k114i_0 d cx cy hs x y bw bh kk hb i4 hV (fun v10 v11 => ?_) i x11 (Nat.le_refl _)
        unfold aw_fl
        rw [hf, if_neg (show ¬ (false = true) from Bool.false_ne_true)]
        rcases hp2 with ⟨t, t9, et⟩ | ⟨s1, s8, es, hW1⟩
        · rw [if_pos (by rw [et]; exact aw_v100 t t9), et]
          exact aw_k114t_0 d cx cy hs x y bw bh kk t9 et v10 v11
        · obtain ⟨z1, z2⟩ := aw_v108 s1 s8
          rw [es, if_neg z1, z2]
          exact aw_k114n_04 d cx cy hs x y bw bh kk s8 es e35 v10 v11 (hnest s1 hW1)
/-- paint of the reference -/
theorem aw_k114 {w : Nat → am_C} {g : am_H} (d : Nat) {ft wr wd : Int32} {n0 sh : Nat} {T : aw_T} (cx cy : Int32) (hW : aw_WT T 3 0) (hb : aw_bx 3 cx cy 24 24) : am_R (d + 5) 114 0 [some (.ref 1021), some (.int cx), some (.int cy), none, none, none, none, none, none, none, none, none] [] (am_h (aw_mt w ft wr wd n0 sh T) g) (.inl (some (.int (aw_pn T 3 0 cx cy 24 24)))) (am_h (aw_mt w ft wr wd n0 sh T) g) := by
  refine am_R.nxs 12 (pc' := 19) (lv' := [some (.ref 1021), some (.int cx), some (.int cy), some (.int 0), some (.int cx), some (.int cy), some (.int 24), some (.int 24), some (.int 0), none, none, none]) (st' := []) (h1 := am_h (aw_mt w ft wr wd n0 sh T) g) rfl ?_
  exact aw_k114p d cx cy 3 0 0 cx cy 24 24 none none none (by decide) (by decide) hW hb
theorem aw_VI_E {T U : aw_T} (h : aw_E T U) {s n : Nat} (hv : aw_VI U s n) : aw_VI T s n := aw_VI_congr (fun k hk => h k (by omega) n) (h 35 (by decide) _) (h 36 (by decide) _) (h 36 (by decide) _) hv
theorem aw_WT_E {T U : aw_T} (h : aw_E T U) : ∀ l s, aw_WT U l s → aw_WT T l s := by
  intro l
  induction l with
  | zero => intro s hW; exact absurd hW id
  | succ l ih =>
    intro s hW
    obtain ⟨hs, ⟨k, k4, e35⟩, ⟨i, i4, e38, hV⟩, hp1, hp2⟩ := hW
    refine ⟨hs, ⟨k, k4, (h 35 (by decide) s).trans e35⟩, ⟨i, i4, (h 38 (by decide) s).trans e38, fun j hj => aw_VI_E h (hV j hj)⟩, ?_, ?_⟩
    · rw [h 36 (by decide)]
      rcases hp1 with e | ⟨s1, s8, es, hW1⟩
      · exact .inl e
      · exact .inr ⟨s1, s8, es, ih s1 hW1⟩
    · rw [h 36 (by decide)]
      rcases hp2 with e | ⟨s1, s8, es, hW1⟩
      · exact .inl e
      · exact .inr ⟨s1, s8, es, ih s1 hW1⟩
theorem aw_pn_E {T U : aw_T} (h : aw_E T U) : ∀ l s x y w z, aw_pn T l s x y w z = aw_pn U l s x y w z := by
  have hg : ∀ s n f x y w z, aw_gv T s n f x y w z = aw_gv U s n f x y w z := by
    intro s n f x y w z
    unfold aw_gv
    rw [h 39 (by decide), h 40 (by decide), h 41 (by decide), h 42 (by decide), h 43 (by decide), h 36 (by decide)]
  have hpi : ∀ s f x y w z i F, aw_pi T s f x y w z i F = aw_pi U s f x y w z i F := by
    intro s f x y w z i F
    induction i with
    | zero => rfl
    | succ i ih => rw [aw_pi, aw_pi, hg, ih]
  intro l
  induction l with
  | zero => intros; rfl
  | succ l ih =>
    intro s x y w z
    rw [aw_pn, aw_pn, h 35 (by decide), h 38 (by decide), hpi]
    congr 1
    unfold aw_fl
    rw [h 36 (by decide), ih]
theorem aw_RS_WT {g : am_H} {T : aw_T} {lo hi shi : Nat} (h7 : shi ≤ 8) : ∀ l slo a s, aw_RS g T lo hi shi l slo a s → aw_WT T l s := by
  intro l
  induction l with
  | zero => intro slo a s h; exact absurd h id
  | succ l ih =>
    intro slo a s h
    obtain ⟨q1, q2, la, f1, f2, L, k, i, a1, a2, a3, a4, a5, a6, a7, a8, a9, a10, a11, a12, a12', a12v, a13, a14⟩ := h
    refine ⟨by omega, ⟨k, a7, a8⟩, ⟨i, a9, a10, a12v⟩, ?_, ?_⟩
    · obtain ⟨-, -, p⟩ := a13
      rcases p with ⟨t, t9, et, -⟩ | ⟨s1, s8, es, hR⟩
      · exact .inl ⟨t, t9, et⟩
      · exact .inr ⟨s1, s8, es, ih _ _ _ hR⟩
    · obtain ⟨-, -, p⟩ := a14
      rcases p with ⟨t, t9, et, -⟩ | ⟨s1, s8, es, hR⟩
      · exact .inl ⟨t, t9, et⟩
      · exact .inr ⟨s1, s8, es, ih _ _ _ hR⟩
