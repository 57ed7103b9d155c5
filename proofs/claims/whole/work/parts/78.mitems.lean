/-! What the pure reading comes to, the reference comes to. -/
/-- from p on, with n0 that wait, the reference comes to r; m wait then, and the lowest n are as they were -/
def aw_C (w : Nat → am_C) (g : am_H) (d : Nat) (ft wr : Int32) (js : List Nat) (r : aw_Res) (p n0 sh : Nat) (T : aw_T) (n m : Nat) (X : aw_T → Prop) : Prop := match r with
  | .inl q => ∃ n' sh' T', aw_G w g d ft wr js p n0 sh T (.inl (some (.int (Int32.ofNat q)))) (am_h (aw_mt w ft wr (Int32.ofNat js.length) n' sh' T') g)
  | .inr (p', S') => ∃ T', aw_B n T T' ∧ aw_E T' S'.1 ∧ X T' ∧ ∀ o h', aw_G w g d ft wr js p' m S'.2.1 T' o h' → aw_G w g d ft wr js p n0 sh T o h'
theorem aw_C_f {w : Nat → am_C} {g : am_H} {d : Nat} {ft wr : Int32} {js : List Nat} {q p n0 sh : Nat} {T : aw_T} {n m : Nat} {X : aw_T → Prop} (h : ∃ n' sh' T', aw_G w g d ft wr js p n0 sh T (.inl (some (.int (Int32.ofNat q)))) (am_h (aw_mt w ft wr (Int32.ofNat js.length) n' sh' T') g)) : aw_C w g d ft wr js (.inl q) p n0 sh T n m X := h
/-- a step ahead of a fault -/
theorem aw_ex {w : Nat → am_C} {g : am_H} {d : Nat} {ft wr : Int32} {js : List Nat} {q p n0 sh p1 n1 sh1 : Nat} {T T1 : aw_T} (k : ∀ o h', aw_G w g d ft wr js p1 n1 sh1 T1 o h' → aw_G w g d ft wr js p n0 sh T o h') (h : ∃ n' sh' T', aw_G w g d ft wr js p1 n1 sh1 T1 (.inl (some (.int (Int32.ofNat q)))) (am_h (aw_mt w ft wr (Int32.ofNat js.length) n' sh' T') g)) : ∃ n' sh' T', aw_G w g d ft wr js p n0 sh T (.inl (some (.int (Int32.ofNat q)))) (am_h (aw_mt w ft wr (Int32.ofNat js.length) n' sh' T') g) := by
  obtain ⟨n', sh', T', h⟩ := h
  exact ⟨n', sh', T', k _ _ h⟩
theorem aw_C_k {w : Nat → am_C} {g : am_H} {d : Nat} {ft wr : Int32} {js : List Nat} {r : aw_Res} {p n0 sh p1 n1 sh1 : Nat} {T T1 : aw_T} {n n2 m : Nat} {X : aw_T → Prop} (hB : aw_B n T T1) (hn : n ≤ n2) (k : ∀ o h', aw_G w g d ft wr js p1 n1 sh1 T1 o h' → aw_G w g d ft wr js p n0 sh T o h') (h : aw_C w g d ft wr js r p1 n1 sh1 T1 n2 m X) : aw_C w g d ft wr js r p n0 sh T n m X := by
  cases r with
  | inl q => exact aw_ex k h
  | inr z =>
    obtain ⟨p', S'⟩ := z
    obtain ⟨T', b, e, x, kk⟩ := h
    exact ⟨T', aw_B_trans hB b hn, e, x, fun o h' z => k o h' (kk o h' z)⟩
theorem aw_m_cf {w : Nat → am_C} {g : am_H} {d : Nat} {ft wr : Int32} {js : List Nat} (hj : js.length ≤ 120) {WS : List Int32} (h32 : w 32 = am_I 0 (js.map aw_tau ++ WS)) (hw : js.length + WS.length = 120) (h38 : ∀ p, aw_w js p < 38) {p n sh s i ic cc dp : Nat} {br : List Nat} {T U : aw_T} (hE : aw_E T U) (he : T 33 n = 53) (ha : T 34 n = Int32.ofNat s) (hs : s < 8) (hi : U 38 s = Int32.ofNat i) (hi4 : i < 4) (hn : n + 12 ≤ 300) (hnum : aw_isn (aw_w js p) = true) (hno : ¬ (aw_w js p = 25 ∧ 17 ≤ aw_w js (p + 1) ∧ aw_w js (p + 1) ≤ 24)) : aw_C w g d ft wr js (aw_Pcf js s i (U, sh, ic, cc, dp, br) p) p (n + 1) sh T n (n + 1) (fun T' => T' 33 n = 53 ∧ T' 34 n = Int32.ofNat s) := by
  have hiT : T 38 s = Int32.ofNat i := (hE 38 (by decide) s).trans hi
  have hd4 : (4 * s + i) / 4 = s := by omega
  have hnum2 := aw_isn_iff.mp hnum
  have hpl : p < js.length := aw_w_lt (by omega)
  have htw : ∀ (T1 : aw_T), aw_E T1 (aw_up (aw_up (aw_t0 U s i) 42 (4 * s + i) (Int32.ofNat (aw_w js p - 24))) 41 (4 * s + i) (Int32.ofNat (aw_chv (aw_w js p) (aw_w js (p + 1))))) → aw_tw T1 s = aw_tw U s := by
    intro T1 h
    rw [aw_tw_E h]
    unfold aw_t0
    rw [aw_tw_up (by decide), aw_tw_up (by decide), aw_tw_up (by decide), aw_tw_up (by decide), aw_tw_up (by decide)]
  unfold aw_Pcf
  dsimp only
  by_cases h25 : aw_w js p = 25
  · have k1 : ∀ o h', _ → aw_G w g d ft wr js p (n + 1) sh T o h' := fun o h' k => aw_g53a hj h32 hw h38 he ha (by omega) hiT (by omega) (by omega) (by omega) h25 k
    split
    · rename_i q hf
      refine aw_C_f ?_
      rcases aw_fch_some hf with ⟨e, f1⟩ | ⟨e, f1, f2⟩ | ⟨e, f1, f2, f3⟩
      · exact absurd hnum f1
      · subst e
        rw [aw_shp_iff] at f2
        have hpl1 : p + 1 ≤ js.length := by omega
        refine aw_ex k1 ?_
        exact aw_g54f hj h32 hw h38 (by (repeat' first | exact aw_p33 _ _ _ _ | exact aw_p34 _ _ _ _ | refine (aw_p_ne (.inr (by omega))).trans ?_ | refine (aw_up_ne (.inl (by decide))).trans ?_)) (by (repeat' first | exact aw_p33 _ _ _ _ | exact aw_p34 _ _ _ _ | refine (aw_p_ne (.inr (by omega))).trans ?_ | refine (aw_up_ne (.inl (by decide))).trans ?_)) (by omega) (by omega) (by omega) (by omega) hpl1
      · subst e
        rw [aw_shp_iff] at f2
        have hpl1 : p + 1 < js.length := aw_w_lt (by omega)
        refine aw_ex k1 ?_
        refine aw_ex (fun o h' k => aw_g54s hj h32 hw h38 (by (repeat' first | exact aw_p33 _ _ _ _ | exact aw_p34 _ _ _ _ | refine (aw_p_ne (.inr (by omega))).trans ?_ | refine (aw_up_ne (.inl (by decide))).trans ?_)) (by (repeat' first | exact aw_p33 _ _ _ _ | exact aw_p34 _ _ _ _ | refine (aw_p_ne (.inr (by omega))).trans ?_ | refine (aw_up_ne (.inl (by decide))).trans ?_)) (by omega) (by omega) (by omega) (by omega) k) ?_
        refine aw_g56f hj h32 hw h38 (by (repeat' first | exact aw_p33 _ _ _ _ | exact aw_p34 _ _ _ _ | refine (aw_p_ne (.inr (by omega))).trans ?_ | refine (aw_up_ne (.inl (by decide))).trans ?_)) (by (repeat' first | exact aw_p33 _ _ _ _ | exact aw_p34 _ _ _ _ | refine (aw_p_ne (.inr (by omega))).trans ?_ | refine (aw_up_ne (.inl (by decide))).trans ?_)) (by omega) (by omega) ?_ (by omega)
        rw [hd4, htw _ ?_]
        · exact f3
        · unfold aw_chv aw_t0
          rw [if_pos h25, h25]
          (repeat' first | exact hE | refine aw_E_ph ?_ | refine aw_E_up ?_)
    · rename_i hf
      obtain ⟨f1, f2, f3⟩ := aw_fch_none hf
      rw [aw_shp_iff] at f2
      refine ⟨_, ?_, ?_, ?_, fun o h' k => k1 o h' (aw_g54s hj h32 hw h38 (by (repeat' first | exact aw_p33 _ _ _ _ | exact aw_p34 _ _ _ _ | refine (aw_p_ne (.inr (by omega))).trans ?_ | refine (aw_up_ne (.inl (by decide))).trans ?_)) (by (repeat' first | exact aw_p33 _ _ _ _ | exact aw_p34 _ _ _ _ | refine (aw_p_ne (.inr (by omega))).trans ?_ | refine (aw_up_ne (.inl (by decide))).trans ?_)) (by omega) (by omega) (by omega) (by omega) (aw_g56 hj h32 hw h38 (by (repeat' first | exact aw_p33 _ _ _ _ | exact aw_p34 _ _ _ _ | refine (aw_p_ne (.inr (by omega))).trans ?_ | refine (aw_up_ne (.inl (by decide))).trans ?_)) (by (repeat' first | exact aw_p33 _ _ _ _ | exact aw_p34 _ _ _ _ | refine (aw_p_ne (.inr (by omega))).trans ?_ | refine (aw_up_ne (.inl (by decide))).trans ?_)) (by omega) (by omega) ?_ k))⟩
      · (repeat' first | exact aw_B_refl _ _ | refine aw_B_ph (by omega) ?_ | refine aw_B_up (by decide) ?_)
      · unfold aw_chv aw_t0
        rw [if_pos h25, h25]
        (repeat' first | exact hE | refine aw_E_ph ?_ | refine aw_E_up ?_)
      · exact ⟨(by (repeat' first | exact aw_p33 _ _ _ _ | exact aw_p34 _ _ _ _ | refine (aw_p_ne (.inr (by omega))).trans ?_ | refine (aw_up_ne (.inl (by decide))).trans ?_)), (by (repeat' first | exact aw_p33 _ _ _ _ | exact aw_p34 _ _ _ _ | refine (aw_p_ne (.inr (by omega))).trans ?_ | refine (aw_up_ne (.inl (by decide))).trans ?_))⟩
      · rw [hd4, htw _ ?_]
        · exact f3
        · unfold aw_chv aw_t0
          rw [if_pos h25, h25]
          (repeat' first | exact hE | refine aw_E_ph ?_ | refine aw_E_up ?_)
  · have k1 : ∀ o h', _ → aw_G w g d ft wr js p (n + 1) sh T o h' := fun o h' k => aw_g53n hj h32 hw h38 he ha (by omega) hiT (by omega) (by omega) (by omega) (by omega) (by omega) k
    split
    · rename_i q hf
      refine aw_C_f ?_
      rcases aw_fch_some hf with ⟨e, f1⟩ | ⟨e, f1, f2⟩ | ⟨e, f1, f2, f3⟩
      · exact absurd hnum f1
      · subst e
        rw [aw_shp_iff] at f2
        refine aw_ex k1 ?_
        exact aw_g55f hj h32 hw h38 (by (repeat' first | exact aw_p33 _ _ _ _ | exact aw_p34 _ _ _ _ | refine (aw_p_ne (.inr (by omega))).trans ?_ | refine (aw_up_ne (.inl (by decide))).trans ?_)) (by (repeat' first | exact aw_p33 _ _ _ _ | exact aw_p34 _ _ _ _ | refine (aw_p_ne (.inr (by omega))).trans ?_ | refine (aw_up_ne (.inl (by decide))).trans ?_)) (by omega) (by omega) (by omega) (by omega)
      · subst e
        rw [aw_shp_iff] at f2
        have hpl1 : p + 1 < js.length := aw_w_lt (by omega)
        refine aw_ex k1 ?_
        refine aw_ex (fun o h' k => aw_g55 hj h32 hw h38 (by (repeat' first | exact aw_p33 _ _ _ _ | exact aw_p34 _ _ _ _ | refine (aw_p_ne (.inr (by omega))).trans ?_ | refine (aw_up_ne (.inl (by decide))).trans ?_)) (by (repeat' first | exact aw_p33 _ _ _ _ | exact aw_p34 _ _ _ _ | refine (aw_p_ne (.inr (by omega))).trans ?_ | refine (aw_up_ne (.inl (by decide))).trans ?_)) (by omega) (by omega) (by omega) (by omega) k) ?_
        refine aw_g56f hj h32 hw h38 (by (repeat' first | exact aw_p33 _ _ _ _ | exact aw_p34 _ _ _ _ | refine (aw_p_ne (.inr (by omega))).trans ?_ | refine (aw_up_ne (.inl (by decide))).trans ?_)) (by (repeat' first | exact aw_p33 _ _ _ _ | exact aw_p34 _ _ _ _ | refine (aw_p_ne (.inr (by omega))).trans ?_ | refine (aw_up_ne (.inl (by decide))).trans ?_)) (by omega) (by omega) ?_ (by omega)
        rw [hd4, htw _ ?_]
        · exact f3
        · unfold aw_chv aw_t0
          rw [if_neg h25]
          (repeat' first | exact hE | refine aw_E_ph ?_ | refine aw_E_up ?_)
    · rename_i hf
      obtain ⟨f1, f2, f3⟩ := aw_fch_none hf
      rw [aw_shp_iff] at f2
      refine ⟨_, ?_, ?_, ?_, fun o h' k => k1 o h' (aw_g55 hj h32 hw h38 (by (repeat' first | exact aw_p33 _ _ _ _ | exact aw_p34 _ _ _ _ | refine (aw_p_ne (.inr (by omega))).trans ?_ | refine (aw_up_ne (.inl (by decide))).trans ?_)) (by (repeat' first | exact aw_p33 _ _ _ _ | exact aw_p34 _ _ _ _ | refine (aw_p_ne (.inr (by omega))).trans ?_ | refine (aw_up_ne (.inl (by decide))).trans ?_)) (by omega) (by omega) (by omega) (by omega) (aw_g56 hj h32 hw h38 (by (repeat' first | exact aw_p33 _ _ _ _ | exact aw_p34 _ _ _ _ | refine (aw_p_ne (.inr (by omega))).trans ?_ | refine (aw_up_ne (.inl (by decide))).trans ?_)) (by (repeat' first | exact aw_p33 _ _ _ _ | exact aw_p34 _ _ _ _ | refine (aw_p_ne (.inr (by omega))).trans ?_ | refine (aw_up_ne (.inl (by decide))).trans ?_)) (by omega) (by omega) ?_ k))⟩
      · (repeat' first | exact aw_B_refl _ _ | refine aw_B_ph (by omega) ?_ | refine aw_B_up (by decide) ?_)
      · unfold aw_chv aw_t0
        rw [if_neg h25]
        (repeat' first | exact hE | refine aw_E_ph ?_ | refine aw_E_up ?_)
      · exact ⟨(by (repeat' first | exact aw_p33 _ _ _ _ | exact aw_p34 _ _ _ _ | refine (aw_p_ne (.inr (by omega))).trans ?_ | refine (aw_up_ne (.inl (by decide))).trans ?_)), (by (repeat' first | exact aw_p33 _ _ _ _ | exact aw_p34 _ _ _ _ | refine (aw_p_ne (.inr (by omega))).trans ?_ | refine (aw_up_ne (.inl (by decide))).trans ?_))⟩
      · rw [hd4, htw _ ?_]
        · exact f3
        · unfold aw_chv aw_t0
          rw [if_neg h25]
          (repeat' first | exact hE | refine aw_E_ph ?_ | refine aw_E_up ?_)
theorem aw_m_on {w : Nat → am_C} {g : am_H} {d : Nat} {ft wr : Int32} {js : List Nat} (hj : js.length ≤ 120) {WS : List Int32} (h32 : w 32 = am_I 0 (js.map aw_tau ++ WS)) (hw : js.length + WS.length = 120) (h38 : ∀ p, aw_w js p < 38) {p n sh a co ic cc dp : Nat} {br : List Nat} {T U : aw_T} (hE : aw_E T U) (he : T 33 (n + 1) = 24) (ha : T 34 (n + 1) = 0) (he2 : T 33 n = 58) (ha2 : T 34 n = Int32.ofNat a) (ha1 : a < 160) (hn : n + 10 ≤ 300) (hpl : p ≤ js.length) : aw_C w g d ft wr js (aw_Pon js a co (U, sh, ic, cc, dp, br) p) p (n + 1 + 1) sh T n n (fun _ => True) := by
  unfold aw_Pon
  dsimp only
  split
  · rename_i h16
    have hpl1 : p < js.length := aw_w_lt (by omega)
    have k1 : ∀ o h', _ → aw_G w g d ft wr js p (n + 1 + 1) sh T o h' := fun o h' k => aw_g24 hj h32 hw h38 he ha (by omega) h16 k
    split
    · rename_i q hf
      refine aw_C_f ?_
      refine aw_ex k1 ?_
      rcases aw_fch_some hf with ⟨e, f1⟩ | ⟨e, f1, f2⟩ | ⟨e, f1, f2, f3⟩
      · subst e
        exact aw_g58f hj h32 hw h38 he2 ha2 (by omega) (by omega) f1 (by omega)
      · subst e
        rw [aw_shp_iff] at f2
        rw [aw_isn_iff] at f1
        have hpl2 : p + 1 < js.length := aw_w_lt (by omega)
        by_cases h25 : aw_w js (p + 1) = 25
        · refine aw_ex (fun o h' k => aw_g58a hj h32 hw h38 he2 ha2 (by omega) (by omega) h25 k) ?_
          exact aw_g59f hj h32 hw h38 (by (repeat' first | exact aw_p33 _ _ _ _ | exact aw_p34 _ _ _ _ | refine (aw_p_ne (.inr (by omega))).trans ?_ | refine (aw_up_ne (.inl (by decide))).trans ?_)) (by (repeat' first | exact aw_p33 _ _ _ _ | exact aw_p34 _ _ _ _ | refine (aw_p_ne (.inr (by omega))).trans ?_ | refine (aw_up_ne (.inl (by decide))).trans ?_)) (by omega) (by omega) (by omega) (by omega)
        · refine aw_ex (fun o h' k => aw_g58n hj h32 hw h38 he2 ha2 (by omega) (by omega) (by omega) (by omega) k) ?_
          exact aw_g60f hj h32 hw h38 (by (repeat' first | exact aw_p33 _ _ _ _ | exact aw_p34 _ _ _ _ | refine (aw_p_ne (.inr (by omega))).trans ?_ | refine (aw_up_ne (.inl (by decide))).trans ?_)) (by (repeat' first | exact aw_p33 _ _ _ _ | exact aw_p34 _ _ _ _ | refine (aw_p_ne (.inr (by omega))).trans ?_ | refine (aw_up_ne (.inl (by decide))).trans ?_)) (by omega) (by omega) (by omega) (by omega)
      · subst e
        rw [aw_shp_iff] at f2
        rw [aw_isn_iff] at f1
        rw [aw_cto_iff] at f3
        have hpl2 : p + 1 + 1 < js.length := aw_w_lt (by omega)
        by_cases h25 : aw_w js (p + 1) = 25
        · refine aw_ex (fun o h' k => aw_g58a hj h32 hw h38 he2 ha2 (by omega) (by omega) h25 k) ?_
          refine aw_ex (fun o h' k => aw_g59 hj h32 hw h38 (by (repeat' first | exact aw_p33 _ _ _ _ | exact aw_p34 _ _ _ _ | refine (aw_p_ne (.inr (by omega))).trans ?_ | refine (aw_up_ne (.inl (by decide))).trans ?_)) (by (repeat' first | exact aw_p33 _ _ _ _ | exact aw_p34 _ _ _ _ | refine (aw_p_ne (.inr (by omega))).trans ?_ | refine (aw_up_ne (.inl (by decide))).trans ?_)) (by omega) (by omega) (by omega) (by omega) k) ?_
          exact aw_g61f hj h32 hw h38 (by (repeat' first | exact aw_p33 _ _ _ _ | exact aw_p34 _ _ _ _ | refine (aw_p_ne (.inr (by omega))).trans ?_ | refine (aw_up_ne (.inl (by decide))).trans ?_)) (by (repeat' first | exact aw_p33 _ _ _ _ | exact aw_p34 _ _ _ _ | refine (aw_p_ne (.inr (by omega))).trans ?_ | refine (aw_up_ne (.inl (by decide))).trans ?_)) (by omega) (by omega) (fun q => f3 (.inl q)) (by omega)
        · refine aw_ex (fun o h' k => aw_g58n hj h32 hw h38 he2 ha2 (by omega) (by omega) (by omega) (by omega) k) ?_
          refine aw_ex (fun o h' k => aw_g60 hj h32 hw h38 (by (repeat' first | exact aw_p33 _ _ _ _ | exact aw_p34 _ _ _ _ | refine (aw_p_ne (.inr (by omega))).trans ?_ | refine (aw_up_ne (.inl (by decide))).trans ?_)) (by (repeat' first | exact aw_p33 _ _ _ _ | exact aw_p34 _ _ _ _ | refine (aw_p_ne (.inr (by omega))).trans ?_ | refine (aw_up_ne (.inl (by decide))).trans ?_)) (by omega) (by omega) (by omega) (by omega) k) ?_
          exact aw_g61f hj h32 hw h38 (by (repeat' first | exact aw_p33 _ _ _ _ | exact aw_p34 _ _ _ _ | refine (aw_p_ne (.inr (by omega))).trans ?_ | refine (aw_up_ne (.inl (by decide))).trans ?_)) (by (repeat' first | exact aw_p33 _ _ _ _ | exact aw_p34 _ _ _ _ | refine (aw_p_ne (.inr (by omega))).trans ?_ | refine (aw_up_ne (.inl (by decide))).trans ?_)) (by omega) (by omega) (fun q => f3 (.inl q)) (by omega)
    · rename_i hf
      obtain ⟨f1, f2, f3⟩ := aw_fch_none hf
      rw [aw_shp_iff] at f2
      rw [aw_isn_iff] at f1
      rw [aw_cto_iff] at f3
      have f3 : aw_w js (p + 1 + 1 + 1) < 9 := by
        rcases f3 with q | q
        · exact q
        · exact absurd q.1 (by decide)
      by_cases h25 : aw_w js (p + 1) = 25
      · refine ⟨_, ?_, ?_, trivial, fun o h' k => k1 o h' (aw_g58a hj h32 hw h38 he2 ha2 (by omega) (by omega) h25 (aw_g59 hj h32 hw h38 (by (repeat' first | exact aw_p33 _ _ _ _ | exact aw_p34 _ _ _ _ | refine (aw_p_ne (.inr (by omega))).trans ?_ | refine (aw_up_ne (.inl (by decide))).trans ?_)) (by (repeat' first | exact aw_p33 _ _ _ _ | exact aw_p34 _ _ _ _ | refine (aw_p_ne (.inr (by omega))).trans ?_ | refine (aw_up_ne (.inl (by decide))).trans ?_)) (by omega) (by omega) (by omega) (by omega) (aw_g61 hj h32 hw h38 (by (repeat' first | exact aw_p33 _ _ _ _ | exact aw_p34 _ _ _ _ | refine (aw_p_ne (.inr (by omega))).trans ?_ | refine (aw_up_ne (.inl (by decide))).trans ?_)) (by (repeat' first | exact aw_p33 _ _ _ _ | exact aw_p34 _ _ _ _ | refine (aw_p_ne (.inr (by omega))).trans ?_ | refine (aw_up_ne (.inl (by decide))).trans ?_)) (by omega) (by omega) f3 k)))⟩
        · (repeat' first | exact aw_B_refl _ _ | refine aw_B_ph (by omega) ?_ | refine aw_B_up (by decide) ?_)
        · unfold aw_chv
          rw [if_pos h25, h25]
          (repeat' first | exact hE | refine aw_E_ph ?_ | refine aw_E_up ?_)
      · refine ⟨_, ?_, ?_, trivial, fun o h' k => k1 o h' (aw_g58n hj h32 hw h38 he2 ha2 (by omega) (by omega) (by omega) (by omega) (aw_g60 hj h32 hw h38 (by (repeat' first | exact aw_p33 _ _ _ _ | exact aw_p34 _ _ _ _ | refine (aw_p_ne (.inr (by omega))).trans ?_ | refine (aw_up_ne (.inl (by decide))).trans ?_)) (by (repeat' first | exact aw_p33 _ _ _ _ | exact aw_p34 _ _ _ _ | refine (aw_p_ne (.inr (by omega))).trans ?_ | refine (aw_up_ne (.inl (by decide))).trans ?_)) (by omega) (by omega) (by omega) (by omega) (aw_g61 hj h32 hw h38 (by (repeat' first | exact aw_p33 _ _ _ _ | exact aw_p34 _ _ _ _ | refine (aw_p_ne (.inr (by omega))).trans ?_ | refine (aw_up_ne (.inl (by decide))).trans ?_)) (by (repeat' first | exact aw_p33 _ _ _ _ | exact aw_p34 _ _ _ _ | refine (aw_p_ne (.inr (by omega))).trans ?_ | refine (aw_up_ne (.inl (by decide))).trans ?_)) (by omega) (by omega) f3 k)))⟩
        · (repeat' first | exact aw_B_refl _ _ | refine aw_B_ph (by omega) ?_ | refine aw_B_up (by decide) ?_)
        · unfold aw_chv
          rw [if_neg h25]
          (repeat' first | exact hE | refine aw_E_ph ?_ | refine aw_E_up ?_)
  · rename_i h16
    exact aw_C_f (aw_g24f hj h32 hw h38 he ha (by omega) h16 hpl)
theorem aw_m_or {w : Nat → am_C} {g : am_H} {d : Nat} {ft wr : Int32} {js : List Nat} (hj : js.length ≤ 120) {WS : List Int32} (h32 : w 32 = am_I 0 (js.map aw_tau ++ WS)) (hw : js.length + WS.length = 120) (h38 : ∀ p, aw_w js p < 38) {p n sh s i ic cc dp : Nat} {br : List Nat} {T U : aw_T} (hE : aw_E T U) (he : T 33 n = 53) (ha : T 34 n = Int32.ofNat s) (hs : s < 8) (hi : U 38 s = Int32.ofNat i) (hi4 : i < 4) (hn : n + 12 ≤ 300) (h25 : aw_w js p = 25) (hb1 : 17 ≤ aw_w js (p + 1)) (hb2 : aw_w js (p + 1) ≤ 24) : aw_C w g d ft wr js (aw_Por js s i (U, sh, ic, cc, dp, br) p) p (n + 1) sh T n (n + 1) (fun T' => T' 33 n = 53 ∧ T' 34 n = Int32.ofNat s) := by
  have hiT : T 38 s = Int32.ofNat i := (hE 38 (by decide) s).trans hi
  have hd4 : (4 * s + i) / 4 = s := by omega
  have hpl : p < js.length := aw_w_lt (by omega)
  have hpl1 : p + 1 < js.length := aw_w_lt (by omega)
  have htw : ∀ (T1 : aw_T), aw_E T1 (aw_up (aw_t0 U s i) 39 (4 * s + i) (aw_tau (aw_w js (p + 1)))) → aw_tw T1 s = aw_tw U s := by
    intro T1 h
    rw [aw_tw_E h]
    unfold aw_t0
    rw [aw_tw_up (by decide), aw_tw_up (by decide), aw_tw_up (by decide), aw_tw_up (by decide)]
  have k1 : ∀ o h', _ → aw_G w g d ft wr js p (n + 1) sh T o h' := fun o h' k => aw_g53a hj h32 hw h38 he ha (by omega) hiT (by omega) (by omega) (by omega) h25 k
  unfold aw_Por
  dsimp only
  by_cases hb : aw_w js (p + 1) ≤ 19
  · have k2 : ∀ o h', _ → _ := fun o h' k => k1 o h' (aw_g54b hj h32 hw h38 (by (repeat' first | exact aw_p33 _ _ _ _ | exact aw_p34 _ _ _ _ | refine (aw_p_ne (.inr (by omega))).trans ?_ | refine (aw_up_ne (.inl (by decide))).trans ?_)) (by (repeat' first | exact aw_p33 _ _ _ _ | exact aw_p34 _ _ _ _ | refine (aw_p_ne (.inr (by omega))).trans ?_ | refine (aw_up_ne (.inl (by decide))).trans ?_)) (by omega) (by omega) hb1 hb k)
    split
    · rename_i hc
      have hpl2 : p + 2 < js.length := aw_w_lt (by have := aw_cto_iff.mp hc; omega)
      have hx := hc
      rw [← htw (aw_ph (aw_ph (aw_up (aw_ph (aw_ph (aw_up (aw_up (aw_up T 38 s (Int32.ofNat (i + 1))) 39 (4 * s + i) 0) 42 (4 * s + i) 0) n 53 (Int32.ofNat s)) (n + 1) 54 (Int32.ofNat (4 * s + i))) 39 (4 * s + i) (aw_tau (aw_w js (p + 1)))) (n + 1) 57 (Int32.ofNat (4 * s + i))) (n + 1 + 1) 56 (Int32.ofNat (4 * s + i))) (by unfold aw_t0; (repeat' first | exact hE | refine aw_E_ph ?_ | refine aw_E_up ?_))] at hx
      have k3 : ∀ o h', _ → _ := fun o h' k => k2 o h' (aw_g56 hj h32 hw h38 (by (repeat' first | exact aw_p33 _ _ _ _ | exact aw_p34 _ _ _ _ | refine (aw_p_ne (.inr (by omega))).trans ?_ | refine (aw_up_ne (.inl (by decide))).trans ?_)) (by (repeat' first | exact aw_p33 _ _ _ _ | exact aw_p34 _ _ _ _ | refine (aw_p_ne (.inr (by omega))).trans ?_ | refine (aw_up_ne (.inl (by decide))).trans ?_)) (by omega) (by omega) (by rw [hd4]; exact hx) k)
      by_cases h15 : aw_w js (p + 3) = 15
      · rw [if_pos ⟨hb, h15⟩]
        have hpl3 : p + 3 < js.length := aw_w_lt (by omega)
        have k4 : ∀ o h', _ → _ := fun o h' k => k3 o h' (aw_g57 hj h32 hw h38 (by (repeat' first | exact aw_p33 _ _ _ _ | exact aw_p34 _ _ _ _ | refine (aw_p_ne (.inr (by omega))).trans ?_ | refine (aw_up_ne (.inl (by decide))).trans ?_)) (by (repeat' first | exact aw_p33 _ _ _ _ | exact aw_p34 _ _ _ _ | refine (aw_p_ne (.inr (by omega))).trans ?_ | refine (aw_up_ne (.inl (by decide))).trans ?_)) (by omega) h15 k)
        have key := aw_m_on (T := aw_ph (aw_ph (aw_up (aw_ph (aw_ph (aw_up (aw_ph (aw_ph (aw_up (aw_up (aw_up T 38 s (Int32.ofNat (i + 1))) 39 (4 * s + i) 0) 42 (4 * s + i) 0) n 53 (Int32.ofNat s)) (n + 1) 54 (Int32.ofNat (4 * s + i))) 39 (4 * s + i) (aw_tau (aw_w js (p + 1)))) (n + 1) 57 (Int32.ofNat (4 * s + i))) (n + 1 + 1) 56 (Int32.ofNat (4 * s + i))) 40 (4 * s + i) (Int32.ofNat (aw_w js (p + 2)))) (n + 1) 58 (Int32.ofNat (4 * s + i))) (n + 1 + 1) 24 0) (U := aw_up (aw_up (aw_t0 U s i) 39 (4 * s + i) (aw_tau (aw_w js (p + 1)))) 40 (4 * s + i) (Int32.ofNat (aw_w js (p + 2)))) (n := n + 1) (a := 4 * s + i) (p := p + 4) (sh := sh) (ic := ic + 1) (cc := cc) (dp := dp) (co := aw_w js (p + 2)) (br := aw_ab (aw_bk (Int32.ofNat (aw_w js (p + 2))) (U 36 (2 * s)) (U 36 (2 * s + 1))) (p + 2) br) (g := g) (d := d) (ft := ft) (wr := wr) hj h32 hw h38 (by unfold aw_t0; (repeat' first | exact hE | refine aw_E_ph ?_ | refine aw_E_up ?_)) (by (repeat' first | exact aw_p33 _ _ _ _ | exact aw_p34 _ _ _ _ | refine (aw_p_ne (.inr (by omega))).trans ?_ | refine (aw_up_ne (.inl (by decide))).trans ?_)) (by (repeat' first | exact aw_p33 _ _ _ _ | exact aw_p34 _ _ _ _ | refine (aw_p_ne (.inr (by omega))).trans ?_ | refine (aw_up_ne (.inl (by decide))).trans ?_)) (by (repeat' first | exact aw_p33 _ _ _ _ | exact aw_p34 _ _ _ _ | refine (aw_p_ne (.inr (by omega))).trans ?_ | refine (aw_up_ne (.inl (by decide))).trans ?_)) (by (repeat' first | exact aw_p33 _ _ _ _ | exact aw_p34 _ _ _ _ | refine (aw_p_ne (.inr (by omega))).trans ?_ | refine (aw_up_ne (.inl (by decide))).trans ?_)) (by omega) (by omega) (by omega)
        revert key
        generalize aw_Pon js (4 * s + i) (aw_w js (p + 2)) (aw_up (aw_up (aw_t0 U s i) 39 (4 * s + i) (aw_tau (aw_w js (p + 1)))) 40 (4 * s + i) (Int32.ofNat (aw_w js (p + 2))), sh, ic + 1, cc, dp, aw_ab (aw_bk (Int32.ofNat (aw_w js (p + 2))) (U 36 (2 * s)) (U 36 (2 * s + 1))) (p + 2) br) (p + 4) = r
        intro key
        cases r with
        | inl q => exact aw_ex k4 key
        | inr z =>
          obtain ⟨p', S'⟩ := z
          obtain ⟨T', b, e, -, kk⟩ := key
          refine ⟨T', ?_, e, ?_, fun o h' z => k4 o h' (kk o h' z)⟩
          · refine aw_B_trans ?_ b (by omega)
            (repeat' first | exact aw_B_refl _ _ | refine aw_B_ph (by omega) ?_ | refine aw_B_up (by decide) ?_)
          · have := b n (by omega)
            show T' 33 n = 53 ∧ T' 34 n = Int32.ofNat s
            rw [this.1, this.2]
            exact ⟨(by (repeat' first | exact aw_p33 _ _ _ _ | exact aw_p34 _ _ _ _ | refine (aw_p_ne (.inr (by omega))).trans ?_ | refine (aw_up_ne (.inl (by decide))).trans ?_)), (by (repeat' first | exact aw_p33 _ _ _ _ | exact aw_p34 _ _ _ _ | refine (aw_p_ne (.inr (by omega))).trans ?_ | refine (aw_up_ne (.inl (by decide))).trans ?_))⟩
      · rw [if_neg (fun q => h15 q.2)]
        refine ⟨_, ?_, ?_, ?_, fun o h' k => k3 o h' (aw_g57z hj h32 hw h38 (by (repeat' first | exact aw_p33 _ _ _ _ | exact aw_p34 _ _ _ _ | refine (aw_p_ne (.inr (by omega))).trans ?_ | refine (aw_up_ne (.inl (by decide))).trans ?_)) (by (repeat' first | exact aw_p33 _ _ _ _ | exact aw_p34 _ _ _ _ | refine (aw_p_ne (.inr (by omega))).trans ?_ | refine (aw_up_ne (.inl (by decide))).trans ?_)) (by omega) h15 (by omega) k)⟩
        · (repeat' first | exact aw_B_refl _ _ | refine aw_B_ph (by omega) ?_ | refine aw_B_up (by decide) ?_)
        · unfold aw_t0
          (repeat' first | exact hE | refine aw_E_ph ?_ | refine aw_E_up ?_)
        · exact ⟨(by (repeat' first | exact aw_p33 _ _ _ _ | exact aw_p34 _ _ _ _ | refine (aw_p_ne (.inr (by omega))).trans ?_ | refine (aw_up_ne (.inl (by decide))).trans ?_)), (by (repeat' first | exact aw_p33 _ _ _ _ | exact aw_p34 _ _ _ _ | refine (aw_p_ne (.inr (by omega))).trans ?_ | refine (aw_up_ne (.inl (by decide))).trans ?_))⟩
    · rename_i hc
      refine aw_C_f (aw_ex k2 ?_)
      refine aw_g56f hj h32 hw h38 (by (repeat' first | exact aw_p33 _ _ _ _ | exact aw_p34 _ _ _ _ | refine (aw_p_ne (.inr (by omega))).trans ?_ | refine (aw_up_ne (.inl (by decide))).trans ?_)) (by (repeat' first | exact aw_p33 _ _ _ _ | exact aw_p34 _ _ _ _ | refine (aw_p_ne (.inr (by omega))).trans ?_ | refine (aw_up_ne (.inl (by decide))).trans ?_)) (by omega) (by omega) ?_ (by omega)
      rw [hd4, htw _ ?_]
      · exact hc
      · unfold aw_t0
        (repeat' first | exact hE | refine aw_E_ph ?_ | refine aw_E_up ?_)
  · have k2 : ∀ o h', _ → _ := fun o h' k => k1 o h' (aw_g54o hj h32 hw h38 (by (repeat' first | exact aw_p33 _ _ _ _ | exact aw_p34 _ _ _ _ | refine (aw_p_ne (.inr (by omega))).trans ?_ | refine (aw_up_ne (.inl (by decide))).trans ?_)) (by (repeat' first | exact aw_p33 _ _ _ _ | exact aw_p34 _ _ _ _ | refine (aw_p_ne (.inr (by omega))).trans ?_ | refine (aw_up_ne (.inl (by decide))).trans ?_)) (by omega) (by omega) (by omega) hb2 k)
    split
    · rename_i hc
      rw [if_neg (fun q => hb q.1)]
      refine ⟨_, ?_, ?_, ?_, fun o h' k => k2 o h' (aw_g56 hj h32 hw h38 (by (repeat' first | exact aw_p33 _ _ _ _ | exact aw_p34 _ _ _ _ | refine (aw_p_ne (.inr (by omega))).trans ?_ | refine (aw_up_ne (.inl (by decide))).trans ?_)) (by (repeat' first | exact aw_p33 _ _ _ _ | exact aw_p34 _ _ _ _ | refine (aw_p_ne (.inr (by omega))).trans ?_ | refine (aw_up_ne (.inl (by decide))).trans ?_)) (by omega) (by omega) ?_ k)⟩
      · (repeat' first | exact aw_B_refl _ _ | refine aw_B_ph (by omega) ?_ | refine aw_B_up (by decide) ?_)
      · unfold aw_t0
        (repeat' first | exact hE | refine aw_E_ph ?_ | refine aw_E_up ?_)
      · exact ⟨(by (repeat' first | exact aw_p33 _ _ _ _ | exact aw_p34 _ _ _ _ | refine (aw_p_ne (.inr (by omega))).trans ?_ | refine (aw_up_ne (.inl (by decide))).trans ?_)), (by (repeat' first | exact aw_p33 _ _ _ _ | exact aw_p34 _ _ _ _ | refine (aw_p_ne (.inr (by omega))).trans ?_ | refine (aw_up_ne (.inl (by decide))).trans ?_))⟩
      · rw [hd4, htw _ ?_]
        · exact hc
        · unfold aw_t0
          (repeat' first | exact hE | refine aw_E_ph ?_ | refine aw_E_up ?_)
    · rename_i hc
      refine aw_C_f (aw_ex k2 ?_)
      refine aw_g56f hj h32 hw h38 (by (repeat' first | exact aw_p33 _ _ _ _ | exact aw_p34 _ _ _ _ | refine (aw_p_ne (.inr (by omega))).trans ?_ | refine (aw_up_ne (.inl (by decide))).trans ?_)) (by (repeat' first | exact aw_p33 _ _ _ _ | exact aw_p34 _ _ _ _ | refine (aw_p_ne (.inr (by omega))).trans ?_ | refine (aw_up_ne (.inl (by decide))).trans ?_)) (by omega) (by omega) ?_ (by omega)
      rw [hd4, htw _ ?_]
      · exact hc
      · unfold aw_t0
        (repeat' first | exact hE | refine aw_E_ph ?_ | refine aw_E_up ?_)
theorem aw_m_it {w : Nat → am_C} {g : am_H} {d : Nat} {ft wr : Int32} {js : List Nat} (hj : js.length ≤ 120) {WS : List Int32} (h32 : w 32 = am_I 0 (js.map aw_tau ++ WS)) (hw : js.length + WS.length = 120) (h38 : ∀ p, aw_w js p < 38) {p n sh s i ic cc dp : Nat} {br : List Nat} {T U : aw_T} (hE : aw_E T U) (he : T 33 n = 53) (ha : T 34 n = Int32.ofNat s) (hs : s < 8) (hi : U 38 s = Int32.ofNat i) (hi4 : i < 4) (hn : n + 12 ≤ 300) (hnum : aw_isn (aw_w js p) = true) : aw_C w g d ft wr js (aw_Pit js s i (U, sh, ic, cc, dp, br) p) p (n + 1) sh T n (n + 1) (fun T' => T' 33 n = 53 ∧ T' 34 n = Int32.ofNat s) := by
  unfold aw_Pit
  split
  · rename_i h
    exact aw_m_or hj h32 hw h38 hE he ha hs hi hi4 hn h.1 h.2.1 h.2.2
  · rename_i h
    exact aw_m_cf hj h32 hw h38 hE he ha hs hi hi4 hn hnum h
