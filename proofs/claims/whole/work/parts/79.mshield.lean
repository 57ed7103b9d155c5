/-! Items, parts, fields and shields: what the pure reading comes to, the reference comes to. -/
theorem aw_w_le {js : List Nat} {p p' : Nat} (h1 : p < p') (h : ∀ z, p ≤ z → z < p' → aw_w js z < 37) : p' ≤ js.length := by
  have := aw_w_lt (h (p' - 1) (by omega) (by omega))
  omega
theorem aw_m_is {w : Nat → am_C} {g : am_H} {d : Nat} {ft wr : Int32} {js : List Nat} (hj : js.length ≤ 120) {WS : List Int32} (h32 : w 32 = am_I 0 (js.map aw_tau ++ WS)) (hw : js.length + WS.length = 120) (h38 : ∀ p, aw_w js p < 38) {s : Nat} (hs : s < 8) : ∀ (k i : Nat) {p n sh ic cc dp : Nat} {br : List Nat} {T U : aw_T}, i + k = 4 → aw_E T U → T 33 n = 53 → T 34 n = Int32.ofNat s → U 38 s = Int32.ofNat i → n + 12 ≤ 300 → p ≤ js.length → aw_C w g d ft wr js (aw_Pis js s k i (U, sh, ic, cc, dp, br) p) p (n + 1) sh T n n (fun _ => True) := by
  intro k
  induction k with
  | zero =>
    intro i p n sh ic cc dp br T U hik hE he ha hi hn hp
    have hiT : T 38 s = Int32.ofNat i := (hE 38 (by decide) s).trans hi
    rw [aw_Pis]
    split
    · rename_i h
      rw [show i = 4 by omega] at hiT
      exact aw_C_f (aw_g53f hj h32 hw h38 he ha (by omega) hiT (by omega) h hp)
    · rename_i h
      exact ⟨T, aw_B_refl _ _, hE, trivial, fun o h' k => aw_g53z hj h32 hw h38 he ha (by omega) hiT (by omega) (by omega) h hp k⟩
  | succ k ih =>
    intro i p n sh ic cc dp br T U hik hE he ha hi hn hp
    have hiT : T 38 s = Int32.ofNat i := (hE 38 (by decide) s).trans hi
    rw [aw_Pis]
    split
    · rename_i h
      have key := aw_m_it (g := g) (d := d) (ft := ft) (wr := wr) (sh := sh) (ic := ic) (cc := cc) (dp := dp) (br := br) hj h32 hw h38 hE he ha hs hi (by omega) hn h
      cases hr : aw_Pit js s i (U, sh, ic, cc, dp, br) p with
      | inl q =>
        rw [hr] at key
        exact key
      | inr z =>
        obtain ⟨p1, T1, sh1, ic1, cc1, dp1, br1⟩ := z
        rw [hr] at key
        obtain ⟨T', b, e, ⟨x1, x2⟩, kk⟩ := key
        obtain ⟨a1, a2, a3, a4, a5, a6, a7, -⟩ := aw_Pit_f hr
        dsimp only at e kk ⊢
        exact aw_C_k b (Nat.le_refl _) kk (ih (i + 1) (by omega) e x1 x2 a6 hn (aw_w_le a1 a7))
    · rename_i h
      exact ⟨T, aw_B_refl _ _, hE, trivial, fun o h' k => aw_g53z hj h32 hw h38 he ha (by omega) hiT (by omega) (by omega) h hp k⟩
/-- the same of the shields within, at depth dpt; c more can come, b is the room that they want -/
def aw_NC (w : Nat → am_C) (g : am_H) (d : Nat) (ft wr : Int32) (js : List Nat) (N : Nat → aw_S → Nat → aw_Res) (dpt c b : Nat) : Prop := ∀ (s : Nat) {p n sh ic cc dp : Nat} {br : List Nat} {T U : aw_T}, aw_E T U → T 33 n = 50 → T 34 n = Int32.ofNat s → U 38 s = 0 → U 37 s = Int32.ofNat dpt → s < sh → sh + c ≤ 7 → n + b ≤ 300 → p ≤ js.length → aw_C w g d ft wr js (N s (U, sh, ic, cc, dp, br) p) p (n + 1) sh T n n (fun _ => True)
theorem aw_m_pt {w : Nat → am_C} {g : am_H} {d : Nat} {ft wr : Int32} {js : List Nat} (hj : js.length ≤ 120) {WS : List Int32} (h32 : w 32 = am_I 0 (js.map aw_tau ++ WS)) (hw : js.length + WS.length = 120) (h38 : ∀ p, aw_w js p < 38) {N : Nat → aw_S → Nat → aw_Res} {dpt c b : Nat} {lv : Bool} (hN : lv = true → dpt ≤ 2 ∧ aw_NF js N c ∧ aw_NC w g d ft wr js N (dpt + 1) c b) (hd : lv = false → dpt = 3) {q p n sh ic cc dp : Nat} {br : List Nat} {T U : aw_T} (hE : aw_E T U) (he : T 33 n = 52) (ha : T 34 n = Int32.ofNat q) (hq : q < 2 * sh) (hdp : U 37 (q / 2) = Int32.ofNat dpt) (hsh : sh + (if lv = true then c + 1 else 0) ≤ 7) (hn : n + 12 + b ≤ 300) (hp : p ≤ js.length) : aw_C w g d ft wr js (aw_Ppt js N dpt lv q (U, sh, ic, cc, dp, br) p) p (n + 1) sh T n n (fun _ => True) := by
  have hdT : T 37 (q / 2) = Int32.ofNat dpt := (hE 37 (by decide) _).trans hdp
  have hsh7 : sh ≤ 7 := by omega
  unfold aw_Ppt
  dsimp only
  split
  · rename_i h9
    refine ⟨_, ?_, ?_, trivial, fun o h' k => aw_g52t hj h32 hw h38 he ha (by omega) (by omega) (by omega) h9 k⟩
    · (repeat' first | exact aw_B_refl _ _ | refine aw_B_ph (by omega) ?_ | refine aw_B_up (by decide) ?_)
    · (repeat' first | exact hE | refine aw_E_ph ?_ | refine aw_E_up ?_)
  · rename_i h9
    split
    · rename_i hl
      obtain ⟨hd2, hF, hC⟩ := hN hl.1
      rw [if_pos hl.1] at hsh
      have hpl : p < js.length := aw_w_lt (by omega)
      have h3 : ¬ T 37 (q / 2) = 3 := by
        rw [hdT]
        intro z
        have := (am_eqN (n := 3) (by omega) (by decide)).mp z
        omega
      have k1 : ∀ o h', _ → aw_G w g d ft wr js p (n + 1) sh T o h' := fun o h' k => aw_g52o hj h32 hw h38 he ha (by omega) (by omega) (by omega) hl.2 h3 k
      have hE1 : aw_E (aw_ph (aw_ph (aw_up (aw_nsv (aw_up T 36 q (aw_tt js p)) sh (T 37 (q / 2) + 1)) 36 q (Int32.ofNat (100 + sh))) n 16 0) (n + 1) 50 (Int32.ofNat sh)) (aw_up (aw_nsT U sh (dpt + 1)) 36 q (Int32.ofNat (100 + sh))) := by
        refine aw_E_ph (aw_E_ph ?_)
        intro k hk i
        rw [hdT, am_inc]
        unfold aw_nsv aw_nsT aw_up
        (repeat' split) <;> first | rfl | exact hE k hk i | omega
      have key := hC sh (p := p + 1) (n := n + 1) (sh := sh + 1) (ic := ic) (cc := cc) (dp := max dp (dpt + 1)) (br := br) hE1 (by (repeat' first | exact aw_p33 _ _ _ _ | exact aw_p34 _ _ _ _ | refine (aw_p_ne (.inr (by omega))).trans ?_ | refine (aw_up_ne (.inl (by decide))).trans ?_)) (by (repeat' first | exact aw_p33 _ _ _ _ | exact aw_p34 _ _ _ _ | refine (aw_p_ne (.inr (by omega))).trans ?_ | refine (aw_up_ne (.inl (by decide))).trans ?_)) (by unfold aw_nsT; rw [aw_up_ne (by omega), aw_up_eq]) (by unfold aw_nsT; rw [aw_up_ne (by omega), aw_up_ne (by omega), aw_up_eq]) (by omega) (by omega) (by omega) (by omega)
      cases hr : N sh (aw_up (aw_nsT U sh (dpt + 1)) 36 q (Int32.ofNat (100 + sh)), sh + 1, ic, cc, max dp (dpt + 1), br) (p + 1) with
      | inl z =>
        rw [hr] at key
        exact aw_C_f (aw_ex k1 key)
      | inr z =>
        obtain ⟨p1, T1, sh1, ic1, cc1, dp1, br1⟩ := z
        rw [hr] at key
        obtain ⟨T2, b2, e2, -, kk⟩ := key
        obtain ⟨a1, a2, a3, a4, a4', a5, a6, -⟩ := hF sh (by omega) hr
        have hc := b2 n (by omega)
        have hc1 : T2 33 n = 16 := hc.1.trans (by (repeat' first | exact aw_p33 _ _ _ _ | exact aw_p34 _ _ _ _ | refine (aw_p_ne (.inr (by omega))).trans ?_ | refine (aw_up_ne (.inl (by decide))).trans ?_))
        have hc2 : T2 34 n = 0 := hc.2.trans (by (repeat' first | exact aw_p33 _ _ _ _ | exact aw_p34 _ _ _ _ | refine (aw_p_ne (.inr (by omega))).trans ?_ | refine (aw_up_ne (.inl (by decide))).trans ?_))
        dsimp only at kk ⊢
        split
        · rename_i h14
          refine ⟨T2, ?_, e2, trivial, fun o h' k => k1 o h' (kk o h' (aw_g16 hj h32 hw h38 hc1 hc2 (by omega) h14 k))⟩
          refine aw_B_trans ?_ b2 (by omega)
          refine aw_B_ph (by omega) (aw_B_ph (by omega) ?_)
          unfold aw_nsv
          (repeat' first | exact aw_B_refl _ _ | refine aw_B_ph (by omega) ?_ | refine aw_B_up (by decide) ?_)
        · rename_i h14
          exact aw_C_f (aw_ex k1 (aw_ex kk (aw_g16f hj h32 hw h38 hc1 hc2 (by omega) h14 (aw_w_le a1 a6))))
    · rename_i hl
      by_cases h13 : aw_w js p = 13
      · have hlv : lv = false := by
          cases lv
          · rfl
          · exact absurd ⟨rfl, h13⟩ hl
        exact aw_C_f (aw_g52d hj h32 hw h38 he ha (by omega) (by omega) (by omega) h13 (by rw [hdT, hd hlv]; rfl) hp)
      · exact aw_C_f (aw_g52f hj h32 hw h38 he ha (by omega) (by omega) (by omega) h9 h13 hp)
theorem aw_m_pp {w : Nat → am_C} {g : am_H} {d : Nat} {ft wr : Int32} {js : List Nat} (hj : js.length ≤ 120) {WS : List Int32} (h32 : w 32 = am_I 0 (js.map aw_tau ++ WS)) (hw : js.length + WS.length = 120) (h38 : ∀ p, aw_w js p < 38) {N : Nat → aw_S → Nat → aw_Res} {dpt c b : Nat} {lv : Bool} (hN : lv = true → dpt ≤ 2 ∧ aw_NF js N c ∧ aw_NC w g d ft wr js N (dpt + 1) c b) (hd : lv = false → dpt = 3) {s p n sh ic cc dp : Nat} {br : List Nat} {T U : aw_T} (hE : aw_E T U) (he : T 33 (n + 1 + 1) = 52) (ha : T 34 (n + 1 + 1) = Int32.ofNat (2 * s)) (he1 : T 33 (n + 1) = 14) (ha1 : T 34 (n + 1) = 0) (he2 : T 33 n = 52) (ha2 : T 34 n = Int32.ofNat (2 * s + 1)) (hs : s < sh) (hdp : U 37 s = Int32.ofNat dpt) (hsh : sh + 2 * (if lv = true then c + 1 else 0) ≤ 7) (hn : n + 14 + b ≤ 300) (hp : p ≤ js.length) : aw_C w g d ft wr js (aw_Ppp js N dpt lv s (U, sh, ic, cc, dp, br) p) p (n + 1 + 1 + 1) sh T n n (fun _ => True) := by
  unfold aw_Ppp
  have key := aw_m_pt (sh := sh) (ic := ic) (cc := cc) (dp := dp) (br := br) hj h32 hw h38 hN hd hE he ha (by omega) (by rw [show 2 * s / 2 = s by omega]; exact hdp) (by omega) (by omega) hp
  cases hr : aw_Ppt js N dpt lv (2 * s) (U, sh, ic, cc, dp, br) p with
  | inl z =>
    rw [hr] at key
    exact key
  | inr z =>
    obtain ⟨p1, T1, sh1, ic1, cc1, dp1, br1⟩ := z
    rw [hr] at key
    obtain ⟨T2, b2, e2, -, kk⟩ := key
    obtain ⟨a1, a2, a3, a4, a4', a5, a6, -⟩ := aw_Ppt_f (fun q => (hN q).2.1) (fun q => (hN q).1) (by omega) hr
    have hc := b2 (n + 1) (by omega)
    have hc1 : T2 33 (n + 1) = 14 := hc.1.trans he1
    have hc2 : T2 34 (n + 1) = 0 := hc.2.trans ha1
    have hc' := b2 n (by omega)
    have hp1 : p1 ≤ js.length := aw_w_le a1 a6
    dsimp only at kk e2 ⊢
    split
    · rename_i h12
      have hpl : p1 < js.length := aw_w_lt (by omega)
      have hdp1 : T1 37 ((2 * s + 1) / 2) = Int32.ofNat dpt := by
        rw [show (2 * s + 1) / 2 = s by omega]
        rcases a5 37 s with g | g | g
        · rw [g]
          exact hdp
        · exact absurd g.1 (by decide)
        · exact absurd g (by rw [show aw_ow 37 s = s from rfl]; omega)
      have key2 := aw_m_pt (sh := sh1) (ic := ic1) (cc := cc1) (dp := dp1) (br := br1) hj h32 hw h38 hN hd e2 (hc'.1.trans he2) (hc'.2.trans ha2) (by omega) hdp1 (by omega) (by omega) (show p1 + 1 ≤ js.length by omega)
      exact aw_C_k (fun i hi => b2 i (by omega)) (Nat.le_refl _) (fun o h' k => kk o h' (aw_g14 hj h32 hw h38 hc1 hc2 (by omega) h12 k)) key2
    · rename_i h12
      exact aw_C_f (aw_ex kk (aw_g14f hj h32 hw h38 hc1 hc2 (by omega) h12 hp1))
theorem aw_m_fd {w : Nat → am_C} {g : am_H} {d : Nat} {ft wr : Int32} {js : List Nat} (hj : js.length ≤ 120) {WS : List Int32} (h32 : w 32 = am_I 0 (js.map aw_tau ++ WS)) (hw : js.length + WS.length = 120) (h38 : ∀ p, aw_w js p < 38) {N : Nat → aw_S → Nat → aw_Res} {dpt c b : Nat} {lv : Bool} (hN : lv = true → dpt ≤ 2 ∧ aw_NF js N c ∧ aw_NC w g d ft wr js N (dpt + 1) c b) (hd : lv = false → dpt = 3) {s p n sh ic cc dp : Nat} {br : List Nat} {T U : aw_T} (hE : aw_E T U) (he : T 33 n = 50) (ha : T 34 n = Int32.ofNat s) (hs : s < sh) (hdp : U 37 s = Int32.ofNat dpt) (hsh : sh + 2 * (if lv = true then c + 1 else 0) ≤ 7) (hn : n + 16 + b ≤ 300) (hp : p ≤ js.length) : aw_C w g d ft wr js (aw_Pfd js N dpt lv s (U, sh, ic, cc, dp, br) p) p (n + 1) sh T n (n + 1) (fun T' => T' 33 n = 53 ∧ T' 34 n = Int32.ofNat s) := by
  unfold aw_Pfd
  dsimp only
  split
  · rename_i h9
    refine ⟨_, ?_, ?_, ?_, fun o h' k => aw_g50t hj h32 hw h38 he ha (by omega) (by omega) h9 k⟩
    · (repeat' first | exact aw_B_refl _ _ | refine aw_B_ph (by omega) ?_ | refine aw_B_up (by decide) ?_)
    · (repeat' first | exact hE | refine aw_E_ph ?_ | refine aw_E_up ?_)
    · exact ⟨(by (repeat' first | exact aw_p33 _ _ _ _ | exact aw_p34 _ _ _ _ | refine (aw_p_ne (.inr (by omega))).trans ?_ | refine (aw_up_ne (.inl (by decide))).trans ?_)), (by (repeat' first | exact aw_p33 _ _ _ _ | exact aw_p34 _ _ _ _ | refine (aw_p_ne (.inr (by omega))).trans ?_ | refine (aw_up_ne (.inl (by decide))).trans ?_))⟩
  · rename_i h9
    split
    · rename_i h11
      have hpl : p < js.length := aw_w_lt (by omega)
      have hE1 : aw_E (aw_up (aw_ph (aw_ph (aw_ph (aw_ph T n 53 (Int32.ofNat s)) (n + 1) 52 (Int32.ofNat (2 * s + 1))) (n + 1 + 1) 14 0) (n + 1 + 1 + 1) 52 (Int32.ofNat (2 * s))) 35 s 4) (aw_up U 35 s 4) := by
        (repeat' first | exact hE | refine aw_E_ph ?_ | refine aw_E_up ?_)
      have key := aw_m_pp (s := s) (n := n + 1) (p := p + 1) (sh := sh) (ic := ic) (cc := cc) (dp := dp) (br := br) hj h32 hw h38 hN hd hE1 (by (repeat' first | exact aw_p33 _ _ _ _ | exact aw_p34 _ _ _ _ | refine (aw_p_ne (.inr (by omega))).trans ?_ | refine (aw_up_ne (.inl (by decide))).trans ?_)) (by (repeat' first | exact aw_p33 _ _ _ _ | exact aw_p34 _ _ _ _ | refine (aw_p_ne (.inr (by omega))).trans ?_ | refine (aw_up_ne (.inl (by decide))).trans ?_)) (by (repeat' first | exact aw_p33 _ _ _ _ | exact aw_p34 _ _ _ _ | refine (aw_p_ne (.inr (by omega))).trans ?_ | refine (aw_up_ne (.inl (by decide))).trans ?_)) (by (repeat' first | exact aw_p33 _ _ _ _ | exact aw_p34 _ _ _ _ | refine (aw_p_ne (.inr (by omega))).trans ?_ | refine (aw_up_ne (.inl (by decide))).trans ?_)) (by (repeat' first | exact aw_p33 _ _ _ _ | exact aw_p34 _ _ _ _ | refine (aw_p_ne (.inr (by omega))).trans ?_ | refine (aw_up_ne (.inl (by decide))).trans ?_)) (by (repeat' first | exact aw_p33 _ _ _ _ | exact aw_p34 _ _ _ _ | refine (aw_p_ne (.inr (by omega))).trans ?_ | refine (aw_up_ne (.inl (by decide))).trans ?_)) hs ((aw_up_ne (.inl (by decide))).trans hdp) hsh (by omega) (by omega)
      revert key
      generalize aw_Ppp js N dpt lv s (aw_up U 35 s 4, sh, ic, cc, dp, br) (p + 1) = r
      intro key
      cases r with
      | inl q => exact aw_ex (fun o h' k => aw_g50q hj h32 hw h38 he ha (by omega) (by omega) h11 k) key
      | inr z =>
        obtain ⟨p', S'⟩ := z
        obtain ⟨T', b, e, -, kk⟩ := key
        refine ⟨T', aw_B_trans ?_ b (by omega), e, ?_, fun o h' z => aw_g50q hj h32 hw h38 he ha (by omega) (by omega) h11 (kk o h' z)⟩
        · (repeat' first | exact aw_B_refl _ _ | refine aw_B_ph (by omega) ?_ | refine aw_B_up (by decide) ?_)
        · have := b n (by omega)
          show T' 33 n = 53 ∧ T' 34 n = Int32.ofNat s
          rw [this.1, this.2]
          exact ⟨(by (repeat' first | exact aw_p33 _ _ _ _ | exact aw_p34 _ _ _ _ | refine (aw_p_ne (.inr (by omega))).trans ?_ | refine (aw_up_ne (.inl (by decide))).trans ?_)), (by (repeat' first | exact aw_p33 _ _ _ _ | exact aw_p34 _ _ _ _ | refine (aw_p_ne (.inr (by omega))).trans ?_ | refine (aw_up_ne (.inl (by decide))).trans ?_))⟩
    · rename_i h11
      split
      · rename_i h10
        have hpl : p < js.length := aw_w_lt (by omega)
        split
        · rename_i hv
          have hpl1 : p + 1 < js.length := aw_w_lt (by omega)
          have k1 : ∀ o h', _ → aw_G w g d ft wr js p (n + 1) sh T o h' := fun o h' k => aw_g50p hj h32 hw h38 he ha (by omega) (by omega) h10 (aw_g51 hj h32 hw h38 (by (repeat' first | exact aw_p33 _ _ _ _ | exact aw_p34 _ _ _ _ | refine (aw_p_ne (.inr (by omega))).trans ?_ | refine (aw_up_ne (.inl (by decide))).trans ?_)) (by (repeat' first | exact aw_p33 _ _ _ _ | exact aw_p34 _ _ _ _ | refine (aw_p_ne (.inr (by omega))).trans ?_ | refine (aw_up_ne (.inl (by decide))).trans ?_)) (by omega) (by omega) hv.1 hv.2 k)
          have hE1 : aw_E (aw_up (aw_up (aw_ph (aw_ph (aw_ph (aw_ph (aw_ph T n 53 (Int32.ofNat s)) (n + 1) 52 (Int32.ofNat (2 * s + 1))) (n + 1 + 1) 14 0) (n + 1 + 1 + 1) 52 (Int32.ofNat (2 * s))) (n + 1 + 1 + 1 + 1) 51 (Int32.ofNat s)) 35 s 4) 35 s (aw_dv (aw_w js (p + 1)))) (aw_up U 35 s (aw_dv (aw_w js (p + 1)))) := by
            refine aw_E_upup ?_
            (repeat' first | exact hE | refine aw_E_ph ?_ | refine aw_E_up ?_)
          have key := aw_m_pp (s := s) (n := n + 1) (p := p + 2) (sh := sh) (ic := ic) (cc := cc) (dp := dp) (br := br) hj h32 hw h38 hN hd hE1 (by (repeat' first | exact aw_p33 _ _ _ _ | exact aw_p34 _ _ _ _ | refine (aw_p_ne (.inr (by omega))).trans ?_ | refine (aw_up_ne (.inl (by decide))).trans ?_)) (by (repeat' first | exact aw_p33 _ _ _ _ | exact aw_p34 _ _ _ _ | refine (aw_p_ne (.inr (by omega))).trans ?_ | refine (aw_up_ne (.inl (by decide))).trans ?_)) (by (repeat' first | exact aw_p33 _ _ _ _ | exact aw_p34 _ _ _ _ | refine (aw_p_ne (.inr (by omega))).trans ?_ | refine (aw_up_ne (.inl (by decide))).trans ?_)) (by (repeat' first | exact aw_p33 _ _ _ _ | exact aw_p34 _ _ _ _ | refine (aw_p_ne (.inr (by omega))).trans ?_ | refine (aw_up_ne (.inl (by decide))).trans ?_)) (by (repeat' first | exact aw_p33 _ _ _ _ | exact aw_p34 _ _ _ _ | refine (aw_p_ne (.inr (by omega))).trans ?_ | refine (aw_up_ne (.inl (by decide))).trans ?_)) (by (repeat' first | exact aw_p33 _ _ _ _ | exact aw_p34 _ _ _ _ | refine (aw_p_ne (.inr (by omega))).trans ?_ | refine (aw_up_ne (.inl (by decide))).trans ?_)) hs ((aw_up_ne (.inl (by decide))).trans hdp) hsh (by omega) (by omega)
          revert key
          generalize aw_Ppp js N dpt lv s (aw_up U 35 s (aw_dv (aw_w js (p + 1))), sh, ic, cc, dp, br) (p + 2) = r
          intro key
          cases r with
          | inl q => exact aw_ex k1 key
          | inr z =>
            obtain ⟨p', S'⟩ := z
            obtain ⟨T', b, e, -, kk⟩ := key
            refine ⟨T', aw_B_trans ?_ b (by omega), e, ?_, fun o h' z => k1 o h' (kk o h' z)⟩
            · (repeat' first | exact aw_B_refl _ _ | refine aw_B_ph (by omega) ?_ | refine aw_B_up (by decide) ?_)
            · have := b n (by omega)
              show T' 33 n = 53 ∧ T' 34 n = Int32.ofNat s
              rw [this.1, this.2]
              exact ⟨(by (repeat' first | exact aw_p33 _ _ _ _ | exact aw_p34 _ _ _ _ | refine (aw_p_ne (.inr (by omega))).trans ?_ | refine (aw_up_ne (.inl (by decide))).trans ?_)), (by (repeat' first | exact aw_p33 _ _ _ _ | exact aw_p34 _ _ _ _ | refine (aw_p_ne (.inr (by omega))).trans ?_ | refine (aw_up_ne (.inl (by decide))).trans ?_))⟩
        · rename_i hv
          exact aw_C_f (aw_ex (fun o h' k => aw_g50p hj h32 hw h38 he ha (by omega) (by omega) h10 k) (aw_g51f hj h32 hw h38 (by (repeat' first | exact aw_p33 _ _ _ _ | exact aw_p34 _ _ _ _ | refine (aw_p_ne (.inr (by omega))).trans ?_ | refine (aw_up_ne (.inl (by decide))).trans ?_)) (by (repeat' first | exact aw_p33 _ _ _ _ | exact aw_p34 _ _ _ _ | refine (aw_p_ne (.inr (by omega))).trans ?_ | refine (aw_up_ne (.inl (by decide))).trans ?_)) (by omega) (by omega) hv (by omega)))
      · rename_i h10
        exact aw_C_f (aw_g50f hj h32 hw h38 he ha (by omega) (by omega) h9 h10 h11 hp)
theorem aw_m_sb {w : Nat → am_C} {g : am_H} {d : Nat} {ft wr : Int32} {js : List Nat} (hj : js.length ≤ 120) {WS : List Int32} (h32 : w 32 = am_I 0 (js.map aw_tau ++ WS)) (hw : js.length + WS.length = 120) (h38 : ∀ p, aw_w js p < 38) {N : Nat → aw_S → Nat → aw_Res} {dpt c b : Nat} {lv : Bool} (hN : lv = true → dpt ≤ 2 ∧ aw_NF js N c ∧ aw_NC w g d ft wr js N (dpt + 1) c b) (hd : lv = false → dpt = 3) {s p n sh ic cc dp : Nat} {br : List Nat} {T U : aw_T} (hE : aw_E T U) (he : T 33 n = 50) (ha : T 34 n = Int32.ofNat s) (h0 : U 38 s = 0) (hs : s < sh) (hdp : U 37 s = Int32.ofNat dpt) (hsh : sh + 2 * (if lv = true then c + 1 else 0) ≤ 7) (hn : n + 16 + b ≤ 300) (hp : p ≤ js.length) : aw_C w g d ft wr js (aw_Psb js N dpt lv s (U, sh, ic, cc, dp, br) p) p (n + 1) sh T n n (fun _ => True) := by
  unfold aw_Psb
  have key := aw_m_fd (sh := sh) (ic := ic) (cc := cc) (dp := dp) (br := br) hj h32 hw h38 hN hd hE he ha hs hdp hsh hn hp
  cases hr : aw_Pfd js N dpt lv s (U, sh, ic, cc, dp, br) p with
  | inl z =>
    rw [hr] at key
    exact key
  | inr z =>
    obtain ⟨p1, T1, sh1, ic1, cc1, dp1, br1⟩ := z
    rw [hr] at key
    obtain ⟨T2, b2, e2, ⟨x1, x2⟩, kk⟩ := key
    obtain ⟨a1, a2, a3, a4, a4', a5, a6, -⟩ := aw_Pfd_f (fun q => (hN q).2.1) (fun q => (hN q).1) hs hr
    have hi : T1 38 s = Int32.ofNat 0 := by
      rcases a5 38 s with g | g | g
      · rw [g]
        exact h0
      · omega
      · exact absurd g (by rw [show aw_ow 38 s = s from rfl]; omega)
    dsimp only at kk e2 ⊢
    exact aw_C_k b2 (Nat.le_refl _) kk (aw_m_is hj h32 hw h38 (by omega) 4 0 rfl e2 x1 x2 hi (by omega) (aw_w_le a1 a6))
theorem aw_m_sh {w : Nat → am_C} {g : am_H} {d : Nat} {ft wr : Int32} {js : List Nat} (hj : js.length ≤ 120) {WS : List Int32} (h32 : w 32 = am_I 0 (js.map aw_tau ++ WS)) (hw : js.length + WS.length = 120) (h38 : ∀ p, aw_w js p < 38) : ∀ l, l ≤ 2 → aw_NC w g d ft wr js (fun s S p => aw_Psh js l s S p) (3 - l) (aw_cap l) (20 * (l + 1)) := by
  intro l
  induction l with
  | zero =>
    intro _ s p n sh ic cc dp br T U hE he ha h0 hdp hs hsh hn hp
    exact aw_m_sb (b := 0) (c := 0) hj h32 hw h38 (fun q => by cases q) (fun _ => rfl) hE he ha h0 hs hdp (by simp only [aw_cap] at hsh; simpa using hsh) (by omega) hp
  | succ l ih =>
    intro hl s p n sh ic cc dp br T U hE he ha h0 hdp hs hsh hn hp
    have i1 := ih (by omega)
    rw [show 3 - l = 2 - l + 1 by omega] at i1
    refine aw_m_sb (dpt := 2 - l) (b := 20 * (l + 1)) (c := aw_cap l) hj h32 hw h38 (fun _ => ⟨by omega, aw_Psh_f l (by omega), i1⟩) (fun q => by cases q) hE he ha h0 hs ?_ (by simp only [aw_cap] at hsh; simpa using hsh) (by omega) hp
    rw [show 2 - l = 3 - (l + 1) by omega]
    exact hdp
