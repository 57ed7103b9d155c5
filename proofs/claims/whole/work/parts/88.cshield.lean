/-! Parts, fields and shields of the class, against the pure reading. -/
/-- what is known of the shields within, at depth dpt -/
def aw_NK (w : Nat → am_C) (r : Nat) (js : List Nat) (ir : Int32) (N : Nat → aw_S → Nat → aw_Res) (l dpt D c : Nat) : Prop := ∀ {g : am_H} {U : aw_T} {sh ic cc dp : Nat} {br : List Nat} {BS : List Int32} {rd p : Nat}, g[rd]? = some (aw_cR r p) → p ≤ js.length → U 38 sh = 0 → U 35 sh = 0 → sh + 1 + c ≤ 7 → dp < 100 → br.length + BS.length = 120 → 3 * br.length ≤ p → match N sh (U, sh + 1, ic, cc, max dp dpt, br) p with
  | .inl q => ∃ g' sh' ic' cc' dp' br' BS' v, am_R D 23 0 [some (.ref (1045 + rd)), some (.int (Int32.ofNat dpt)), none, none] [] (am_h (aw_rw w r js.length ir sh ic cc dp br BS) g) (.inl (some v)) (am_h (aw_rw w r js.length ir sh' ic' cc' dp' br' BS') g') ∧ aw_KZ g g' rd r p q ∧ br'.length + BS'.length = 120 ∧ q ≤ 130 ∧ (v = .null ∨ ((∃ a, v = .ref (1045 + a)) ∧ aw_isn (aw_w js q) = true))
  | .inr (p', (U', sh', ic', cc', dp', br')) => ∃ g' BS' a, am_R D 23 0 [some (.ref (1045 + rd)), some (.int (Int32.ofNat dpt)), none, none] [] (am_h (aw_rw w r js.length ir sh ic cc dp br BS) g) (.inl (some (.ref (1045 + a)))) (am_h (aw_rw w r js.length ir sh' ic' cc' dp' br' BS') g') ∧ aw_KS g g' rd r p p' ∧ br'.length + BS'.length = 120 ∧ aw_RS g' U' g.length g'.length sh' l sh a sh
theorem aw_c_pt {w : Nat → am_C} (d : Nat) {r : Nat} (hr : r < 4) {js : List Nat} {WS : List Value} (h6 : w (6 + 4 * r) = .inr (4, js.map Value.ref ++ WS)) (hw : js.length + WS.length = 120) (h38 : ∀ p, aw_w js p < 38) {ir : Int32} {N : Nat → aw_S → Nat → aw_Res} {dpt c l : Nat} {lv : Bool} (hN : lv = true → dpt ≤ 2 ∧ aw_NF js N c ∧ aw_NK w r js ir N l (dpt + 1) (d + 6) c) (hd : lv = false → dpt = 3) {g : am_H} {U : aw_T} {sh ic cc dp : Nat} {br : List Nat} {BS : List Int32} {rd p : Nat} {q : Nat} (hrd : g[rd]? = some (aw_cR r p)) (hp : p ≤ js.length) (hq : q < 2 * sh) (hsh : sh + (if lv = true then c + 1 else 0) ≤ 7) (hdp : dp < 100) (hB : br.length + BS.length = 120) (hb : 3 * br.length ≤ p) : match aw_Ppt js N dpt lv q (U, sh, ic, cc, dp, br) p with
    | .inl z => ∃ g' sh' ic' cc' dp' br' BS', am_R (d + 7) 32 0 [some (.ref (1045 + rd)), some (.int (Int32.ofNat dpt)), none, none] [] (am_h (aw_rw w r js.length ir sh ic cc dp br BS) g) (.inl (some .null)) (am_h (aw_rw w r js.length ir sh' ic' cc' dp' br' BS') g') ∧ aw_KZ g g' rd r p z ∧ br'.length + BS'.length = 120 ∧ z ≤ 130
    | .inr (p', (U', sh', ic', cc', dp', br')) => ∃ g' BS' a, am_R (d + 7) 32 0 [some (.ref (1045 + rd)), some (.int (Int32.ofNat dpt)), none, none] [] (am_h (aw_rw w r js.length ir sh ic cc dp br BS) g) (.inl (some (.ref (1045 + a)))) (am_h (aw_rw w r js.length ir sh' ic' cc' dp' br' BS') g') ∧ aw_KS g g' rd r p p' ∧ br'.length + BS'.length = 120 ∧ aw_RP g' g.length g'.length (aw_RS g' U' g.length g'.length sh' l sh) a (U' 36 q) := by
  have hgl := aw_gl hrd
  unfold aw_Ppt
  dsimp only
  by_cases h9 : aw_w js p < 9
  · rw [if_pos h9]
    have k := aw_k32t (ir := ir) (sh := sh) (ic := ic) (cc := cc) (dp := dp) (br := br) (BS := BS) (d + 5) hr h6 hw h38 hrd (by omega) dpt h9
    rw [(aw_kdA _ (h38 p)).2.2.2.2.2.1 (by omega)] at k
    refine ⟨_, BS, g.length, k, ⟨aw_ap_old (aw_at_rd hrd), fun k h1 h2 => ?_, ?_, ?_, ?_⟩, hB, ?_⟩
    · rw [List.getElem?_append_left (by rw [aw_at_len]; exact h1)]
      exact aw_at_old h2
    · rw [List.length_append, aw_at_len]
      omega
    · rw [List.length_append, aw_at_len, List.length_singleton]
      omega
    · rw [am_sz_push, aw_at_sz hrd, show am_cs (aw_cP (Int32.ofNat (aw_w js p))) = 1 from rfl]
      omega
    · refine ⟨Nat.le_refl _, by rw [List.length_append, aw_at_len, List.length_singleton]; omega, .inl ⟨aw_w js p, h9, aw_up_eq _ _ _ _, ?_⟩⟩
      rw [aw_up_eq]
      exact aw_ap_at aw_at_len
  · rw [if_neg h9]
    by_cases hl : lv = true ∧ aw_w js p = 13
    · rw [if_pos hl]
      obtain ⟨hd2, hF, hK⟩ := hN hl.1
      rw [if_pos hl.1] at hsh
      have hpl : p < js.length := aw_w_lt (by omega)
      have hrA : (aw_at g rd r (p + 1))[rd]? = some (aw_cR r (p + 1)) := aw_at_rd hrd
      have key := hK (g := aw_at g rd r (p + 1)) (U := aw_up (aw_nsT U sh (dpt + 1)) 36 q (Int32.ofNat (100 + sh))) (sh := sh) (ic := ic) (cc := cc) (dp := dp) (br := br) (BS := BS) hrA (by omega) (by unfold aw_nsT; rw [aw_up_ne (by omega), aw_up_eq]) (by unfold aw_nsT; rw [aw_up_ne (by omega), aw_up_ne (by omega), aw_up_ne (by omega), aw_up_eq]) (by omega) hdp hB (by omega)
      cases hr9 : N sh (aw_up (aw_nsT U sh (dpt + 1)) 36 q (Int32.ofNat (100 + sh)), sh + 1, ic, cc, max dp (dpt + 1), br) (p + 1) with
      | inl z =>
        rw [hr9] at key
        obtain ⟨g1, sh1, ic1, cc1, dp1, br1, BS1, v, k1, ⟨y1, y2, y3, y4⟩, k3, k4, k5⟩ := key
        rw [aw_at_len] at y3
        rw [aw_at_sz hrd] at y4
        rcases k5 with k5 | ⟨⟨a, k5⟩, k6⟩
        · subst k5
          exact ⟨g1, sh1, ic1, cc1, dp1, br1, BS1, aw_k32f d hr h6 hw h38 hrd (by omega) (by omega) hl.2 y1 (by omega) k1, ⟨y1, by omega, by omega, by omega⟩, k3, k4⟩
        · subst k5
          have := aw_isn_iff.mp k6
          exact ⟨g1, sh1, ic1, cc1, dp1, br1, BS1, aw_k32c d hr h6 hw h38 hrd (by omega) (by omega) hl.2 y1 (by omega) k1 (by omega), ⟨y1, by omega, by omega, by omega⟩, k3, k4⟩
      | inr z =>
        obtain ⟨p1, U1, sh1, ic1, cc1, dp1, br1⟩ := z
        rw [hr9] at key
        obtain ⟨g1, BS1, a, k1, ⟨y1, y2, y3, y4, y5⟩, k3, k4⟩ := key
        rw [aw_at_len] at y2 y3 y4 k4
        rw [aw_at_sz hrd] at y5
        obtain ⟨a1, a2, a3, a4, a4', a5, a6, -⟩ := hF sh (by omega) hr9
        have hp1 := aw_w_le a1 a6
        dsimp only
        by_cases h14 : aw_w js p1 = 14
        · rw [if_pos h14]
          refine ⟨aw_at g1 rd r (p1 + 1), BS1, a, aw_k32o d hr h6 hw h38 hrd (by omega) (by omega) hl.2 y1 (by omega) k1 h14, ⟨aw_at_rd y1, fun k h1 h2 => ?_, by rw [aw_at_len]; omega, by rw [aw_at_len]; omega, by rw [aw_at_sz y1]; omega⟩, k3, ?_⟩
          · rw [aw_at_old h2, y2 k h1 h2, aw_at_old h2]
          · have h36 : U1 36 q = Int32.ofNat (100 + sh) := by
              rcases a5 36 q with e | e | e
              · rw [e, aw_up_eq]
              · rw [aw_ow36] at e
                omega
              · rw [aw_ow36] at e
                omega
            rw [aw_at_len, h36]
            have rs := aw_RS_fr (g' := aw_at g1 rd r (p1 + 1)) (T' := U1) (Nat.le_refl g.length) (Nat.le_refl g1.length) (Nat.le_refl sh1) (fun k h1 h2 => aw_at_old (by omega)) l sh sh a sh (Nat.le_refl _) (fun _ _ _ _ => rfl) k4
            have hb1 : g.length ≤ a ∧ a < g1.length := by
              cases l with
              | zero => exact absurd k4 id
              | succ l =>
                obtain ⟨-, -, la, f1, f2, L, k, i, b1, b2, -⟩ := k4
                exact ⟨b1, b2⟩
            exact ⟨hb1.1, hb1.2, .inr ⟨sh, by omega, rfl, rs⟩⟩
        · rw [if_neg h14]
          exact ⟨g1, sh1, ic1, cc1, dp1, br1, BS1, aw_k32c d hr h6 hw h38 hrd (by omega) (by omega) hl.2 y1 (by omega) k1 h14, ⟨y1, by omega, by omega, by omega⟩, k3, by omega⟩
    · rw [if_neg hl]
      have hz : aw_KZ g g rd r p p := ⟨hrd, Nat.le_refl _, by omega, by omega⟩
      cases hlv : lv with
      | false =>
        exact ⟨g, sh, ic, cc, dp, br, BS, aw_k32z (d + 5) hr h6 hw h38 hrd (by omega) (by have := hd hlv; omega) (by have := hd hlv; omega) h9, hz, hB, by omega⟩
      | true =>
        have := (hN hlv).1
        exact ⟨g, sh, ic, cc, dp, br, BS, aw_k32n (d + 5) hr h6 hw h38 hrd (by omega) (by omega) h9 (fun q => hl ⟨hlv, q⟩), hz, hB, by omega⟩
/-- a divided field, behind its division -/
theorem aw_c_pp {w : Nat → am_C} (d : Nat) {r : Nat} (hr : r < 4) {js : List Nat} {WS : List Value} (h6 : w (6 + 4 * r) = .inr (4, js.map Value.ref ++ WS)) (hw : js.length + WS.length = 120) (h38 : ∀ p, aw_w js p < 38) {ir : Int32} {N : Nat → aw_S → Nat → aw_Res} {dpt c l : Nat} {lv : Bool} (hN : lv = true → dpt ≤ 2 ∧ aw_NF js N c ∧ aw_NK w r js ir N l (dpt + 1) (d + 7) c) (hd : lv = false → dpt = 3) {g : am_H} {U : aw_T} {sh ic cc dp : Nat} {br : List Nat} {BS : List Int32} {rd p : Nat} {s p0 dj : Nat} (hrd : g[rd]? = some (aw_cR r p)) (hp : p ≤ js.length) (h9 : ¬ aw_w js p < 9) (hp0 : p0 ≤ js.length) (hpp : p < p0) (hkd : am_R (d + 8) 29 0 [some (.ref (1045 + rd)), none] [] (am_h (aw_rw w r js.length ir sh ic cc dp br BS) g) (.inl (some (.ref dj))) (am_h (aw_rw w r js.length ir sh ic cc dp br BS) (aw_at g rd r p0))) (hs : s < sh) (hsh : sh + 2 * (if lv = true then c + 1 else 0) ≤ 7) (hdp : dp < 100) (hB : br.length + BS.length = 120) (hb : 3 * br.length ≤ p) : match aw_Ppp js N dpt lv s (U, sh, ic, cc, dp, br) p0 with
    | .inl z => ∃ g' sh' ic' cc' dp' br' BS', am_R (d + 9) 25 0 [some (.ref (1045 + rd)), some (.int (Int32.ofNat dpt)), none, none, none, none] [] (am_h (aw_rw w r js.length ir sh ic cc dp br BS) g) (.inl (some .null)) (am_h (aw_rw w r js.length ir sh' ic' cc' dp' br' BS') g') ∧ aw_KZ g g' rd r p z ∧ br'.length + BS'.length = 120 ∧ z ≤ 130
    | .inr (p', (U', sh', ic', cc', dp', br')) => ∃ g' BS' sa f1 f2, am_R (d + 9) 25 0 [some (.ref (1045 + rd)), some (.int (Int32.ofNat dpt)), none, none, none, none] [] (am_h (aw_rw w r js.length ir sh ic cc dp br BS) g) (.inl (some (.ref (1045 + sa)))) (am_h (aw_rw w r js.length ir sh' ic' cc' dp' br' BS') g') ∧ aw_KS g g' rd r p p' ∧ br'.length + BS'.length = 120 ∧ g.length ≤ sa ∧ g'.length = sa + 2 ∧ g'[sa]? = some (aw_cS (.ref dj) f1 f2 (sa + 1) 0) ∧ g'[sa + 1]? = some (aw_ar []) ∧ aw_RP g' g.length sa (aw_RS g' U' g.length sa sh' l (s + 1)) f1 (U' 36 (2 * s)) ∧ aw_RP g' g.length sa (aw_RS g' U' g.length sa sh' l (s + 1)) f2 (U' 36 (2 * s + 1)) := by
  have hgl := aw_gl hrd
  have hrA : (aw_at g rd r p0)[rd]? = some (aw_cR r p0) := aw_at_rd hrd
  have key := aw_c_pt (U := U) (sh := sh) (ic := ic) (cc := cc) (dp := dp) (br := br) (BS := BS) (q := 2 * s) (d + 1) hr h6 hw h38 hN hd hrA hp0 (by omega) (by omega) hdp hB (by omega)
  unfold aw_Ppp
  cases hr1 : aw_Ppt js N dpt lv (2 * s) (U, sh, ic, cc, dp, br) p0 with
  | inl z =>
    rw [hr1] at key
    obtain ⟨g1, sh1, ic1, cc1, dp1, br1, BS1, k1, ⟨y1, y2, y3, y4⟩, k3, k4⟩ := key
    rw [aw_at_len] at y3
    rw [aw_at_sz hrd] at y4
    exact ⟨g1, sh1, ic1, cc1, dp1, br1, BS1, aw_k25a d hr h6 hw h38 hrd (by omega) h9 (by omega) hkd y1 (by omega) k1, ⟨y1, by omega, by omega, by omega⟩, k3, k4⟩
  | inr z =>
    obtain ⟨p1, U1, sh1, ic1, cc1, dp1, br1⟩ := z
    rw [hr1] at key
    obtain ⟨g1, BS1, a1, k1, ⟨y1, y2, y3, y4, y5⟩, k3, k4⟩ := key
    rw [aw_at_len] at y2 y3 y4 k4
    rw [aw_at_sz hrd] at y5
    obtain ⟨e1, e2, e3, e4, e4', e5, e6, ⟨eb, e7, e8⟩⟩ := aw_Ppt_f (fun q => (hN q).2.1) (fun q => (hN q).1) (by omega) hr1
    have hp1 := aw_w_le e1 e6
    dsimp only
    by_cases h12 : aw_w js p1 = 12
    · rw [if_pos h12]
      have hpl : p1 < js.length := aw_w_lt (by omega)
      have hbr1 : 3 * br1.length ≤ p1 := by
        rw [e7, List.length_append]
        omega
      have hrB : (aw_at g1 rd r (p1 + 1))[rd]? = some (aw_cR r (p1 + 1)) := aw_at_rd y1
      have key2 := aw_c_pt (U := U1) (sh := sh1) (ic := ic1) (cc := cc1) (dp := dp1) (br := br1) (BS := BS1) (q := 2 * s + 1) (d + 1) hr h6 hw h38 hN hd hrB (show p1 + 1 ≤ js.length by omega) (by omega) (by omega) (by omega) k3 (by omega)
      cases hr2 : aw_Ppt js N dpt lv (2 * s + 1) (U1, sh1, ic1, cc1, dp1, br1) (p1 + 1) with
      | inl z =>
        rw [hr2] at key2
        obtain ⟨g2, sh2, ic2, cc2, dp2, br2, BS2, m1, ⟨x1, x2, x3, x4⟩, m3, m4⟩ := key2
        rw [aw_at_len] at x3
        rw [aw_at_sz y1] at x4
        exact ⟨g2, sh2, ic2, cc2, dp2, br2, BS2, aw_k25c d hr h6 hw h38 hrd (by omega) h9 (by omega) hkd y1 (by omega) k1 h12 x1 (by omega) m1, ⟨x1, by omega, by omega, by omega⟩, m3, m4⟩
      | inr z =>
        obtain ⟨p2, U2, sh2, ic2, cc2, dp2, br2⟩ := z
        rw [hr2] at key2
        obtain ⟨g2, BS2, a2, m1, ⟨x1, x2, x3, x4, x5⟩, m3, m4⟩ := key2
        rw [aw_at_len] at x2 x3 x4 m4
        rw [aw_at_sz y1] at x5
        obtain ⟨n1, n2, n3, n4, n4', n5, n6, -⟩ := aw_Ppt_f (fun q => (hN q).2.1) (fun q => (hN q).1) (by omega) hr2
        have hp2 := aw_w_le n1 n6
        refine ⟨_, BS2, g2.length, a1, a2, aw_k25o d hr h6 hw h38 hrd (by omega) h9 (by omega) hkd y1 (by omega) k1 h12 x1 (by omega) m1, ⟨aw_ap_old (aw_ap_old x1), fun k h1 h2 => ?_, ?_, ?_, ?_⟩, m3, by omega, ?_, ?_, ?_, ?_, ?_⟩
        · rw [List.getElem?_append_left (by rw [List.length_append]; omega), List.getElem?_append_left (by omega), x2 k (by omega) h2, aw_at_old h2, y2 k h1 h2, aw_at_old h2]
        · rw [List.length_append, List.length_append]
          omega
        · rw [List.length_append, List.length_append, List.length_singleton, List.length_singleton]
          omega
        · rw [am_sz_push, am_sz_push, show am_cs (aw_cS (.ref dj) a1 a2 (g2.length + 1) 0) = 5 from rfl, show am_cs (aw_ar []) = 8 from rfl]
          omega
        · rw [List.length_append, List.length_append, List.length_singleton, List.length_singleton]
        · exact aw_ap_old (aw_ap_at rfl)
        · exact aw_ap_at (by rw [List.length_append, List.length_singleton])
        · have h36 : U2 36 (2 * s) = U1 36 (2 * s) := by
            rcases n5 36 (2 * s) with e | e | e
            · exact e
            · omega
            · rw [aw_ow36] at e
              omega
          rw [h36]
          refine aw_RP_fr (Nat.le_refl _) (by omega) n2 (fun k h1 h2 => ?_) (show s + 1 ≤ sh by omega) (fun k z h1 h2 => ?_) k4
          · rw [List.getElem?_append_left (by rw [List.length_append]; omega), List.getElem?_append_left (by omega), x2 k (by omega) (by omega), aw_at_old (by omega)]
          · rcases n5 k z with e | e | e
            · exact e
            · have : aw_ow k z = s := by
                rw [e.1, e.2, aw_ow36]
                omega
              omega
            · omega
        · refine aw_RP_fr (show g.length ≤ g1.length from y3) (Nat.le_refl _) (Nat.le_refl _) (fun k h1 h2 => ?_) (show s + 1 ≤ sh1 by omega) (fun _ _ _ _ => rfl) m4
          rw [List.getElem?_append_left (by rw [List.length_append]; omega), List.getElem?_append_left (by omega)]
    · rw [if_neg h12]
      exact ⟨g1, sh1, ic1, cc1, dp1, br1, BS1, aw_k25b d hr h6 hw h38 hrd (by omega) h9 (by omega) hkd y1 (by omega) k1 h12, ⟨y1, by omega, by omega, by omega⟩, k3, by omega⟩
theorem aw_dvd : ∀ j, j < 21 → 18 ≤ j → ∃ k, k < 4 ∧ 0 < k ∧ aw_dv j = Int32.ofNat k ∧ aw_dvw k = .ref j := by
  intro j h1 h2
  rcases (by omega : j = 18 ∨ j = 19 ∨ j = 20) with h | h | h <;> subst h
  · exact ⟨2, by decide, by decide, rfl, rfl⟩
  · exact ⟨1, by decide, by decide, rfl, rfl⟩
  · exact ⟨3, by decide, by decide, rfl, rfl⟩
theorem aw_c_fd {w : Nat → am_C} (d : Nat) {r : Nat} (hr : r < 4) {js : List Nat} {WS : List Value} (h6 : w (6 + 4 * r) = .inr (4, js.map Value.ref ++ WS)) (hw : js.length + WS.length = 120) (h38 : ∀ p, aw_w js p < 38) {ir : Int32} {N : Nat → aw_S → Nat → aw_Res} {dpt c l : Nat} {lv : Bool} (hN : lv = true → dpt ≤ 2 ∧ aw_NF js N c ∧ aw_NK w r js ir N l (dpt + 1) (d + 7) c) (hd : lv = false → dpt = 3) {g : am_H} {U : aw_T} {sh ic cc dp : Nat} {br : List Nat} {BS : List Int32} {rd p : Nat} {s : Nat} (hrd : g[rd]? = some (aw_cR r p)) (hp : p ≤ js.length) (hs : s < sh) (h35 : U 35 s = 0) (hsh : sh + 2 * (if lv = true then c + 1 else 0) ≤ 7) (hdp : dp < 100) (hB : br.length + BS.length = 120) (hb : 3 * br.length ≤ p) : match aw_Pfd js N dpt lv s (U, sh, ic, cc, dp, br) p with
    | .inl z => ∃ g' sh' ic' cc' dp' br' BS', am_R (d + 9) 25 0 [some (.ref (1045 + rd)), some (.int (Int32.ofNat dpt)), none, none, none, none] [] (am_h (aw_rw w r js.length ir sh ic cc dp br BS) g) (.inl (some .null)) (am_h (aw_rw w r js.length ir sh' ic' cc' dp' br' BS') g') ∧ aw_KZ g g' rd r p z ∧ br'.length + BS'.length = 120 ∧ z ≤ 130
    | .inr (p', (U', sh', ic', cc', dp', br')) => ∃ g' BS' sa f1 f2 kd, am_R (d + 9) 25 0 [some (.ref (1045 + rd)), some (.int (Int32.ofNat dpt)), none, none, none, none] [] (am_h (aw_rw w r js.length ir sh ic cc dp br BS) g) (.inl (some (.ref (1045 + sa)))) (am_h (aw_rw w r js.length ir sh' ic' cc' dp' br' BS') g') ∧ aw_KS g g' rd r p p' ∧ br'.length + BS'.length = 120 ∧ g.length ≤ sa ∧ g'.length = sa + 2 ∧ kd ≤ 4 ∧ U' 35 s = Int32.ofNat kd ∧ g'[sa]? = some (aw_cS (aw_dvw kd) f1 f2 (sa + 1) 0) ∧ g'[sa + 1]? = some (aw_ar []) ∧ aw_RP g' g.length sa (aw_RS g' U' g.length sa sh' l (s + 1)) f1 (U' 36 (2 * s)) ∧ aw_RP g' g.length sa (aw_RS g' U' g.length sa sh' l (s + 1)) f2 (U' 36 (2 * s + 1)) := by
  have hgl := aw_gl hrd
  unfold aw_Pfd
  dsimp only
  by_cases h9 : aw_w js p < 9
  · rw [if_pos h9]
    have k := aw_k25t (ir := ir) (sh := sh) (ic := ic) (cc := cc) (dp := dp) (br := br) (BS := BS) (d + 7) hr h6 hw h38 hrd (by omega) dpt h9
    rw [(aw_kdA _ (h38 p)).2.2.2.2.2.1 (by omega)] at k
    refine ⟨_, BS, g.length + 1, g.length, g.length, 0, k, ⟨aw_ap_old (aw_ap_old (aw_ap_old (aw_at_rd hrd))), fun k h1 h2 => ?_, ?_, ?_, ?_⟩, hB, by omega, ?_, by omega, ?_, ?_, ?_, ?_, ?_⟩
    · rw [List.getElem?_append_left (by rw [List.length_append, List.length_append, aw_at_len]; omega), List.getElem?_append_left (by rw [List.length_append, aw_at_len]; omega), List.getElem?_append_left (by rw [aw_at_len]; omega)]
      exact aw_at_old h2
    · simp only [List.length_append, aw_at_len]
      omega
    · simp only [List.length_append, aw_at_len, List.length_singleton]
      omega
    · rw [am_sz_push, am_sz_push, am_sz_push, aw_at_sz hrd, show am_cs (aw_cP (Int32.ofNat (aw_w js p))) = 1 from rfl, show am_cs (aw_cS .null g.length g.length (g.length + 1 + 1) 0) = 5 from rfl, show am_cs (aw_ar []) = 8 from rfl]
      omega
    · simp only [List.length_append, aw_at_len, List.length_singleton]
    · rw [aw_up_ne (by omega), aw_up_ne (by omega), h35]
      rfl
    · exact aw_ap_old (aw_ap_at (by rw [List.length_append, aw_at_len, List.length_singleton]))
    · exact aw_ap_at (by simp only [List.length_append, aw_at_len, List.length_singleton])
    · rw [aw_up_ne (by omega), aw_up_eq]
      exact ⟨Nat.le_refl _, by omega, .inl ⟨_, h9, rfl, aw_ap_old (aw_ap_old (aw_ap_at aw_at_len))⟩⟩
    · rw [aw_up_eq]
      exact ⟨Nat.le_refl _, by omega, .inl ⟨_, h9, rfl, aw_ap_old (aw_ap_old (aw_ap_at aw_at_len))⟩⟩
  · rw [if_neg h9]
    by_cases h11 : aw_w js p = 11
    · rw [if_pos h11]
      have hpl : p < js.length := aw_w_lt (by omega)
      have key := aw_c_pp (U := aw_up U 35 s 4) (sh := sh) (ic := ic) (cc := cc) (dp := dp) (br := br) (BS := BS) d hr h6 hw h38 hN hd hrd hp h9 (show p + 1 ≤ js.length by omega) (by omega) (aw_k29q (d + 6) hr h6 hw h38 hrd (by omega) h11) hs hsh hdp hB hb
      cases hr1 : aw_Ppp js N dpt lv s (aw_up U 35 s 4, sh, ic, cc, dp, br) (p + 1) with
      | inl z =>
        rw [hr1] at key
        exact key
      | inr z =>
        obtain ⟨p1, U1, sh1, ic1, cc1, dp1, br1⟩ := z
        rw [hr1] at key
        obtain ⟨g', BS', sa, f1, f2, k1, k2, k3, k4, k5, k6, k7, k8, k9⟩ := key
        obtain ⟨e1, e2, e3, e4, e4', e5, e6, -⟩ := aw_Ppp_f (fun q => (hN q).2.1) (fun q => (hN q).1) hs hr1
        refine ⟨g', BS', sa, f1, f2, 4, k1, k2, k3, k4, k5, by omega, ?_, k6, k7, k8, k9⟩
        rcases e5 35 s with e | e | e
        · rw [e, aw_up_eq]
          rfl
        · omega
        · rw [aw_ow35 (.inl rfl)] at e
          omega
    · rw [if_neg h11]
      by_cases h10 : aw_w js p = 10
      · rw [if_pos h10]
        have hpl : p < js.length := aw_w_lt (by omega)
        by_cases hv : 18 ≤ aw_w js (p + 1) ∧ aw_w js (p + 1) ≤ 20
        · rw [if_pos hv]
          have hpl1 : p + 1 < js.length := aw_w_lt (by omega)
          obtain ⟨kd, d1, d2, d3, d4⟩ := aw_dvd (aw_w js (p + 1)) (by omega) hv.1
          have key := aw_c_pp (U := aw_up U 35 s (aw_dv (aw_w js (p + 1)))) (sh := sh) (ic := ic) (cc := cc) (dp := dp) (br := br) (BS := BS) d hr h6 hw h38 hN hd hrd hp h9 (show p + 2 ≤ js.length by omega) (by omega) (aw_k29p (d + 6) hr h6 hw h38 hrd (by omega) h10 hv) hs hsh hdp hB hb
          cases hr1 : aw_Ppp js N dpt lv s (aw_up U 35 s (aw_dv (aw_w js (p + 1))), sh, ic, cc, dp, br) (p + 2) with
          | inl z =>
            rw [hr1] at key
            exact key
          | inr z =>
            obtain ⟨p1, U1, sh1, ic1, cc1, dp1, br1⟩ := z
            rw [hr1] at key
            obtain ⟨g', BS', sa, f1, f2, k1, k2, k3, k4, k5, k6, k7, k8, k9⟩ := key
            obtain ⟨e1, e2, e3, e4, e4', e5, e6, -⟩ := aw_Ppp_f (fun q => (hN q).2.1) (fun q => (hN q).1) hs hr1
            refine ⟨g', BS', sa, f1, f2, kd, k1, k2, k3, k4, k5, by omega, ?_, by rw [d4]; exact k6, k7, k8, k9⟩
            rcases e5 35 s with e | e | e
            · rw [e, aw_up_eq]
              exact d3
            · omega
            · rw [aw_ow35 (.inl rfl)] at e
              omega
        · rw [if_neg hv]
          exact ⟨aw_at g rd r (p + 1), sh, ic, cc, dp, br, BS, aw_k25d d hr h6 hw h38 hrd (by omega) h9 (by omega) (aw_k29f (d + 6) hr h6 hw h38 hrd (by omega) h10 hv), ⟨aw_at_rd hrd, by omega, by rw [aw_at_len]; omega, by rw [aw_at_sz hrd]; omega⟩, hB, by omega⟩
      · rw [if_neg h10]
        have k := aw_k29n (ir := ir) (sh := sh) (ic := ic) (cc := cc) (dp := dp) (br := br) (BS := BS) (d + 6) hr h6 hw h38 hrd (by omega) h11 h10
        have k2 := aw_k25d (dpt := dpt) (ir := ir) (sh := sh) (ic := ic) (cc := cc) (dp := dp) (br := br) (BS := BS) (p0 := p) d hr h6 hw h38 hrd (by omega) h9 (by omega) (by rw [aw_at_self hrd]; exact k)
        rw [aw_at_self hrd] at k2
        exact ⟨g, sh, ic, cc, dp, br, BS, k2, ⟨hrd, by omega, by omega, by omega⟩, hB, by omega⟩
/-- a shield -/
theorem aw_c_sb {w : Nat → am_C} (d : Nat) {r : Nat} (hr : r < 4) {js : List Nat} {WS : List Value} (h6 : w (6 + 4 * r) = .inr (4, js.map Value.ref ++ WS)) (hw : js.length + WS.length = 120) (h38 : ∀ p, aw_w js p < 38) {ir : Int32} {N : Nat → aw_S → Nat → aw_Res} {dpt c l : Nat} {lv : Bool} (hdt : dpt ≤ 3) (hN : lv = true → dpt ≤ 2 ∧ aw_NF js N c ∧ aw_NK w r js ir N l (dpt + 1) (d + 7) c) (hd : lv = false → dpt = 3) : aw_NK w r js ir (fun s S p => aw_Psb js N dpt lv s S p) (l + 1) dpt (d + 10) (2 * (if lv = true then c + 1 else 0)) := by
  intro g U sh ic cc dp br BS rd p hrd hp h38s h35 hsh hdp hB hb
  have hgl := aw_gl hrd
  have key := aw_c_fd (U := U) (sh := sh + 1) (ic := ic) (cc := cc) (dp := max dp dpt) (br := br) (BS := BS) (s := sh) d hr h6 hw h38 hN hd hrd hp (by omega) h35 hsh (by omega) hB hb
  dsimp only
  unfold aw_Psb
  cases hr1 : aw_Pfd js N dpt lv sh (U, sh + 1, ic, cc, max dp dpt, br) p with
  | inl z =>
    rw [hr1] at key
    obtain ⟨g1, sh1, ic1, cc1, dp1, br1, BS1, k1, ⟨y1, y2, y3, y4⟩, k3, k4⟩ := key
    exact ⟨g1, sh1, ic1, cc1, dp1, br1, BS1, .null, aw_k23z d hr h6 hw h38 hrd (by omega) (by omega) y1 (by omega) k1, ⟨y1, y2, y3, y4⟩, k3, k4, .inl rfl⟩
  | inr z =>
    obtain ⟨p1, U1, sh1, ic1, cc1, dp1, br1⟩ := z
    rw [hr1] at key
    obtain ⟨g1, BS1, sa, f1, f2, kd, k1, ⟨y1, y2, y3, y4, y5⟩, k3, k4, k5, k6, k7, k8, k9, k10, k11⟩ := key
    obtain ⟨e1, e2, e3, e4, e4', e5, e6, ⟨eb, e7, e8⟩⟩ := aw_Pfd_f (fun q => (hN q).2.1) (fun q => (hN q).1) (by omega) hr1
    have hp1 := aw_w_le e1 e6
    have hf1 := k10.1
    have hf1' := k10.2.1
    have hf2 := k11.1
    have hf2' := k11.2.1
    have h38' : U1 38 sh = Int32.ofNat 0 := by
      rcases e5 38 sh with e | e | e
      · rw [e]
        exact h38s
      · omega
      · rw [aw_ow35 (.inr (.inr rfl))] at e
        omega
    have key2 := aw_c_is (dpt := dpt) (s := sh) (ir := ir) d hr h6 hw h38 k6 (rd := rd) (sa := sa) (la := sa + 1) (f1 := f1) (f2 := f2) ⟨by omega, by omega, by omega, by omega, by omega⟩ ⟨by omega, by omega, by omega, by omega⟩ 4 0 (L := []) (sh := sh1) (ic := ic1) (cc := cc1) (dp := dp1) (br := br1) (BS := BS1) rfl y1 hp1 k8 k9 (by decide) k7 h38' (aw_RP_PT k10) (aw_RP_PT k11) rfl (fun j hj => absurd hj (Nat.not_lt_zero j)) (fun x h => absurd h List.not_mem_nil) k3 (by rw [e7, List.length_append]; omega)
    dsimp only
    cases hr2 : aw_Pis js sh 4 0 (U1, sh1, ic1, cc1, dp1, br1) p1 with
    | inl z =>
      rw [hr2] at key2
      obtain ⟨g2, sh2, ic2, cc2, dp2, br2, BS2, v, m1, ⟨x1, x2, x3, x4⟩, m3, m4, m5⟩ := key2
      refine ⟨g2, sh2, ic2, cc2, dp2, br2, BS2, v, aw_k23s d hr h6 hw h38 hrd (by omega) (by omega) y1 (by omega) k1 m1, ⟨x1, by omega, by omega, by omega⟩, m3, m4, ?_⟩
      rcases m5 with m5 | m5
      · exact .inl m5
      · exact .inr ⟨⟨sa, m5.1⟩, m5.2⟩
    | inr z =>
      obtain ⟨p2, U2, sh2, ic2, cc2, dp2, br2⟩ := z
      rw [hr2] at key2
      obtain ⟨g2, BS2, L, i, m1, m2, m3, m4, m5, m6, m7, m8, m9, m10, m11, mv, m12, m13, m14⟩ := key2
      obtain ⟨b1, b2, b3, b4, b5, -⟩ := aw_Pis_f 4 0 (by omega) hr2
      have tk : ∀ k z, sh + 1 ≤ aw_ow k z → U2 k z = U1 k z := by
        intro k z h1
        rcases b4 k z with e | e | e
        · exact e
        · rw [e.1, e.2, aw_ow35 (.inr (.inr rfl))] at h1
          omega
        · rw [aw_ow39 e.1] at h1
          omega
      have t35 : U2 35 sh = U1 35 sh := by
        rcases b4 35 sh with e | e | e
        · exact e
        · omega
        · omega
      have t36 : ∀ z, U2 36 z = U1 36 z := by
        intro y
        rcases b4 36 y with e | e | e
        · exact e
        · omega
        · omega
      have hfr : ∀ k, g.length ≤ k → k < sa → g2[k]? = g1[k]? := fun k h1 h2 => m5 k (by omega) (by omega) (by omega) (by omega)
      refine ⟨g2, BS2, sa, aw_k23s d hr h6 hw h38 hrd (by omega) (by omega) y1 (by omega) k1 m1, ⟨m2, fun k h1 h2 => ?_, by omega, by omega, by omega⟩, m14, ?_⟩
      · rw [m5 k (by omega) h2 (by omega) (by omega)]
        exact y2 k h1 h2
      · refine ⟨Nat.le_refl _, by omega, sa + 1, f1, f2, L, kd, i, by omega, by omega, by omega, by omega, m3, m4, k6, t35.trans k7, m9, m10, m11, fun x h => ?_, m13, mv, ?_, ?_⟩
        · rcases m12 x h with q | q
          · exact absurd q List.not_mem_nil
          · omega
        · rw [t36]
          exact aw_RP_fr (Nat.le_refl _) (by omega) (by omega) hfr (Nat.le_refl _) (fun k z h1 _ => tk k z h1) k10
        · rw [t36]
          exact aw_RP_fr (Nat.le_refl _) (by omega) (by omega) hfr (Nat.le_refl _) (fun k z h1 _ => tk k z h1) k11
theorem aw_c_sh {w : Nat → am_C} {r : Nat} (hr : r < 4) {js : List Nat} {WS : List Value} (h6 : w (6 + 4 * r) = .inr (4, js.map Value.ref ++ WS)) (hw : js.length + WS.length = 120) (h38 : ∀ p, aw_w js p < 38) {ir : Int32} : ∀ l, l ≤ 2 → ∀ d, aw_NK w r js ir (fun s S p => aw_Psh js l s S p) (l + 1) (3 - l) (d + 3 * l + 10) (aw_cap l) := by
  intro l
  induction l with
  | zero =>
    intro _ d
    exact aw_c_sb (lv := false) (dpt := 3) (c := 0) (l := 0) (N := fun _ _ p => .inl p) d hr h6 hw h38 (Nat.le_refl _) (fun q => by cases q) (fun _ => rfl)
  | succ l ih =>
    intro hl d
    have i1 : aw_NK w r js ir (fun s S p => aw_Psh js l s S p) (l + 1) (2 - l + 1) (d + 3 * (l + 1) + 7) (aw_cap l) := by
      rw [show 2 - l + 1 = 3 - l by omega, show d + 3 * (l + 1) + 7 = d + 3 * l + 10 by omega]
      exact @ih (by omega) d
    rw [show 3 - (l + 1) = 2 - l by omega]
    intro g U sh ic cc dp br BS rd p a1 a2 a3 a4 a5 a6 a7 a8
    exact aw_c_sb (lv := true) (dpt := 2 - l) (c := aw_cap l) (l := l + 1) (N := fun s S p => aw_Psh js l s S p) (d + 3 * (l + 1)) hr h6 hw h38 (by omega) (fun _ => ⟨by omega, aw_Psh_f l (by omega), i1⟩) (fun q => by cases q) a1 a2 a3 a4 a5 a6 a7 a8
