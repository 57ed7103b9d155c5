/-! judge finds the breaches that the reading found. -/
def aw_jb (BR0 BK0 : List Int32) (sd : Nat) (br : List Nat) (BR BK : List Int32) : Prop := BR.length = 120 ∧ BK.length = 3 ∧ BK.getD sd 0 = Int32.ofNat br.length ∧ (∀ k, k < br.length → BR.getD (40 * sd + k) 0 = Int32.ofNat (br.getD k 0)) ∧ (∀ z, z < 40 * sd ∨ 40 * sd + 40 ≤ z → BR.getD z 0 = BR0.getD z 0) ∧ (∀ z, z ≠ sd → BK.getD z 0 = BK0.getD z 0)
theorem aw_gset {l : List Int32} {i z : Nat} {v : Int32} (hi : i < l.length) : (l.set i v).getD z 0 = if z = i then v else l.getD z 0 := by
  rw [List.getD_eq_getElem?_getD]
  by_cases h : z = i
  · subst h
    rw [if_pos rfl, List.getElem?_set_self hi]
    rfl
  · rw [if_neg h, List.getElem?_set_ne (fun q => h q.symm), ← List.getD_eq_getElem?_getD]
theorem aw_jb_push {BR0 BK0 : List Int32} {sd p : Nat} {br : List Nat} {BR BK : List Int32} (hsd : sd < 3) (hb : br.length < 40) (h : aw_jb BR0 BK0 sd br BR BK) : aw_jb BR0 BK0 sd (br ++ [p]) (BR.set (40 * sd + br.length) (Int32.ofNat p)) (BK.set sd (Int32.ofNat (br.length + 1))) := by
  obtain ⟨h1, h2, h3, h4, h5, h6⟩ := h
  refine ⟨by rw [List.length_set, h1], by rw [List.length_set, h2], ?_, fun k hk => ?_, fun z hz => ?_, fun z hz => ?_⟩
  · rw [aw_gset (by omega), if_pos rfl, List.length_append, List.length_singleton]
  · rw [List.length_append, List.length_singleton] at hk
    rw [aw_gset (by omega)]
    by_cases hkb : k = br.length
    · subst hkb
      rw [if_pos rfl, List.getD_eq_getElem?_getD, List.getElem?_append_right (Nat.le_refl _), Nat.sub_self]
      rfl
    · rw [if_neg (by omega), h4 k (by omega), List.getD_eq_getElem?_getD, List.getD_eq_getElem?_getD, List.getElem?_append_left (by omega)]
  · rw [aw_gset (by omega), if_neg (by omega)]
    exact h5 z hz
  · rw [aw_gset (by omega), if_neg hz]
    exact h6 z hz
/-- a coat -/
theorem aw_j_coat {w : Nat → am_C} {g : am_H} {d : Nat} {ft wr : Int32} {js : List Nat} (hj : js.length ≤ 120) {WS : List Int32} (h32 : w 32 = am_I 0 (js.map aw_tau ++ WS)) (hw : js.length + WS.length = 120) (h38 : ∀ p, aw_w js p < 38) {sd shf : Nat} (hsd : sd < 3) {BR0 BK0 : List Int32} {Uf : aw_T} {p n nx s i : Nat} {on : Bool} {BR BK : List Int32} {T : aw_T} {br : List Nat} (hT1 : T 33 n = Int32.ofNat s) (hT2 : T 34 n = Int32.ofNat i) (hn : n + 2 ≤ 300) (hs : s < 8) (hi : i < 10) (hnx : nx < 100) (hi1 : 1 ≤ i) (h9 : aw_w js p ≤ 9) (hJ : aw_jb BR0 BK0 sd br BR BK) (hb : br.length < 40) {b : Bool} (hbk : aw_bb (aw_tau (aw_w js p)) (if on = true then aw_cl (T 40 (4 * s + i - 1)) else aw_gr (T 36 (2 * s)) (T 36 (2 * s + 1))) = b) : ∃ BR' BK', aw_jb BR0 BK0 sd (aw_ab b p br) BR' BK' ∧ ∀ o h', aw_JG w g d ft wr js sd (p + 1) (n + 1) (nx) shf false false BR' BK' T o h' → aw_JG w g d ft wr js sd (p) (n + 1) (nx) shf true on BR BK T o h' := by
  have hp : p < js.length := aw_w_lt (by omega)
  have hjo : aw_jo (aw_w js p) = true := by
    have : ∀ j, j < 10 → aw_jo j = true := by decide
    exact this _ (by omega)
  cases b with
  | true =>
    refine ⟨_, _, aw_jb_push hsd hb hJ, fun o h' k => ?_⟩
    cases on with
    | false => exact aw_jTfy hj h32 hw h38 hT1 hT2 hn hp hs hi hnx hjo h9 hi1 hJ.2.2.1 hb hsd hJ.1 hJ.2.1 hbk k
    | true => exact aw_jTty hj h32 hw h38 hT1 hT2 hn hp hs hi hnx hjo h9 hi1 hJ.2.2.1 hb hsd hJ.1 hJ.2.1 hbk k
  | false =>
    refine ⟨BR, BK, hJ, fun o h' k => ?_⟩
    cases on with
    | false => exact aw_jTfn hj h32 hw h38 hT1 hT2 hn hp hs hi hnx hjo h9 hi1 hJ.2.2.1 hb hsd hJ.1 hJ.2.1 hbk k
    | true => exact aw_jTtn hj h32 hw h38 hT1 hT2 hn hp hs hi hnx hjo h9 hi1 hJ.2.2.1 hb hsd hJ.1 hJ.2.1 hbk k
theorem aw_joW : ∀ j, j < 37 → (j ≠ 13 ∧ j ≠ 14 ∧ j ≠ 15) → (j < 25 ∨ 31 ≤ j) → aw_jo j = true := by decide
theorem aw_ab_l (b : Bool) (p : Nat) (br : List Nat) : (aw_ab b p br).length ≤ br.length + 1 := by
  obtain ⟨e, h1, h2⟩ := aw_ab_len b p br
  rw [h1, List.length_append]
  omega
/-- an item -/
theorem aw_j_it {w : Nat → am_C} {g : am_H} {d : Nat} {ft wr : Int32} {js : List Nat} (hj : js.length ≤ 120) {WS : List Int32} (h32 : w 32 = am_I 0 (js.map aw_tau ++ WS)) (hw : js.length + WS.length = 120) (h38 : ∀ p, aw_w js p < 38) {sd shf : Nat} (hsd : sd < 3) {BR0 BK0 : List Int32} {Uf : aw_T} {p n nx s i : Nat} {BR BK : List Int32} {T U : aw_T} {sh ic cc dp : Nat} {br : List Nat} {p' : Nat} {U' : aw_T} {sh' ic' cc' dp' : Nat} {br' : List Nat} (hE : aw_E T Uf) (hT1 : T 33 n = Int32.ofNat s) (hT2 : T 34 n = Int32.ofNat i) (hn : n + 2 ≤ 300) (hs : s < 8) (hi : i < 4) (hnx : nx < 100) (hJ : aw_jb BR0 BK0 sd br BR BK) (hb : 3 * br.length ≤ p) (hnum : aw_isn (aw_w js p) = true) (h : aw_Pit js s i (U, sh, ic, cc, dp, br) p = .inr (p', (U', sh', ic', cc', dp', br'))) (u1 : Uf 36 (2 * s) = U 36 (2 * s)) (u2 : Uf 36 (2 * s + 1) = U 36 (2 * s + 1)) (u3 : Uf 40 (4 * s + i) = U' 40 (4 * s + i)) : ∃ T' BR' BK', aw_B n T T' ∧ aw_E T' Uf ∧ T' 33 n = Int32.ofNat s ∧ T' 34 n = Int32.ofNat (i + 1) ∧ aw_jb BR0 BK0 sd br' BR' BK' ∧ ∀ o h', aw_JG w g d ft wr js sd (p') (n + 1) (nx) shf false false BR' BK' T' o h' → aw_JG w g d ft wr js sd (p) (n + 1) (nx) shf false false BR BK T o h' := by
  have hp := aw_w_lt (js := js) (p := p) (by have := aw_isn_iff.mp hnum; omega)
  have hB1 : aw_B n T (aw_up T 34 n (Int32.ofNat (i + 1))) := fun z hz => ⟨aw_up_ne (by omega), aw_up_ne (by omega)⟩
  have hE1 : aw_E (aw_up T 34 n (Int32.ofNat (i + 1))) Uf := fun k hk z => (aw_up_ne (by omega)).trans (hE k hk z)
  have t1 : aw_up T 34 n (Int32.ofNat (i + 1)) 33 n = Int32.ofNat s := (aw_up_ne (by omega)).trans hT1
  have t2 : aw_up T 34 n (Int32.ofNat (i + 1)) 34 n = Int32.ofNat (i + 1) := aw_up_eq _ _ _ _
  have v1 : aw_up T 34 n (Int32.ofNat (i + 1)) 36 (2 * s) = U 36 (2 * s) := (hE1 36 (by decide) _).trans u1
  have v2 : aw_up T 34 n (Int32.ofNat (i + 1)) 36 (2 * s + 1) = U 36 (2 * s + 1) := (hE1 36 (by decide) _).trans u2
  have k0 : ∀ o h', aw_JG w g d ft wr js sd (p + 1) (n + 1) (nx) shf true false BR BK (aw_up T 34 n (Int32.ofNat (i + 1))) o h' → aw_JG w g d ft wr js sd (p) (n + 1) (nx) shf false false BR BK T o h' := fun o h' k => aw_jNf hj h32 hw h38 hT1 hT2 hn hp hs (by omega) hnx hnum k
  unfold aw_Pit at h
  split at h
  · rename_i ho
    have hp1 : p + 1 < js.length := aw_w_lt (by omega)
    unfold aw_Por at h
    dsimp only at h
    split at h
    · rename_i hc
      have hc9 := aw_cto_iff.mp hc
      have hp2 : p + 2 < js.length := aw_w_lt (by omega)
      obtain ⟨BR1, BK1, j1, kc⟩ := aw_j_coat (g := g) (d := d) (ft := ft) (wr := wr) (shf := shf) (BR0 := BR0) (BK0 := BK0) (Uf := Uf) (p := p + 2) (n := n) (nx := nx) (on := false) hj h32 hw h38 hsd t1 t2 hn hs (by omega) hnx (by omega) (by omega) hJ (by omega) (b := aw_bk (Int32.ofNat (aw_w js (p + 2))) (U 36 (2 * s)) (U 36 (2 * s + 1))) (by rw [if_neg (by decide), v1, v2]; exact aw_bb_gr (by omega) _ _)
      have k1 : ∀ o h', aw_JG w g d ft wr js sd (p + 3) (n + 1) (nx) shf false false BR1 BK1 (aw_up T 34 n (Int32.ofNat (i + 1))) o h' → aw_JG w g d ft wr js sd (p) (n + 1) (nx) shf false false BR BK T o h' := fun o h' k => k0 o h' (aw_jY hj h32 hw h38 t1 t2 hn hp1 hs (by omega) hnx (aw_joW _ (by omega) (by omega) (by omega)) (by omega) (kc o h' k))
      split at h
      · rename_i hb4
        have hp3 : p + 3 < js.length := aw_w_lt (by omega)
        unfold aw_Pon at h
        dsimp only at h
        split at h
        · rename_i h16
          have hp4 : p + 4 < js.length := aw_w_lt (by omega)
          split at h
          · cases h
          · rename_i hf
            obtain ⟨e1, e2, e3⟩ := aw_fch_none hf
            have e1' := aw_isn_iff.mp e1
            have e2' := aw_shp_iff.mp e2
            have e3' := aw_cto_iff.mp e3
            have hp5 : p + 4 + 1 < js.length := aw_w_lt (by omega)
            have hp6 : p + 4 + 1 + 1 < js.length := aw_w_lt (by omega)
            have hp7 : p + 4 + 1 + 2 < js.length := aw_w_lt (by omega)
            cases h
            have hc40 : Uf 40 (4 * s + i) = Int32.ofNat (aw_w js (p + 2)) := by
              rw [u3, aw_up_ne (by omega), aw_up_ne (by omega), aw_up_ne (by omega), aw_up_eq]
            have hB2 : aw_B n T (aw_up (aw_up T 34 n (Int32.ofNat (i + 1))) 34 n (Int32.ofNat (i + 1))) := fun z hz => ⟨(aw_up_ne (by omega)).trans (aw_up_ne (by omega)), (aw_up_ne (by omega)).trans (aw_up_ne (by omega))⟩
            have hE2 : aw_E (aw_up (aw_up T 34 n (Int32.ofNat (i + 1))) 34 n (Int32.ofNat (i + 1))) Uf := fun k hk z => (aw_up_ne (by omega)).trans (hE1 k hk z)
            have s1 : aw_up (aw_up T 34 n (Int32.ofNat (i + 1))) 34 n (Int32.ofNat (i + 1)) 33 n = Int32.ofNat s := (aw_up_ne (by omega)).trans t1
            have s2 : aw_up (aw_up T 34 n (Int32.ofNat (i + 1))) 34 n (Int32.ofNat (i + 1)) 34 n = Int32.ofNat (i + 1) := aw_up_eq _ _ _ _
            have l1 := aw_ab_l (aw_bk (Int32.ofNat (aw_w js (p + 2))) (U 36 (2 * s)) (U 36 (2 * s + 1))) (p + 2) br
            obtain ⟨BR2, BK2, j2, kd⟩ := aw_j_coat (g := g) (d := d) (ft := ft) (wr := wr) (shf := shf) (BR0 := BR0) (BK0 := BK0) (Uf := Uf) (p := p + 4 + 1 + 2) (n := n) (nx := nx) (on := true) hj h32 hw h38 hsd s1 s2 hn hs (by omega) hnx (by omega) (by omega) j1 (by omega) (b := aw_bk (Int32.ofNat (aw_w js (p + 4 + 1 + 2))) (Int32.ofNat (aw_w js (p + 2))) (Int32.ofNat (aw_w js (p + 2)))) (by rw [if_pos rfl, show 4 * s + (i + 1) - 1 = 4 * s + i by omega, hE2 40 (by decide), hc40]; exact aw_bb_on (by omega) _)
            refine ⟨_, BR2, BK2, hB2, hE2, s1, s2, j2, fun o h' k => k1 o h' (aw_jH hj h32 hw h38 t1 t2 hn hp3 hs (by omega) hnx hb4.2 (aw_jX hj h32 hw h38 t1 t2 hn hp4 hs (by omega) hnx (by rw [h16]; rfl) (aw_jNt hj h32 hw h38 t1 t2 hn hp5 hs (by omega) hnx e1 (aw_jY hj h32 hw h38 s1 s2 hn hp6 hs (by omega) hnx (aw_joW _ (by omega) (by omega) (by omega)) (by omega) (kd o h' k)))))⟩
        · cases h
      · cases h
        exact ⟨_, BR1, BK1, hB1, hE1, t1, t2, j1, k1⟩
    · cases h
  · rename_i ho
    unfold aw_Pcf at h
    dsimp only at h
    split at h
    · cases h
    · rename_i hf
      obtain ⟨e1, e2, e3⟩ := aw_fch_none hf
      have e1' := aw_isn_iff.mp e1
      have e2' := aw_shp_iff.mp e2
      have e3' := aw_cto_iff.mp e3
      have hp1 : p + 1 < js.length := aw_w_lt (by omega)
      have hp2 : p + 2 < js.length := aw_w_lt (by omega)
      obtain ⟨BR1, BK1, j1, kc⟩ := aw_j_coat (g := g) (d := d) (ft := ft) (wr := wr) (shf := shf) (BR0 := BR0) (BK0 := BK0) (Uf := Uf) (p := p + 2) (n := n) (nx := nx) (on := false) hj h32 hw h38 hsd t1 t2 hn hs (by omega) hnx (by omega) (by omega) hJ (by omega) (b := aw_bk (Int32.ofNat (aw_w js (p + 2))) (U 36 (2 * s)) (U 36 (2 * s + 1))) (by rw [if_neg (by decide), v1, v2]; exact aw_bb_gr (by omega) _ _)
      cases h
      exact ⟨_, BR1, BK1, hB1, hE1, t1, t2, j1, fun o h' k => k0 o h' (aw_jY hj h32 hw h38 t1 t2 hn hp1 hs (by omega) hnx (aw_joW _ (by omega) (by omega) (by omega)) (by omega) (kc o h' k))⟩
/-- the items -/
theorem aw_j_is {w : Nat → am_C} {g : am_H} {d : Nat} {ft wr : Int32} {js : List Nat} (hj : js.length ≤ 120) {WS : List Int32} (h32 : w 32 = am_I 0 (js.map aw_tau ++ WS)) (hw : js.length + WS.length = 120) (h38 : ∀ p, aw_w js p < 38) {sd shf : Nat} (hsd : sd < 3) {BR0 BK0 : List Int32} {Uf : aw_T} {s : Nat} (hs : s < 8) : ∀ (k i : Nat) {p n nx : Nat} {BR BK : List Int32} {T U : aw_T} {sh ic cc dp : Nat} {br : List Nat} {p' : Nat} {U' : aw_T} {sh' ic' cc' dp' : Nat} {br' : List Nat}, i + k ≤ 4 → aw_E T Uf → T 33 n = Int32.ofNat s → T 34 n = Int32.ofNat i → n + 2 ≤ 300 → nx < 100 → aw_jb BR0 BK0 sd br BR BK → 3 * br.length ≤ p → aw_Pis js s k i (U, sh, ic, cc, dp, br) p = .inr (p', (U', sh', ic', cc', dp', br')) → (∀ z, Uf 36 z = U' 36 z ∨ (z ≠ 2 * s ∧ z ≠ 2 * s + 1)) → (∀ z, z < 4 → Uf 40 (4 * s + z) = U' 40 (4 * s + z)) → ∃ T' BR' BK', aw_B n T T' ∧ aw_E T' Uf ∧ aw_jb BR0 BK0 sd br' BR' BK' ∧ (T' 33 n = Int32.ofNat s ∧ ∃ i', i' ≤ 4 ∧ T' 34 n = Int32.ofNat i') ∧ ∀ o h', aw_JG w g d ft wr js sd (p') (n + 1) (nx) shf false false BR' BK' T' o h' → aw_JG w g d ft wr js sd (p) (n + 1) (nx) shf false false BR BK T o h' := by
  intro k
  induction k with
  | zero =>
    intro i p n nx BR BK T U sh ic cc dp br p' U' sh' ic' cc' dp' br' hik hE hT1 hT2 hn hnx hJ hb h hu1 hu2
    rw [aw_Pis] at h
    split at h
    · cases h
    · cases h
      exact ⟨T, BR, BK, aw_B_refl _ _, hE, hJ, ⟨hT1, i, by omega, hT2⟩, fun _ _ k => k⟩
  | succ k ih =>
    intro i p n nx BR BK T U sh ic cc dp br p' U' sh' ic' cc' dp' br' hik hE hT1 hT2 hn hnx hJ hb h hu1 hu2
    rw [aw_Pis] at h
    split at h
    · rename_i hnum
      split at h
      · cases h
      · rename_i p1 S1 h1
        obtain ⟨U1, sh1, ic1, cc1, dp1, br1⟩ := S1
        obtain ⟨c1, c2, c3, c4, c5, c6, c7, ⟨e, c8, c9⟩, -⟩ := aw_Pit_f h1
        obtain ⟨d1, d2, d3, d4, d5, -⟩ := aw_Pis_f k (i + 1) (by omega) h
        have f36 : ∀ z, U' 36 z = U1 36 z ∧ U1 36 z = U 36 z := by
          intro z
          constructor
          · rcases d4 36 z with q | q | q
            · exact q
            · omega
            · omega
          · rcases c5 36 z with q | q | q
            · exact q
            · omega
            · omega
        have f40 : U' 40 (4 * s + i) = U1 40 (4 * s + i) := by
          rcases d4 40 (4 * s + i) with q | q | q
          · exact q
          · omega
          · omega
        have g1 : Uf 36 (2 * s) = U 36 (2 * s) := by
          rcases hu1 (2 * s) with q | q
          · rw [q, (f36 _).1, (f36 _).2]
          · omega
        have g2 : Uf 36 (2 * s + 1) = U 36 (2 * s + 1) := by
          rcases hu1 (2 * s + 1) with q | q
          · rw [q, (f36 _).1, (f36 _).2]
          · omega
        obtain ⟨T1, BR1, BK1, b1, b2, b3, b4, b5, b6⟩ := aw_j_it (g := g) (d := d) (ft := ft) (wr := wr) (shf := shf) (BR0 := BR0) (BK0 := BK0) (Uf := Uf) hj h32 hw h38 hsd hE hT1 hT2 hn hs (by omega) hnx hJ hb hnum h1 g1 g2 (by rw [hu2 i (by omega), f40])
        have hbr : 3 * br1.length ≤ p1 := by
          rw [c8, List.length_append]
          omega
        obtain ⟨T2, BR2, BK2, m1, m2, m3, mt, m4⟩ := ih (i + 1) (by omega) b2 b3 b4 hn hnx b5 hbr h hu1 hu2
        exact ⟨T2, BR2, BK2, aw_B_trans b1 m1 (Nat.le_refl _), m2, m3, mt, fun o h' k => b6 o h' (m4 o h' k)⟩
    · cases h
      exact ⟨T, BR, BK, aw_B_refl _ _, hE, hJ, ⟨hT1, i, by omega, hT2⟩, fun _ _ k => k⟩
/-- of the shields within; ag says where the tables are final -/
def aw_ag (Uf U' : aw_T) (P : Nat → Nat → Prop) : Prop := ∀ k z, 35 ≤ k → P k z → Uf k z = U' k z
def aw_NJ (w : Nat → am_C) (g : am_H) (d : Nat) (ft wr : Int32) (js : List Nat) (sd shf : Nat) (BR0 BK0 : List Int32) (Uf : aw_T) (N : Nat → aw_S → Nat → aw_Res) (b : Nat) : Prop := ∀ (s : Nat) {p n : Nat} {BR BK : List Int32} {T U : aw_T} {sh ic cc dp : Nat} {br : List Nat} {p' : Nat} {U' : aw_T} {sh' ic' cc' dp' : Nat} {br' : List Nat}, s < sh → sh' ≤ 7 → aw_E T Uf → T 33 n = Int32.ofNat s → T 34 n = Int32.ofNat 0 → n + 2 + b ≤ 300 → aw_jb BR0 BK0 sd br BR BK → 3 * br.length ≤ p → N s (U, sh, ic, cc, dp, br) p = .inr (p', (U', sh', ic', cc', dp', br')) → aw_ag Uf U' (fun k z => aw_ow k z = s ∨ (sh ≤ aw_ow k z ∧ aw_ow k z < sh')) → ∃ T' BR' BK', aw_B n T T' ∧ aw_E T' Uf ∧ aw_jb BR0 BK0 sd br' BR' BK' ∧ (T' 33 n = Int32.ofNat s ∧ ∃ i', i' ≤ 4 ∧ T' 34 n = Int32.ofNat i') ∧ ∀ o h', aw_JG w g d ft wr js sd (p') (n + 1) (sh') shf false false BR' BK' T' o h' → aw_JG w g d ft wr js sd (p) (n + 1) (sh) shf false false BR BK T o h'
theorem aw_j_pt {w : Nat → am_C} {g : am_H} {d : Nat} {ft wr : Int32} {js : List Nat} (hj : js.length ≤ 120) {WS : List Int32} (h32 : w 32 = am_I 0 (js.map aw_tau ++ WS)) (hw : js.length + WS.length = 120) (h38 : ∀ p, aw_w js p < 38) {sd shf : Nat} (hsd : sd < 3) {BR0 BK0 : List Int32} {Uf : aw_T} {N : Nat → aw_S → Nat → aw_Res} {dpt c b : Nat} {lv : Bool} (hN : lv = true → dpt ≤ 2 ∧ aw_NF js N c ∧ aw_NJ w g d ft wr js sd shf BR0 BK0 Uf N b) {s i q p n : Nat} {BR BK : List Int32} {T U : aw_T} {sh ic cc dp : Nat} {br : List Nat} {p' : Nat} {U' : aw_T} {sh' ic' cc' dp' : Nat} {br' : List Nat} (hq : q < 2 * sh) (hsh : sh' ≤ 7) (hs8 : s < 8) (hi : i < 10) (hE : aw_E T Uf) (hT1 : T 33 n = Int32.ofNat s) (hT2 : T 34 n = Int32.ofNat i) (hn : n + 4 + b ≤ 300) (hJ : aw_jb BR0 BK0 sd br BR BK) (hb : 3 * br.length ≤ p) (h : aw_Ppt js N dpt lv q (U, sh, ic, cc, dp, br) p = .inr (p', (U', sh', ic', cc', dp', br'))) (hu : aw_ag Uf U' (fun k z => sh ≤ aw_ow k z ∧ aw_ow k z < sh')) : ∃ T' BR' BK', aw_B (n + 1) T T' ∧ aw_E T' Uf ∧ aw_jb BR0 BK0 sd br' BR' BK' ∧ ∀ o h', aw_JG w g d ft wr js sd (p') (n + 1) (sh') shf false false BR' BK' T' o h' → aw_JG w g d ft wr js sd (p) (n + 1) (sh) shf false false BR BK T o h' := by
  have hfp := aw_Ppt_f (fun q => (hN q).2.1) (fun q => (hN q).1) hq h
  unfold aw_Ppt at h
  dsimp only at h
  split at h
  · rename_i h9
    have hp : p < js.length := aw_w_lt (by omega)
    cases h
    exact ⟨T, BR, BK, aw_B_refl _ _, hE, hJ, fun o h' k => aw_jX hj h32 hw h38 hT1 hT2 (by omega) hp hs8 hi (by omega) (aw_joW _ (by omega) (by omega) (by omega)) k⟩
  · split at h
    · rename_i hl
      obtain ⟨hd2, hF, hK⟩ := hN hl.1
      have hp : p < js.length := aw_w_lt (by omega)
      split at h
      · cases h
      · rename_i p1 S1 h1
        obtain ⟨U1, sh1, ic1, cc1, dp1, br1⟩ := S1
        obtain ⟨a1, a2, a3, a4, a4', a5, a6, -⟩ := hF sh (by omega) h1
        split at h
        · rename_i h14
          have hp1 : p1 < js.length := aw_w_lt (by omega)
          cases h
          have hEp : aw_E (aw_ph T (n + 1) (Int32.ofNat sh) 0) Uf := aw_E_ph hE
          obtain ⟨T1, BR1, BK1, m1, m2, m3, ⟨x1, i3, x2, x3⟩, m4⟩ := hK sh (n := n + 1) (by omega) hsh hEp (aw_p33 _ _ _ _) (aw_p34 _ _ _ _) (by omega) hJ (by omega) h1 (fun k z hk hz => hu k z hk (by omega))
          have hB1 : aw_B (n + 1) T T1 := aw_B_trans (aw_B_ph (Nat.le_refl _) (aw_B_refl _ _)) m1 (Nat.le_refl _)
          exact ⟨T1, BR1, BK1, hB1, m2, m3, fun o h' k => aw_jO hj h32 hw h38 hT1 hT2 (by omega) hp hs8 hi (by omega) hl.2 (m4 o h' (aw_jC hj h32 hw h38 x1 x3 (by omega) hp1 (by omega) (by omega) (by omega) h14 k))⟩
        · cases h
    · cases h
theorem aw_j_pp {w : Nat → am_C} {g : am_H} {d : Nat} {ft wr : Int32} {js : List Nat} (hj : js.length ≤ 120) {WS : List Int32} (h32 : w 32 = am_I 0 (js.map aw_tau ++ WS)) (hw : js.length + WS.length = 120) (h38 : ∀ p, aw_w js p < 38) {sd shf : Nat} (hsd : sd < 3) {BR0 BK0 : List Int32} {Uf : aw_T} {N : Nat → aw_S → Nat → aw_Res} {dpt c b : Nat} {lv : Bool} (hN : lv = true → dpt ≤ 2 ∧ aw_NF js N c ∧ aw_NJ w g d ft wr js sd shf BR0 BK0 Uf N b) {s p n : Nat} {BR BK : List Int32} {T U : aw_T} {sh ic cc dp : Nat} {br : List Nat} {p' : Nat} {U' : aw_T} {sh' ic' cc' dp' : Nat} {br' : List Nat} (hs : s < sh) (hsh : sh' ≤ 7) (hE : aw_E T Uf) (hT1 : T 33 n = Int32.ofNat s) (hT2 : T 34 n = Int32.ofNat 0) (hn : n + 4 + b ≤ 300) (hJ : aw_jb BR0 BK0 sd br BR BK) (hb : 3 * br.length ≤ p) (h : aw_Ppp js N dpt lv s (U, sh, ic, cc, dp, br) p = .inr (p', (U', sh', ic', cc', dp', br'))) (hu : aw_ag Uf U' (fun k z => sh ≤ aw_ow k z ∧ aw_ow k z < sh')) : ∃ T' BR' BK', aw_B (n + 1) T T' ∧ aw_E T' Uf ∧ aw_jb BR0 BK0 sd br' BR' BK' ∧ ∀ o h', aw_JG w g d ft wr js sd (p') (n + 1) (sh') shf false false BR' BK' T' o h' → aw_JG w g d ft wr js sd (p) (n + 1) (sh) shf false false BR BK T o h' := by
  unfold aw_Ppp at h
  split at h
  · cases h
  · rename_i p1 S1 h1
    obtain ⟨U1, sh1, ic1, cc1, dp1, br1⟩ := S1
    obtain ⟨a1, a2, a3, a4, a4', a5, a6, ⟨e, a7, a8⟩⟩ := aw_Ppt_f (fun q => (hN q).2.1) (fun q => (hN q).1) (by omega) h1
    split at h
    · rename_i h12
      have hp1 : p1 < js.length := aw_w_lt (by omega)
      obtain ⟨b1, b2, b3, b4, b4', b5, b6, -⟩ := aw_Ppt_f (fun q => (hN q).2.1) (fun q => (hN q).1) (by omega) h
      obtain ⟨T1, BR1, BK1, m1, m2, m3, m4⟩ := aw_j_pt (g := g) (d := d) (ft := ft) (wr := wr) (shf := shf) (BR0 := BR0) (BK0 := BK0) (Uf := Uf) hj h32 hw h38 hsd hN (s := s) (i := 0) (by omega) (by omega) (by omega) (by omega) hE hT1 hT2 hn hJ hb h1 (fun k z hk hz => by
        have hz : sh ≤ aw_ow k z ∧ aw_ow k z < sh1 := hz
        rw [hu k z hk (by omega)]
        rcases b5 k z with q | q | q
        · exact q
        · rw [q.1, q.2, aw_ow36] at hz
          omega
        · omega)
      have top := m1 n (by omega)
      have hbr1 : 3 * br1.length ≤ p1 := by
        rw [a7, List.length_append]
        omega
      obtain ⟨T2, BR2, BK2, n1, n2, n3, n4⟩ := aw_j_pt (g := g) (d := d) (ft := ft) (wr := wr) (shf := shf) (BR0 := BR0) (BK0 := BK0) (Uf := Uf) hj h32 hw h38 hsd hN (s := s) (i := 0) (p := p1 + 1) (by omega) hsh (by omega) (by omega) m2 (top.1.trans hT1) (top.2.trans hT2) hn m3 (by omega) h (fun k z hk hz => hu k z hk (by omega))
      exact ⟨T2, BR2, BK2, aw_B_trans m1 n1 (Nat.le_refl _), n2, n3, fun o h' k => m4 o h' (aw_jX hj h32 hw h38 (top.1.trans hT1) (top.2.trans hT2) (by omega) hp1 (by omega) (by omega) (by omega) (by rw [h12]; rfl) (n4 o h' k))⟩
    · cases h
theorem aw_j_fd {w : Nat → am_C} {g : am_H} {d : Nat} {ft wr : Int32} {js : List Nat} (hj : js.length ≤ 120) {WS : List Int32} (h32 : w 32 = am_I 0 (js.map aw_tau ++ WS)) (hw : js.length + WS.length = 120) (h38 : ∀ p, aw_w js p < 38) {sd shf : Nat} (hsd : sd < 3) {BR0 BK0 : List Int32} {Uf : aw_T} {N : Nat → aw_S → Nat → aw_Res} {dpt c b : Nat} {lv : Bool} (hN : lv = true → dpt ≤ 2 ∧ aw_NF js N c ∧ aw_NJ w g d ft wr js sd shf BR0 BK0 Uf N b) {s p n : Nat} {BR BK : List Int32} {T U : aw_T} {sh ic cc dp : Nat} {br : List Nat} {p' : Nat} {U' : aw_T} {sh' ic' cc' dp' : Nat} {br' : List Nat} (hs : s < sh) (hsh : sh' ≤ 7) (hE : aw_E T Uf) (hT1 : T 33 n = Int32.ofNat s) (hT2 : T 34 n = Int32.ofNat 0) (hn : n + 4 + b ≤ 300) (hJ : aw_jb BR0 BK0 sd br BR BK) (hb : 3 * br.length ≤ p) (h : aw_Pfd js N dpt lv s (U, sh, ic, cc, dp, br) p = .inr (p', (U', sh', ic', cc', dp', br'))) (hu : aw_ag Uf U' (fun k z => sh ≤ aw_ow k z ∧ aw_ow k z < sh')) : ∃ T' BR' BK', aw_B (n + 1) T T' ∧ aw_E T' Uf ∧ aw_jb BR0 BK0 sd br' BR' BK' ∧ ∀ o h', aw_JG w g d ft wr js sd (p') (n + 1) (sh') shf false false BR' BK' T' o h' → aw_JG w g d ft wr js sd (p) (n + 1) (sh) shf false false BR BK T o h' := by
  have hff := aw_Pfd_f (fun q => (hN q).2.1) (fun q => (hN q).1) hs h
  have hss : sh ≤ sh' := hff.2.1
  unfold aw_Pfd at h
  dsimp only at h
  split at h
  · rename_i h9
    have hp : p < js.length := aw_w_lt (by omega)
    cases h
    exact ⟨T, BR, BK, aw_B_refl _ _, hE, hJ, fun o h' k => aw_jX hj h32 hw h38 hT1 hT2 (by omega) hp (by omega) (by omega) (by omega) (aw_joW _ (by omega) (by omega) (by omega)) k⟩
  · split at h
    · rename_i h11
      have hp : p < js.length := aw_w_lt (by omega)
      obtain ⟨T1, BR1, BK1, m1, m2, m3, m4⟩ := aw_j_pp (g := g) (d := d) (ft := ft) (wr := wr) (shf := shf) (BR0 := BR0) (BK0 := BK0) (Uf := Uf) hj h32 hw h38 hsd hN (p := p + 1) hs hsh hE hT1 hT2 hn hJ (by omega) h hu
      exact ⟨T1, BR1, BK1, m1, m2, m3, fun o h' k => aw_jX hj h32 hw h38 hT1 hT2 (by omega) hp (by omega) (by omega) (by omega) (by rw [h11]; rfl) (m4 o h' k)⟩
    · split at h
      · rename_i h10
        have hp : p < js.length := aw_w_lt (by omega)
        split at h
        · rename_i hv
          have hp1 : p + 1 < js.length := aw_w_lt (by omega)
          obtain ⟨T1, BR1, BK1, m1, m2, m3, m4⟩ := aw_j_pp (g := g) (d := d) (ft := ft) (wr := wr) (shf := shf) (BR0 := BR0) (BK0 := BK0) (Uf := Uf) hj h32 hw h38 hsd hN (p := p + 2) hs hsh hE hT1 hT2 hn hJ (by omega) h hu
          exact ⟨T1, BR1, BK1, m1, m2, m3, fun o h' k => aw_jX hj h32 hw h38 hT1 hT2 (by omega) hp (by omega) (by omega) (by omega) (by rw [h10]; rfl) (aw_jX hj h32 hw h38 hT1 hT2 (by omega) hp1 (by omega) (by omega) (by omega) (aw_joW _ (by omega) (by omega) (by omega)) (m4 o h' k))⟩
        · cases h
      · cases h
theorem aw_j_sb {w : Nat → am_C} {g : am_H} {d : Nat} {ft wr : Int32} {js : List Nat} (hj : js.length ≤ 120) {WS : List Int32} (h32 : w 32 = am_I 0 (js.map aw_tau ++ WS)) (hw : js.length + WS.length = 120) (h38 : ∀ p, aw_w js p < 38) {sd shf : Nat} (hsd : sd < 3) {BR0 BK0 : List Int32} {Uf : aw_T} {N : Nat → aw_S → Nat → aw_Res} {dpt c b : Nat} {lv : Bool} (hN : lv = true → dpt ≤ 2 ∧ aw_NF js N c ∧ aw_NJ w g d ft wr js sd shf BR0 BK0 Uf N b) : aw_NJ w g d ft wr js sd shf BR0 BK0 Uf (fun s S p => aw_Psb js N dpt lv s S p) (b + 2) := by
  intro s p n BR BK T U sh ic cc dp br p' U' sh' ic' cc' dp' br' hs hsh hE hT1 hT2 hn hJ hb h hu
  dsimp only at h
  unfold aw_Psb at h
  split at h
  · cases h
  · rename_i p1 S1 h1
    obtain ⟨U1, sh1, ic1, cc1, dp1, br1⟩ := S1
    obtain ⟨a1, a2, a3, a4, a4', a5, a6, ⟨e, a7, a8⟩⟩ := aw_Pfd_f (fun q => (hN q).2.1) (fun q => (hN q).1) hs h1
    obtain ⟨d1, d2, d3, d4, d5, -⟩ := aw_Pis_f 4 0 (by omega) h
    obtain ⟨T1, BR1, BK1, m1, m2, m3, m4⟩ := aw_j_fd (g := g) (d := d) (ft := ft) (wr := wr) (shf := shf) (BR0 := BR0) (BK0 := BK0) (Uf := Uf) hj h32 hw h38 hsd hN hs (by omega) hE hT1 hT2 (by omega) hJ hb h1 (fun k z hk hz => by
      have hz : sh ≤ aw_ow k z ∧ aw_ow k z < sh1 := hz
      rw [hu k z hk (by omega)]
      rcases d4 k z with q | q | q
      · exact q
      · rw [q.1, q.2, aw_ow35 (.inr (.inr rfl))] at hz
        omega
      · rw [aw_ow39 q.1] at hz
        omega)
    have top := m1 n (by omega)
    have hbr1 : 3 * br1.length ≤ p1 := by
      rw [a7, List.length_append]
      omega
    obtain ⟨T2, BR2, BK2, n1, n2, n3, nt, n4⟩ := aw_j_is (g := g) (d := d) (ft := ft) (wr := wr) (shf := shf) (BR0 := BR0) (BK0 := BK0) (Uf := Uf) hj h32 hw h38 hsd (s := s) (by omega) 4 0 (nx := sh1) (by omega) m2 (top.1.trans hT1) (top.2.trans hT2) (by omega) (by omega) m3 hbr1 h (fun z => by
      by_cases hz : z = 2 * s ∨ z = 2 * s + 1
      · refine .inl (hu 36 z (by decide) (.inl ?_))
        rw [aw_ow36]
        omega
      · exact .inr (by omega)) (fun z hz => hu 40 _ (by decide) (.inl (by rw [aw_ow39 (by decide)]; omega)))
    subst d2
    exact ⟨T2, BR2, BK2, aw_B_trans (fun i hi => m1 i (by omega)) n1 (Nat.le_refl _), n2, n3, nt, fun o h' k => m4 o h' (n4 o h' k)⟩
theorem aw_j_sh {w : Nat → am_C} {g : am_H} {d : Nat} {ft wr : Int32} {js : List Nat} (hj : js.length ≤ 120) {WS : List Int32} (h32 : w 32 = am_I 0 (js.map aw_tau ++ WS)) (hw : js.length + WS.length = 120) (h38 : ∀ p, aw_w js p < 38) {sd shf : Nat} (hsd : sd < 3) {BR0 BK0 : List Int32} {Uf : aw_T} : ∀ l, l ≤ 2 → aw_NJ w g d ft wr js sd shf BR0 BK0 Uf (fun s S p => aw_Psh js l s S p) (2 * l + 4) := by
  intro l
  induction l with
  | zero =>
    intro _ s p n BR BK T U sh ic cc dp br p' U' sh' ic' cc' dp' br' hs hsh hE hT1 hT2 hn hJ hb h hu
    exact aw_j_sb (c := 0) (b := 2) (dpt := 3) (lv := false) (N := fun _ _ p => .inl p) hj h32 hw h38 hsd (fun q => by cases q) s hs hsh hE hT1 hT2 hn hJ hb h hu
  | succ l ih =>
    intro hl s p n BR BK T U sh ic cc dp br p' U' sh' ic' cc' dp' br' hs hsh hE hT1 hT2 hn hJ hb h hu
    exact aw_j_sb (c := aw_cap l) (b := 2 * l + 4) (dpt := 2 - l) (lv := true) (N := fun s S p => aw_Psh js l s S p) hj h32 hw h38 hsd (fun _ => ⟨by omega, aw_Psh_f l (by omega), @ih (by omega)⟩) s hs hsh hE hT1 hT2 hn hJ hb h hu
