/-! readItem of the class, against the pure reading. -/
def aw_od (t : Int32) : Nat := if t = 18 then 17 else if t = 11 then 18 else if t = 10 then 19 else if t = 12 then 20 else if t = 19 then 21 else if t = 20 then 22 else if t = 21 then 23 else 24
theorem aw_odA : ∀ j, j < 25 → 17 ≤ j → aw_od (aw_tau j) = j ∧ ¬ aw_tau j = 0 := by decide +kernel
/-- the word of a charge -/
def aw_swd (ch nm : Int32) : Nat := (if nm = 1 then 31 else 34) + ch.toNatClampNeg
/-- the layers of item n -/
def aw_lc (T : aw_T) (n : Nat) : List am_C := if T 39 n = 0 then [aw_cC (aw_swd (T 41 n) (T 42 n)) (T 42 n) .null (T 40 n)] else aw_cO (aw_od (T 39 n)) (T 40 n) :: (if T 42 n = 0 then [] else [aw_cC (aw_swd (T 41 n) (T 42 n)) (T 42 n) (.ref (aw_od (T 39 n))) (T 43 n)])
def aw_lcs (T : aw_T) (s : Nat) : Nat → List am_C
  | 0 => []
  | i + 1 => aw_lcs T s i ++ aw_lc T (4 * s + i)
/-- the cells at these places -/
def aw_All (g : am_H) (M : List Nat) (cs : List am_C) : Prop := M.map (fun a => g[a]?) = cs.map some
theorem aw_shw {a b : Nat} (ha : aw_isn a = true) (hb : aw_shp a b = true) : aw_swd (Int32.ofNat (aw_chv a b)) (Int32.ofNat (a - 24)) = b ∧ ¬ Int32.ofNat (a - 24) = 0 := by
  have h1 := aw_isn_iff.mp ha
  have h2 := aw_shp_iff.mp hb
  have key : ∀ a, a < 31 → ∀ b, b < 37 → aw_isn a = true → aw_shp a b = true → aw_swd (Int32.ofNat (aw_chv a b)) (Int32.ofNat (a - 24)) = b ∧ ¬ Int32.ofNat (a - 24) = 0 := by decide +kernel
  exact key a (by omega) b (by omega) ha hb
/-- what readItem leaves -/
def aw_KI (g g' : am_H) (rd r sa la : Nat) (dv : Value) (f1 f2 : Nat) (L M : List Nat) (p' : Nat) (cs : List am_C) : Prop :=
  g'[rd]? = some (aw_cR r p') ∧ g'[sa]? = some (aw_cS dv f1 f2 la (L ++ M).length) ∧ g'[la]? = some (aw_ar (L ++ M)) ∧ (∀ k, k < g.length → k ≠ rd → k ≠ sa → k ≠ la → g'[k]? = g[k]?) ∧ aw_All g' M cs ∧ (∀ a, a ∈ M → g.length ≤ a) ∧ g'.length = g.length + M.length ∧ am_sz g' ≤ am_sz g + 4 * M.length ∧ M.length ≤ 2
/-- what is left where it faults -/
def aw_KZ (g g' : am_H) (rd r p q : Nat) : Prop := g'[rd]? = some (aw_cR r q) ∧ p ≤ q ∧ g'.length ≤ g.length + 3 * (q - p) ∧ am_sz g' ≤ am_sz g + 14 * (q - p)
theorem aw_KI_one {g : am_H} {rd r p p' sa la : Nat} {dv : Value} {f1 f2 : Nat} {L : List Nat} {c : am_C} (hrd : g[rd]? = some (aw_cR r p)) (hsa : g[sa]? = some (aw_cS dv f1 f2 la L.length)) (hla : g[la]? = some (aw_ar L)) (h8 : L.length < 8) (hne : rd ≠ sa ∧ rd ≠ la ∧ sa ≠ la) (hc : am_cs c ≤ 4) : aw_KI g (aw_lx g rd r p' sa la dv f1 f2 L c) rd r sa la dv f1 f2 L [g.length] p' [c] := by
  refine ⟨aw_lx_rd hrd (by omega) (by omega), ?_, aw_lx_la hla (by omega), fun k h1 h2 h3 h4 => aw_lx_old h1 h2 h3 h4, ?_, ?_, aw_lx_len, ?_, Nat.le_of_ble_eq_true rfl⟩
  · rw [List.length_append, List.length_singleton]
    exact aw_lx_sa hsa
  · unfold aw_All
    rw [List.map_singleton, List.map_singleton, aw_lx_new hsa hla]
  · intro a ha
    rw [List.mem_singleton] at ha
    omega
  · rw [aw_lx_sz hrd hsa hla h8 hne, List.length_singleton]
    omega
theorem aw_i_ok {w : Nat → am_C} {g : am_H} (d : Nat) {r : Nat} (hr : r < 4) {js : List Nat} {WS : List Value} (h6 : w (6 + 4 * r) = .inr (4, js.map Value.ref ++ WS)) (hw : js.length + WS.length = 120) (h38 : ∀ p, aw_w js p < 38) {ir : Int32} {sh ic cc dp : Nat} {br : List Nat} {BS : List Int32} {rd p : Nat} (hrd : g[rd]? = some (aw_cR r p)) (hp : p ≤ 140) {sa la f1 f2 : Nat} {dv : Value} {L : List Nat} (hsa : g[sa]? = some (aw_cS dv f1 f2 la L.length)) (hla : g[la]? = some (aw_ar L)) (h8 : L.length < 7) {T : aw_T} {s : Nat} (hdv : aw_DV dv (T 35 s)) (hv1 : aw_PT g f1 (T 36 (2 * s))) (hv2 : aw_PT g f2 (T 36 (2 * s + 1))) (hne : rd ≠ sa ∧ rd ≠ la ∧ sa ≠ la ∧ f1 ≠ rd ∧ f2 ≠ rd) (hne2 : f1 ≠ sa ∧ f1 ≠ la ∧ f2 ≠ sa ∧ f2 ≠ la) (hB : br.length + BS.length = 120) (hb : br.length < 110) {i p' : Nat} {T' : aw_T} {sh' ic' cc' dp' : Nat} {br' : List Nat} (hn : aw_isn (aw_w js p) = true) (h : aw_Pit js s i (T, sh, ic, cc, dp, br) p = .inr (p', (T', sh', ic', cc', dp', br'))) : ∃ g' BS' M, am_R (d + 3) 33 0 [some (.ref (1045 + rd)), some (.ref (1045 + sa)), none] [] (am_h (aw_rw w r js.length ir sh ic cc dp br BS) g) (.inl (some (.int 1))) (am_h (aw_rw w r js.length ir sh' ic' cc' dp' br' BS') g') ∧ aw_KI g g' rd r sa la dv f1 f2 L M p' (aw_lc T' (4 * s + i)) ∧ br'.length + BS'.length = 120 := by
  have hgl := aw_gl hrd
  unfold aw_Pit at h
  split at h
  · rename_i ho
    unfold aw_Por at h
    dsimp only at h
    split at h
    · rename_i hc
      have hAB := aw_ab_bs (b := aw_bk (Int32.ofNat (aw_w js (p + 2))) (T 36 (2 * s)) (T 36 (2 * s + 1))) (q := p + 2) hB (by omega)
      obtain ⟨o1, o2⟩ := aw_odA (aw_w js (p + 1)) (by omega) (by omega)
      have one := aw_KI_one (p' := p + 2 + 1) (c := aw_cO (aw_w js (p + 1)) (Int32.ofNat (aw_w js (p + 2)))) hrd hsa hla (by omega) ⟨hne.1, hne.2.1, hne.2.2.1⟩ (Nat.le_of_ble_eq_true rfl)
      split at h
      · rename_i hb4
        unfold aw_Pon at h
        dsimp only at h
        split at h
        · rename_i h16
          split at h
          · cases h
          · rename_i hf
            obtain ⟨e1, e2, e3⟩ := aw_fch_none hf
            cases h
            obtain ⟨w1, w2⟩ := aw_shw e1 e2
            have k := aw_k33i8 d (ir := ir) (sh := sh) (ic := ic) (cc := cc) (dp := dp) hr h6 hw h38 hrd hp hsa hla h8 hdv hv1 hv2 hne hne2 hB hb ho.1 ho.2.1 ho.2.2 hc hb4.1 hb4.2 h16 e1 e2 e3
            refine ⟨_, _, [g.length, g.length + 1], k, ?_, ?_⟩
            · have hx : aw_lc (aw_up (aw_up (aw_up (aw_up (aw_up (aw_t0 T s i) 39 (4 * s + i) (aw_tau (aw_w js (p + 1)))) 40 (4 * s + i) (Int32.ofNat (aw_w js (p + 2)))) 42 (4 * s + i) (Int32.ofNat (aw_w js (p + 4 + 1) - 24))) 41 (4 * s + i) (Int32.ofNat (aw_chv (aw_w js (p + 4 + 1)) (aw_w js (p + 4 + 2))))) 43 (4 * s + i) (Int32.ofNat (aw_w js (p + 4 + 3)))) (4 * s + i) = [aw_cO (aw_w js (p + 1)) (Int32.ofNat (aw_w js (p + 2))), aw_cC (aw_w js (p + 4 + 2)) (Int32.ofNat (aw_w js (p + 4 + 1) - 24)) (.ref (aw_w js (p + 1))) (Int32.ofNat (aw_w js (p + 4 + 3)))] := by
                unfold aw_lc
                rw [show ∀ A : aw_T, aw_up (aw_up (aw_up (aw_up (aw_up A 39 (4 * s + i) (aw_tau (aw_w js (p + 1)))) 40 (4 * s + i) (Int32.ofNat (aw_w js (p + 2)))) 42 (4 * s + i) (Int32.ofNat (aw_w js (p + 4 + 1) - 24))) 41 (4 * s + i) (Int32.ofNat (aw_chv (aw_w js (p + 4 + 1)) (aw_w js (p + 4 + 2))))) 43 (4 * s + i) (Int32.ofNat (aw_w js (p + 4 + 3))) 39 (4 * s + i) = aw_tau (aw_w js (p + 1)) from fun A => by rw [aw_up_ne (by omega), aw_up_ne (by omega), aw_up_ne (by omega), aw_up_ne (by omega), aw_up_eq]]
                rw [if_neg o2, o1]
                rw [show ∀ A : aw_T, aw_up (aw_up (aw_up (aw_up (aw_up A 39 (4 * s + i) (aw_tau (aw_w js (p + 1)))) 40 (4 * s + i) (Int32.ofNat (aw_w js (p + 2)))) 42 (4 * s + i) (Int32.ofNat (aw_w js (p + 4 + 1) - 24))) 41 (4 * s + i) (Int32.ofNat (aw_chv (aw_w js (p + 4 + 1)) (aw_w js (p + 4 + 2))))) 43 (4 * s + i) (Int32.ofNat (aw_w js (p + 4 + 3))) 42 (4 * s + i) = Int32.ofNat (aw_w js (p + 4 + 1) - 24) from fun A => by rw [aw_up_ne (by omega), aw_up_ne (by omega), aw_up_eq]]
                rw [if_neg w2]
                rw [show ∀ A : aw_T, aw_up (aw_up (aw_up (aw_up (aw_up A 39 (4 * s + i) (aw_tau (aw_w js (p + 1)))) 40 (4 * s + i) (Int32.ofNat (aw_w js (p + 2)))) 42 (4 * s + i) (Int32.ofNat (aw_w js (p + 4 + 1) - 24))) 41 (4 * s + i) (Int32.ofNat (aw_chv (aw_w js (p + 4 + 1)) (aw_w js (p + 4 + 2))))) 43 (4 * s + i) (Int32.ofNat (aw_w js (p + 4 + 3))) 41 (4 * s + i) = Int32.ofNat (aw_chv (aw_w js (p + 4 + 1)) (aw_w js (p + 4 + 2))) from fun A => by rw [aw_up_ne (by omega), aw_up_eq]]
                rw [w1, aw_up_eq, aw_up_ne (by omega), aw_up_ne (by omega), aw_up_ne (by omega), aw_up_eq]
              rw [hx]
              obtain ⟨a1, a2, a3, a4, a5, a6, a7, a8, a9⟩ := one
              have hr1 := aw_at_rd (r := r) (p := p + 2 + 1 + 1 + 1) a1
              have hs1 := aw_at_ne (rd := rd) (r := r) (p := p + 2 + 1 + 1 + 1) (show sa ≠ rd by omega) a2
              have hl1 := aw_at_ne (rd := rd) (r := r) (p := p + 2 + 1 + 1 + 1) (show la ≠ rd by omega) a3
              have two := aw_KI_one (p' := p + 2 + 1 + 1 + 1 + 1 + 1 + 1) (c := aw_cC (aw_w js (p + 4 + 2)) (Int32.ofNat (aw_w js (p + 4 + 1) - 24)) (.ref (aw_w js (p + 1))) (Int32.ofNat (aw_w js (p + 4 + 3)))) hr1 hs1 hl1 (by rw [List.length_append, List.length_singleton]; omega) ⟨hne.1, hne.2.1, hne.2.2.1⟩ (Nat.le_of_ble_eq_true rfl)
              obtain ⟨b1, b2, b3, b4, b5, b6, b7, b8, b9⟩ := two
              rw [aw_at_len, aw_lx_len] at b2 b3 b4 b5 b6 b7
              rw [aw_at_sz a1] at b8
              rw [List.append_assoc] at b2 b3
              refine ⟨b1, b2, b3, fun k h1 h2 h3 h4 => ?_, ?_, ?_, ?_, ?_, Nat.le_refl 2⟩
              · rw [b4 k (by omega) h2 h3 h4, aw_at_old h2]
                exact a4 k h1 h2 h3 h4
              · unfold aw_All at a5 b5 ⊢
                simp only [List.map_cons, List.map_nil] at a5 b5 ⊢
                have c1 := b4 g.length (by omega) (by omega) (by have := aw_gl hsa; omega) (by have := aw_gl hla; omega)
                rw [aw_at_old (by omega)] at c1
                rw [List.cons.injEq] at a5 b5
                rw [← a5.1, ← b5.1, ← c1]
              · intro a ha
                simp only [List.mem_cons, List.not_mem_nil, or_false] at ha
                omega
              · rw [aw_lx_len, aw_at_len, aw_lx_len]
                rfl
              · exact Nat.le_trans b8 (Nat.le_trans (Nat.add_le_add_right a8 _) (Nat.le_of_eq (by simp only [List.length_cons, List.length_nil])))
            · exact (aw_ab_bs hAB.1 (by omega)).1
        · cases h
      · rename_i hb4
        cases h
        have hx : aw_lc (aw_up (aw_up (aw_t0 T s i) 39 (4 * s + i) (aw_tau (aw_w js (p + 1)))) 40 (4 * s + i) (Int32.ofNat (aw_w js (p + 2)))) (4 * s + i) = [aw_cO (aw_w js (p + 1)) (Int32.ofNat (aw_w js (p + 2)))] := by
          unfold aw_lc
          rw [show aw_up (aw_up (aw_t0 T s i) 39 (4 * s + i) (aw_tau (aw_w js (p + 1)))) 40 (4 * s + i) (Int32.ofNat (aw_w js (p + 2))) 39 (4 * s + i) = aw_tau (aw_w js (p + 1)) by rw [aw_up_ne (by omega), aw_up_eq]]
          rw [show aw_up (aw_up (aw_t0 T s i) 39 (4 * s + i) (aw_tau (aw_w js (p + 1)))) 40 (4 * s + i) (Int32.ofNat (aw_w js (p + 2))) 42 (4 * s + i) = 0 by unfold aw_t0; rw [aw_up_ne (by omega), aw_up_ne (by omega), aw_up_eq]]
          rw [if_neg o2, o1, if_pos rfl, aw_up_eq]
        rw [hx]
        by_cases hb5 : aw_w js (p + 1) ≤ 19
        · have k := aw_k33i5 d (ir := ir) (sh := sh) (ic := ic) (cc := cc) (dp := dp) hr h6 hw h38 hrd hp hsa hla h8 hdv hv1 hv2 hne hne2 hB hb ho.1 ho.2.1 ho.2.2 hc hb5 (fun q => hb4 ⟨hb5, q⟩)
          exact ⟨_, _, [g.length], k, one, hAB.1⟩
        · have k := aw_k33i4 d (ir := ir) (sh := sh) (ic := ic) (cc := cc) (dp := dp) hr h6 hw h38 hrd hp hsa hla h8 hdv hv1 hv2 hne hne2 hB hb ho.1 ho.2.1 ho.2.2 hc hb5
          exact ⟨_, _, [g.length], k, one, hAB.1⟩
    · cases h
  · rename_i ho
    unfold aw_Pcf at h
    dsimp only at h
    split at h
    · cases h
    · rename_i hf
      obtain ⟨e1, e2, e3⟩ := aw_fch_none hf
      obtain ⟨w1, w2⟩ := aw_shw e1 e2
      have hAB := aw_ab_bs (b := aw_bk (Int32.ofNat (aw_w js (p + 2))) (T 36 (2 * s)) (T 36 (2 * s + 1))) (q := p + 2) hB (by omega)
      cases h
      have k := aw_k33i1 d (ir := ir) (sh := sh) (ic := ic) (cc := cc) (dp := dp) hr h6 hw h38 hrd hp hsa hla h8 hdv hv1 hv2 hne hne2 hB hb ho e1 e2 e3
      refine ⟨_, _, [g.length], k, ?_, hAB.1⟩
      have hx : aw_lc (aw_up (aw_up (aw_up (aw_t0 T s i) 42 (4 * s + i) (Int32.ofNat (aw_w js p - 24))) 41 (4 * s + i) (Int32.ofNat (aw_chv (aw_w js p) (aw_w js (p + 1))))) 40 (4 * s + i) (Int32.ofNat (aw_w js (p + 2)))) (4 * s + i) = [aw_cC (aw_w js (p + 1)) (Int32.ofNat (aw_w js p - 24)) .null (Int32.ofNat (aw_w js (p + 2)))] := by
        unfold aw_lc
        rw [show aw_up (aw_up (aw_up (aw_t0 T s i) 42 (4 * s + i) (Int32.ofNat (aw_w js p - 24))) 41 (4 * s + i) (Int32.ofNat (aw_chv (aw_w js p) (aw_w js (p + 1))))) 40 (4 * s + i) (Int32.ofNat (aw_w js (p + 2))) 39 (4 * s + i) = 0 by unfold aw_t0; rw [aw_up_ne (by omega), aw_up_ne (by omega), aw_up_ne (by omega), aw_up_ne (by omega), aw_up_eq]]
        rw [if_pos rfl]
        rw [show aw_up (aw_up (aw_up (aw_t0 T s i) 42 (4 * s + i) (Int32.ofNat (aw_w js p - 24))) 41 (4 * s + i) (Int32.ofNat (aw_chv (aw_w js p) (aw_w js (p + 1))))) 40 (4 * s + i) (Int32.ofNat (aw_w js (p + 2))) 41 (4 * s + i) = Int32.ofNat (aw_chv (aw_w js p) (aw_w js (p + 1))) by rw [aw_up_ne (by omega), aw_up_eq]]
        rw [show aw_up (aw_up (aw_up (aw_t0 T s i) 42 (4 * s + i) (Int32.ofNat (aw_w js p - 24))) 41 (4 * s + i) (Int32.ofNat (aw_chv (aw_w js p) (aw_w js (p + 1))))) 40 (4 * s + i) (Int32.ofNat (aw_w js (p + 2))) 42 (4 * s + i) = Int32.ofNat (aw_w js p - 24) by rw [aw_up_ne (by omega), aw_up_ne (by omega), aw_up_eq]]
        rw [w1, aw_up_eq]
      rw [hx]
      exact aw_KI_one hrd hsa hla (by omega) ⟨hne.1, hne.2.1, hne.2.2.1⟩ (Nat.le_of_ble_eq_true rfl)
theorem aw_i_no {w : Nat → am_C} {g : am_H} (d : Nat) {r : Nat} (hr : r < 4) {js : List Nat} {WS : List Value} (h6 : w (6 + 4 * r) = .inr (4, js.map Value.ref ++ WS)) (hw : js.length + WS.length = 120) (h38 : ∀ p, aw_w js p < 38) {ir : Int32} {sh ic cc dp : Nat} {br : List Nat} {BS : List Int32} {rd p : Nat} (hrd : g[rd]? = some (aw_cR r p)) (hp : p ≤ 140) {sa la f1 f2 : Nat} {dv : Value} {L : List Nat} (hsa : g[sa]? = some (aw_cS dv f1 f2 la L.length)) (hla : g[la]? = some (aw_ar L)) (h8 : L.length < 7) {T : aw_T} {s : Nat} (hdv : aw_DV dv (T 35 s)) (hv1 : aw_PT g f1 (T 36 (2 * s))) (hv2 : aw_PT g f2 (T 36 (2 * s + 1))) (hne : rd ≠ sa ∧ rd ≠ la ∧ sa ≠ la ∧ f1 ≠ rd ∧ f2 ≠ rd) (hne2 : f1 ≠ sa ∧ f1 ≠ la ∧ f2 ≠ sa ∧ f2 ≠ la) (hB : br.length + BS.length = 120) (hb : br.length < 110) {i q : Nat} (hn : aw_isn (aw_w js p) = true) (h : aw_Pit js s i (T, sh, ic, cc, dp, br) p = .inl q) : ∃ g' ic' cc' br' BS', am_R (d + 3) 33 0 [some (.ref (1045 + rd)), some (.ref (1045 + sa)), none] [] (am_h (aw_rw w r js.length ir sh ic cc dp br BS) g) (.inl (some (.int 0))) (am_h (aw_rw w r js.length ir sh ic' cc' dp br' BS') g') ∧ aw_KZ g g' rd r p q ∧ br'.length + BS'.length = 120 := by
  have hgl := aw_gl hrd
  unfold aw_Pit at h
  split at h
  · rename_i ho
    unfold aw_Por at h
    dsimp only at h
    split at h
    · rename_i hc
      have hAB := aw_ab_bs (b := aw_bk (Int32.ofNat (aw_w js (p + 2))) (T 36 (2 * s)) (T 36 (2 * s + 1))) (q := p + 2) hB (by omega)
      obtain ⟨a1, a2, a3, a4, a5, a6, a7, a8, a9⟩ := aw_KI_one (p' := p + 2 + 1) (c := aw_cO (aw_w js (p + 1)) (Int32.ofNat (aw_w js (p + 2)))) hrd hsa hla (by omega) ⟨hne.1, hne.2.1, hne.2.2.1⟩ (Nat.le_of_ble_eq_true rfl)
      rw [List.length_singleton] at a7 a8
      split at h
      · rename_i hb4
        unfold aw_Pon at h
        dsimp only at h
        split at h
        · rename_i h16
          split at h
          · rename_i q2 hf
            cases h
            have k := aw_k33i7 d (ir := ir) (sh := sh) (ic := ic) (cc := cc) (dp := dp) hr h6 hw h38 hrd hp hsa hla h8 hdv hv1 hv2 hne hne2 hB hb ho.1 ho.2.1 ho.2.2 hc hb4.1 hb4.2 h16 hf
            have hq : p + 5 ≤ q ∧ q ≤ p + 7 := by
              rcases aw_fch_some hf with ⟨e, -⟩ | ⟨e, -⟩ | ⟨e, -⟩ <;> omega
            refine ⟨_, _, _, _, _, k, ⟨aw_at_rd (aw_at_rd a1), by omega, ?_, ?_⟩, hAB.1⟩
            · rw [aw_at_len, aw_at_len, a7]
              omega
            · rw [aw_at_sz (aw_at_rd a1), aw_at_sz a1]
              omega
          · cases h
        · rename_i h16
          cases h
          have k := aw_k33i6 d (ir := ir) (sh := sh) (ic := ic) (cc := cc) (dp := dp) hr h6 hw h38 hrd hp hsa hla h8 hdv hv1 hv2 hne hne2 hB hb ho.1 ho.2.1 ho.2.2 hc hb4.1 hb4.2 h16
          refine ⟨_, _, _, _, _, k, ⟨aw_at_rd a1, by omega, ?_, ?_⟩, hAB.1⟩
          · rw [aw_at_len, a7]
            omega
          · rw [aw_at_sz a1]
            omega
      · cases h
    · rename_i hc
      cases h
      have k := aw_k33i3 d (ir := ir) (sh := sh) (ic := ic) (cc := cc) (dp := dp) hr h6 hw h38 hrd hp hsa hla h8 hdv hv1 hv2 hne hne2 hB hb ho.1 ho.2.1 ho.2.2 hc
      refine ⟨_, _, _, _, _, k, ⟨aw_at_rd hrd, by omega, ?_, ?_⟩, hB⟩
      · rw [aw_at_len]
        omega
      · rw [aw_at_sz hrd]
        omega
  · rename_i ho
    unfold aw_Pcf at h
    dsimp only at h
    split at h
    · rename_i q2 hf
      cases h
      have k := aw_k33i2 d (ir := ir) (sh := sh) (ic := ic) (cc := cc) (dp := dp) hr h6 hw h38 hrd hp hsa hla h8 hdv hv1 hv2 hne hne2 hB hb ho hf
      have hq : p ≤ q ∧ q ≤ p + 2 := by
        rcases aw_fch_some hf with ⟨e, -⟩ | ⟨e, -⟩ | ⟨e, -⟩ <;> omega
      refine ⟨_, _, _, _, _, k, ⟨aw_at_rd hrd, by omega, ?_, ?_⟩, hB⟩
      · rw [aw_at_len]
        omega
      · rw [aw_at_sz hrd]
        omega
    · cases h
