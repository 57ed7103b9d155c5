/-! The class's tree against the tables; the items of a shield. -/
def aw_dvw (k : Nat) : Value := if k = 0 then .null else .ref (if k = 1 then 19 else if k = 2 then 18 else if k = 3 then 20 else 11)
theorem aw_dvA : ∀ k, k ≤ 4 → aw_DV (aw_dvw k) (Int32.ofNat k) := by
  intro k hk
  rcases (by omega : k = 0 ∨ k = 1 ∨ k = 2 ∨ k = 3 ∨ k = 4) with h | h | h | h | h <;> subst h
  · exact .inl ⟨rfl, rfl⟩
  · exact .inr ⟨19, by decide, rfl, by decide⟩
  · exact .inr ⟨18, by decide, rfl, by decide⟩
  · exact .inr ⟨20, by decide, rfl, by decide⟩
  · exact .inr ⟨11, by decide, rfl, by decide⟩
/-- an item's entries are such as can be -/
def aw_VI (T : aw_T) (s n : Nat) : Prop := (∃ c, c ≤ 9 ∧ T 40 n = Int32.ofNat c ∧ (c = 9 → aw_tw T s = true)) ∧ ((T 39 n = 0 ∧ ∃ ch m, ch < 3 ∧ 1 ≤ m ∧ m ≤ 6 ∧ T 41 n = Int32.ofNat ch ∧ T 42 n = Int32.ofNat m) ∨ (∃ j, 17 ≤ j ∧ j ≤ 24 ∧ T 39 n = aw_tau j ∧ (T 42 n = 0 ∨ (j ≤ 19 ∧ ∃ ch m c2, ch < 3 ∧ 1 ≤ m ∧ m ≤ 6 ∧ c2 < 9 ∧ T 41 n = Int32.ofNat ch ∧ T 42 n = Int32.ofNat m ∧ T 43 n = Int32.ofNat c2))))
theorem aw_VI_congr {T T' : aw_T} {s n : Nat} (h : ∀ k, 39 ≤ k → T' k n = T k n) (h35 : T' 35 s = T 35 s) (h1 : T' 36 (2 * s) = T 36 (2 * s)) (h2 : T' 36 (2 * s + 1) = T 36 (2 * s + 1)) (hv : aw_VI T s n) : aw_VI T' s n := by
  have e : aw_tw T' s = aw_tw T s := by
    unfold aw_tw
    rw [h35, h1, h2]
  unfold aw_VI at hv ⊢
  rw [h 39 (by decide), h 40 (by decide), h 41 (by decide), h 42 (by decide), h 43 (by decide), e]
  exact hv
theorem aw_chvb {a b : Nat} (ha : aw_isn a = true) (hb : aw_shp a b = true) : aw_chv a b < 3 ∧ 1 ≤ a - 24 ∧ a - 24 ≤ 6 := by
  have h1 := aw_isn_iff.mp ha
  have h2 := aw_shp_iff.mp hb
  unfold aw_chv
  split <;> omega
theorem aw_Pit_v {js : List Nat} {s i : Nat} {T : aw_T} {sh ic cc dp : Nat} {br : List Nat} {p p' : Nat} {T' : aw_T} {sh' ic' cc' dp' : Nat} {br' : List Nat} (h : aw_Pit js s i (T, sh, ic, cc, dp, br) p = .inr (p', (T', sh', ic', cc', dp', br'))) : aw_VI T' s (4 * s + i) := by
  have hf := aw_Pit_f h
  have htw : aw_tw T' s = aw_tw T s := by
    obtain ⟨-, -, -, -, c5, -⟩ := hf
    unfold aw_tw
    have e : ∀ k z, k = 35 ∨ k = 36 → T' k z = T k z := by
      intro k z hk
      rcases c5 k z with y | y | y
      · exact y
      · omega
      · omega
    rw [e 35 s (.inl rfl), e 36 _ (.inr rfl), e 36 _ (.inr rfl)]
  unfold aw_VI
  rw [htw]
  clear htw hf
  unfold aw_Pit at h
  split at h
  · rename_i ho
    unfold aw_Por at h
    dsimp only at h
    split at h
    · rename_i hc
      have hc2 := aw_cto_iff.mp hc
      split at h
      · rename_i hb4
        unfold aw_Pon at h
        dsimp only at h
        split at h
        · split at h
          · cases h
          · rename_i hf
            obtain ⟨e1, e2, e3⟩ := aw_fch_none hf
            have e3 := aw_cto_iff.mp e3
            obtain ⟨v1, v2, v3⟩ := aw_chvb e1 e2
            cases h
            refine ⟨⟨aw_w js (p + 2), by omega, by rw [aw_up_ne (by omega), aw_up_ne (by omega), aw_up_ne (by omega), aw_up_eq], fun q => ?_⟩, .inr ⟨aw_w js (p + 1), ho.2.1, ho.2.2, by rw [aw_up_ne (by omega), aw_up_ne (by omega), aw_up_ne (by omega), aw_up_ne (by omega), aw_up_eq], .inr ⟨hb4.1, _, _, aw_w js (p + 4 + 3), v1, v2, v3, ?_, by rw [aw_up_ne (by omega), aw_up_eq], by rw [aw_up_ne (by omega), aw_up_ne (by omega), aw_up_eq], by rw [aw_up_eq]⟩⟩⟩
            · rcases hc2 with y | y
              · omega
              · exact y.1
            · rcases e3 with y | y
              · exact y
              · exact absurd y.1 (by decide)
        · cases h
      · cases h
        refine ⟨⟨aw_w js (p + 2), by omega, by rw [aw_up_eq], fun q => ?_⟩, .inr ⟨aw_w js (p + 1), ho.2.1, ho.2.2, by rw [aw_up_ne (by omega), aw_up_eq], .inl (by unfold aw_t0; rw [aw_up_ne (by omega), aw_up_ne (by omega), aw_up_eq])⟩⟩
        rcases hc2 with y | y
        · omega
        · exact y.1
    · cases h
  · unfold aw_Pcf at h
    dsimp only at h
    split at h
    · cases h
    · rename_i hf
      obtain ⟨e1, e2, e3⟩ := aw_fch_none hf
      have e3 := aw_cto_iff.mp e3
      obtain ⟨v1, v2, v3⟩ := aw_chvb e1 e2
      cases h
      refine ⟨⟨aw_w js (p + 2), by omega, by rw [aw_up_eq], fun q => ?_⟩, .inl ⟨by unfold aw_t0; rw [aw_up_ne (by omega), aw_up_ne (by omega), aw_up_ne (by omega), aw_up_ne (by omega), aw_up_eq], _, _, v1, v2, v3, by rw [aw_up_ne (by omega), aw_up_eq], by rw [aw_up_ne (by omega), aw_up_ne (by omega), aw_up_eq]⟩⟩
      rcases e3 with y | y
      · omega
      · exact y.1
/-- a part at f, whose number is v; R says which shield it is -/
def aw_RP (g : am_H) (lo hi : Nat) (R : Nat → Nat → Prop) (f : Nat) (v : Int32) : Prop := lo ≤ f ∧ f < hi ∧ ((∃ t, t < 9 ∧ v = Int32.ofNat t ∧ g[f]? = some (aw_cP v)) ∨ (∃ s, s < 8 ∧ v = Int32.ofNat (100 + s) ∧ R f s))
/-- the shield s of the tables lies at a: all its cells in lo .. hi, all its shields in slo .. shi -/
def aw_RS (g : am_H) (T : aw_T) (lo hi shi : Nat) : Nat → Nat → Nat → Nat → Prop
  | 0, _, _, _ => False
  | l + 1, slo, a, s => slo ≤ s ∧ s < shi ∧ ∃ (la f1 f2 : Nat) (L : List Nat) (k i : Nat), lo ≤ a ∧ a < hi ∧ lo ≤ la ∧ la < hi ∧ g[a]? = some (aw_cS (aw_dvw k) f1 f2 la L.length) ∧ g[la]? = some (aw_ar L) ∧ k ≤ 4 ∧ T 35 s = Int32.ofNat k ∧ i ≤ 4 ∧ T 38 s = Int32.ofNat i ∧ aw_All g L (aw_lcs T s i) ∧ (∀ x, x ∈ L → lo ≤ x ∧ x < hi) ∧ L.length ≤ 8 ∧ (∀ j, j < i → aw_VI T s (4 * s + j)) ∧ aw_RP g lo hi (aw_RS g T lo hi shi l (s + 1)) f1 (T 36 (2 * s)) ∧ aw_RP g lo hi (aw_RS g T lo hi shi l (s + 1)) f2 (T 36 (2 * s + 1))
theorem aw_RS_cell {g : am_H} {T : aw_T} {lo hi shi l slo a s : Nat} (h : aw_RS g T lo hi shi l slo a s) : ∃ fs, g[a]? = some (.inl (5, fs)) := by
  cases l with
  | zero => exact absurd h id
  | succ l =>
    obtain ⟨-, -, la, f1, f2, L, k, i, -, -, -, -, h, -⟩ := h
    exact ⟨_, h⟩
theorem aw_RP_PT {g : am_H} {T : aw_T} {lo hi shi l slo f : Nat} {v : Int32} (h : aw_RP g lo hi (aw_RS g T lo hi shi l slo) f v) : aw_PT g f v := by
  obtain ⟨-, -, h⟩ := h
  rcases h with ⟨t, h1, h2, h3⟩ | ⟨s, h1, h2, h3⟩
  · exact .inl ⟨t, h1, h2, h3⟩
  · obtain ⟨fs, hf⟩ := aw_RS_cell h3
    exact .inr ⟨s, fs, h1, h2, hf⟩
theorem aw_lc_congr {T T' : aw_T} {n : Nat} (h : ∀ k, 39 ≤ k → T' k n = T k n) : aw_lc T' n = aw_lc T n := by
  unfold aw_lc
  rw [h 39 (by decide), h 40 (by decide), h 41 (by decide), h 42 (by decide), h 43 (by decide)]
theorem aw_lcs_congr {T T' : aw_T} {s : Nat} : ∀ i, (∀ k z, 39 ≤ k → 4 * s ≤ z → z < 4 * s + i → T' k z = T k z) → aw_lcs T' s i = aw_lcs T s i := by
  intro i
  induction i with
  | zero => intro _; rfl
  | succ i ih =>
    intro h
    rw [aw_lcs, aw_lcs, ih (fun k z h1 h2 h3 => h k z h1 h2 (by omega)), aw_lc_congr (fun k hk => h k _ hk (by omega) (by omega))]
theorem aw_All_congr {g g' : am_H} {L : List Nat} {cs : List am_C} (h : ∀ x, x ∈ L → g'[x]? = g[x]?) (hA : aw_All g L cs) : aw_All g' L cs := by
  unfold aw_All at hA ⊢
  rw [← hA]
  exact List.map_congr_left h
theorem aw_All_len {g : am_H} {L : List Nat} {cs : List am_C} (hA : aw_All g L cs) : L.length = cs.length := by
  have := congrArg List.length hA
  rw [List.length_map, List.length_map] at this
  exact this
theorem aw_ow35 {k s : Nat} (h : k = 35 ∨ k = 37 ∨ k = 38) : aw_ow k s = s := by
  unfold aw_ow
  rw [if_neg (by omega), if_neg (by omega)]
theorem aw_ow36 (z : Nat) : aw_ow 36 z = z / 2 := rfl
theorem aw_ow39 {k z : Nat} (h : 39 ≤ k) : aw_ow k z = z / 4 := by
  unfold aw_ow
  rw [if_neg (by omega), if_pos h]
/-- what is changed elsewhere does no harm -/
theorem aw_RS_fr {g g' : am_H} {T T' : aw_T} {lo hi shi lo' hi' shi' : Nat} (hlo : lo' ≤ lo) (hhi : hi ≤ hi') (hsh : shi ≤ shi') (hg : ∀ k, lo ≤ k → k < hi → g'[k]? = g[k]?) : ∀ l slo slo' a s, slo' ≤ slo → (∀ k z, slo ≤ aw_ow k z → aw_ow k z < shi → T' k z = T k z) → aw_RS g T lo hi shi l slo a s → aw_RS g' T' lo' hi' shi' l slo' a s := by
  intro l
  induction l with
  | zero => intro slo slo' a s _ _ h; exact absurd h id
  | succ l ih =>
    intro slo slo' a s hsl hT h
    obtain ⟨q1, q2, la, f1, f2, L, k, i, a1, a2, a3, a4, a5, a6, a7, a8, a9, a10, a11, a12, a12', a12v, a13, a14⟩ := h
    have hT2 : ∀ k z, s + 1 ≤ aw_ow k z → aw_ow k z < shi → T' k z = T k z := fun k z h1 h2 => hT k z (by omega) h2
    have hpart : ∀ f v, aw_RP g lo hi (aw_RS g T lo hi shi l (s + 1)) f v → aw_RP g' lo' hi' (aw_RS g' T' lo' hi' shi' l (s + 1)) f v := by
      intro f v hp
      obtain ⟨p1, p2, p3⟩ := hp
      refine ⟨by omega, by omega, ?_⟩
      rcases p3 with ⟨t, b1, b2, b3⟩ | ⟨s2, b1, b2, b3⟩
      · exact .inl ⟨t, b1, b2, by rw [hg f p1 p2]; exact b3⟩
      · exact .inr ⟨s2, b1, b2, ih (s + 1) (s + 1) f s2 (Nat.le_refl _) hT2 b3⟩
    have e36 : T' 36 (2 * s) = T 36 (2 * s) := hT 36 _ (by rw [aw_ow36]; omega) (by rw [aw_ow36]; omega)
    have e37 : T' 36 (2 * s + 1) = T 36 (2 * s + 1) := hT 36 _ (by rw [aw_ow36]; omega) (by rw [aw_ow36]; omega)
    refine ⟨by omega, by omega, la, f1, f2, L, k, i, by omega, by omega, by omega, by omega, by rw [hg a a1 a2]; exact a5, by rw [hg la a3 a4]; exact a6, a7, ?_, a9, ?_, ?_, fun x hx => ?_, a12', fun j hj => aw_VI_congr (fun k hk => hT k _ (by rw [aw_ow39 hk]; omega) (by rw [aw_ow39 hk]; omega)) (hT 35 s (by rw [aw_ow35 (.inl rfl)]; exact q1) (by rw [aw_ow35 (.inl rfl)]; exact q2)) e36 e37 (a12v j hj), by rw [e36]; exact hpart _ _ a13, by rw [e37]; exact hpart _ _ a14⟩
    · rw [hT 35 s (by rw [aw_ow35 (.inl rfl)]; exact q1) (by rw [aw_ow35 (.inl rfl)]; exact q2)]
      exact a8
    · rw [hT 38 s (by rw [aw_ow35 (.inr (.inr rfl))]; exact q1) (by rw [aw_ow35 (.inr (.inr rfl))]; exact q2)]
      exact a10
    · rw [aw_lcs_congr i (fun k z h1 h2 h3 => hT k z (by rw [aw_ow39 h1]; omega) (by rw [aw_ow39 h1]; omega))]
      exact aw_All_congr (fun x hx => hg x (a12 x hx).1 (a12 x hx).2) a11
    · have := a12 x hx
      omega
theorem aw_RP_fr {g g' : am_H} {T T' : aw_T} {lo hi shi lo' hi' shi' l slo slo' f : Nat} {v : Int32} (hlo : lo' ≤ lo) (hhi : hi ≤ hi') (hsh : shi ≤ shi') (hg : ∀ k, lo ≤ k → k < hi → g'[k]? = g[k]?) (hsl : slo' ≤ slo) (hT : ∀ k z, slo ≤ aw_ow k z → aw_ow k z < shi → T' k z = T k z) (h : aw_RP g lo hi (aw_RS g T lo hi shi l slo) f v) : aw_RP g' lo' hi' (aw_RS g' T' lo' hi' shi' l slo') f v := by
  obtain ⟨p1, p2, p3⟩ := h
  refine ⟨by omega, by omega, ?_⟩
  rcases p3 with ⟨t, b1, b2, b3⟩ | ⟨s2, b1, b2, b3⟩
  · exact .inl ⟨t, b1, b2, by rw [hg f p1 p2]; exact b3⟩
  · exact .inr ⟨s2, b1, b2, aw_RS_fr hlo hhi hsh hg l slo slo' f s2 hsl hT b3⟩
/-- what a reading leaves of the heap -/
def aw_KS (g g' : am_H) (rd r p p' : Nat) : Prop := g'[rd]? = some (aw_cR r p') ∧ (∀ k, k < g.length → k ≠ rd → g'[k]? = g[k]?) ∧ g.length ≤ g'.length ∧ g'.length ≤ g.length + 3 * (p' - p) ∧ am_sz g' ≤ am_sz g + 14 * (p' - p)
theorem aw_Pit_q {js : List Nat} {s i p q : Nat} {S : aw_S} (h : aw_Pit js s i S p = .inl q) : p ≤ q ∧ q ≤ p + 7 := by
  obtain ⟨T, sh, ic, cc, dp, br⟩ := S
  unfold aw_Pit at h
  split at h
  · unfold aw_Por at h
    dsimp only at h
    split at h
    · split at h
      · unfold aw_Pon at h
        dsimp only at h
        split at h
        · split at h
          · rename_i hf
            cases h
            rcases aw_fch_some hf with ⟨e, -⟩ | ⟨e, -⟩ | ⟨e, -⟩ <;> omega
          · cases h
        · cases h
          omega
      · cases h
    · cases h
      omega
  · unfold aw_Pcf at h
    dsimp only at h
    split at h
    · rename_i hf
      cases h
      rcases aw_fch_some hf with ⟨e, -⟩ | ⟨e, -⟩ | ⟨e, -⟩ <;> omega
    · cases h
/-- the items -/
theorem aw_c_is {w : Nat → am_C} (d : Nat) {r : Nat} (hr : r < 4) {js : List Nat} {WS : List Value} (h6 : w (6 + 4 * r) = .inr (4, js.map Value.ref ++ WS)) (hw : js.length + WS.length = 120) (h38 : ∀ p, aw_w js p < 38) {ir : Int32} {rd sa la f1 f2 kd dpt s : Nat} (hkd : kd ≤ 4) (hne : rd ≠ sa ∧ rd ≠ la ∧ sa ≠ la ∧ f1 ≠ rd ∧ f2 ≠ rd) (hne2 : f1 ≠ sa ∧ f1 ≠ la ∧ f2 ≠ sa ∧ f2 ≠ la) : ∀ (k i : Nat) {g : am_H} {T : aw_T} {L : List Nat} {sh ic cc dp : Nat} {br : List Nat} {BS : List Int32} {p : Nat}, i + k = 4 → g[rd]? = some (aw_cR r p) → p ≤ js.length → g[sa]? = some (aw_cS (aw_dvw kd) f1 f2 la L.length) → g[la]? = some (aw_ar L) → L.length ≤ 2 * i → T 35 s = Int32.ofNat kd → T 38 s = Int32.ofNat i → aw_PT g f1 (T 36 (2 * s)) → aw_PT g f2 (T 36 (2 * s + 1)) → aw_All g L (aw_lcs T s i) → (∀ j, j < i → aw_VI T s (4 * s + j)) → (∀ x, x ∈ L → x < g.length ∧ x ≠ rd ∧ x ≠ sa ∧ x ≠ la) → br.length + BS.length = 120 → 3 * br.length ≤ p →
    match aw_Pis js s k i (T, sh, ic, cc, dp, br) p with
    | .inl q => ∃ g' sh' ic' cc' dp' br' BS' v, am_R (d + 10) 23 45 [some (.ref (1045 + rd)), some (.int (Int32.ofNat dpt)), some (.ref (1045 + sa)), some (.int (Int32.ofNat i))] [] (am_h (aw_rw w r js.length ir sh ic cc dp br BS) g) (.inl (some v)) (am_h (aw_rw w r js.length ir sh' ic' cc' dp' br' BS') g') ∧ aw_KZ g g' rd r p q ∧ br'.length + BS'.length = 120 ∧ q ≤ 130 ∧ (v = .null ∨ (v = .ref (1045 + sa) ∧ aw_isn (aw_w js q) = true))
    | .inr (p', (T', sh', ic', cc', dp', br')) => ∃ g' BS' L' i', am_R (d + 10) 23 45 [some (.ref (1045 + rd)), some (.int (Int32.ofNat dpt)), some (.ref (1045 + sa)), some (.int (Int32.ofNat i))] [] (am_h (aw_rw w r js.length ir sh ic cc dp br BS) g) (.inl (some (.ref (1045 + sa)))) (am_h (aw_rw w r js.length ir sh' ic' cc' dp' br' BS') g') ∧ g'[rd]? = some (aw_cR r p') ∧ g'[sa]? = some (aw_cS (aw_dvw kd) f1 f2 la L'.length) ∧ g'[la]? = some (aw_ar L') ∧ (∀ k, k < g.length → k ≠ rd → k ≠ sa → k ≠ la → g'[k]? = g[k]?) ∧ g.length ≤ g'.length ∧ g'.length ≤ g.length + 3 * (p' - p) ∧ am_sz g' ≤ am_sz g + 14 * (p' - p) ∧ i' ≤ 4 ∧ T' 38 s = Int32.ofNat i' ∧ aw_All g' L' (aw_lcs T' s i') ∧ (∀ j, j < i' → aw_VI T' s (4 * s + j)) ∧ (∀ x, x ∈ L' → x ∈ L ∨ (g.length ≤ x ∧ x < g'.length)) ∧ L'.length ≤ 8 ∧ br'.length + BS'.length = 120 := by
  intro k
  induction k with
  | zero =>
    intro i g T L sh ic cc dp br BS p hik hrd hp hsa hla hL h35 h38s hv1 hv2 hA hV hx hB hb
    rw [aw_Pis]
    by_cases hn : aw_isn (aw_w js p) = true
    · rw [if_pos hn]
      exact ⟨g, sh, ic, cc, dp, br, BS, _, aw_k23e d hr h6 hw h38 hrd (by omega) (by omega) (.inl (by omega)), ⟨hrd, Nat.le_refl _, by omega, by omega⟩, hB, by omega, .inr ⟨rfl, hn⟩⟩
    · rw [if_neg hn]
      exact ⟨g, BS, L, i, aw_k23e d hr h6 hw h38 hrd (by omega) (by omega) (.inl (by omega)), hrd, hsa, hla, fun k _ _ _ _ => rfl, Nat.le_refl _, by omega, by omega, by omega, h38s, hA, hV, fun x h => .inl h, by omega, hB⟩
  | succ k ih =>
    intro i g T L sh ic cc dp br BS p hik hrd hp hsa hla hL h35 h38s hv1 hv2 hA hV hx hB hb
    rw [aw_Pis]
    by_cases hn : aw_isn (aw_w js p) = true
    · rw [if_pos hn]
      have hdv : aw_DV (aw_dvw kd) (T 35 s) := by
        rw [h35]
        exact aw_dvA kd hkd
      cases hr1 : aw_Pit js s i (T, sh, ic, cc, dp, br) p with
      | inl q =>
        obtain ⟨g', ic', cc', br', BS', k1, k2, k3⟩ := aw_i_no (d + 6) hr h6 hw h38 hrd (by omega) hsa hla (by omega) hdv hv1 hv2 hne hne2 hB (by omega) hn hr1
        have hq := aw_Pit_q hr1
        exact ⟨g', sh, ic', cc', dp, br', BS', _, aw_k23f d hr h6 hw h38 hrd (by omega) (by omega) hn k2.1 (by omega) k1, k2, k3, by omega, .inl rfl⟩
      | inr z =>
        obtain ⟨p1, T1, sh1, ic1, cc1, dp1, br1⟩ := z
        obtain ⟨g1, BS1, M, k1, ⟨b1, b2, b3, b4, b5, b6, b7, b8, b9⟩, k3⟩ := aw_i_ok (d + 6) hr h6 hw h38 hrd (by omega) hsa hla (by omega) hdv hv1 hv2 hne hne2 hB (by omega) hn hr1
        obtain ⟨c1, c2, c3, c4, c5, c6, c7, ⟨e, c8, c9⟩, c10⟩ := aw_Pit_f hr1
        have hp1 := aw_w_le c1 c7
        have fr : ∀ f, f < g.length → f ≠ rd → f ≠ sa → f ≠ la → g1[f]? = g[f]? := b4
        have hPT : ∀ f v, f ≠ rd → f ≠ sa → f ≠ la → aw_PT g f v → aw_PT g1 f v := by
          intro f v n1 n2 n3 hv
          rcases hv with ⟨t, a1, a2, a3⟩ | ⟨n, fs, a1, a2, a3⟩
          · exact .inl ⟨t, a1, a2, (fr f (aw_gl a3) n1 n2 n3).trans a3⟩
          · exact .inr ⟨n, fs, a1, a2, (fr f (aw_gl a3) n1 n2 n3).trans a3⟩
        have t35 : T1 35 s = T 35 s := by
          rcases c5 35 s with z | z | z
          · exact z
          · omega
          · omega
        have t36 : ∀ z, T1 36 z = T 36 z := by
          intro y
          rcases c5 36 y with z | z | z
          · exact z
          · omega
          · omega
        have hA1 : aw_All g1 (L ++ M) (aw_lcs T1 s (i + 1)) := by
          rw [aw_lcs, aw_lcs_congr i (fun k z h1 h2 h3 => by
            rcases c5 k z with y | y | y
            · exact y
            · omega
            · omega)]
          have a1 := aw_All_congr (g' := g1) (fun x h => fr x (hx x h).1 (hx x h).2.1 (hx x h).2.2.1 (hx x h).2.2.2) hA
          unfold aw_All at a1 b5 ⊢
          rw [List.map_append, List.map_append, a1, b5]
        have hV1 : ∀ j, j < i + 1 → aw_VI T1 s (4 * s + j) := by
          intro j hj
          by_cases hji : j = i
          · rw [hji]
            exact aw_Pit_v hr1
          · refine aw_VI_congr (fun k hk => ?_) t35 (t36 _) (t36 _) (hV j (by omega))
            rcases c5 k (4 * s + j) with y | y | y
            · exact y
            · omega
            · omega
        have hx1 : ∀ x, x ∈ L ++ M → x < g1.length ∧ x ≠ rd ∧ x ≠ sa ∧ x ≠ la := by
          intro x hxm
          rcases List.mem_append.mp hxm with h | h
          · have := hx x h
            omega
          · have h1 := b6 x h
            have a1 := aw_gl hrd
            have a2 := aw_gl hsa
            have a3 := aw_gl hla
            have hm : g1[x]? ∈ M.map (fun a => g1[a]?) := List.mem_map.mpr ⟨x, h, rfl⟩
            rw [b5] at hm
            obtain ⟨c, -, hc⟩ := List.mem_map.mp hm
            exact ⟨aw_gl hc.symm, by omega, by omega, by omega⟩
        have hbr : 3 * br1.length ≤ p1 := by
          rw [c8, List.length_append]
          omega
        have hLM : (L ++ M).length ≤ 2 * (i + 1) := by
          rw [List.length_append]
          omega
        have key := ih (i + 1) (sh := sh1) (ic := ic1) (cc := cc1) (dp := dp1) (by omega) b1 hp1 b2 b3 hLM (t35.trans h35) c6 (by rw [t36]; exact hPT _ _ (by omega) (by omega) (by omega) hv1) (by rw [t36]; exact hPT _ _ (by omega) (by omega) (by omega) hv2) hA1 hV1 hx1 k3 hbr
        dsimp only
        cases hr2 : aw_Pis js s k (i + 1) (T1, sh1, ic1, cc1, dp1, br1) p1 with
        | inl q =>
          rw [hr2] at key
          obtain ⟨g', sh', ic', cc', dp', br', BS', v, y1, ⟨y2, y3, y4, y5⟩, y6, y7, y8⟩ := key
          exact ⟨g', sh', ic', cc', dp', br', BS', v, aw_k23n d hr h6 hw h38 hrd (by omega) (by omega) hn b1 (by omega) k1 y1, ⟨y2, by omega, by omega, by omega⟩, y6, y7, y8⟩
        | inr z =>
          obtain ⟨p', T', sh', ic', cc', dp', br'⟩ := z
          rw [hr2] at key
          obtain ⟨g', BS', L', i', y1, y2, y3, y4, y5, y6, y7, y8, y9, y10, y11, yv, y12, y13, y14⟩ := key
          have hp2 := (aw_Pis_f k (i + 1) (by omega) hr2).1
          refine ⟨g', BS', L', i', aw_k23n d hr h6 hw h38 hrd (by omega) (by omega) hn b1 (by omega) k1 y1, y2, y3, y4, fun k h1 h2 h3 h4 => ?_, by omega, by omega, by omega, y9, y10, y11, yv, fun x h => ?_, y13, y14⟩
          · rw [y5 k (by omega) h2 h3 h4]
            exact fr k h1 h2 h3 h4
          · rcases y12 x h with q | q
            · rcases List.mem_append.mp q with q | q
              · exact .inl q
              · have := b6 x q
                have := hx1 x (List.mem_append.mpr (.inr q))
                exact .inr (by omega)
            · exact .inr (by omega)
    · rw [if_neg hn]
      exact ⟨g, BS, L, i, aw_k23e d hr h6 hw h38 hrd (by omega) (by omega) (.inr hn), hrd, hsa, hla, fun k _ _ _ _ => rfl, Nat.le_refl _, by omega, by omega, by omega, h38s, hA, hV, fun x h => .inl h, by omega, hB⟩
