/-! What a reading leaves alone, and how far it comes. -/
def aw_ow (k z : Nat) : Nat := if k = 36 then z / 2 else if 39 ≤ k then z / 4 else z
theorem aw_ab_len (b : Bool) (p : Nat) (br : List Nat) : ∃ e, aw_ab b p br = br ++ e ∧ e.length ≤ 1 := by
  unfold aw_ab
  split
  · exact ⟨[p], rfl, Nat.le_refl _⟩
  · exact ⟨[], (List.append_nil _).symm, Nat.zero_le _⟩
/-- what an item does -/
def aw_FI (js : List Nat) (s i : Nat) (T : aw_T) (sh ic cc dp : Nat) (br : List Nat) (p p' : Nat) (T' : aw_T) (sh' ic' cc' dp' : Nat) (br' : List Nat) : Prop :=
  p < p' ∧ sh' = sh ∧ ic' = ic + 1 ∧ dp' = dp ∧ (∀ k z, T' k z = T k z ∨ (k = 38 ∧ z = s) ∨ (39 ≤ k ∧ z = 4 * s + i)) ∧ T' 38 s = Int32.ofNat (i + 1) ∧ (∀ z, p ≤ z → z < p' → aw_w js z < 37) ∧ (∃ e, br' = br ++ e ∧ 3 * e.length ≤ p' - p) ∧ cc ≤ cc' ∧ cc' ≤ cc + 6 ∧ T' 42 (4 * s + i) = Int32.ofNat (cc' - cc)
theorem aw_wz {js : List Nat} {p p' z : Nat} (h : ∀ k, k < p' - p → aw_w js (p + k) < 37) (h1 : p ≤ z) (h2 : z < p') : aw_w js z < 37 := by
  have := h (z - p) (by omega)
  rw [show p + (z - p) = z by omega] at this
  exact this
theorem aw_Pcf_f {js : List Nat} {s i : Nat} {T : aw_T} {sh ic cc dp : Nat} {br : List Nat} {p p' : Nat} {T' : aw_T} {sh' ic' cc' dp' : Nat} {br' : List Nat} (h : aw_Pcf js s i (T, sh, ic, cc, dp, br) p = .inr (p', (T', sh', ic', cc', dp', br'))) : aw_FI js s i T sh ic cc dp br p p' T' sh' ic' cc' dp' br' := by
  unfold aw_Pcf at h
  dsimp only at h
  split at h
  · cases h
  · rename_i hf
    obtain ⟨a, b, c⟩ := aw_fch_none hf
    rw [aw_isn_iff] at a
    rw [aw_shp_iff] at b
    rw [aw_cto_iff] at c
    cases h
    obtain ⟨e, he, hl⟩ := aw_ab_len (aw_bk (Int32.ofNat (aw_w js (p + 2))) (T 36 (2 * s)) (T 36 (2 * s + 1))) (p + 2) br
    refine ⟨by omega, rfl, rfl, rfl, fun k z => ?_, ?_, ?_, ⟨e, he, by omega⟩, by omega, by omega, ?_⟩
    · by_cases h1 : k = 38 ∧ z = s
      · exact .inr (.inl h1)
      · by_cases h2 : 39 ≤ k ∧ z = 4 * s + i
        · exact .inr (.inr h2)
        · refine .inl ?_
          unfold aw_t0
          rw [aw_up_ne (by omega), aw_up_ne (by omega), aw_up_ne (by omega), aw_up_ne (by omega), aw_up_ne (by omega), aw_up_ne (by omega)]
    · unfold aw_t0
      rw [aw_up_ne (by omega), aw_up_ne (by omega), aw_up_ne (by omega), aw_up_ne (by omega), aw_up_ne (by omega), aw_up_eq]
    · intro z h1 h2
      rcases (by omega : z = p ∨ z = p + 1 ∨ z = p + 2) with q | q | q <;> subst q <;> omega
    · rw [aw_up_ne (by omega), aw_up_ne (by omega), aw_up_eq]
      congr 1
      omega
theorem aw_Por_f {js : List Nat} {s i : Nat} {T : aw_T} {sh ic cc dp : Nat} {br : List Nat} {p p' : Nat} {T' : aw_T} {sh' ic' cc' dp' : Nat} {br' : List Nat} (h25 : aw_w js p = 25) (hb1 : 17 ≤ aw_w js (p + 1)) (hb2 : aw_w js (p + 1) ≤ 24) (h : aw_Por js s i (T, sh, ic, cc, dp, br) p = .inr (p', (T', sh', ic', cc', dp', br'))) : aw_FI js s i T sh ic cc dp br p p' T' sh' ic' cc' dp' br' := by
  unfold aw_Por at h
  dsimp only at h
  split at h
  · rename_i c
    rw [aw_cto_iff] at c
    obtain ⟨e, he, hl⟩ := aw_ab_len (aw_bk (Int32.ofNat (aw_w js (p + 2))) (T 36 (2 * s)) (T 36 (2 * s + 1))) (p + 2) br
    split at h
    · rename_i hc
      unfold aw_Pon at h
      dsimp only at h
      split at h
      · rename_i h16
        split at h
        · cases h
        · rename_i hf
          obtain ⟨a2, b2, c2⟩ := aw_fch_none hf
          rw [aw_isn_iff] at a2
          rw [aw_shp_iff] at b2
          rw [aw_cto_iff] at c2
          obtain ⟨e2, he2, hl2⟩ := aw_ab_len (aw_bk (Int32.ofNat (aw_w js (p + 4 + 3))) (Int32.ofNat (aw_w js (p + 2))) (Int32.ofNat (aw_w js (p + 2)))) (p + 4 + 3) (aw_ab (aw_bk (Int32.ofNat (aw_w js (p + 2))) (T 36 (2 * s)) (T 36 (2 * s + 1))) (p + 2) br)
          cases h
          refine ⟨by omega, rfl, rfl, rfl, fun k z => ?_, ?_, ?_, ⟨e ++ e2, by rw [he2, he, List.append_assoc], by rw [List.length_append]; omega⟩, by omega, by omega, ?_⟩
          · by_cases h1 : k = 38 ∧ z = s
            · exact .inr (.inl h1)
            · by_cases h2 : 39 ≤ k ∧ z = 4 * s + i
              · exact .inr (.inr h2)
              · refine .inl ?_
                unfold aw_t0
                rw [aw_up_ne (by omega), aw_up_ne (by omega), aw_up_ne (by omega), aw_up_ne (by omega), aw_up_ne (by omega), aw_up_ne (by omega), aw_up_ne (by omega), aw_up_ne (by omega)]
          · unfold aw_t0
            rw [aw_up_ne (by omega), aw_up_ne (by omega), aw_up_ne (by omega), aw_up_ne (by omega), aw_up_ne (by omega), aw_up_ne (by omega), aw_up_ne (by omega), aw_up_eq]
          · intro z h1 h2
            rcases (by omega : z = p ∨ z = p + 1 ∨ z = p + 2 ∨ z = p + 3 ∨ z = p + 4 ∨ z = p + 4 + 1 ∨ z = p + 4 + 1 + 1 ∨ z = p + 4 + 1 + 2) with q | q | q | q | q | q | q | q <;> subst q <;> omega
          · rw [aw_up_ne (by omega), aw_up_ne (by omega), aw_up_eq]
            congr 1
            omega
      · cases h
    · cases h
      refine ⟨by omega, rfl, rfl, rfl, fun k z => ?_, ?_, ?_, ⟨e, he, by omega⟩, by omega, by omega, ?_⟩
      · by_cases h1 : k = 38 ∧ z = s
        · exact .inr (.inl h1)
        · by_cases h2 : 39 ≤ k ∧ z = 4 * s + i
          · exact .inr (.inr h2)
          · refine .inl ?_
            unfold aw_t0
            rw [aw_up_ne (by omega), aw_up_ne (by omega), aw_up_ne (by omega), aw_up_ne (by omega), aw_up_ne (by omega)]
      · unfold aw_t0
        rw [aw_up_ne (by omega), aw_up_ne (by omega), aw_up_ne (by omega), aw_up_ne (by omega), aw_up_eq]
      · intro z h1 h2
        rcases (by omega : z = p ∨ z = p + 1 ∨ z = p + 2) with q | q | q <;> subst q <;> omega
      · unfold aw_t0
        rw [aw_up_ne (by omega), aw_up_ne (by omega), aw_up_eq, Nat.sub_self]
        rfl
  · cases h
theorem aw_Pit_f {js : List Nat} {s i : Nat} {T : aw_T} {sh ic cc dp : Nat} {br : List Nat} {p p' : Nat} {T' : aw_T} {sh' ic' cc' dp' : Nat} {br' : List Nat} (h : aw_Pit js s i (T, sh, ic, cc, dp, br) p = .inr (p', (T', sh', ic', cc', dp', br'))) : aw_FI js s i T sh ic cc dp br p p' T' sh' ic' cc' dp' br' := by
  unfold aw_Pit at h
  split at h
  · rename_i q
    exact aw_Por_f q.1 q.2.1 q.2.2 h
  · exact aw_Pcf_f h
/-- what the items do, from the i-th on -/
def aw_FIs (js : List Nat) (s i : Nat) (T : aw_T) (sh dp : Nat) (br : List Nat) (p p' : Nat) (T' : aw_T) (sh' dp' : Nat) (br' : List Nat) : Prop :=
  p ≤ p' ∧ sh' = sh ∧ dp' = dp ∧ (∀ k z, T' k z = T k z ∨ (k = 38 ∧ z = s) ∨ (39 ≤ k ∧ 4 * s + i ≤ z ∧ z < 4 * s + 4)) ∧ (∀ z, p ≤ z → z < p' → aw_w js z < 37) ∧ (∃ e, br' = br ++ e ∧ 3 * e.length ≤ p' - p) ∧ ¬ aw_isn (aw_w js p') = true
theorem aw_Pis_f {js : List Nat} {s : Nat} : ∀ (k i : Nat) {T : aw_T} {sh ic cc dp : Nat} {br : List Nat} {p p' : Nat} {T' : aw_T} {sh' ic' cc' dp' : Nat} {br' : List Nat}, i + k ≤ 4 → aw_Pis js s k i (T, sh, ic, cc, dp, br) p = .inr (p', (T', sh', ic', cc', dp', br')) → aw_FIs js s i T sh dp br p p' T' sh' dp' br' := by
  intro k
  induction k with
  | zero =>
    intro i T sh ic cc dp br p p' T' sh' ic' cc' dp' br' hi h
    rw [aw_Pis] at h
    split at h
    · cases h
    · rename_i hn
      cases h
      exact ⟨Nat.le_refl _, rfl, rfl, fun k z => .inl rfl, fun z h1 h2 => absurd h2 (by omega), ⟨[], (List.append_nil _).symm, Nat.zero_le _⟩, hn⟩
  | succ k ih =>
    intro i T sh ic cc dp br p p' T' sh' ic' cc' dp' br' hi h
    rw [aw_Pis] at h
    split at h
    · split at h
      · cases h
      · rename_i p1 S1 h1
        obtain ⟨T1, sh1, ic1, cc1, dp1, br1⟩ := S1
        obtain ⟨a1, a2, a3, a4, a5, a6, a7, ⟨e1, a8, a9⟩, a10⟩ := aw_Pit_f h1
        obtain ⟨b1, b2, b3, b4, b5, ⟨e2, b6, b7⟩, b8⟩ := ih (i + 1) (by omega) h
        refine ⟨by omega, by omega, by omega, fun k z => ?_, fun z h1 h2 => ?_, ⟨e1 ++ e2, by rw [b6, a8, List.append_assoc], by rw [List.length_append]; omega⟩, b8⟩
        · rcases b4 k z with q | q | q
          · rw [q]
            rcases a5 k z with q2 | q2 | q2
            · exact .inl q2
            · exact .inr (.inl q2)
            · exact .inr (.inr (by omega))
          · exact .inr (.inl q)
          · exact .inr (.inr (by omega))
        · by_cases hz : z < p1
          · exact a7 z h1 hz
          · exact b5 z (by omega) h2
    · rename_i hn
      cases h
      exact ⟨Nat.le_refl _, rfl, rfl, fun k z => .inl rfl, fun z h1 h2 => absurd h2 (by omega), ⟨[], (List.append_nil _).symm, Nat.zero_le _⟩, hn⟩
/-- what a part, a field or a shield does: 'own' says which places of its own shield it may change -/
def aw_FP (js : List Nat) (own : Nat → Nat → Prop) (c : Nat) (T : aw_T) (sh dp : Nat) (br : List Nat) (p p' : Nat) (T' : aw_T) (sh' dp' : Nat) (br' : List Nat) : Prop :=
  p < p' ∧ sh ≤ sh' ∧ sh' ≤ sh + c ∧ dp ≤ dp' ∧ dp' ≤ max dp 3 ∧ (∀ k z, T' k z = T k z ∨ own k z ∨ sh ≤ aw_ow k z) ∧ (∀ z, p ≤ z → z < p' → aw_w js z < 37) ∧ (∃ e, br' = br ++ e ∧ 3 * e.length ≤ p' - p)
def aw_cap : Nat → Nat
  | 0 => 0
  | l + 1 => 2 * (aw_cap l + 1)
/-- what is asked of the shields within -/
def aw_NF (js : List Nat) (N : Nat → aw_S → Nat → aw_Res) (c : Nat) : Prop := ∀ (s : Nat) {T : aw_T} {sh ic cc dp : Nat} {br : List Nat} {p p' : Nat} {T' : aw_T} {sh' ic' cc' dp' : Nat} {br' : List Nat}, s < sh → N s (T, sh, ic, cc, dp, br) p = .inr (p', (T', sh', ic', cc', dp', br')) → aw_FP js (fun k z => aw_ow k z = s) c T sh dp br p p' T' sh' dp' br'
theorem aw_Ppt_f {js : List Nat} {N : Nat → aw_S → Nat → aw_Res} {dpt c : Nat} {lv : Bool} (hN : lv = true → aw_NF js N c) (hd : lv = true → dpt ≤ 2) {q : Nat} {T : aw_T} {sh ic cc dp : Nat} {br : List Nat} {p p' : Nat} {T' : aw_T} {sh' ic' cc' dp' : Nat} {br' : List Nat} (hq : q < 2 * sh) (h : aw_Ppt js N dpt lv q (T, sh, ic, cc, dp, br) p = .inr (p', (T', sh', ic', cc', dp', br'))) : aw_FP js (fun k z => k = 36 ∧ z = q) (if lv = true then c + 1 else 0) T sh dp br p p' T' sh' dp' br' := by
  unfold aw_Ppt at h
  dsimp only at h
  split at h
  · cases h
    refine ⟨by omega, by omega, by omega, Nat.le_refl _, by omega, fun k z => ?_, fun z h1 h2 => ?_, ⟨[], (List.append_nil _).symm, Nat.zero_le _⟩⟩
    · by_cases h1 : k = 36 ∧ z = q
      · exact .inr (.inl h1)
      · exact .inl (aw_up_ne (by omega))
    · rw [show z = p by omega]
      omega
  · split at h
    · rename_i hl
      rw [if_pos hl.1]
      have hd := hd hl.1
      split at h
      · cases h
      · rename_i p1 S1 h1
        obtain ⟨T1, sh1, ic1, cc1, dp1, br1⟩ := S1
        obtain ⟨a1, a2, a3, a4, a4', a5, a6, ⟨e, a7, a8⟩⟩ := hN hl.1 sh (by omega) h1
        split at h
        · rename_i h14
          cases h
          refine ⟨by omega, by omega, by omega, by omega, by omega, fun k z => ?_, fun z h1 h2 => ?_, ⟨e, a7, by omega⟩⟩
          · rcases a5 k z with g | g | g
            · rw [g]
              by_cases h1 : k = 36 ∧ z = q
              · exact .inr (.inl h1)
              · by_cases h2 : sh ≤ aw_ow k z
                · exact .inr (.inr h2)
                · refine .inl ?_
                  have h3 : k = 35 ∨ k = 37 ∨ k = 38 → aw_ow k z = z := by
                    intro g
                    unfold aw_ow
                    rw [if_neg (by omega), if_neg (by omega)]
                  unfold aw_nsT
                  rw [aw_up_ne (by omega), aw_up_ne (by omega), aw_up_ne (by omega), aw_up_ne (by omega)]
            · exact .inr (.inr (by omega))
            · exact .inr (.inr (by omega))
          · by_cases hz : z = p
            · rw [hz]
              omega
            · by_cases hz2 : z < p1
              · exact a6 z (by omega) hz2
              · rw [show z = p1 by omega]
                omega
        · cases h
    · cases h
theorem aw_Ppp_f {js : List Nat} {N : Nat → aw_S → Nat → aw_Res} {dpt c : Nat} {lv : Bool} (hN : lv = true → aw_NF js N c) (hd : lv = true → dpt ≤ 2) {s : Nat} {T : aw_T} {sh ic cc dp : Nat} {br : List Nat} {p p' : Nat} {T' : aw_T} {sh' ic' cc' dp' : Nat} {br' : List Nat} (hs : s < sh) (h : aw_Ppp js N dpt lv s (T, sh, ic, cc, dp, br) p = .inr (p', (T', sh', ic', cc', dp', br'))) : aw_FP js (fun k z => k = 36 ∧ (z = 2 * s ∨ z = 2 * s + 1)) (2 * (if lv = true then c + 1 else 0)) T sh dp br p p' T' sh' dp' br' := by
  unfold aw_Ppp at h
  split at h
  · cases h
  · rename_i p1 S1 h1
    obtain ⟨T1, sh1, ic1, cc1, dp1, br1⟩ := S1
    obtain ⟨a1, a2, a3, a4, a4', a5, a6, ⟨e, a7, a8⟩⟩ := aw_Ppt_f hN hd (by omega) h1
    split at h
    · rename_i h12
      obtain ⟨b1, b2, b3, b4, b4', b5, b6, ⟨e2, b7, b8⟩⟩ := aw_Ppt_f hN hd (by omega) h
      refine ⟨by omega, by omega, by omega, by omega, by omega, fun k z => ?_, fun z h1 h2 => ?_, ⟨e ++ e2, by rw [b7, a7, List.append_assoc], by rw [List.length_append]; omega⟩⟩
      · rcases b5 k z with g | g | g
        · rw [g]
          rcases a5 k z with g | g | g
          · exact .inl g
          · exact .inr (.inl ⟨g.1, .inl g.2⟩)
          · exact .inr (.inr g)
        · exact .inr (.inl ⟨g.1, .inr g.2⟩)
        · exact .inr (.inr (by omega))
      · by_cases hz : z < p1
        · exact a6 z h1 hz
        · by_cases hz2 : z = p1
          · rw [hz2]
            omega
          · exact b6 z (by omega) h2
    · cases h
theorem aw_Pfd_f {js : List Nat} {N : Nat → aw_S → Nat → aw_Res} {dpt c : Nat} {lv : Bool} (hN : lv = true → aw_NF js N c) (hd : lv = true → dpt ≤ 2) {s : Nat} {T : aw_T} {sh ic cc dp : Nat} {br : List Nat} {p p' : Nat} {T' : aw_T} {sh' ic' cc' dp' : Nat} {br' : List Nat} (hs : s < sh) (h : aw_Pfd js N dpt lv s (T, sh, ic, cc, dp, br) p = .inr (p', (T', sh', ic', cc', dp', br'))) : aw_FP js (fun k z => (k = 35 ∧ z = s) ∨ (k = 36 ∧ (z = 2 * s ∨ z = 2 * s + 1))) (2 * (if lv = true then c + 1 else 0)) T sh dp br p p' T' sh' dp' br' := by
  unfold aw_Pfd at h
  dsimp only at h
  have hup : ∀ (v : Int32) (k z : Nat), aw_up T 35 s v k z = T k z ∨ k = 35 ∧ z = s := by
    intro v k z
    by_cases h1 : k = 35 ∧ z = s
    · exact .inr h1
    · exact .inl (aw_up_ne (by omega))
  split at h
  · cases h
    refine ⟨by omega, by omega, by omega, Nat.le_refl _, by omega, fun k z => ?_, fun z h1 h2 => ?_, ⟨[], (List.append_nil _).symm, Nat.zero_le _⟩⟩
    · by_cases h1 : k = 36 ∧ (z = 2 * s ∨ z = 2 * s + 1)
      · exact .inr (.inl (.inr h1))
      · exact .inl ((aw_up_ne (by omega)).trans (aw_up_ne (by omega)))
    · rw [show z = p by omega]
      omega
  · split at h
    · obtain ⟨a1, a2, a3, a4, a4', a5, a6, ⟨e, a7, a8⟩⟩ := aw_Ppp_f hN hd hs h
      refine ⟨by omega, a2, a3, a4, a4', fun k z => ?_, fun z h1 h2 => ?_, ⟨e, a7, by omega⟩⟩
      · rcases a5 k z with g | g | g
        · rw [g]
          rcases hup 4 k z with u | u
          · exact .inl u
          · exact .inr (.inl (.inl u))
        · exact .inr (.inl (.inr g))
        · exact .inr (.inr g)
      · by_cases hz : z = p
        · rw [hz]
          omega
        · exact a6 z (by omega) h2
    · split at h
      · split at h
        · rename_i h2
          obtain ⟨a1, a2, a3, a4, a4', a5, a6, ⟨e, a7, a8⟩⟩ := aw_Ppp_f hN hd hs h
          refine ⟨by omega, a2, a3, a4, a4', fun k z => ?_, fun z h1 h2 => ?_, ⟨e, a7, by omega⟩⟩
          · rcases a5 k z with g | g | g
            · rw [g]
              rcases hup (aw_dv (aw_w js (p + 1))) k z with u | u
              · exact .inl u
              · exact .inr (.inl (.inl u))
            · exact .inr (.inl (.inr g))
            · exact .inr (.inr g)
          · by_cases hz : z = p
            · rw [hz]
              omega
            · by_cases hz2 : z = p + 1
              · rw [hz2]
                omega
              · exact a6 z (by omega) h2
        · cases h
      · cases h
theorem aw_Psb_f {js : List Nat} {N : Nat → aw_S → Nat → aw_Res} {dpt c : Nat} {lv : Bool} (hN : lv = true → aw_NF js N c) (hd : lv = true → dpt ≤ 2) {s : Nat} {T : aw_T} {sh ic cc dp : Nat} {br : List Nat} {p p' : Nat} {T' : aw_T} {sh' ic' cc' dp' : Nat} {br' : List Nat} (hs : s < sh) (h : aw_Psb js N dpt lv s (T, sh, ic, cc, dp, br) p = .inr (p', (T', sh', ic', cc', dp', br'))) : aw_FP js (fun k z => aw_ow k z = s) (2 * (if lv = true then c + 1 else 0)) T sh dp br p p' T' sh' dp' br' := by
  unfold aw_Psb at h
  split at h
  · cases h
  · rename_i p1 S1 h1
    obtain ⟨T1, sh1, ic1, cc1, dp1, br1⟩ := S1
    obtain ⟨a1, a2, a3, a4, a4', a5, a6, ⟨e, a7, a8⟩⟩ := aw_Pfd_f hN hd hs h1
    obtain ⟨b1, b2, b3, b4, b5, ⟨e2, b6, b7⟩, b8⟩ := aw_Pis_f 4 0 (by omega) h
    have o35 : ∀ k z, (k = 35 ∨ k = 38) → z = s → aw_ow k z = s := by
      intro k z g1 g2
      unfold aw_ow
      rw [if_neg (by omega), if_neg (by omega)]
      exact g2
    have o36 : ∀ k z, k = 36 → (z = 2 * s ∨ z = 2 * s + 1) → aw_ow k z = s := by
      intro k z g1 g2
      unfold aw_ow
      rw [if_pos g1]
      omega
    have o39 : ∀ k z, 39 ≤ k → 4 * s + 0 ≤ z → z < 4 * s + 4 → aw_ow k z = s := by
      intro k z g1 g2 g3
      unfold aw_ow
      rw [if_neg (by omega), if_pos g1]
      omega
    refine ⟨by omega, by omega, by omega, by omega, by omega, fun k z => ?_, fun z h1 h2 => ?_, ⟨e ++ e2, by rw [b6, a7, List.append_assoc], by rw [List.length_append]; omega⟩⟩
    · rcases b4 k z with g | g | g
      · rw [g]
        rcases a5 k z with g | g | g
        · exact .inl g
        · rcases g with g | g
          · exact .inr (.inl (o35 k z (.inl g.1) g.2))
          · exact .inr (.inl (o36 k z g.1 g.2))
        · exact .inr (.inr g)
      · exact .inr (.inl (o35 k z (.inr g.1) g.2))
      · exact .inr (.inl (o39 k z g.1 g.2.1 g.2.2))
    · by_cases hz : z < p1
      · exact a6 z h1 hz
      · exact b5 z (by omega) h2
theorem aw_Psh_f {js : List Nat} : ∀ l, l ≤ 2 → aw_NF js (fun s S p => aw_Psh js l s S p) (aw_cap l) := by
  intro l
  induction l with
  | zero =>
    intro _ s T sh ic cc dp br p p' T' sh' ic' cc' dp' br' hs h
    exact aw_Psb_f (c := 0) (fun q => by cases q) (fun q => by cases q) hs h
  | succ l ih =>
    intro hl s T sh ic cc dp br p p' T' sh' ic' cc' dp' br' hs h
    exact aw_Psb_f (c := aw_cap l) (fun _ => ih (by omega)) (fun _ => by omega) hs h
