/-! The call of read in the law. -/
theorem aw_rows_of {w : Nat → am_C} (h : aw_Con w) : aw_rows w := by
  obtain ⟨-, -, -, h33, h34, h35, h36, h37, h38, h39, h40, h41, h42, h43⟩ := h
  intro k k1 k2
  rcases (by omega : k = 33 ∨ k = 34 ∨ k = 35 ∨ k = 36 ∨ k = 37 ∨ k = 38 ∨ k = 39 ∨ k = 40 ∨ k = 41 ∨ k = 42 ∨ k = 43) with q | q | q | q | q | q | q | q | q | q | q <;> subst q
  · exact h33
  · exact h34
  · exact h35
  · exact h36
  · exact h37
  · exact h38
  · exact h39
  · exact h40
  · exact h41
  · exact h42
  · exact h43
theorem aw_Con_mt {w0 : Nat → am_C} {ft wr wd : Int32} {n sh : Nat} {T : aw_T} (h24 : w0 24 = .inr (3, aw_n1.map Value.long)) (h25 : w0 25 = .inr (3, aw_n2.map Value.long)) {l : List Int32} (h32 : w0 32 = am_I 0 l) (hl : l.length = 120) : aw_Con (aw_mt w0 ft wr wd n sh T) := by
  have r : ∀ k m, 33 ≤ k → k ≤ 43 → aw_sz k = m → aw_row (aw_mt w0 ft wr wd n sh T) k m := fun k m k1 k2 e => ⟨_, aw_mtk k1 k2, by rw [aw_lT_len]; exact e⟩
  exact ⟨(aw_mt_other (by decide) (by decide)).trans h24, (aw_mt_other (by decide) (by decide)).trans h25, ⟨l, (aw_mt_other (by decide) (by decide)).trans h32, hl⟩, r 33 _ (by decide) (by decide) rfl, r 34 _ (by decide) (by decide) rfl, r 35 _ (by decide) (by decide) rfl, r 36 _ (by decide) (by decide) rfl, r 37 _ (by decide) (by decide) rfl, r 38 _ (by decide) (by decide) rfl, r 39 _ (by decide) (by decide) rfl, r 40 _ (by decide) (by decide) rfl, r 41 _ (by decide) (by decide) rfl, r 42 _ (by decide) (by decide) rfl, r 43 _ (by decide) (by decide) rfl⟩
theorem aw_TC_of {w w' : Nat → am_C} {r : Nat} {wc bc sc ic cc dp rd : Int32} {ws : List Value} {pc bw : List Int32} (h : ∀ k, 5 + 4 * r ≤ k → k ≤ 8 + 4 * r → w' k = w k) (hT : aw_TC w r wc bc sc ic cc dp rd ws pc bw) : aw_TC w' r wc bc sc ic cc dp rd ws pc bw := by
  obtain ⟨a, b, c, d, e⟩ := hT
  exact ⟨by rw [h _ (by omega) (by omega)]; exact a, by rw [h _ (by omega) (by omega)]; exact b, by rw [h _ (by omega) (by omega)]; exact c, by rw [h _ (by omega) (by omega)]; exact d, e⟩
/-- what is kept of shield s is the same -/
def aw_kp (s : Nat) (to ma pi br bk co to' ma' pi' br' bk' co' : List Int32) : Prop := ma'.getD s 0 = ma.getD s 0 ∧ bk'.getD s 0 = bk.getD s 0 ∧ (∀ k, k < 120 → to'.getD (120 * s + k) 0 = to.getD (120 * s + k) 0) ∧ (∀ k, k < 576 → pi'.getD (576 * s + k) 0 = pi.getD (576 * s + k) 0) ∧ (∀ k, k < 40 → br'.getD (40 * s + k) 0 = br.getD (40 * s + k) 0) ∧ (∀ k, k < 4 → co'.getD (4 * s + k) 0 = co.getD (4 * s + k) 0)
theorem aw_Sh_of {w w' : Nat → am_C} {r s : Nat} {to ma pi br bk co to' ma' pi' br' bk' co' : List Int32} (h : ∀ k, 5 + 4 * r ≤ k → k ≤ 8 + 4 * r → w' k = w k) (hk : aw_kp s to ma pi br bk co to' ma' pi' br' bk' co') (hS : aw_Sh w r s to ma pi br bk co) : aw_Sh w' r s to' ma' pi' br' bk' co' := by
  obtain ⟨wc, bc, sc, ic, cc, dp, rd, ws, pc, bw, hT, hR⟩ := hS
  obtain ⟨e1, e2, e3, e4, e5, e6⟩ := hk
  refine ⟨wc, bc, sc, ic, cc, dp, rd, ws, pc, bw, aw_TC_of h hT, ?_⟩
  rcases hR with ⟨a, b⟩ | ⟨a, js, b, j1, j2, j3, j4, j5, j6, b1, b2, b3, b4, q1, q2, q3, q4, q5⟩
  · exact .inl ⟨a, by rw [e1]; exact b⟩
  · refine .inr ⟨a, js, b, j1, j2, j3, by rw [e1]; exact j4, fun k j hkj => ?_, fun k hk => ?_, b1, b2, by rw [e2]; exact b3, fun k hk => ?_, ?_, ?_, ?_, ?_, q5⟩
    · have := (List.getElem?_eq_some_iff.mp hkj).1
      rw [e3 k (by omega)]
      exact j5 k j hkj
    · rw [e4 k hk]
      exact j6 k hk
    · rw [e5 k (by omega)]
      exact b4 k hk
    · have := e6 0 (by decide)
      rw [Nat.add_zero] at this
      rw [this]
      exact q1
    · rw [e6 1 (by decide)]
      exact q2
    · rw [e6 2 (by decide)]
      exact q3
    · rw [e6 3 (by decide)]
      exact q4
theorem aw_kp_refl (s : Nat) (to ma pi br bk co : List Int32) : aw_kp s to ma pi br bk co to ma pi br bk co := ⟨rfl, rfl, fun _ _ => rfl, fun _ _ => rfl, fun _ _ => rfl, fun _ _ => rfl⟩
/-- where nothing of the shields changed but the spare one -/
theorem aw_Shs_f {w w' : Nat → am_C} {sp : Nat} (h4 : w' 4 = w 4) (hM : ∀ k, 26 ≤ k → k ≤ 31 → w' k = w k) (hT : ∀ k, 5 ≤ k → k ≤ 20 → (k < 5 + 4 * sp ∨ 8 + 4 * sp < k) → w' k = w k) (hTok : aw_Tok w' sp) (h : aw_Shs w sp) : aw_Shs w' sp := by
  obtain ⟨r0, r1, r2, to, ma, pi, br, bk, co, e4, hp, ⟨m1, m2, m3, m4, m5, m6, m7⟩, -, h0, h1, h2⟩ := h
  refine ⟨r0, r1, r2, to, ma, pi, br, bk, co, h4.trans e4, hp, ⟨(hM 26 (by decide) (by decide)).trans m1, (hM 27 (by decide) (by decide)).trans m2, (hM 28 (by decide) (by decide)).trans m3, (hM 29 (by decide) (by decide)).trans m4, (hM 30 (by decide) (by decide)).trans m5, (hM 31 (by decide) (by decide)).trans m6, m7⟩, hTok, ?_, ?_, ?_⟩
  · exact aw_Sh_of (fun k k1 k2 => hT k (by omega) (by omega) (by omega)) (aw_kp_refl ..) h0
  · exact aw_Sh_of (fun k k1 k2 => hT k (by omega) (by omega) (by omega)) (aw_kp_refl ..) h1
  · exact aw_Sh_of (fun k k1 k2 => hT k (by omega) (by omega) (by omega)) (aw_kp_refl ..) h2
theorem aw_refinj {a b : Nat} (h : (Value.ref a : Value) = .ref b) : a = b := by
  cases h
  rfl
/-- where the spare one and shield sd changed places -/
theorem aw_Shs_s {w w' : Nat → am_C} {sp sd r : Nat} {rs : List Value} {to' ma' pi' br' bk' co' : List Int32} (hsd : sd < 3) (e4 : w 4 = .inr (5, rs)) (hr : rs[sd]? = some (.ref (1005 + 4 * r))) (h4 : w' 4 = .inr (5, rs.set sd (.ref (1005 + 4 * sp)))) (hM : aw_MC w' to' ma' pi' br' bk' co') (hT : ∀ k, 5 ≤ k → k ≤ 20 → (k < 5 + 4 * sp ∨ 8 + 4 * sp < k) → w' k = w k) (hS : aw_Sh w' sp sd to' ma' pi' br' bk' co') (hk : ∀ {to ma pi br bk co : List Int32}, aw_MC w to ma pi br bk co → ∀ s, s < 3 → s ≠ sd → aw_kp s to ma pi br bk co to' ma' pi' br' bk' co') (h : aw_Shs w sp) : aw_Shs w' r := by
  obtain ⟨r0, r1, r2, to, ma, pi, br, bk, co, z4, hp, hM0, hTk, h0, h1, h2⟩ := h
  have ers : rs = [.ref (1005 + 4 * r0), .ref (1005 + 4 * r1), .ref (1005 + 4 * r2)] := by
    rw [e4] at z4
    exact (Prod.mk.inj (Sum.inr.inj z4)).2
  subst ers
  have tok : ∀ {x s : Nat}, x < 4 → x ≠ sp → aw_Sh w x s to ma pi br bk co → aw_Tok w' x := by
    intro x s hx hne hs
    obtain ⟨wc, bc, sc, ic, cc, dp, rd, ws, pc, bw, hh, -⟩ := hs
    exact ⟨wc, bc, sc, ic, cc, dp, rd, ws, pc, bw, aw_TC_of (fun k k1 k2 => hT k (by omega) (by omega) (by omega)) hh⟩
  have keep : ∀ {x s : Nat}, x < 4 → x ≠ sp → s < 3 → s ≠ sd → aw_Sh w x s to ma pi br bk co → aw_Sh w' x s to' ma' pi' br' bk' co' := fun hx hne hs1 hs2 hs => aw_Sh_of (fun k k1 k2 => hT k (by omega) (by omega) (by omega)) (hk hM0 _ hs1 hs2) hs
  have inj : ∀ x, some (Value.ref (1005 + 4 * x)) = some (.ref (1005 + 4 * r)) → r = x := by
    intro x e
    have h8 : (Value.ref (1005 + 4 * x) : Value) = .ref (1005 + 4 * r) := Option.some.inj e
    have h9 : (1005 + 4 * x : Nat) = 1005 + 4 * r := aw_refinj h8
    omega
  rcases (by omega : sd = 0 ∨ sd = 1 ∨ sd = 2) with q | q | q <;> subst q
  · have e := inj r0 hr
    subst e
    exact ⟨sp, r1, r2, to', ma', pi', br', bk', co', h4, by omega, hM, tok (by omega) (by omega) h0, hS, keep (by omega) (by omega) (by omega) (by omega) h1, keep (by omega) (by omega) (by omega) (by omega) h2⟩
  · have e := inj r1 hr
    subst e
    exact ⟨r0, sp, r2, to', ma', pi', br', bk', co', h4, by omega, hM, tok (by omega) (by omega) h1, keep (by omega) (by omega) (by omega) (by omega) h0, hS, keep (by omega) (by omega) (by omega) (by omega) h2⟩
  · have e := inj r2 hr
    subst e
    exact ⟨r0, r1, sp, to', ma', pi', br', bk', co', h4, by omega, hM, tok (by omega) (by omega) h2, keep (by omega) (by omega) (by omega) (by omega) h0, keep (by omega) (by omega) (by omega) (by omega) h1, hS⟩
/-- what a reading without a fault says of its words -/
theorem aw_P_words {js : List Nat} {T U : aw_T} {sh ic cc dp : Nat} {br : List Nat} (h : aw_P js T = .inr (U, sh, ic, cc, dp, br)) : 1 ≤ js.length ∧ (∀ k j : Nat, js[k]? = some j → j < 37) ∧ 3 * br.length ≤ js.length := by
  unfold aw_P at h
  split at h
  · cases h
  · rename_i p1 S1 h1
    split at h
    · rename_i hl
      cases h
      obtain ⟨a1, a2, a3, a4, a4', a5, a6, ⟨e, a7, a8⟩⟩ := aw_Psh_f 2 (by decide) 0 (by decide) h1
      refine ⟨by omega, fun k j hkj => ?_, ?_⟩
      · have hk := (List.getElem?_eq_some_iff.mp hkj).1
        have := a6 k (by omega) (by omega)
        rw [aw_w_at hk] at hkj
        cases hkj
        exact this
      · rw [a7, List.nil_append]
        omega
    · cases h
