/-! The calls of breaches, breach, count in the law. -/
theorem aw_get {w : Nat → am_C} {sp k : Nat} (h : aw_Shs w sp) (hk : k < 3) : ∃ (rs : List Value) (r : Nat) (to ma pi br bk co : List Int32), w 4 = .inr (5, rs) ∧ rs.length = 3 ∧ r < 4 ∧ rs[k]? = some (.ref (1005 + 4 * r)) ∧ aw_MC w to ma pi br bk co ∧ aw_Sh w r k to ma pi br bk co := by
  obtain ⟨r0, r1, r2, to, ma, pi, br, bk, co, h4, hp, hM, hT, h0, h1, h2⟩ := h
  rcases (by omega : k = 0 ∨ k = 1 ∨ k = 2) with rfl | rfl | rfl
  · exact ⟨_, r0, to, ma, pi, br, bk, co, h4, rfl, hp.1, rfl, hM, h0⟩
  · exact ⟨_, r1, to, ma, pi, br, bk, co, h4, rfl, hp.2.1, rfl, hM, h1⟩
  · exact ⟨_, r2, to, ma, pi, br, bk, co, h4, rfl, hp.2.2.1, rfl, hM, h2⟩
theorem aw_sh3 {v : Int32} (h : ¬ (v < 0 ∨ ¬ v < 3)) : ∃ k, k < 3 ∧ v = Int32.ofNat k := by
  obtain ⟨k, hkb, hk⟩ := aw_nat (fun q => h (Or.inl q))
  refine ⟨k, ?_, hk⟩
  rw [hk] at h
  exact (am_ltN (i := k) (n := 3) hkb (by decide)).mp (Decidable.not_not.mp (fun q => h (Or.inr q)))
theorem aw_gt2 {v : Int32} (h : v < 0 ∨ ¬ v < 3) : v < 0 ∨ 2 < v := by
  rcases h with h | h
  · exact Or.inl h
  · refine Or.inr ?_
    rw [Int32.lt_iff_toInt_lt] at h ⊢
    have e1 : (3 : Int32).toInt = 3 := rfl
    have e2 : (2 : Int32).toInt = 2 := rfl
    omega
theorem aw_sz1 {g : am_H} {x : Nat} (h : am_N x = 6) : am_sz (g ++ [.inl (x, [])]) ≤ am_sz g + 14000 := by
  rw [am_sz_push]
  show am_sz g + am_N x ≤ _
  omega
theorem aw_nz {n : Nat} (h1 : 1 ≤ n) (h2 : n ≤ 120) : ¬ Int32.ofNat n = 0 := fun q => by
  have := (am_eqN (i := n) (n := 0) (by omega) (by decide)).mp q
  omega
set_option maxRecDepth 100000 in
theorem aw_o7 : aw_Op 504 := by
  intro d i w g x5 x6 xs hI h0 hi hx
  obtain ⟨tl, pl, sp, ft, wd, wt, sn, h1, h21, hT, hP, hS, hC, u, hO⟩ := hI
  by_cases hs : xs.getD (i + 1) 0 < 0 ∨ ¬ xs.getD (i + 1) 0 < 3
  · refine ⟨am_pu w 21 (aw_c21 1 (Int32.ofNat tl) (Int32.ofNat pl) wd wt sn), g ++ [.inl (8, [])], some (.int 1), some (.int 0), ⟨tl, pl, sp, 1, wd, wt, sn, h1, rfl, hT, hP, aw_Shs_up (by omega) hS, hC, u, hO⟩, h0, by simp, aw_sz1 rfl, fun o h' K => ?_⟩
    exact aw_L7 d i x5 x6 h0 hi hx (aw_W76t8 (d + 38) h1 _ (aw_k77c (d + 36) h1 _ hs)) h0 h21 (aw_k138c (d + 38) h21 _ (aw_gt2 hs)) rfl (fun q => absurd q (by decide)) K
  · obtain ⟨k, hk, hke⟩ := aw_sh3 hs
    obtain ⟨rs, r, to, ma, pi, br, bk, co, h4, hl, hr, hrs, ⟨m1, m2, m3, m4, m5, m6, m7, m8, m9, m10, m11, m12⟩, wc, bc, sc, ic, cc, dp, rd, ws, pc, bw, ⟨t1, t2, t3, t4, t5, t6, t7⟩, hsh⟩ := aw_get hS hk
    rcases hsh with ⟨hd, hm⟩ | ⟨hd, js, b, j1, j2, j3, j4, j5, j6, b1, b2, b3, b4, q1, q2, q3, q4, q5⟩
    · refine ⟨am_pu w 21 (aw_c21 2 (Int32.ofNat tl) (Int32.ofNat pl) wd wt sn), g ++ [.inl (9, [])], some (.int 2), some (.int 0), ⟨tl, pl, sp, 2, wd, wt, sn, h1, rfl, hT, hP, aw_Shs_up (by omega) hS, hC, u, hO⟩, h0, by simp, aw_sz1 rfl, fun o h' K => ?_⟩
      exact aw_L7 d i x5 x6 h0 hi hx (aw_W76t9 (d + 38) h1 _ (by rw [hke]; exact aw_k77b (d + 36) h1 h4 hl hk hr hrs t1 hd)) h0 h21 (by rw [hke]; exact aw_k138b (d + 38) h21 m2 m8 hk hm) rfl (fun q => absurd q (by decide)) K
    · subst b2
      refine ⟨am_pu (am_pu w 44 (.inr (3, [.long (Int32.ofNat b).toInt64]))) 21 (aw_c21 0 (Int32.ofNat tl) (Int32.ofNat pl) wd wt sn), g, some (.int 0), some (.int (Int32.ofNat b)), ⟨tl, pl, sp, 0, wd, wt, sn, h1, rfl, hT, hP, aw_Shs_up (by omega) (aw_Shs_up (by omega) hS), hC, _, rfl⟩, h0, by omega, by omega, fun o h' K => ?_⟩
      exact aw_L7 d i x5 x6 h0 hi hx (aw_W76a (d + 38) h1 _ (by rw [hke]; exact aw_k77a (d + 36) h1 h4 hl hk hr hrs t1 hd) hO) h0 h21 (by rw [hke, ← b3]; exact aw_k138a (w := am_pu w 44 _) (d + 38) h21 m2 m8 hk (by rw [j4]; exact aw_nz j1 j2) m5 m11) rfl (fun _ => rfl) K
set_option maxRecDepth 100000 in
theorem aw_o8 : aw_Op 560 := by
  intro d i w g x5 x6 xs hI h0 hi hx
  obtain ⟨tl, pl, sp, ft, wd, wt, sn, h1, h21, hT, hP, hS, hC, u, hO⟩ := hI
  by_cases hs : xs.getD (i + 1) 0 < 0 ∨ ¬ xs.getD (i + 1) 0 < 3
  · refine ⟨am_pu w 21 (aw_c21 1 (Int32.ofNat tl) (Int32.ofNat pl) wd wt sn), g ++ [.inl (8, [])], some (.int 1), some (.int 0), ⟨tl, pl, sp, 1, wd, wt, sn, h1, rfl, hT, hP, aw_Shs_up (by omega) hS, hC, u, hO⟩, h0, by simp, aw_sz1 rfl, fun o h' K => ?_⟩
    exact aw_L8 d i x5 x6 h0 hi hx (aw_W78t8 (d + 38) h1 _ _ (aw_k79c (d + 36) h1 _ _ hs)) h0 h21 (aw_k139c (d + 38) h21 _ _ (aw_gt2 hs)) rfl (fun q => absurd q (by decide)) K
  · obtain ⟨k, hk, hke⟩ := aw_sh3 hs
    obtain ⟨rs, r, to, ma, pi, br, bk, co, h4, hl, hr, hrs, ⟨m1, m2, m3, m4, m5, m6, m7, m8, m9, m10, m11, m12⟩, wc, bc, sc, ic, cc, dp, rd, ws, pc, bw, ⟨t1, t2, t3, t4, t5, t6, t7⟩, hsh⟩ := aw_get hS hk
    rcases hsh with ⟨hd, hm⟩ | ⟨hd, js, b, j1, j2, j3, j4, j5, j6, b1, b2, b3, b4, q1, q2, q3, q4, q5⟩
    · refine ⟨am_pu w 21 (aw_c21 2 (Int32.ofNat tl) (Int32.ofNat pl) wd wt sn), g ++ [.inl (9, [])], some (.int 2), some (.int 0), ⟨tl, pl, sp, 2, wd, wt, sn, h1, rfl, hT, hP, aw_Shs_up (by omega) hS, hC, u, hO⟩, h0, by simp, aw_sz1 rfl, fun o h' K => ?_⟩
      exact aw_L8 d i x5 x6 h0 hi hx (aw_W78t9 (d + 38) h1 _ _ (by rw [hke]; exact aw_k79b (d + 36) h1 h4 hl hk hr hrs t1 hd _)) h0 h21 (by rw [hke]; exact aw_k139b (d + 38) h21 m2 m8 hk hm _) rfl (fun q => absurd q (by decide)) K
    · subst b2
      by_cases hv : xs.getD (i + 2) 0 < 0 ∨ Int32.ofNat b ≤ xs.getD (i + 2) 0
      · refine ⟨am_pu (am_pu w 44 (.inr (3, [.long (-1).toInt64]))) 21 (aw_c21 0 (Int32.ofNat tl) (Int32.ofNat pl) wd wt sn), g, some (.int 0), some (.int (-1)), ⟨tl, pl, sp, 0, wd, wt, sn, h1, rfl, hT, hP, aw_Shs_up (by omega) (aw_Shs_up (by omega) hS), hC, _, rfl⟩, h0, by omega, by omega, fun o h' K => ?_⟩
        exact aw_L8 d i x5 x6 h0 hi hx (aw_W78a (d + 38) h1 _ _ (by rw [hke]; exact aw_k79e (d + 36) h1 h4 hl hk hr hrs t1 hd _ hv) hO) h0 h21 (by rw [hke]; exact aw_k139e (w := am_pu w 44 _) (d + 38) h21 m2 m8 hk (by rw [j4]; exact aw_nz j1 j2) m5 m11 m4 m10 b3 b1 _ hv) rfl (fun _ => rfl) K
      · obtain ⟨q, hqb, hqe⟩ := aw_nat (fun z => hv (Or.inl z))
        have hq : q < b := by
          rw [hqe] at hv
          exact (am_ltN hqb (by omega)).mp (Int32.not_le.mp (fun z => hv (Or.inr z)))
        refine ⟨am_pu (am_pu w 44 (.inr (3, [.long (bw.getD q 0).toInt64]))) 21 (aw_c21 0 (Int32.ofNat tl) (Int32.ofNat pl) wd wt sn), g, some (.int 0), some (.int (bw.getD q 0)), ⟨tl, pl, sp, 0, wd, wt, sn, h1, rfl, hT, hP, aw_Shs_up (by omega) (aw_Shs_up (by omega) hS), hC, _, rfl⟩, h0, by omega, by omega, fun o h' K => ?_⟩
        exact aw_L8 d i x5 x6 h0 hi hx (aw_W78a (d + 38) h1 _ _ (by rw [hke, hqe]; exact aw_k79a (d + 36) h1 h4 hl hk hr hrs t1 t4 t7 hd q hq (by omega)) hO) h0 h21 (by rw [hke, hqe, b4 q hq]; exact aw_k139a (w := am_pu w 44 _) (d + 38) h21 m2 m8 hk (by rw [j4]; exact aw_nz j1 j2) m5 m11 m4 m10 b3 b1 q hq) rfl (fun _ => rfl) K
theorem aw_ge3 {v : Int32} (h : v < 0 ∨ ¬ v < 3) : v < 0 ∨ 3 ≤ v := h.elim Or.inl (fun q => Or.inr (Int32.not_lt.mp q))
set_option maxRecDepth 100000 in
theorem aw_o9 : aw_Op 628 := by
  intro d i w g x5 x6 xs hI h0 hi hx
  obtain ⟨tl, pl, sp, ft, wd, wt, sn, h1, h21, hT, hP, hS, hC, u, hO⟩ := hI
  by_cases hs : xs.getD (i + 1) 0 < 0 ∨ ¬ xs.getD (i + 1) 0 < 3
  · refine ⟨am_pu w 21 (aw_c21 1 (Int32.ofNat tl) (Int32.ofNat pl) wd wt sn), g ++ [.inl (8, [])], some (.int 1), some (.int 0), ⟨tl, pl, sp, 1, wd, wt, sn, h1, rfl, hT, hP, aw_Shs_up (by omega) hS, hC, u, hO⟩, h0, by simp, aw_sz1 rfl, fun o h' K => ?_⟩
    exact aw_L9 d i x5 x6 h0 hi hx (aw_W80t8 (d + 38) h1 _ _ (aw_k81c (d + 36) h1 _ _ hs)) h0 h21 (aw_k140c (d + 38) h21 _ _ (aw_ge3 hs)) rfl (fun q => absurd q (by decide)) K
  · obtain ⟨k, hk, hke⟩ := aw_sh3 hs
    obtain ⟨rs, r, to, ma, pi, br, bk, co, h4, hl, hr, hrs, ⟨m1, m2, m3, m4, m5, m6, m7, m8, m9, m10, m11, m12⟩, wc, bc, sc, ic, cc, dp, rd, ws, pc, bw, ⟨t1, t2, t3, t4, t5, t6, t7⟩, hsh⟩ := aw_get hS hk
    by_cases hv : xs.getD (i + 2) 0 < 0 ∨ ¬ xs.getD (i + 2) 0 ≤ 3
    · refine ⟨am_pu w 21 (aw_c21 2 (Int32.ofNat tl) (Int32.ofNat pl) wd wt sn), g ++ [.inl (10, [])], some (.int 2), some (.int 0), ⟨tl, pl, sp, 2, wd, wt, sn, h1, rfl, hT, hP, aw_Shs_up (by omega) hS, hC, u, hO⟩, h0, by simp, aw_sz1 rfl, fun o h' K => ?_⟩
      exact aw_L9 d i x5 x6 h0 hi hx (aw_W80t10 (d + 38) h1 _ _ (by rw [hke]; exact aw_k81d (d + 36) h1 hk _ hv)) h0 h21 (by rw [hke]; exact aw_k140d (d + 38) h21 hk _ hv) rfl (fun q => absurd q (by decide)) K
    · have h5 : ¬ xs.getD (i + 2) 0 < 0 := fun z => hv (Or.inl z)
      have h6 : xs.getD (i + 2) 0 ≤ 3 := Decidable.not_not.mp (fun z => hv (Or.inr z))
      rcases hsh with ⟨hd, hm⟩ | ⟨hd, js, b, j1, j2, j3, j4, j5, j6, b1, b2, b3, b4, q1, q2, q3, q4, q5⟩
      · refine ⟨am_pu w 21 (aw_c21 3 (Int32.ofNat tl) (Int32.ofNat pl) wd wt sn), g ++ [.inl (9, [])], some (.int 3), some (.int 0), ⟨tl, pl, sp, 3, wd, wt, sn, h1, rfl, hT, hP, aw_Shs_up (by omega) hS, hC, u, hO⟩, h0, by simp, aw_sz1 rfl, fun o h' K => ?_⟩
        exact aw_L9 d i x5 x6 h0 hi hx (aw_W80t9 (d + 38) h1 _ _ (by rw [hke]; exact aw_k81b (d + 36) h1 h4 hl hk hr hrs t1 hd _ h5 h6)) h0 h21 (by rw [hke]; exact aw_k140b (d + 38) h21 m2 m8 hk _ h5 h6 hm) rfl (fun q => absurd q (by decide)) K
      · obtain ⟨q, hqb, hqe⟩ := aw_nat h5
        have hq : q < 4 := by
          rw [hqe] at h6
          exact Nat.lt_succ_of_le ((am_leN (i := q) (n := 3) hqb (by decide)).mp h6)
        have hM := fun (v : Int32) => aw_k140a (w := am_pu w 44 (.inr (3, [.long v.toInt64]))) (g := g) (d + 38) h21 m2 m8 hk m6 m12 q hq (by rw [j4]; exact aw_nz j1 j2)
        rcases (by omega : q = 0 ∨ q = 1 ∨ q = 2 ∨ q = 3) with rfl | rfl | rfl | rfl
        · have hM := hM sc
          rw [show co.getD (4 * k + 0) 0 = sc from q1.symm] at hM
          refine ⟨am_pu (am_pu w 44 (.inr (3, [.long (sc).toInt64]))) 21 (aw_c21 0 (Int32.ofNat tl) (Int32.ofNat pl) wd wt sn), g, some (.int 0), some (.int (sc)), ⟨tl, pl, sp, 0, wd, wt, sn, h1, rfl, hT, hP, aw_Shs_up (by omega) (aw_Shs_up (by omega) hS), hC, _, rfl⟩, h0, by omega, by omega, fun o h' K => ?_⟩
          exact aw_L9 d i x5 x6 h0 hi hx (aw_W80a (d + 38) h1 _ _ (by rw [hke, hqe]; exact aw_k81a0 (d + 36) h1 h4 hl hk hr hrs t1 hd) hO) h0 h21 (by rw [hke, hqe]; exact hM) rfl (fun _ => rfl) K
        · have hM := hM ic
          rw [show co.getD (4 * k + 1) 0 = ic from q2.symm] at hM
          refine ⟨am_pu (am_pu w 44 (.inr (3, [.long (ic).toInt64]))) 21 (aw_c21 0 (Int32.ofNat tl) (Int32.ofNat pl) wd wt sn), g, some (.int 0), some (.int (ic)), ⟨tl, pl, sp, 0, wd, wt, sn, h1, rfl, hT, hP, aw_Shs_up (by omega) (aw_Shs_up (by omega) hS), hC, _, rfl⟩, h0, by omega, by omega, fun o h' K => ?_⟩
          exact aw_L9 d i x5 x6 h0 hi hx (aw_W80a (d + 38) h1 _ _ (by rw [hke, hqe]; exact aw_k81a1 (d + 36) h1 h4 hl hk hr hrs t1 hd) hO) h0 h21 (by rw [hke, hqe]; exact hM) rfl (fun _ => rfl) K
        · have hM := hM cc
          rw [show co.getD (4 * k + 2) 0 = cc from q3.symm] at hM
          refine ⟨am_pu (am_pu w 44 (.inr (3, [.long (cc).toInt64]))) 21 (aw_c21 0 (Int32.ofNat tl) (Int32.ofNat pl) wd wt sn), g, some (.int 0), some (.int (cc)), ⟨tl, pl, sp, 0, wd, wt, sn, h1, rfl, hT, hP, aw_Shs_up (by omega) (aw_Shs_up (by omega) hS), hC, _, rfl⟩, h0, by omega, by omega, fun o h' K => ?_⟩
          exact aw_L9 d i x5 x6 h0 hi hx (aw_W80a (d + 38) h1 _ _ (by rw [hke, hqe]; exact aw_k81a2 (d + 36) h1 h4 hl hk hr hrs t1 hd) hO) h0 h21 (by rw [hke, hqe]; exact hM) rfl (fun _ => rfl) K
        · have hM := hM dp
          rw [show co.getD (4 * k + 3) 0 = dp from q4.symm] at hM
          refine ⟨am_pu (am_pu w 44 (.inr (3, [.long (dp).toInt64]))) 21 (aw_c21 0 (Int32.ofNat tl) (Int32.ofNat pl) wd wt sn), g, some (.int 0), some (.int (dp)), ⟨tl, pl, sp, 0, wd, wt, sn, h1, rfl, hT, hP, aw_Shs_up (by omega) (aw_Shs_up (by omega) hS), hC, _, rfl⟩, h0, by omega, by omega, fun o h' K => ?_⟩
          exact aw_L9 d i x5 x6 h0 hi hx (aw_W80a (d + 38) h1 _ _ (by rw [hke, hqe]; exact aw_k81a3 (d + 36) h1 h4 hl hk hr hrs t1 hd) hO) h0 h21 (by rw [hke, hqe]; exact hM) rfl (fun _ => rfl) K
