/-! The calls of tell and turned in the law. -/
theorem aw_txt_chr {f : Nat → Nat} {js : List Nat} (hf : aw_how f) (hj : ∀ k j : Nat, js[k]? = some j → j < 37) : ∀ i, i ≤ js.length → ∀ c ∈ aw_txt f js i, aw_chr c := by
  intro i
  induction i with
  | zero => intro _ c hc; cases hc
  | succ i ih =>
    intro hi c hc
    have hg : js[i]? = some js[i] := List.getElem?_eq_getElem (by omega)
    have hd : js.getD i 0 = js[i] := by rw [List.getD_eq_getElem?_getD, hg]; rfl
    rw [aw_txt, hd] at hc
    rcases List.mem_append.mp hc with hc | hc
    · rcases List.mem_append.mp hc with hc | hc
      · exact ih (by omega) c hc
      · split at hc
        · cases hc
        · rw [List.mem_singleton] at hc
          subst hc
          exact ⟨by decide, by decide⟩
    · have h2 := (hf _ (hj i _ hg)).1
      obtain ⟨-, a, b, -⟩ := (aw_byA _ (by omega)).2 c hc
      exact ⟨a, b⟩
theorem aw_Pag_new {w : Nat → am_C} {T S U : List Int32} (h3 : w 3 = am_I 1 (T ++ S)) (h23 : w 23 = am_I 0 (T ++ U)) (l1 : (T ++ S).length = 480) (l2 : (T ++ U).length = 400) (hT : T.length ≤ 400) (hc : ∀ c ∈ T, aw_chr c) : aw_Pag w T.length := by
  refine ⟨_, _, h3, h23, l1, l2, hT, fun i hi => ?_⟩
  rw [List.getD_eq_getElem?_getD, List.getD_eq_getElem?_getD, List.getElem?_append_left hi, List.getElem?_append_left hi]
  refine ⟨rfl, ?_⟩
  rw [List.getElem?_eq_getElem hi]
  exact hc _ (List.getElem_mem hi)
set_option maxRecDepth 100000 in
theorem aw_o11 : aw_Op 771 := by
  intro d i w g x5 x6 xs hI h0 hi hx
  obtain ⟨tl, pl, sp, ft, wd, wt, sn, h1, h21, hT, hP, hS, hC, u, hO⟩ := hI
  by_cases hs : xs.getD (i + 1) 0 < 0 ∨ ¬ xs.getD (i + 1) 0 < 3
  · refine ⟨am_pu w 21 (aw_c21 1 (Int32.ofNat tl) (Int32.ofNat pl) wd wt sn), g ++ [.inl (8, [])], some (.int 1), some (.int 0), ⟨tl, pl, sp, 1, wd, wt, sn, h1, rfl, hT, hP, aw_Shs_up (by omega) hS, hC, u, hO⟩, h0, by simp, aw_sz1 rfl, fun o h' K => ?_⟩
    exact aw_L11 d i x5 x6 h0 hi hx (aw_W85t8 (d + 38) h1 _ (aw_k86c (d + 36) h1 _ hs)) h0 h21 (aw_k142c (d + 36) h21 _ (aw_gt2 hs)) rfl (fun q => absurd q (by decide)) K
  · obtain ⟨k, hk, hke⟩ := aw_sh3 hs
    obtain ⟨rs, r, to, ma, pi, br, bk, co, h4, hl, hr, hrs, ⟨m1, m2, m3, m4, m5, m6, m7, m8, m9, m10, m11, m12⟩, wc, bc, sc, ic, cc, dp, rd, ws, pc, bw, ⟨t1, t2, t3, t4, t5, t6, t7⟩, hsh⟩ := aw_get hS hk
    rcases hsh with ⟨hd, hm⟩ | ⟨hd, js, b, j1, j2, j3, j4, j5, j6, b1, b2, b3, b4, q1, q2, q3, q4, q5⟩
    · refine ⟨am_pu w 21 (aw_c21 2 (Int32.ofNat tl) (Int32.ofNat pl) wd wt sn), g ++ [.inl (9, [])], some (.int 2), some (.int 0), ⟨tl, pl, sp, 2, wd, wt, sn, h1, rfl, hT, hP, aw_Shs_up (by omega) hS, hC, u, hO⟩, h0, by simp, aw_sz1 rfl, fun o h' K => ?_⟩
      exact aw_L11 d i x5 x6 h0 hi hx (aw_W85t9 (d + 38) h1 _ (by rw [hke]; exact aw_k86b (d + 36) h1 h4 hl hk hr hrs t1 hd)) h0 h21 (by rw [hke]; exact aw_k142b (d + 36) h21 m2 m8 hk hm) rfl (fun q => absurd q (by decide)) K
    · subst j3
      obtain ⟨pg, mp, h3, h23, l3, l23, hpl, -⟩ := id hP
      have h37 : ∀ z a : Nat, js[z]? = some a → a < 37 := fun z a hz => (j5 z a hz).1
      have hT4 := aw_txt_400 aw_how0 h37 q5 (i := js.length) (Nat.le_refl _)
      have hA := aw_k86a (g := g) (d + 33) h1 h4 hl hk hr hrs t1 t2 t5 ⟨j2, fun z a hz => ⟨(j5 z a hz).1, (j5 z a hz).2.1⟩⟩ l3 q5 h3 hd
      have hB := aw_k142a (w := (am_pu (aw_pg w tl sp (aw_txt (fun j => j) js js.length) (pg.drop (aw_txt (fun j => j) js js.length).length)) 44 (.inr (3, [.long (Int32.ofNat (aw_txt (fun j => j) js js.length).length).toInt64])))) (g := g) (d + 36) h21 m2 m8 m1 m7 hC.1 hC.2.1 hk j4 j2 (fun z a hz => ⟨(j5 z a hz).1, (j5 z a hz).2.2⟩) l23 q5 h23 (by rw [j4]; exact aw_nz j1 j2)
      refine ⟨(aw_mg (am_pu (aw_pg w tl sp (aw_txt (fun j => j) js js.length) (pg.drop (aw_txt (fun j => j) js js.length).length)) 44 (.inr (3, [.long (Int32.ofNat (aw_txt (fun j => j) js js.length).length).toInt64]))) 0 (Int32.ofNat tl) wd wt sn (aw_txt (fun j => j) js js.length) (mp.drop (aw_txt (fun j => j) js js.length).length)), g, some (.int 0), some (.int (Int32.ofNat (aw_txt (fun j => j) js js.length).length)), ⟨tl, (aw_txt (fun j => j) js js.length).length, sp, 0, wd, wt, sn, rfl, rfl, hT, aw_Pag_new rfl rfl (by rw [List.length_append, List.length_drop]; omega) (by rw [List.length_append, List.length_drop]; omega) hT4 (aw_txt_chr aw_how0 h37 js.length (Nat.le_refl _)), aw_Shs_up (by omega) (aw_Shs_up (by omega) (aw_Shs_up (by omega) (aw_Shs_up (by omega) (aw_Shs_up (by omega) hS)))), hC, _, rfl⟩, h0, by omega, by omega, fun o h' K => ?_⟩
      exact aw_L11 d i x5 x6 h0 hi hx (aw_W85a (w1 := aw_pg w tl sp (aw_txt (fun j => j) js js.length) (pg.drop (aw_txt (fun j => j) js js.length).length)) (d + 38) h1 _ (by rw [hke]; exact hA) hO) h0 h21 (by rw [hke]; exact hB) rfl (fun _ => rfl) K
set_option maxRecDepth 100000 in
theorem aw_o12 : aw_Op 827 := by
  intro d i w g x5 x6 xs hI h0 hi hx
  obtain ⟨tl, pl, sp, ft, wd, wt, sn, h1, h21, hT, hP, hS, hC, u, hO⟩ := hI
  by_cases hs : xs.getD (i + 1) 0 < 0 ∨ ¬ xs.getD (i + 1) 0 < 3
  · refine ⟨am_pu w 21 (aw_c21 1 (Int32.ofNat tl) (Int32.ofNat pl) wd wt sn), g ++ [.inl (8, [])], some (.int 1), some (.int 0), ⟨tl, pl, sp, 1, wd, wt, sn, h1, rfl, hT, hP, aw_Shs_up (by omega) hS, hC, u, hO⟩, h0, by simp, aw_sz1 rfl, fun o h' K => ?_⟩
    exact aw_L12 d i x5 x6 h0 hi hx (aw_W91t8 (d + 38) h1 _ (aw_k92c (d + 36) h1 _ hs)) h0 h21 (aw_k147c (d + 36) h21 _ (aw_gt2 hs)) rfl (fun q => absurd q (by decide)) K
  · obtain ⟨k, hk, hke⟩ := aw_sh3 hs
    obtain ⟨rs, r, to, ma, pi, br, bk, co, h4, hl, hr, hrs, ⟨m1, m2, m3, m4, m5, m6, m7, m8, m9, m10, m11, m12⟩, wc, bc, sc, ic, cc, dp, rd, ws, pc, bw, ⟨t1, t2, t3, t4, t5, t6, t7⟩, hsh⟩ := aw_get hS hk
    rcases hsh with ⟨hd, hm⟩ | ⟨hd, js, b, j1, j2, j3, j4, j5, j6, b1, b2, b3, b4, q1, q2, q3, q4, q5⟩
    · refine ⟨am_pu w 21 (aw_c21 2 (Int32.ofNat tl) (Int32.ofNat pl) wd wt sn), g ++ [.inl (9, [])], some (.int 2), some (.int 0), ⟨tl, pl, sp, 2, wd, wt, sn, h1, rfl, hT, hP, aw_Shs_up (by omega) hS, hC, u, hO⟩, h0, by simp, aw_sz1 rfl, fun o h' K => ?_⟩
      exact aw_L12 d i x5 x6 h0 hi hx (aw_W91t9 (d + 38) h1 _ (by rw [hke]; exact aw_k92b (d + 36) h1 h4 hl hk hr hrs t1 hd)) h0 h21 (by rw [hke]; exact aw_k147b (d + 36) h21 m2 m8 hk hm) rfl (fun q => absurd q (by decide)) K
    · subst j3
      obtain ⟨pg, mp, h3, h23, l3, l23, hpl, -⟩ := id hP
      have h37 : ∀ z a : Nat, js[z]? = some a → a < 37 := fun z a hz => (j5 z a hz).1
      have hT4 := aw_txt_400 aw_how1 h37 q5 (i := js.length) (Nat.le_refl _)
      have hA := aw_k92a (g := g) (d + 33) h1 h4 hl hk hr hrs t1 t2 t5 ⟨j2, fun z a hz => ⟨(j5 z a hz).1, (j5 z a hz).2.1⟩⟩ l3 q5 h3 hd
      have hB := aw_k147a (w := (am_pu (aw_pg w tl sp (aw_txt aw_tn js js.length) (pg.drop (aw_txt aw_tn js js.length).length)) 44 (.inr (3, [.long (Int32.ofNat (aw_txt aw_tn js js.length).length).toInt64])))) (g := g) (d + 36) h21 m2 m8 m1 m7 hC.1 hC.2.1 hk j4 j2 (fun z a hz => ⟨(j5 z a hz).1, (j5 z a hz).2.2⟩) l23 q5 h23 (by rw [j4]; exact aw_nz j1 j2)
      refine ⟨(aw_mg (am_pu (aw_pg w tl sp (aw_txt aw_tn js js.length) (pg.drop (aw_txt aw_tn js js.length).length)) 44 (.inr (3, [.long (Int32.ofNat (aw_txt aw_tn js js.length).length).toInt64]))) 0 (Int32.ofNat tl) wd wt sn (aw_txt aw_tn js js.length) (mp.drop (aw_txt aw_tn js js.length).length)), g, some (.int 0), some (.int (Int32.ofNat (aw_txt aw_tn js js.length).length)), ⟨tl, (aw_txt aw_tn js js.length).length, sp, 0, wd, wt, sn, rfl, rfl, hT, aw_Pag_new rfl rfl (by rw [List.length_append, List.length_drop]; omega) (by rw [List.length_append, List.length_drop]; omega) hT4 (aw_txt_chr aw_how1 h37 js.length (Nat.le_refl _)), aw_Shs_up (by omega) (aw_Shs_up (by omega) (aw_Shs_up (by omega) (aw_Shs_up (by omega) (aw_Shs_up (by omega) hS)))), hC, _, rfl⟩, h0, by omega, by omega, fun o h' K => ?_⟩
      exact aw_L12 d i x5 x6 h0 hi hx (aw_W91a (w1 := aw_pg w tl sp (aw_txt aw_tn js js.length) (pg.drop (aw_txt aw_tn js js.length).length)) (d + 38) h1 _ (by rw [hke]; exact hA) hO) h0 h21 (by rw [hke]; exact hB) rfl (fun _ => rfl) K
