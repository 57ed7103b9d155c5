/-! read: the law's last call. -/
theorem aw_pl0_get (T : aw_T) {k : Nat} (hk : k < 576) : (aw_pl0 T 576).getD k 0 = aw_px T k := by
  unfold aw_pl0
  rw [List.getD_eq_getElem?_getD, List.getElem?_map, List.getElem?_range hk]
  rfl
theorem aw_bw_get {bs : List Nat} {BS : List Int32} {k : Nat} (hk : k < bs.length) : (bs.map Int32.ofNat ++ BS).getD k 0 = Int32.ofNat (bs.getD k 0) := by
  rw [List.getD_eq_getElem?_getD, List.getElem?_append_left (by rw [List.length_map]; exact hk), List.getElem?_map, List.getD_eq_getElem?_getD, List.getElem?_eq_getElem hk]
  rfl
theorem aw_co4 {co : List Int32} {sd : Nat} {a b c e : Int32} (hl : co.length = 12) (hsd : sd < 3) (z : Nat) : ((((co.set (4 * sd) a).set (4 * sd + 1) b).set (4 * sd + 2) c).set (4 * sd + 3) e).getD z 0 = if z = 4 * sd + 3 then e else if z = 4 * sd + 2 then c else if z = 4 * sd + 1 then b else if z = 4 * sd then a else co.getD z 0 := by
  rw [aw_gset (by simp only [List.length_set]; omega), aw_gset (by simp only [List.length_set]; omega), aw_gset (by simp only [List.length_set]; omega), aw_gset (by omega)]
set_option maxRecDepth 100000 in
theorem aw_o2 : aw_Op 152 := by
  intro d i w g x5 x6 xs hI h0 hi hx
  obtain ⟨tl, pl, sp, ft, wd, wt, sn, h1, h21, hT, hP, hS, hC, u, hO⟩ := hI
  by_cases hs : xs.getD (i + 1) 0 < 0 ∨ ¬ xs.getD (i + 1) 0 < 3
  · refine ⟨am_pu w 21 (aw_c21 1 (Int32.ofNat tl) (Int32.ofNat pl) wd wt sn), g ++ [.inl (8, [])], some (.int 1), some (.int 0), ⟨tl, pl, sp, 1, wd, wt, sn, h1, rfl, hT, hP, aw_Shs_up (by omega) hS, hC, u, hO⟩, h0, by simp, aw_sz1 rfl, fun o h' K => ?_⟩
    exact aw_L2 d i x5 x6 h0 hi hx (aw_W7t8 (d + 38) h1 _ (aw_k8c (d + 37) h1 _ hs)) h0 h21 (aw_k98c (d + 38) h21 _ (aw_gt2 hs)) rfl (fun q => absurd q (by decide)) K
  · obtain ⟨sd, hsd, hke⟩ := aw_sh3 hs
    obtain ⟨tx, mt, h2, h22, hl2, hl22, htl, heq⟩ := id hT
    have hS0 := hS
    obtain ⟨r0, r1, r2, to, ma, pi, br, bk, co, h4, hperm, hM, ⟨wc, bc, sc, ic, cc, dp, rd, ws, pc, bw, t1, t2, t3, t4, t5, t6, t7⟩, -, -, -⟩ := hS
    have hsp : sp < 4 := by omega
    obtain ⟨r, hr4, hrsp, hrs⟩ : ∃ r, r < 4 ∧ r ≠ sp ∧ ([.ref (1005 + 4 * r0), .ref (1005 + 4 * r1), .ref (1005 + 4 * r2)] : List Value)[sd]? = some (.ref (1005 + 4 * r)) := by
      rcases (by omega : sd = 0 ∨ sd = 1 ∨ sd = 2) with q | q | q <;> subst q
      · exact ⟨r0, by omega, by omega, rfl⟩
      · exact ⟨r1, by omega, by omega, rfl⟩
      · exact ⟨r2, by omega, by omega, rfl⟩
    generalize ers : ([.ref (1005 + 4 * r0), .ref (1005 + 4 * r1), .ref (1005 + 4 * r2)] : List Value) = rs at h4 hrs
    have hrs3 : rs.length = 3 := by
      rw [← ers]
      rfl
    obtain ⟨wl, hW, hwl⟩ := hC.2.2.1
    have htk := aw_tok_len (tx := tx) (tl := tl) tl 0
    have h38 := aw_w38 htk.2
    have hpg := (aw_pgl_tok (tx := tx) (tl := tl) tl 0 (Nat.zero_le _)).1
    have hwz : (aw_tok tx tl tl 0).length + (ws.drop (aw_tok tx tl tl 0).length).length = 120 := by
      rw [List.length_drop]
      omega
    have h5c : (am_pu (aw_sw w sp bc sc ic cc dp rd (aw_tok tx tl tl 0) (ws.drop (aw_tok tx tl tl 0).length)) 1 (aw_c1 0 pl sp)) (5 + 4 * sp) = aw_cT sp (Int32.ofNat (aw_tok tx tl tl 0).length) bc sc ic cc dp rd := (am_pu_ne (by omega)).trans aw_sw5
    have h6c : (am_pu (aw_sw w sp bc sc ic cc dp rd (aw_tok tx tl tl 0) (ws.drop (aw_tok tx tl tl 0).length)) 1 (aw_c1 0 pl sp)) (6 + 4 * sp) = .inr (4, (aw_tok tx tl tl 0).map Value.ref ++ ws.drop (aw_tok tx tl tl 0).length) := (am_pu_ne (by omega)).trans aw_sw6
    have h8c : (am_pu (aw_sw w sp bc sc ic cc dp rd (aw_tok tx tl tl 0) (ws.drop (aw_tok tx tl tl 0).length)) 1 (aw_c1 0 pl sp)) (8 + 4 * sp) = am_I 0 bw := (am_pu_ne (by omega)).trans ((aw_sw_other (by omega) (by omega)).trans t4)
    have h7c : (am_pu (aw_sw w sp bc sc ic cc dp rd (aw_tok tx tl tl 0) (ws.drop (aw_tok tx tl tl 0).length)) 1 (aw_c1 0 pl sp)) (7 + 4 * sp) = am_I 0 pc := (am_pu_ne (by omega)).trans ((aw_sw_other (by omega) (by omega)).trans t3)
    have h1c : (am_pu (aw_sw w sp bc sc ic cc dp rd (aw_tok tx tl tl 0) (ws.drop (aw_tok tx tl tl 0).length)) 1 (aw_c1 0 pl sp)) 1 = aw_c1 0 pl sp := am_pu_eq _ _ _
    have hoc : ∀ k, k ≠ 1 → (k < 5 + 4 * sp ∨ 6 + 4 * sp < k) → (am_pu (aw_sw w sp bc sc ic cc dp rd (aw_tok tx tl tl 0) (ws.drop (aw_tok tx tl tl 0).length)) 1 (aw_c1 0 pl sp)) k = w k := fun k k1 k2 => (am_pu_ne k1).trans (aw_sw_other (by omega) (by omega))
    have hcw := aw_c_whole (g := g ++ [aw_cR sp 0]) (d + 20) hsp h6c hwz h38 h5c h8c t7 (aw_ap_at rfl) (aw_Tr w)
    have hsz0 : am_sz (g ++ [aw_cR sp 0]) = am_sz g + 2 := am_sz_push _ _
    have hln0 : (g ++ [aw_cR sp 0]).length = g.length + 1 := by
      rw [List.length_append, List.length_singleton]
    have k8f := fun (w3 : Nat → am_C) (g1 : am_H) (q : Nat) hr1 hrw => aw_k8f (w3 := w3) (g1 := g1) (q := q) (g := g) (d + 20) hsd h1 h2 hl2 htl hsp t1 t2 t5 hr1 hrw
    have k8s := fun (w3 w4 : Nat → am_C) (g1 : am_H) (a : Nat) (b4 s4 i4 c4 p4 d4 : Int32) e1 e2 e3 e4 e5 hrw hpt => aw_k8s (w3 := w3) (w4 := w4) (g1 := g1) (a := a) (r := r) (rs := rs) (nn := Int32.ofNat (aw_tok tx tl tl 0).length) (b4 := b4) (s4 := s4) (i4 := i4) (c4 := c4) (p4 := p4) (d4 := d4) (g := g) (d + 20) hsd h1 h2 hl2 htl hsp t1 t2 t5 e1 e2 e3 e4 e5 hrs3 hrs hrw hpt
    generalize hwc : am_pu (aw_sw w sp bc sc ic cc dp rd (aw_tok tx tl tl 0) (ws.drop (aw_tok tx tl tl 0).length)) 1 (aw_c1 0 pl sp) = wz at *
    have heq' : ∀ j, j < tl → mt.getD j 0 = tx.getD j 0 := fun j hj => ((heq j hj).1).symm
    cases hPP : aw_P (aw_tok tx tl tl 0) (aw_Tr w) with
    | inl q =>
      rw [hPP] at hcw
      obtain ⟨g1, sh1, ic1, cc1, dp1, br1, BS1, c1, c2, c3, c4, c5, c6⟩ := hcw
      have c8 := k8f _ g1 q c2 c1
      generalize hw3 : aw_rw wz sp (aw_tok tx tl tl 0).length rd sh1 ic1 cc1 dp1 br1 BS1 = w3 at c8
      have o3 : ∀ k, k ≠ 1 → (k < 5 + 4 * sp ∨ 8 + 4 * sp < k) → w3 k = w k := by
        intro k k1 k2
        rw [← hw3, aw_rw_other (by omega) (by omega) (hoc k k1 (by omega))]
      have oA : ∀ k, k ≠ 1 → k ≠ 44 → (k < 5 + 4 * sp ∨ 8 + 4 * sp < k) → am_pu w3 44 (.inr (3, [.long (-1 - Int32.ofNat q : Int32).toInt64])) k = w k := fun k k1 k2 k3 => (am_pu_ne k2).trans (o3 k k1 k3)
      have hMA : aw_MC (am_pu w3 44 (.inr (3, [.long (-1 - Int32.ofNat q : Int32).toInt64]))) to ma pi br bk co := by
        obtain ⟨m1, m2, m3, m4, m5, m6, m7⟩ := hM
        exact ⟨(oA 26 (by decide) (by decide) (by omega)).trans m1, (oA 27 (by decide) (by decide) (by omega)).trans m2, (oA 28 (by decide) (by decide) (by omega)).trans m3, (oA 29 (by decide) (by decide) (by omega)).trans m4, (oA 30 (by decide) (by decide) (by omega)).trans m5, (oA 31 (by decide) (by decide) (by omega)).trans m6, m7⟩
      have hrowA : aw_rows (am_pu w3 44 (.inr (3, [.long (-1 - Int32.ofNat q : Int32).toInt64]))) := by
        intro k k1 k2
        rw [oA k (by omega) (by omega) (by omega)]
        exact aw_rows_of hC k k1 k2
      have href := aw_k98 (w := am_pu w3 44 (.inr (3, [.long (-1 - Int32.ofNat q : Int32).toInt64]))) (g := g1) (d + 33) ((oA 21 (by decide) (by decide) (by omega)).trans h21) ((oA 24 (by decide) (by decide) (by omega)).trans hC.1) ((oA 25 (by decide) (by decide) (by omega)).trans hC.2.1) ((oA 22 (by decide) (by decide) (by omega)).trans h22) hl22 htl heq' ((oA 32 (by decide) (by decide) (by omega)).trans hW) hwl hrowA hsd hMA rfl (T0 := aw_Tr w) (aw_Tr_congr (fun k k1 k2 => oA k (by omega) (by omega) (by omega))).symm
      rw [hPP] at href
      obtain ⟨n', sh', T', href⟩ := href c6
      have omw : ∀ k, k ≠ 21 → k ≠ 32 → aw_mw (am_pu (am_pu w3 44 (.inr (3, [.long (-1 - Int32.ofNat q : Int32).toInt64]))) 21 (aw_c21 0 (Int32.ofNat tl) (Int32.ofNat pl) wd wt sn)) 0 0 (Int32.ofNat pl) wt sn (aw_tok tx tl tl 0) (wl.drop (aw_tok tx tl tl 0).length) k = am_pu w3 44 (.inr (3, [.long (-1 - Int32.ofNat q : Int32).toInt64])) k := fun k k1 k2 => aw_mw_other k1 k2 (am_pu_ne k1)
      have m24 := (omw 24 (by decide) (by decide)).trans ((oA 24 (by decide) (by decide) (by omega)).trans hC.1)
      have m25 := (omw 25 (by decide) (by decide)).trans ((oA 25 (by decide) (by decide) (by omega)).trans hC.2.1)
      have m32 : aw_mw (am_pu (am_pu w3 44 (.inr (3, [.long (-1 - Int32.ofNat q : Int32).toInt64]))) 21 (aw_c21 0 (Int32.ofNat tl) (Int32.ofNat pl) wd wt sn)) 0 0 (Int32.ofNat pl) wt sn (aw_tok tx tl tl 0) (wl.drop (aw_tok tx tl tl 0).length) 32 = am_I 0 ((aw_tok tx tl tl 0).map aw_tau ++ wl.drop (aw_tok tx tl tl 0).length) := aw_mw32
      generalize hw5 : aw_mw (am_pu (am_pu w3 44 (.inr (3, [.long (-1 - Int32.ofNat q : Int32).toInt64]))) 21 (aw_c21 0 (Int32.ofNat tl) (Int32.ofNat pl) wd wt sn)) 0 0 (Int32.ofNat pl) wt sn (aw_tok tx tl tl 0) (wl.drop (aw_tok tx tl tl 0).length) = w5 at href omw m24 m25 m32
      have o5 : ∀ k, k ≠ 1 → k ≠ 44 → k ≠ 21 → k ≠ 32 → (k < 33 ∨ 43 < k) → (k < 5 + 4 * sp ∨ 8 + 4 * sp < k) → aw_mt w5 0 (Int32.ofNat pl) (Int32.ofNat (aw_tok tx tl tl 0).length) n' sh' T' k = w k := fun k k1 k2 k3 k4 k5 k6 => (aw_mt_other k3 k5).trans ((omw k k3 k4).trans (oA k k1 k2 k6))
      have o6 : ∀ k, k ≠ 44 → k ≠ 21 → k ≠ 32 → (k < 33 ∨ 43 < k) → aw_mt w5 0 (Int32.ofNat pl) (Int32.ofNat (aw_tok tx tl tl 0).length) n' sh' T' k = w3 k := fun k k2 k3 k4 k5 => (aw_mt_other k3 k5).trans ((omw k k3 k4).trans (am_pu_ne k2))
      have hTok : aw_Tok (aw_mt w5 0 (Int32.ofNat pl) (Int32.ofNat (aw_tok tx tl tl 0).length) n' sh' T') sp := by
        refine ⟨_, _, _, _, _, _, _, _, _, _, (o6 _ (by omega) (by omega) (by omega) (by omega)).trans (by rw [← hw3]; exact aw_rw5), (o6 _ (by omega) (by omega) (by omega) (by omega)).trans (by rw [← hw3]; exact aw_rw_other (by omega) (by omega) h6c), (o6 _ (by omega) (by omega) (by omega) (by omega)).trans (by rw [← hw3]; exact aw_rw_other (by omega) (by omega) h7c), (o6 _ (by omega) (by omega) (by omega) (by omega)).trans (by rw [← hw3]; exact aw_rw8), ?_, t6, ?_⟩
        · rw [List.length_append, List.length_map]
          exact hwz
        · rw [List.length_append, List.length_map]
          exact c3
      refine ⟨aw_mt w5 0 (Int32.ofNat pl) (Int32.ofNat (aw_tok tx tl tl 0).length) n' sh' T', g1, some (.int 0), some (.int (-1 - Int32.ofNat q)), ⟨0, pl, sp, 0, Int32.ofNat (aw_tok tx tl tl 0).length, Int32.ofNat n', Int32.ofNat sh', ?_, aw_mt21 (w := w5), ?_, ?_, ?_, ?_, (-1 - Int32.ofNat q : Int32).toInt64, ?_⟩, ?_, by omega, by omega, fun o h' K => ?_⟩
      · exact (o6 1 (by decide) (by decide) (by decide) (by decide)).trans (by rw [← hw3]; exact aw_rw_other (by omega) (by omega) h1c)
      · exact ⟨tx, mt, (o5 2 (by decide) (by decide) (by decide) (by decide) (by decide) (by omega)).trans h2, (o5 22 (by decide) (by decide) (by decide) (by decide) (by decide) (by omega)).trans h22, hl2, hl22, by omega, fun j hj => absurd hj (Nat.not_lt_zero j)⟩
      · obtain ⟨pg, mp, p1, p2, p3⟩ := hP
        exact ⟨pg, mp, (o5 3 (by decide) (by decide) (by decide) (by decide) (by decide) (by omega)).trans p1, (o5 23 (by decide) (by decide) (by decide) (by decide) (by decide) (by omega)).trans p2, p3⟩
      · exact aw_Shs_f (o5 4 (by decide) (by decide) (by decide) (by decide) (by decide) (by omega)) (fun k k1 k2 => o5 k (by omega) (by omega) (by omega) (by omega) (by omega) (by omega)) (fun k k1 k2 k3 => o5 k (by omega) (by omega) (by omega) (by omega) (by omega) k3) hTok hS0
      · exact aw_Con_mt m24 m25 m32 (by rw [List.length_append, List.length_map, List.length_drop]; omega)
      · exact (aw_mt_other (by decide) (by decide)).trans ((omw 44 (by decide) (by decide)).trans (am_pu_eq _ _ _))
      · exact (o5 0 (by decide) (by decide) (by decide) (by decide) (by decide) (by omega)).trans h0
      · refine aw_L2 d i x5 x6 h0 hi hx (aw_W7a (w1 := w3) (d + 38) h1 _ (by rw [hke]; exact c8) ((o3 44 (by decide) (by omega)).trans hO)) ((oA 0 (by decide) (by decide) (by omega)).trans h0) ((oA 21 (by decide) (by decide) (by omega)).trans h21) (by rw [hke]; exact href) aw_mt21 (fun _ => (aw_mt_other (by decide) (by decide)).trans ((omw 44 (by decide) (by decide)).trans (am_pu_eq _ _ _))) K
    | inr S =>
      obtain ⟨U, sh, icn, ccn, dpn, bs⟩ := S
      rw [hPP] at hcw
      obtain ⟨g1, BS1, a, c1, c3, c4, c5, hR⟩ := hcw
      obtain ⟨w1, w2, w9⟩ := aw_P_words hPP
      have h5r : aw_rw wz sp (aw_tok tx tl tl 0).length rd sh icn ccn dpn bs BS1 (5 + 4 * sp) = aw_cT sp (Int32.ofNat (aw_tok tx tl tl 0).length) (Int32.ofNat bs.length) (Int32.ofNat sh) (Int32.ofNat icn) (Int32.ofNat ccn) (Int32.ofNat dpn) rd := aw_rw5
      have hpt := aw_k48 (d + 25) hsp h5r hR (aw_rw_other (by omega) (by omega) h7c) t6
      have c8 := k8s (aw_rw wz sp (aw_tok tx tl tl 0).length rd sh icn ccn dpn bs BS1) _ g1 a _ _ _ _ _ _ (aw_rw_other (by omega) (by omega) h1c) h5r ((am_pu_ne (by omega)).trans (aw_rw_other (by omega) (by omega) h1c)) ((am_pu_ne (by omega)).trans h5r) ((am_pu_ne (by omega)).trans (aw_rw_other (by omega) (by omega) ((hoc 4 (by decide) (by omega)).trans h4))) c1 hpt
      have z1 : am_pu (am_pu (am_pu (am_pu (aw_rw wz sp (aw_tok tx tl tl 0).length rd sh icn ccn dpn bs BS1) (7 + 4 * sp) (am_I 0 (aw_pl0 U 576))) (5 + 4 * sp) (aw_cT sp (Int32.ofNat (aw_tok tx tl tl 0).length) (Int32.ofNat bs.length) (Int32.ofNat sh) (Int32.ofNat icn) (Int32.ofNat ccn) (Int32.ofNat dpn) 1)) 4 (.inr (5, rs.set sd (.ref (1005 + 4 * sp))))) 1 (aw_c1 0 pl r) 1 = aw_c1 0 pl r := am_pu_eq _ _ _
      have z4 : am_pu (am_pu (am_pu (am_pu (aw_rw wz sp (aw_tok tx tl tl 0).length rd sh icn ccn dpn bs BS1) (7 + 4 * sp) (am_I 0 (aw_pl0 U 576))) (5 + 4 * sp) (aw_cT sp (Int32.ofNat (aw_tok tx tl tl 0).length) (Int32.ofNat bs.length) (Int32.ofNat sh) (Int32.ofNat icn) (Int32.ofNat ccn) (Int32.ofNat dpn) 1)) 4 (.inr (5, rs.set sd (.ref (1005 + 4 * sp))))) 1 (aw_c1 0 pl r) 4 = .inr (5, rs.set sd (.ref (1005 + 4 * sp))) := (am_pu_ne (by decide)).trans (am_pu_eq _ _ _)
      have z5 : am_pu (am_pu (am_pu (am_pu (aw_rw wz sp (aw_tok tx tl tl 0).length rd sh icn ccn dpn bs BS1) (7 + 4 * sp) (am_I 0 (aw_pl0 U 576))) (5 + 4 * sp) (aw_cT sp (Int32.ofNat (aw_tok tx tl tl 0).length) (Int32.ofNat bs.length) (Int32.ofNat sh) (Int32.ofNat icn) (Int32.ofNat ccn) (Int32.ofNat dpn) 1)) 4 (.inr (5, rs.set sd (.ref (1005 + 4 * sp))))) 1 (aw_c1 0 pl r) (5 + 4 * sp) = aw_cT sp (Int32.ofNat (aw_tok tx tl tl 0).length) (Int32.ofNat bs.length) (Int32.ofNat sh) (Int32.ofNat icn) (Int32.ofNat ccn) (Int32.ofNat dpn) 1 := (am_pu_ne (by omega)).trans ((am_pu_ne (by omega)).trans (am_pu_eq _ _ _))
      have z6 : am_pu (am_pu (am_pu (am_pu (aw_rw wz sp (aw_tok tx tl tl 0).length rd sh icn ccn dpn bs BS1) (7 + 4 * sp) (am_I 0 (aw_pl0 U 576))) (5 + 4 * sp) (aw_cT sp (Int32.ofNat (aw_tok tx tl tl 0).length) (Int32.ofNat bs.length) (Int32.ofNat sh) (Int32.ofNat icn) (Int32.ofNat ccn) (Int32.ofNat dpn) 1)) 4 (.inr (5, rs.set sd (.ref (1005 + 4 * sp))))) 1 (aw_c1 0 pl r) (6 + 4 * sp) = .inr (4, (aw_tok tx tl tl 0).map Value.ref ++ ws.drop (aw_tok tx tl tl 0).length) := (am_pu_ne (by omega)).trans ((am_pu_ne (by omega)).trans ((am_pu_ne (by omega)).trans ((am_pu_ne (by omega)).trans (aw_rw_other (by omega) (by omega) h6c))))
      have z7 : am_pu (am_pu (am_pu (am_pu (aw_rw wz sp (aw_tok tx tl tl 0).length rd sh icn ccn dpn bs BS1) (7 + 4 * sp) (am_I 0 (aw_pl0 U 576))) (5 + 4 * sp) (aw_cT sp (Int32.ofNat (aw_tok tx tl tl 0).length) (Int32.ofNat bs.length) (Int32.ofNat sh) (Int32.ofNat icn) (Int32.ofNat ccn) (Int32.ofNat dpn) 1)) 4 (.inr (5, rs.set sd (.ref (1005 + 4 * sp))))) 1 (aw_c1 0 pl r) (7 + 4 * sp) = am_I 0 (aw_pl0 U 576) := (am_pu_ne (by omega)).trans ((am_pu_ne (by omega)).trans ((am_pu_ne (by omega)).trans (am_pu_eq _ _ _)))
      have z8 : am_pu (am_pu (am_pu (am_pu (aw_rw wz sp (aw_tok tx tl tl 0).length rd sh icn ccn dpn bs BS1) (7 + 4 * sp) (am_I 0 (aw_pl0 U 576))) (5 + 4 * sp) (aw_cT sp (Int32.ofNat (aw_tok tx tl tl 0).length) (Int32.ofNat bs.length) (Int32.ofNat sh) (Int32.ofNat icn) (Int32.ofNat ccn) (Int32.ofNat dpn) 1)) 4 (.inr (5, rs.set sd (.ref (1005 + 4 * sp))))) 1 (aw_c1 0 pl r) (8 + 4 * sp) = am_I 0 (bs.map Int32.ofNat ++ BS1) := (am_pu_ne (by omega)).trans ((am_pu_ne (by omega)).trans ((am_pu_ne (by omega)).trans ((am_pu_ne (by omega)).trans aw_rw8)))
      have o3 : ∀ k, k ≠ 1 → k ≠ 4 → (k < 5 + 4 * sp ∨ 8 + 4 * sp < k) → am_pu (am_pu (am_pu (am_pu (aw_rw wz sp (aw_tok tx tl tl 0).length rd sh icn ccn dpn bs BS1) (7 + 4 * sp) (am_I 0 (aw_pl0 U 576))) (5 + 4 * sp) (aw_cT sp (Int32.ofNat (aw_tok tx tl tl 0).length) (Int32.ofNat bs.length) (Int32.ofNat sh) (Int32.ofNat icn) (Int32.ofNat ccn) (Int32.ofNat dpn) 1)) 4 (.inr (5, rs.set sd (.ref (1005 + 4 * sp))))) 1 (aw_c1 0 pl r) k = w k := fun k k1 k2 k3 => (am_pu_ne k1).trans ((am_pu_ne k2).trans ((am_pu_ne (by omega)).trans ((am_pu_ne (by omega)).trans (aw_rw_other (by omega) (by omega) (hoc k k1 (by omega))))))
      generalize hw3 : am_pu (am_pu (am_pu (am_pu (aw_rw wz sp (aw_tok tx tl tl 0).length rd sh icn ccn dpn bs BS1) (7 + 4 * sp) (am_I 0 (aw_pl0 U 576))) (5 + 4 * sp) (aw_cT sp (Int32.ofNat (aw_tok tx tl tl 0).length) (Int32.ofNat bs.length) (Int32.ofNat sh) (Int32.ofNat icn) (Int32.ofNat ccn) (Int32.ofNat dpn) 1)) 4 (.inr (5, rs.set sd (.ref (1005 + 4 * sp))))) 1 (aw_c1 0 pl r) = w3 at c8 z1 z4 z5 z6 z7 z8 o3
      have oA : ∀ k, k ≠ 1 → k ≠ 4 → k ≠ 44 → (k < 5 + 4 * sp ∨ 8 + 4 * sp < k) → am_pu w3 44 (.inr (3, [.long (Int32.ofNat (aw_tok tx tl tl 0).length).toInt64])) k = w k := fun k k1 k2 k3 k4 => (am_pu_ne k3).trans (o3 k k1 k2 k4)
      have hM0 := hM
      obtain ⟨m1, m2, m3, m4, m5, m6, m7, m8, m9, m10, m11, m12⟩ := hM
      have hMA : aw_MC (am_pu w3 44 (.inr (3, [.long (Int32.ofNat (aw_tok tx tl tl 0).length).toInt64]))) to ma pi br bk co := ⟨(oA 26 (by decide) (by decide) (by decide) (by omega)).trans m1, (oA 27 (by decide) (by decide) (by decide) (by omega)).trans m2, (oA 28 (by decide) (by decide) (by decide) (by omega)).trans m3, (oA 29 (by decide) (by decide) (by decide) (by omega)).trans m4, (oA 30 (by decide) (by decide) (by decide) (by omega)).trans m5, (oA 31 (by decide) (by decide) (by decide) (by omega)).trans m6, m7, m8, m9, m10, m11, m12⟩
      have hrowA : aw_rows (am_pu w3 44 (.inr (3, [.long (Int32.ofNat (aw_tok tx tl tl 0).length).toInt64]))) := by
        intro k k1 k2
        rw [oA k (by omega) (by omega) (by omega) (by omega)]
        exact aw_rows_of hC k k1 k2
      have href := aw_k98 (w := am_pu w3 44 (.inr (3, [.long (Int32.ofNat (aw_tok tx tl tl 0).length).toInt64]))) (g := g1) (d + 33) ((oA 21 (by decide) (by decide) (by decide) (by omega)).trans h21) ((oA 24 (by decide) (by decide) (by decide) (by omega)).trans hC.1) ((oA 25 (by decide) (by decide) (by decide) (by omega)).trans hC.2.1) ((oA 22 (by decide) (by decide) (by decide) (by omega)).trans h22) hl22 htl heq' ((oA 32 (by decide) (by decide) (by decide) (by omega)).trans hW) hwl hrowA hsd hMA rfl (T0 := aw_Tr w) (aw_Tr_congr (fun k k1 k2 => oA k (by omega) (by omega) (by omega) (by omega))).symm
      rw [hPP] at href
      obtain ⟨n', T', BR', BK', hjb, href⟩ := href ⟨g1, _, _, a, hR⟩
      have omw : ∀ k, k ≠ 21 → k ≠ 32 → aw_mw (am_pu (am_pu w3 44 (.inr (3, [.long (Int32.ofNat (aw_tok tx tl tl 0).length).toInt64]))) 21 (aw_c21 0 (Int32.ofNat tl) (Int32.ofNat pl) wd wt sn)) 0 0 (Int32.ofNat pl) wt sn (aw_tok tx tl tl 0) (wl.drop (aw_tok tx tl tl 0).length) k = am_pu w3 44 (.inr (3, [.long (Int32.ofNat (aw_tok tx tl tl 0).length).toInt64])) k := fun k k1 k2 => aw_mw_other k1 k2 (am_pu_ne k1)
      have m32 : aw_mw (am_pu (am_pu w3 44 (.inr (3, [.long (Int32.ofNat (aw_tok tx tl tl 0).length).toInt64]))) 21 (aw_c21 0 (Int32.ofNat tl) (Int32.ofNat pl) wd wt sn)) 0 0 (Int32.ofNat pl) wt sn (aw_tok tx tl tl 0) (wl.drop (aw_tok tx tl tl 0).length) 32 = am_I 0 ((aw_tok tx tl tl 0).map aw_tau ++ wl.drop (aw_tok tx tl tl 0).length) := aw_mw32
      generalize hw5 : aw_mw (am_pu (am_pu w3 44 (.inr (3, [.long (Int32.ofNat (aw_tok tx tl tl 0).length).toInt64]))) 21 (aw_c21 0 (Int32.ofNat tl) (Int32.ofNat pl) wd wt sn)) 0 0 (Int32.ofNat pl) wt sn (aw_tok tx tl tl 0) (wl.drop (aw_tok tx tl tl 0).length) = w5 at href omw m32
      have oj : ∀ k, k ≠ 26 → k ≠ 27 → k ≠ 28 → k ≠ 29 → k ≠ 30 → k ≠ 31 → aw_jw (am_pu (am_pu (am_pu (am_pu w5 27 (am_I 0 (ma.set sd (Int32.ofNat (aw_tok tx tl tl 0).length)))) 26 (am_I 0 (aw_ps to (120 * sd) (fun z => aw_tau (aw_w (aw_tok tx tl tl 0) z)) (aw_tok tx tl tl 0).length))) 28 (am_I 0 (aw_ps pi (576 * sd) (aw_px U) 576))) 31 (am_I 0 ((((co.set (4 * sd) (Int32.ofNat sh)).set (4 * sd + 1) (Int32.ofNat icn)).set (4 * sd + 2) (Int32.ofNat ccn)).set (4 * sd + 3) (Int32.ofNat dpn)))) BR' BK' k = w5 k := fun k k1 k2 k3 k4 k5 k6 => (aw_jw_other k4 k5).trans ((am_pu_ne k6).trans ((am_pu_ne k3).trans ((am_pu_ne k1).trans (am_pu_ne k2))))
      have hMj : aw_MC (aw_mt (aw_jw (am_pu (am_pu (am_pu (am_pu w5 27 (am_I 0 (ma.set sd (Int32.ofNat (aw_tok tx tl tl 0).length)))) 26 (am_I 0 (aw_ps to (120 * sd) (fun z => aw_tau (aw_w (aw_tok tx tl tl 0) z)) (aw_tok tx tl tl 0).length))) 28 (am_I 0 (aw_ps pi (576 * sd) (aw_px U) 576))) 31 (am_I 0 ((((co.set (4 * sd) (Int32.ofNat sh)).set (4 * sd + 1) (Int32.ofNat icn)).set (4 * sd + 2) (Int32.ofNat ccn)).set (4 * sd + 3) (Int32.ofNat dpn)))) BR' BK') 0 (Int32.ofNat pl) (Int32.ofNat (aw_tok tx tl tl 0).length) n' sh T') (aw_ps to (120 * sd) (fun z => aw_tau (aw_w (aw_tok tx tl tl 0) z)) (aw_tok tx tl tl 0).length) (ma.set sd (Int32.ofNat (aw_tok tx tl tl 0).length)) (aw_ps pi (576 * sd) (aw_px U) 576) BR' BK' ((((co.set (4 * sd) (Int32.ofNat sh)).set (4 * sd + 1) (Int32.ofNat icn)).set (4 * sd + 2) (Int32.ofNat ccn)).set (4 * sd + 3) (Int32.ofNat dpn)) := ⟨rfl, rfl, rfl, rfl, rfl, rfl, by rw [aw_ps_len]; exact m7, by rw [List.length_set]; exact m8, by rw [aw_ps_len]; exact m9, hjb.1, hjb.2.1, by simp only [List.length_set]; exact m12⟩
      generalize hwj : aw_jw (am_pu (am_pu (am_pu (am_pu w5 27 (am_I 0 (ma.set sd (Int32.ofNat (aw_tok tx tl tl 0).length)))) 26 (am_I 0 (aw_ps to (120 * sd) (fun z => aw_tau (aw_w (aw_tok tx tl tl 0) z)) (aw_tok tx tl tl 0).length))) 28 (am_I 0 (aw_ps pi (576 * sd) (aw_px U) 576))) 31 (am_I 0 ((((co.set (4 * sd) (Int32.ofNat sh)).set (4 * sd + 1) (Int32.ofNat icn)).set (4 * sd + 2) (Int32.ofNat ccn)).set (4 * sd + 3) (Int32.ofNat dpn)))) BR' BK' = wj at href oj hMj
      have o6 : ∀ k, k ≠ 44 → k ≠ 21 → (k < 26 ∨ 43 < k) → aw_mt wj 0 (Int32.ofNat pl) (Int32.ofNat (aw_tok tx tl tl 0).length) n' sh T' k = w3 k := fun k k2 k3 k5 => (aw_mt_other k3 (by omega)).trans ((oj k (by omega) (by omega) (by omega) (by omega) (by omega) (by omega)).trans ((omw k k3 (by omega)).trans (am_pu_ne k2)))
      have o5 : ∀ k, k ≠ 1 → k ≠ 4 → k ≠ 44 → k ≠ 21 → (k < 26 ∨ 43 < k) → (k < 5 + 4 * sp ∨ 8 + 4 * sp < k) → aw_mt wj 0 (Int32.ofNat pl) (Int32.ofNat (aw_tok tx tl tl 0).length) n' sh T' k = w k := fun k k1 k4 k2 k3 k5 k6 => (o6 k k2 k3 k5).trans (o3 k k1 k4 k6)
      have m44 : aw_mt wj 0 (Int32.ofNat pl) (Int32.ofNat (aw_tok tx tl tl 0).length) n' sh T' 44 = .inr (3, [.long (Int32.ofNat (aw_tok tx tl tl 0).length).toInt64]) := (aw_mt_other (by decide) (by decide)).trans ((oj 44 (by decide) (by decide) (by decide) (by decide) (by decide) (by decide)).trans ((omw 44 (by decide) (by decide)).trans (am_pu_eq _ _ _)))
      have hlen : (aw_tok tx tl tl 0).length ≤ 120 := by omega
      have hSh : aw_Sh (aw_mt wj 0 (Int32.ofNat pl) (Int32.ofNat (aw_tok tx tl tl 0).length) n' sh T') sp sd (aw_ps to (120 * sd) (fun z => aw_tau (aw_w (aw_tok tx tl tl 0) z)) (aw_tok tx tl tl 0).length) (ma.set sd (Int32.ofNat (aw_tok tx tl tl 0).length)) (aw_ps pi (576 * sd) (aw_px U) 576) BR' BK' ((((co.set (4 * sd) (Int32.ofNat sh)).set (4 * sd + 1) (Int32.ofNat icn)).set (4 * sd + 2) (Int32.ofNat ccn)).set (4 * sd + 3) (Int32.ofNat dpn)) := by
        refine ⟨_, _, _, _, _, _, _, _, _, _, ⟨(o6 _ (by omega) (by omega) (by omega)).trans z5, (o6 _ (by omega) (by omega) (by omega)).trans z6, (o6 _ (by omega) (by omega) (by omega)).trans z7, (o6 _ (by omega) (by omega) (by omega)).trans z8, ?_, ?_, ?_⟩, .inr ⟨rfl, aw_tok tx tl tl 0, bs.length, w1, hlen, rfl, ?_, fun k j hkj => ?_, fun k hk => ?_, by omega, rfl, hjb.2.2.1, fun k hk => ?_, ?_, ?_, ?_, ?_, by omega⟩⟩
        · rw [List.length_append, List.length_map]
          exact hwz
        · exact aw_pl0_len _ _
        · rw [List.length_append, List.length_map]
          exact c3
        · rw [aw_gset (by omega), if_pos rfl]
        · have hk := (List.getElem?_eq_some_iff.mp hkj).1
          have hwk : aw_w (aw_tok tx tl tl 0) k = j := by
            rw [aw_w_at hk] at hkj
            exact Option.some.inj hkj
          refine ⟨w2 k j hkj, ?_, ?_⟩
          · rw [aw_wref hk, hwk]
          · rw [aw_ps_get _ _ _ _ _ (by omega), if_pos (by omega), Nat.add_sub_cancel_left, hwk]
        · rw [aw_pl0_get U hk, aw_ps_get _ _ _ _ _ (by omega), if_pos (by omega), Nat.add_sub_cancel_left]
        · rw [aw_bw_get hk, hjb.2.2.2.1 k hk]
        · rw [aw_co4 m12 hsd, if_neg (by omega), if_neg (by omega), if_neg (by omega), if_pos rfl]
        · rw [aw_co4 m12 hsd, if_neg (by omega), if_neg (by omega), if_pos rfl]
        · rw [aw_co4 m12 hsd, if_neg (by omega), if_pos rfl]
        · rw [aw_co4 m12 hsd, if_pos rfl]
      have hkp : ∀ {to1 ma1 pi1 br1 bk1 co1 : List Int32}, aw_MC w to1 ma1 pi1 br1 bk1 co1 → ∀ s, s < 3 → s ≠ sd → aw_kp s to1 ma1 pi1 br1 bk1 co1 (aw_ps to (120 * sd) (fun z => aw_tau (aw_w (aw_tok tx tl tl 0) z)) (aw_tok tx tl tl 0).length) (ma.set sd (Int32.ofNat (aw_tok tx tl tl 0).length)) (aw_ps pi (576 * sd) (aw_px U) 576) BR' BK' ((((co.set (4 * sd) (Int32.ofNat sh)).set (4 * sd + 1) (Int32.ofNat icn)).set (4 * sd + 2) (Int32.ofNat ccn)).set (4 * sd + 3) (Int32.ofNat dpn)) := by
        intro to1 ma1 pi1 br1 bk1 co1 hM1 s hs3 hne
        obtain ⟨n1, n2, n3, n4, n5, n6, -⟩ := hM1
        have i1 : to1 = to := aw_Iinj (n1.symm.trans m1)
        have i2 : ma1 = ma := aw_Iinj (n2.symm.trans m2)
        have i3 : pi1 = pi := aw_Iinj (n3.symm.trans m3)
        have i4 : br1 = br := aw_Iinj (n4.symm.trans m4)
        have i5 : bk1 = bk := aw_Iinj (n5.symm.trans m5)
        have i6 : co1 = co := aw_Iinj (n6.symm.trans m6)
        subst i1 i2 i3 i4 i5 i6
        refine ⟨by rw [aw_gset (by omega), if_neg hne], hjb.2.2.2.2.2 s hne, fun k hk => ?_, fun k hk => ?_, fun k hk => ?_, fun k hk => ?_⟩
        · rw [aw_ps_get _ _ _ _ _ (by omega), if_neg (by omega)]
        · rw [aw_ps_get _ _ _ _ _ (by omega), if_neg (by omega)]
        · exact hjb.2.2.2.2.1 _ (by omega)
        · rw [aw_co4 m12 hsd, if_neg (by omega), if_neg (by omega), if_neg (by omega), if_neg (by omega)]
      refine ⟨aw_mt wj 0 (Int32.ofNat pl) (Int32.ofNat (aw_tok tx tl tl 0).length) n' sh T', g1, some (.int 0), some (.int (Int32.ofNat (aw_tok tx tl tl 0).length)), ⟨0, pl, r, 0, Int32.ofNat (aw_tok tx tl tl 0).length, Int32.ofNat n', Int32.ofNat sh, ?_, aw_mt21 (w := wj), ?_, ?_, ?_, ?_, (Int32.ofNat (aw_tok tx tl tl 0).length).toInt64, m44⟩, ?_, by omega, by omega, fun o h' K => ?_⟩
      · exact (o6 1 (by decide) (by decide) (by decide)).trans z1
      · exact ⟨tx, mt, (o5 2 (by decide) (by decide) (by decide) (by decide) (by decide) (by omega)).trans h2, (o5 22 (by decide) (by decide) (by decide) (by decide) (by decide) (by omega)).trans h22, hl2, hl22, by omega, fun j hj => absurd hj (Nat.not_lt_zero j)⟩
      · obtain ⟨pg, mp, p1, p2, p3⟩ := hP
        exact ⟨pg, mp, (o5 3 (by decide) (by decide) (by decide) (by decide) (by decide) (by omega)).trans p1, (o5 23 (by decide) (by decide) (by decide) (by decide) (by decide) (by omega)).trans p2, p3⟩
      · exact aw_Shs_s hsd h4 hrs ((o6 4 (by decide) (by decide) (by decide)).trans z4) hMj (fun k k1 k2 k3 => o5 k (by omega) (by omega) (by omega) (by omega) (by omega) k3) hSh hkp hS0
      · exact aw_Con_mt ((oj 24 (by decide) (by decide) (by decide) (by decide) (by decide) (by decide)).trans ((omw 24 (by decide) (by decide)).trans ((oA 24 (by decide) (by decide) (by decide) (by omega)).trans hC.1))) ((oj 25 (by decide) (by decide) (by decide) (by decide) (by decide) (by decide)).trans ((omw 25 (by decide) (by decide)).trans ((oA 25 (by decide) (by decide) (by decide) (by omega)).trans hC.2.1))) ((oj 32 (by decide) (by decide) (by decide) (by decide) (by decide) (by decide)).trans m32) (by rw [List.length_append, List.length_map, List.length_drop]; omega)
      · exact (o5 0 (by decide) (by decide) (by decide) (by decide) (by decide) (by omega)).trans h0
      · exact aw_L2 d i x5 x6 h0 hi hx (aw_W7a (w1 := w3) (d + 38) h1 _ (by rw [hke]; exact c8) ((o3 44 (by decide) (by decide) (by omega)).trans hO)) ((oA 0 (by decide) (by decide) (by decide) (by omega)).trans h0) ((oA 21 (by decide) (by decide) (by decide) (by omega)).trans h21) (by rw [hke]; exact href) aw_mt21 (fun _ => m44) K
