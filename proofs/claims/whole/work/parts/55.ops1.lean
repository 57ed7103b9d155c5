/-! The calls of length, charAt, wipe, type in the law. -/
theorem aw_Txt_0 {w w' : Nat → am_C} {tl : Nat} (h : aw_Txt w tl) (e2 : w' 2 = w 2 := by rfl) (e22 : w' 22 = w 22 := by rfl) : aw_Txt w' 0 := by
  obtain ⟨tx, mt, a1, a2, a3, a4, -⟩ := h
  exact ⟨tx, mt, e2.trans a1, e22.trans a2, a3, a4, Nat.zero_le _, fun i hi => absurd hi (Nat.not_lt_zero i)⟩
set_option maxRecDepth 100000 in
theorem aw_o13 : aw_Op 883 := by
  intro d i w g x5 x6 xs hI h0 hi hx
  obtain ⟨tl, pl, sp, ft, wd, wt, sn, h1, h21, hT, hP, hS, hC, hO⟩ := hI
  refine ⟨am_pu w 21 (aw_c21 0 (Int32.ofNat tl) (Int32.ofNat pl) wd wt sn), g, x5, x6, ⟨tl, pl, sp, 0, wd, wt, sn, h1, rfl, hT, hP, aw_Shs_up (by omega) hS, hC, hO⟩, h0, by omega, by omega, fun o h' K => ?_⟩
  refine am_R.nxs 1 (pc' := 884) (lv' := [some (.ref 1000), some (.ref 1001), some (.ref 1021), some (.ref 1044), some (.int (Int32.ofNat i)), x5, x6]) (st' := [.ref 1001]) (h1 := am_h w g) rfl ?_
  refine am_R.cv (a := 1001) (as' := []) (r := []) (v := some (.int (Int32.ofNat pl))) (h1 := am_h w g) (pc' := 887) rfl rfl rfl rfl (am_wf 1 (by decide) h1) rfl rfl (aw_k5 (d + 39) h1) rfl ?_
  refine am_R.nxs 1 (pc' := 888) (lv' := [some (.ref 1000), some (.ref 1001), some (.ref 1021), some (.ref 1044), some (.int (Int32.ofNat i)), x5, x6]) (st' := [.ref 1021, .int (Int32.ofNat pl)]) (h1 := am_h w g) rfl ?_
  refine am_R.cv (a := 1021) (as' := []) (r := [.int (Int32.ofNat pl)]) (v := some (.int (Int32.ofNat pl))) (h1 := am_h (am_pu w 21 (aw_c21 0 (Int32.ofNat tl) (Int32.ofNat pl) wd wt sn)) g) (pc' := 891) rfl rfl rfl rfl (am_wf 21 (by decide) h21) rfl rfl (aw_k148 (d + 39) h21) rfl ?_
  refine am_R.ites 1 (P := Int32.ofNat pl = Int32.ofNat pl) (T := 921) (F := 894) (lv' := [some (.ref 1000), some (.ref 1001), some (.ref 1021), some (.ref 1044), some (.int (Int32.ofNat i)), x5, x6]) (st' := []) (h1 := am_h (am_pu w 21 (aw_c21 0 (Int32.ofNat tl) (Int32.ofNat pl) wd wt sn)) g) rfl (fun c1 => ?_) (fun c1 => ?_)
  · exact K
  · exact absurd rfl c1
set_option maxRecDepth 100000 in
theorem aw_o1 : aw_Op 139 := by
  intro d i w g x5 x6 xs hI h0 hi hx
  obtain ⟨tl, pl, sp, ft, wd, wt, sn, h1, h21, hT, hP, hS, hC, hO⟩ := hI
  refine ⟨am_pu (am_pu w 1 (aw_c1 0 pl sp)) 21 (aw_c21 0 0 (Int32.ofNat pl) wd wt sn), g, x5, x6, ⟨0, pl, sp, 0, wd, wt, sn, rfl, rfl, aw_Txt_0 hT, hP, aw_Shs_up (by omega) (aw_Shs_up (by omega) hS), hC, hO⟩, h0, by omega, by omega, fun o h' K => ?_⟩
  refine am_R.nxs 1 (pc' := 140) (lv' := [some (.ref 1000), some (.ref 1001), some (.ref 1021), some (.ref 1044), some (.int (Int32.ofNat i)), x5, x6]) (st' := [.ref 1001]) (h1 := am_h w g) rfl ?_
  refine am_R.cv (a := 1001) (as' := []) (r := []) (v := some (.int (Int32.ofNat tl))) (h1 := am_h (am_pu w 1 (aw_c1 0 pl sp)) g) (pc' := 143) rfl rfl rfl rfl (am_wf 1 (by decide) h1) rfl rfl (aw_k4 (d + 39) h1) rfl ?_
  refine am_R.nxs 1 (pc' := 144) (lv' := [some (.ref 1000), some (.ref 1001), some (.ref 1021), some (.ref 1044), some (.int (Int32.ofNat i)), x5, x6]) (st' := [.ref 1021, .int (Int32.ofNat tl)]) (h1 := am_h (am_pu w 1 (aw_c1 0 pl sp)) g) rfl ?_
  refine am_R.cv (a := 1021) (as' := []) (r := [.int (Int32.ofNat tl)]) (v := some (.int (Int32.ofNat tl))) (h1 := am_h (am_pu (am_pu w 1 (aw_c1 0 pl sp)) 21 (aw_c21 0 0 (Int32.ofNat pl) wd wt sn)) g) (pc' := 147) rfl rfl rfl rfl (am_wf 21 (by decide) h21) rfl rfl (aw_k97 (d + 39) h21) rfl ?_
  refine am_R.ites 1 (P := Int32.ofNat tl = Int32.ofNat tl) (T := 921) (F := 150) (lv' := [some (.ref 1000), some (.ref 1001), some (.ref 1021), some (.ref 1044), some (.int (Int32.ofNat i)), x5, x6]) (st' := []) (h1 := am_h (am_pu (am_pu w 1 (aw_c1 0 pl sp)) 21 (aw_c21 0 0 (Int32.ofNat pl) wd wt sn)) g) rfl (fun c1 => ?_) (fun c1 => ?_)
  · exact K
  · exact absurd rfl c1
theorem aw_c16 (v : Int32) : 0 ≤ (v.toUInt32 % 65536).toInt32 ∧ (v.toUInt32 % 65536).toInt32 ≤ 65535 := by
  have h : (v.toUInt32 % 65536).toNat < 65536 := by
    rw [UInt32.toNat_mod]
    exact Nat.mod_lt _ (by decide)
  have e : (v.toUInt32 % 65536).toInt32 = Int32.ofNat (v.toUInt32 % 65536).toNat := by
    apply Int32.toBitVec_inj.mp
    show (v.toUInt32 % 65536).toBitVec = BitVec.ofNat 32 (v.toUInt32 % 65536).toBitVec.toNat
    rw [BitVec.ofNat_toNat, BitVec.setWidth_eq]
  rw [e]
  exact ⟨(Int32.ofNat_le_ofNat (by decide) (by omega)).mpr (Nat.zero_le _), (am_leN (n := 65535) (by omega) (by decide)).mpr (by omega)⟩
theorem aw_nat {v : Int32} (h : ¬ v < 0) : ∃ n, n < 2 ^ 31 ∧ v = Int32.ofNat n := by
  refine ⟨v.toNatClampNeg, ?_, am_natOf h⟩
  have h4 : v.toInt ≤ 2147483647 := Int32.toInt_le v
  unfold Int32.toNatClampNeg
  omega
theorem aw_c16_id {x : Int32} (h : aw_chr x) : (x.toUInt32 % 65536).toInt32 = x := by
  obtain ⟨h1, h2⟩ := h
  obtain ⟨n, hn, rfl⟩ := aw_nat (Int32.not_lt.mpr (Int32.le_trans (by decide) h1))
  have h3 : n < 127 := Nat.lt_succ_of_le ((am_leN (i := n) (n := 126) hn (by decide)).mp h2)
  have key : ∀ n, n < 127 → ((Int32.ofNat n).toUInt32 % 65536).toInt32 = Int32.ofNat n := by decide
  exact key n h3
theorem aw_fitc {x : Int32} (h : aw_chr x) : fits .char (.int x) = true := by
  obtain ⟨h1, h2⟩ := h
  have h3 : (0 : Int32) ≤ x := Int32.le_trans (by decide) h1
  have h4 : x ≤ 65535 := Int32.le_trans h2 (by decide)
  simp [fits, h3, h4]
theorem aw_Txt_put {w' : Nat → am_C} {tl : Nat} {tx mt : List Int32} {c : Int32} (l1 : tx.length = 120) (l2 : mt.length = 120) (ht : tl < 120) (h : ∀ i, i < tl → tx.getD i 0 = mt.getD i 0 ∧ aw_chr (tx.getD i 0)) (hc : aw_chr c) (e1 : w' 2 = am_I 1 (tx.set tl c)) (e2 : w' 22 = am_I 0 (mt.set tl c)) : aw_Txt w' (tl + 1) := by
  refine ⟨_, _, e1, e2, by rw [List.length_set]; exact l1, by rw [List.length_set]; exact l2, by omega, fun i hi => ?_⟩
  simp only [List.getD_eq_getElem?_getD]
  by_cases hq : i = tl
  · subst hq
    rw [List.getElem?_set_self (by omega), List.getElem?_set_self (by omega)]
    exact ⟨rfl, hc⟩
  · rw [List.getElem?_set_ne (fun q => hq q.symm), List.getElem?_set_ne (fun q => hq q.symm)]
    have := h i (by omega)
    simp only [List.getD_eq_getElem?_getD] at this
    exact this
set_option maxRecDepth 100000 in
theorem aw_o0 : aw_Op 112 := by
  intro d i w g x5 x6 xs hI h0 hi hx
  obtain ⟨tl, pl, sp, ft, wd, wt, sn, h1, h21, hT, hP, hS, hC, hO⟩ := hI
  obtain ⟨tx, mt, h2, h22, l2, l22, ht, hr⟩ := id hT
  by_cases hq : (((xs.getD (i + 1) 0).toUInt32 % 65536).toInt32) < 32 ∨ 126 < (((xs.getD (i + 1) 0).toUInt32 % 65536).toInt32) ∨ 120 ≤ tl
  · have hn := hq
    refine ⟨am_pu w 21 (aw_c21 0 (Int32.ofNat tl) (Int32.ofNat pl) wd wt sn), g, x5, x6, ⟨tl, pl, sp, 0, wd, wt, sn, h1, rfl, hT, hP, aw_Shs_up (by omega) hS, hC, hO⟩, h0, by omega, by omega, fun o h' K => ?_⟩
    refine am_R.nxs 5 (pc' := 118) (lv' := [some (.ref 1000), some (.ref 1001), some (.ref 1021), some (.ref 1044), some (.int (Int32.ofNat i)), x5, x6]) (st' := [.int (Int32.ofNat i + 1), .ref 1000, .ref 1001]) (h1 := am_h w g) rfl ?_
    rw [show (Int32.ofNat i + 1 : Int32) = Int32.ofNat (i + 1) from am_add i 1]
    refine am_R.ldi (i := (i + 1)) (xs := xs) (pc' := 119) rfl (am_wf 0 (by decide) h0) (by omega) (by omega) rfl ?_
    refine am_R.nxs 1 (pc' := 120) (lv' := [some (.ref 1000), some (.ref 1001), some (.ref 1021), some (.ref 1044), some (.int (Int32.ofNat i)), x5, x6]) (st' := [.int ((((xs.getD (i + 1) 0)).toUInt32 % 65536).toInt32), .ref 1001]) (h1 := am_h w g) rfl ?_
    refine am_R.cv (a := 1001) (as' := [.int ((((xs.getD (i + 1) 0)).toUInt32 % 65536).toInt32)]) (r := []) (v := some (.int 0)) (h1 := am_h w g) (pc' := 123) rfl rfl rfl rfl (am_wf 1 (by decide) h1) rfl rfl (aw_k3b (d + 39) h1 _ hn ht) rfl ?_
    refine am_R.nxs 5 (pc' := 129) (lv' := [some (.ref 1000), some (.ref 1001), some (.ref 1021), some (.ref 1044), some (.int (Int32.ofNat i)), x5, x6]) (st' := [.int (Int32.ofNat i + 1), .ref 1000, .ref 1021, .int 0]) (h1 := am_h w g) rfl ?_
    rw [show (Int32.ofNat i + 1 : Int32) = Int32.ofNat (i + 1) from am_add i 1]
    refine am_R.ldi (i := (i + 1)) (xs := xs) (pc' := 130) rfl (am_wf 0 (by decide) h0) (by omega) (by omega) rfl ?_
    refine am_R.nxs 1 (pc' := 131) (lv' := [some (.ref 1000), some (.ref 1001), some (.ref 1021), some (.ref 1044), some (.int (Int32.ofNat i)), x5, x6]) (st' := [.int ((((xs.getD (i + 1) 0)).toUInt32 % 65536).toInt32), .ref 1021, .int 0]) (h1 := am_h w g) rfl ?_
    refine am_R.cv (a := 1021) (as' := [.int ((((xs.getD (i + 1) 0)).toUInt32 % 65536).toInt32)]) (r := [.int 0]) (v := some (.int 0)) (h1 := am_h (am_pu w 21 (aw_c21 0 (Int32.ofNat tl) (Int32.ofNat pl) wd wt sn)) g) (pc' := 134) rfl rfl rfl rfl (am_wf 21 (by decide) h21) rfl rfl (aw_k96b (d + 39) h21 _ hn ht) rfl ?_
    refine am_R.ites 1 (P := 0 = 0) (T := 921) (F := 137) (lv' := [some (.ref 1000), some (.ref 1001), some (.ref 1021), some (.ref 1044), some (.int (Int32.ofNat i)), x5, x6]) (st' := []) (h1 := am_h (am_pu w 21 (aw_c21 0 (Int32.ofNat tl) (Int32.ofNat pl) wd wt sn)) g) rfl (fun c1 => ?_) (fun c1 => ?_)
    · exact K
    · exact absurd rfl c1
  · have ha : ¬ (((xs.getD (i + 1) 0).toUInt32 % 65536).toInt32) < 32 := fun q => hq (Or.inl q)
    have hb : ¬ 126 < (((xs.getD (i + 1) 0).toUInt32 % 65536).toInt32) := fun q => hq (Or.inr (Or.inl q))
    have ht : tl < 120 := by
      by_cases q : tl < 120
      · exact q
      · exact absurd (Or.inr (Or.inr (by omega))) hq
    refine ⟨(am_pu (am_pu (am_pu (am_pu w 2 (am_I 1 (tx.set tl (((xs.getD (i + 1) 0).toUInt32 % 65536).toInt32)))) 1 (aw_c1 (tl + 1) pl sp)) 21 (aw_c21 0 (Int32.ofNat (tl + 1)) (Int32.ofNat pl) wd wt sn)) 22 (am_I 0 (mt.set tl (((xs.getD (i + 1) 0).toUInt32 % 65536).toInt32)))), g, x5, x6, ⟨tl + 1, pl, sp, 0, wd, wt, sn, rfl, rfl, aw_Txt_put l2 l22 ht hr ⟨Int32.not_lt.mp ha, Int32.not_lt.mp hb⟩ rfl rfl, hP, aw_Shs_up (by omega) (aw_Shs_up (by omega) (aw_Shs_up (by omega) (aw_Shs_up (by omega) hS))), hC, hO⟩, h0, by omega, by omega, fun o h' K => ?_⟩
    refine am_R.nxs 5 (pc' := 118) (lv' := [some (.ref 1000), some (.ref 1001), some (.ref 1021), some (.ref 1044), some (.int (Int32.ofNat i)), x5, x6]) (st' := [.int (Int32.ofNat i + 1), .ref 1000, .ref 1001]) (h1 := am_h w g) rfl ?_
    rw [show (Int32.ofNat i + 1 : Int32) = Int32.ofNat (i + 1) from am_add i 1]
    refine am_R.ldi (i := (i + 1)) (xs := xs) (pc' := 119) rfl (am_wf 0 (by decide) h0) (by omega) (by omega) rfl ?_
    refine am_R.nxs 1 (pc' := 120) (lv' := [some (.ref 1000), some (.ref 1001), some (.ref 1021), some (.ref 1044), some (.int (Int32.ofNat i)), x5, x6]) (st' := [.int ((((xs.getD (i + 1) 0)).toUInt32 % 65536).toInt32), .ref 1001]) (h1 := am_h w g) rfl ?_
    refine am_R.cv (a := 1001) (as' := [.int ((((xs.getD (i + 1) 0)).toUInt32 % 65536).toInt32)]) (r := []) (v := some (.int 1)) (h1 := am_h (am_pu (am_pu w 2 (am_I 1 (tx.set tl (((xs.getD (i + 1) 0).toUInt32 % 65536).toInt32)))) 1 (aw_c1 (tl + 1) pl sp)) g) (pc' := 123) rfl rfl rfl rfl (am_wf 1 (by decide) h1) rfl rfl (aw_k3a (d + 39) h1 h2 l2 _ ha hb ht (aw_c16 _).1 (aw_c16 _).2) rfl ?_
    refine am_R.nxs 5 (pc' := 129) (lv' := [some (.ref 1000), some (.ref 1001), some (.ref 1021), some (.ref 1044), some (.int (Int32.ofNat i)), x5, x6]) (st' := [.int (Int32.ofNat i + 1), .ref 1000, .ref 1021, .int 1]) (h1 := am_h (am_pu (am_pu w 2 (am_I 1 (tx.set tl (((xs.getD (i + 1) 0).toUInt32 % 65536).toInt32)))) 1 (aw_c1 (tl + 1) pl sp)) g) rfl ?_
    rw [show (Int32.ofNat i + 1 : Int32) = Int32.ofNat (i + 1) from am_add i 1]
    refine am_R.ldi (i := (i + 1)) (xs := xs) (pc' := 130) rfl (am_wf 0 (by decide) h0) (by omega) (by omega) rfl ?_
    refine am_R.nxs 1 (pc' := 131) (lv' := [some (.ref 1000), some (.ref 1001), some (.ref 1021), some (.ref 1044), some (.int (Int32.ofNat i)), x5, x6]) (st' := [.int ((((xs.getD (i + 1) 0)).toUInt32 % 65536).toInt32), .ref 1021, .int 1]) (h1 := am_h (am_pu (am_pu w 2 (am_I 1 (tx.set tl (((xs.getD (i + 1) 0).toUInt32 % 65536).toInt32)))) 1 (aw_c1 (tl + 1) pl sp)) g) rfl ?_
    refine am_R.cv (a := 1021) (as' := [.int ((((xs.getD (i + 1) 0)).toUInt32 % 65536).toInt32)]) (r := [.int 1]) (v := some (.int 1)) (h1 := am_h (am_pu (am_pu (am_pu (am_pu w 2 (am_I 1 (tx.set tl (((xs.getD (i + 1) 0).toUInt32 % 65536).toInt32)))) 1 (aw_c1 (tl + 1) pl sp)) 21 (aw_c21 0 (Int32.ofNat (tl + 1)) (Int32.ofNat pl) wd wt sn)) 22 (am_I 0 (mt.set tl (((xs.getD (i + 1) 0).toUInt32 % 65536).toInt32)))) g) (pc' := 134) rfl rfl rfl rfl (am_wf 21 (by decide) h21) rfl rfl (aw_k96a (w := (am_pu (am_pu w 2 (am_I 1 (tx.set tl (((xs.getD (i + 1) 0).toUInt32 % 65536).toInt32)))) 1 (aw_c1 (tl + 1) pl sp))) (d + 39) h21 h22 l22 _ ha hb ht) rfl ?_
    refine am_R.ites 1 (P := 1 = 1) (T := 921) (F := 137) (lv' := [some (.ref 1000), some (.ref 1001), some (.ref 1021), some (.ref 1044), some (.int (Int32.ofNat i)), x5, x6]) (st' := []) (h1 := am_h (am_pu (am_pu (am_pu (am_pu w 2 (am_I 1 (tx.set tl (((xs.getD (i + 1) 0).toUInt32 % 65536).toInt32)))) 1 (aw_c1 (tl + 1) pl sp)) 21 (aw_c21 0 (Int32.ofNat (tl + 1)) (Int32.ofNat pl) wd wt sn)) 22 (am_I 0 (mt.set tl (((xs.getD (i + 1) 0).toUInt32 % 65536).toInt32)))) g) rfl (fun c1 => ?_) (fun c1 => ?_)
    · exact K
    · exact absurd rfl c1
set_option maxRecDepth 100000 in
theorem aw_o14 : aw_Op 896 := by
  intro d i w g x5 x6 xs hI h0 hi hx
  obtain ⟨tl, pl, sp, ft, wd, wt, sn, h1, h21, hT, hP, hS, hC, hO⟩ := hI
  obtain ⟨pg, mp, h3, h23, l3, l23, hpl, hr⟩ := id hP
  by_cases hv : xs.getD (i + 1) 0 < 0 ∨ Int32.ofNat pl ≤ xs.getD (i + 1) 0
  · refine ⟨am_pu w 21 (aw_c21 0 (Int32.ofNat tl) (Int32.ofNat pl) wd wt sn), g, x5, x6, ⟨tl, pl, sp, 0, wd, wt, sn, h1, rfl, hT, hP, aw_Shs_up (by omega) hS, hC, hO⟩, h0, by omega, by omega, fun o h' K => ?_⟩
    refine am_R.nxs 5 (pc' := 902) (lv' := [some (.ref 1000), some (.ref 1001), some (.ref 1021), some (.ref 1044), some (.int (Int32.ofNat i)), x5, x6]) (st' := [.int (Int32.ofNat i + 1), .ref 1000, .ref 1001]) (h1 := am_h w g) rfl ?_
    rw [show (Int32.ofNat i + 1 : Int32) = Int32.ofNat (i + 1) from am_add i 1]
    refine am_R.ldi (i := (i + 1)) (xs := xs) (pc' := 903) rfl (am_wf 0 (by decide) h0) (by omega) (by omega) rfl ?_
    refine am_R.cv (a := 1001) (as' := [.int (xs.getD (i + 1) 0)]) (r := []) (v := some (.int 32)) (h1 := am_h w g) (pc' := 906) rfl rfl rfl rfl (am_wf 1 (by decide) h1) rfl rfl (aw_k6b (d + 39) h1 _ hv) rfl ?_
    refine am_R.nxs 5 (pc' := 912) (lv' := [some (.ref 1000), some (.ref 1001), some (.ref 1021), some (.ref 1044), some (.int (Int32.ofNat i)), x5, x6]) (st' := [.int (Int32.ofNat i + 1), .ref 1000, .ref 1021, .int 32]) (h1 := am_h w g) rfl ?_
    rw [show (Int32.ofNat i + 1 : Int32) = Int32.ofNat (i + 1) from am_add i 1]
    refine am_R.ldi (i := (i + 1)) (xs := xs) (pc' := 913) rfl (am_wf 0 (by decide) h0) (by omega) (by omega) rfl ?_
    refine am_R.cv (a := 1021) (as' := [.int (xs.getD (i + 1) 0)]) (r := [.int 32]) (v := some (.int 32)) (h1 := am_h (am_pu w 21 (aw_c21 0 (Int32.ofNat tl) (Int32.ofNat pl) wd wt sn)) g) (pc' := 916) rfl rfl rfl rfl (am_wf 21 (by decide) h21) rfl rfl (aw_k149b (d + 39) h21 _ hv) rfl ?_
    refine am_R.ites 1 (P := 32 = 32) (T := 921) (F := 919) (lv' := [some (.ref 1000), some (.ref 1001), some (.ref 1021), some (.ref 1044), some (.int (Int32.ofNat i)), x5, x6]) (st' := []) (h1 := am_h (am_pu w 21 (aw_c21 0 (Int32.ofNat tl) (Int32.ofNat pl) wd wt sn)) g) rfl (fun c1 => ?_) (fun c1 => ?_)
    · exact K
    · exact absurd rfl c1
  · obtain ⟨k, hkb, hk⟩ := aw_nat (fun q => hv (Or.inl q))
    have hkl : k < pl := by
      rw [hk] at hv
      exact (am_ltN hkb (by omega)).mp (Int32.not_le.mp (fun q => hv (Or.inr q)))
    refine ⟨am_pu w 21 (aw_c21 0 (Int32.ofNat tl) (Int32.ofNat pl) wd wt sn), g, x5, x6, ⟨tl, pl, sp, 0, wd, wt, sn, h1, rfl, hT, hP, aw_Shs_up (by omega) hS, hC, hO⟩, h0, by omega, by omega, fun o h' K => ?_⟩
    refine am_R.nxs 5 (pc' := 902) (lv' := [some (.ref 1000), some (.ref 1001), some (.ref 1021), some (.ref 1044), some (.int (Int32.ofNat i)), x5, x6]) (st' := [.int (Int32.ofNat i + 1), .ref 1000, .ref 1001]) (h1 := am_h w g) rfl ?_
    rw [show (Int32.ofNat i + 1 : Int32) = Int32.ofNat (i + 1) from am_add i 1]
    refine am_R.ldi (i := (i + 1)) (xs := xs) (pc' := 903) rfl (am_wf 0 (by decide) h0) (by omega) (by omega) rfl ?_
    refine am_R.cv (a := 1001) (as' := [.int (xs.getD (i + 1) 0)]) (r := []) (v := some (.int (pg.getD k 0))) (h1 := am_h w g) (pc' := 906) rfl rfl rfl rfl (am_wf 1 (by decide) h1) rfl rfl (by rw [hk]; exact aw_k6a (d + 39) h1 h3 l3 (by omega) k hkl (fun k hk => aw_fitc (hr k hk).2)) rfl ?_
    refine am_R.nxs 5 (pc' := 912) (lv' := [some (.ref 1000), some (.ref 1001), some (.ref 1021), some (.ref 1044), some (.int (Int32.ofNat i)), x5, x6]) (st' := [.int (Int32.ofNat i + 1), .ref 1000, .ref 1021, .int (pg.getD k 0)]) (h1 := am_h w g) rfl ?_
    rw [show (Int32.ofNat i + 1 : Int32) = Int32.ofNat (i + 1) from am_add i 1]
    refine am_R.ldi (i := (i + 1)) (xs := xs) (pc' := 913) rfl (am_wf 0 (by decide) h0) (by omega) (by omega) rfl ?_
    refine am_R.cv (a := 1021) (as' := [.int (xs.getD (i + 1) 0)]) (r := [.int (pg.getD k 0)]) (v := some (.int (mp.getD k 0))) (h1 := am_h (am_pu w 21 (aw_c21 0 (Int32.ofNat tl) (Int32.ofNat pl) wd wt sn)) g) (pc' := 916) rfl rfl rfl rfl (am_wf 21 (by decide) h21) rfl rfl (by rw [hk]; exact aw_k149a (d + 39) h21 h23 l23 hpl k hkl (fun k hk => ⟨aw_c16_id ((hr k hk).1 ▸ (hr k hk).2), aw_fitc ((hr k hk).1 ▸ (hr k hk).2)⟩)) rfl ?_
    refine am_R.ites 1 (P := (pg.getD k 0) = (mp.getD k 0)) (T := 921) (F := 919) (lv' := [some (.ref 1000), some (.ref 1001), some (.ref 1021), some (.ref 1044), some (.int (Int32.ofNat i)), x5, x6]) (st' := []) (h1 := am_h (am_pu w 21 (aw_c21 0 (Int32.ofNat tl) (Int32.ofNat pl) wd wt sn)) g) rfl (fun c1 => ?_) (fun c1 => ?_)
    · exact K
    · exact absurd (hr k hkl).1 c1
