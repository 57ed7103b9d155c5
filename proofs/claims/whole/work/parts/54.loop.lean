/-! The law's loop, out of its fifteen calls. -/
def aw_lv (i : Nat) (x5 x6 : Option Value) : am_L := [some (.ref 1000), some (.ref 1001), some (.ref 1021), some (.ref 1044), some (.int (Int32.ofNat i)), x5, x6]
/-- the case of the law's switch at pc keeps the invariant -/
def aw_Op (pc : Nat) : Prop := ∀ (d i : Nat) (w : Nat → am_C) (g : am_H) (x5 x6 : Option Value) (xs : List Int32), aw_Inv w → w 0 = am_I 0 xs → i + 4 ≤ xs.length → xs.length ≤ 2048 →
  ∃ (w' : Nat → am_C) (g' : am_H) (y5 y6 : Option Value), aw_Inv w' ∧ w' 0 = am_I 0 xs ∧ g'.length ≤ g.length + 1150 ∧ am_sz g' ≤ am_sz g + 14000 ∧
    ∀ (o : am_O) (h' : am_H), am_R (d + 40) 0 921 (aw_lv i y5 y6) [] (am_h w' g') o h' → am_R (d + 40) 0 pc (aw_lv i x5 x6) [] (am_h w g) o h'
theorem aw_and15 (v : Int32) : ∃ k, k < 16 ∧ v &&& 15 = Int32.ofNat k := by
  refine ⟨(v &&& 15).toUInt32.toNat, ?_, ?_⟩
  · have h1 : (v &&& 15).toUInt32.toNat = v.toUInt32.toNat &&& 15 := by
      show (v.toBitVec &&& (15 : Int32).toBitVec).toNat = _
      rw [BitVec.toNat_and]
      rfl
    rw [h1]
    exact Nat.lt_succ_of_le Nat.and_le_right
  · apply Int32.toBitVec_inj.mp
    show (v &&& 15).toBitVec = BitVec.ofNat 32 (v &&& 15).toBitVec.toNat
    rw [BitVec.ofNat_toNat, BitVec.setWidth_eq]
theorem aw_head {L i : Nat} (hL : L ≤ 2048) (hi : i ≤ 2052) : Int32.ofNat L - 4 < Int32.ofNat i ↔ L < i + 4 := by
  rw [Int32.lt_iff_toInt_lt]
  have e1 : (Int32.ofNat L).toInt = (L : Int) := Int32.toInt_ofNat_of_lt (by omega)
  have e2 : (Int32.ofNat i).toInt = (i : Int) := Int32.toInt_ofNat_of_lt (by omega)
  have e3 : (Int32.ofNat L - 4).toInt = (L : Int) - 4 := by
    rw [Int32.toInt_sub, e1]
    have : (4 : Int32).toInt = 4 := rfl
    rw [this]
    exact Int.bmod_eq_of_le (by omega) (by omega)
  rw [e3, e2]
  omega
section AmLoop
variable {d : Nat} {w : Nat → am_C} {g : am_H} {xs : List Int32}
theorem aw_toks (h : aw_Inv w) : ∀ t, t < 4 → aw_Tok w t := by
  obtain ⟨tl, pl, sp, ft, wd, wt, sn, -, -, -, -, ⟨r0, r1, r2, to, ma, pi, br, bk, co, -, hp, -, hT, h0, h1, h2⟩, -⟩ := h
  intro t ht
  have key : ∀ {r s : Nat}, aw_Sh w r s to ma pi br bk co → aw_Tok w r := by
    intro r s hs
    obtain ⟨wc, bc, sc, ic, cc, dp, rd, ws, pc, bw, h, -⟩ := hs
    exact ⟨wc, bc, sc, ic, cc, dp, rd, ws, pc, bw, h⟩
  rcases (by omega : t = r0 ∨ t = r1 ∨ t = r2 ∨ t = sp) with rfl | rfl | rfl | rfl
  · exact key h0
  · exact key h1
  · exact key h2
  · exact hT
theorem aw_csI (t : Nat) (l : List Int32) : am_cs (am_I t l) = l.length := by
  show (l.map Value.int).length = _
  rw [List.length_map]
theorem aw_size (h : aw_Inv w) (h0 : w 0 = am_I 0 xs) : am_sz (am_h w g) ≤ xs.length + 12000 + am_sz g := by
  have hT := aw_toks h
  obtain ⟨tl, pl, sp, ft, wd, wt, sn, h1, h21, ⟨tx, mt, h2, h22, l2, l22, -⟩, ⟨pg, mp, h3, h23, l3, l23, -⟩, ⟨r0, r1, r2, to, ma, pi, br, bk, co, h4, -, ⟨m1, m2, m3, m4, m5, m6, m7, m8, m9, m10, m11, m12⟩, -⟩, ⟨n1, n2, c⟩, ⟨out, h44⟩⟩ := h
  obtain ⟨⟨a32, b32, c32⟩, ⟨a33, b33, c33⟩, ⟨a34, b34, c34⟩, ⟨a35, b35, c35⟩, ⟨a36, b36, c36⟩, ⟨a37, b37, c37⟩, ⟨a38, b38, c38⟩, ⟨a39, b39, c39⟩, ⟨a40, b40, c40⟩, ⟨a41, b41, c41⟩, ⟨a42, b42, c42⟩, ⟨a43, b43, c43⟩⟩ := c
  have key : ∀ t, t < 4 → am_cs (w (5 + 4 * t)) = 10 ∧ am_cs (w (6 + 4 * t)) = 120 ∧ am_cs (w (7 + 4 * t)) = 576 ∧ am_cs (w (8 + 4 * t)) = 120 := by
    intro t ht
    obtain ⟨wc, bc, sc, ic, cc, dp, rd, ws, pc, bw, q1, q2, q3, q4, q5, q6, q7⟩ := hT t ht
    exact ⟨by rw [q1]; rfl, by rw [q2]; exact q5, by rw [q3, aw_csI]; exact q6, by rw [q4, aw_csI]; exact q7⟩
  obtain ⟨k00, k01, k02, k03⟩ := key 0 (by decide)
  obtain ⟨k10, k11, k12, k13⟩ := key 1 (by decide)
  obtain ⟨k20, k21, k22, k23⟩ := key 2 (by decide)
  obtain ⟨k30, k31, k32, k33⟩ := key 3 (by decide)
  have hs : am_sz (am_h w g) = am_sz ((List.range 45).map w) + am_sz g := by
    unfold am_h am_sz
    rw [List.map_append, List.sum_append]
  have hr : (List.range 45).map w = [w 0, w 1, w 2, w 3, w 4, w (5 + 4 * 0), w (6 + 4 * 0), w (7 + 4 * 0), w (8 + 4 * 0), w (5 + 4 * 1), w (6 + 4 * 1), w (7 + 4 * 1), w (8 + 4 * 1), w (5 + 4 * 2), w (6 + 4 * 2), w (7 + 4 * 2), w (8 + 4 * 2), w (5 + 4 * 3), w (6 + 4 * 3), w (7 + 4 * 3), w (8 + 4 * 3), w 21, w 22, w 23, w 24, w 25, w 26, w 27, w 28, w 29, w 30, w 31, w 32, w 33, w 34, w 35, w 36, w 37, w 38, w 39, w 40, w 41, w 42, w 43, w 44] := rfl
  rw [hs, hr]
  unfold am_sz
  simp only [List.map_cons, List.map_nil, List.sum_cons, List.sum_nil, k00, k01, k02, k03, k10, k11, k12, k13, k20, k21, k22, k23, k30, k31, k32, k33]
  rw [h0, h1, h2, h3, h4, h21, h22, h23, n1, n2, m1, m2, m3, m4, m5, m6, b32, b33, b34, b35, b36, b37, b38, b39, b40, b41, b42, b43, h44]
  simp only [aw_csI]
  have e1 : am_cs (aw_c1 tl pl sp) = 6 := rfl
  have e4 : am_cs (.inr (5, [.ref (1005 + 4 * r0), .ref (1005 + 4 * r1), .ref (1005 + 4 * r2)])) = 3 := rfl
  have e21 : am_cs (aw_c21 ft (Int32.ofNat tl) (Int32.ofNat pl) wd wt sn) = 28 := rfl
  have e24 : am_cs (.inr (3, aw_n1.map Value.long)) = 37 := rfl
  have e25 : am_cs (.inr (3, aw_n2.map Value.long)) = 37 := rfl
  have e44 : am_cs (.inr (3, [.long out])) = 1 := rfl
  rw [e1, e4, e21, e24, e25, e44]
  omega
set_option maxRecDepth 100000 in
set_option maxHeartbeats 1000000 in
theorem aw_loop (hx : xs.length ≤ 2048) (o0 : aw_Op 112) (o1 : aw_Op 139) (o2 : aw_Op 152) (o3 : aw_Op 208) (o4 : aw_Op 288) (o5 : aw_Op 368) (o6 : aw_Op 436) (o7 : aw_Op 504) (o8 : aw_Op 560) (o9 : aw_Op 628) (o10 : aw_Op 696) (o11 : aw_Op 771) (o12 : aw_Op 827) (o13 : aw_Op 883) (o14 : aw_Op 896) :
    ∀ (n i : Nat) (w : Nat → am_C) (g : am_H) (x5 x6 : Option Value), xs.length < i + 4 + 4 * n → i ≤ xs.length + 4 → aw_Inv w → w 0 = am_I 0 xs →
    ∃ h' : am_H, am_R (d + 40) 0 23 (aw_lv i x5 x6) [] (am_h w g) (.inl (some (.int 1))) h' ∧ h'.length ≤ 45 + g.length + n * 1150 ∧ am_sz h' ≤ xs.length + 12000 + am_sz g + n * 14000 := by
  intro n
  induction n with
  | zero =>
    intro i w g x5 x6 hn hi hI h0
    refine ⟨am_h w g, ?_, by rw [am_h_len]; omega, by have := aw_size (g := g) hI h0; omega⟩
    refine am_R.nxs 2 (pc' := 26) (lv' := aw_lv i x5 x6) (st' := [.ref 1000, .int (Int32.ofNat i)]) (h1 := am_h w g) rfl ?_
    refine am_R.ali (xs := xs) (pc' := 27) rfl (am_wf 0 (by decide) h0) rfl ?_
    refine am_R.ites 3 (P := Int32.ofNat xs.length - 4 < Int32.ofNat i) (T := 927) (F := 32) (lv' := aw_lv i x5 x6) (st' := []) (h1 := am_h w g) rfl (fun c => ?_) (fun c => ?_)
    · refine am_R.nxs 1 (pc' := 928) (lv' := aw_lv i x5 x6) (st' := [.int 1]) (h1 := am_h w g) rfl ?_
      exact am_R.reti rfl rfl rfl
    · exact absurd ((aw_head hx (by omega)).mpr (by omega)) c
  | succ n ih =>
    intro i w g x5 x6 hn hi hI h0
    by_cases hc : xs.length < i + 4
    · obtain ⟨h', q1, q2, q3⟩ := (⟨am_h w g, by
        refine am_R.nxs 2 (pc' := 26) (lv' := aw_lv i x5 x6) (st' := [.ref 1000, .int (Int32.ofNat i)]) (h1 := am_h w g) rfl ?_
        refine am_R.ali (xs := xs) (pc' := 27) rfl (am_wf 0 (by decide) h0) rfl ?_
        refine am_R.ites 3 (P := Int32.ofNat xs.length - 4 < Int32.ofNat i) (T := 927) (F := 32) (lv' := aw_lv i x5 x6) (st' := []) (h1 := am_h w g) rfl (fun c => ?_) (fun c => ?_)
        · refine am_R.nxs 1 (pc' := 928) (lv' := aw_lv i x5 x6) (st' := [.int 1]) (h1 := am_h w g) rfl ?_
          exact am_R.reti rfl rfl rfl
        · exact absurd ((aw_head hx (by omega)).mpr (by omega)) c, by rw [am_h_len]; omega, by have := aw_size (g := g) hI h0; omega⟩ : ∃ h' : am_H, am_R (d + 40) 0 23 (aw_lv i x5 x6) [] (am_h w g) (.inl (some (.int 1))) h' ∧ h'.length ≤ 45 + g.length ∧ am_sz h' ≤ xs.length + 12000 + am_sz g)
      exact ⟨h', q1, by omega, by omega⟩
    · have next : ∀ {pc : Nat}, aw_Op pc → ∃ h' : am_H, am_R (d + 40) 0 pc (aw_lv i x5 x6) [] (am_h w g) (.inl (some (.int 1))) h' ∧ h'.length ≤ 45 + g.length + (n + 1) * 1150 ∧ am_sz h' ≤ xs.length + 12000 + am_sz g + (n + 1) * 14000 := by
        intro pc op
        obtain ⟨w', g', y5, y6, a1, a2, a3, a4, a5⟩ := op d i w g x5 x6 xs hI h0 (by omega) hx
        obtain ⟨h', b1, b2, b3⟩ := ih (i + 4) w' g' y5 y6 (by omega) (by omega) a1 a2
        refine ⟨h', a5 _ _ ?_, by omega, by omega⟩
        refine am_R.nxs 2 (pc' := 23) (lv' := [some (.ref 1000), some (.ref 1001), some (.ref 1021), some (.ref 1044), some (.int (Int32.ofNat i + 4)), y5, y6]) (st' := []) (h1 := am_h w' g') rfl ?_
        rw [show Int32.ofNat i + 4 = Int32.ofNat (i + 4) from am_add i 4]
        exact b1
      have skip : ∃ h' : am_H, am_R (d + 40) 0 921 (aw_lv i x5 x6) [] (am_h w g) (.inl (some (.int 1))) h' ∧ h'.length ≤ 45 + g.length + (n + 1) * 1150 ∧ am_sz h' ≤ xs.length + 12000 + am_sz g + (n + 1) * 14000 := by
        obtain ⟨h', b1, b2, b3⟩ := ih (i + 4) w g x5 x6 (by omega) (by omega) hI h0
        refine ⟨h', ?_, by omega, by omega⟩
        refine am_R.nxs 2 (pc' := 23) (lv' := [some (.ref 1000), some (.ref 1001), some (.ref 1021), some (.ref 1044), some (.int (Int32.ofNat i + 4)), x5, x6]) (st' := []) (h1 := am_h w g) rfl ?_
        rw [show Int32.ofNat i + 4 = Int32.ofNat (i + 4) from am_add i 4]
        exact b1
      have enter : ∀ {pc : Nat} {k : Nat}, xs.getD i 0 &&& 15 = Int32.ofNat k → am_nx 0 39 (aw_lv i x5 x6) [.int (Int32.ofNat k)] (am_h w g) = some (pc, aw_lv i x5 x6, [], am_h w g) → (∃ h' : am_H, am_R (d + 40) 0 pc (aw_lv i x5 x6) [] (am_h w g) (.inl (some (.int 1))) h' ∧ h'.length ≤ 45 + g.length + (n + 1) * 1150 ∧ am_sz h' ≤ xs.length + 12000 + am_sz g + (n + 1) * 14000) →
          ∃ h' : am_H, am_R (d + 40) 0 23 (aw_lv i x5 x6) [] (am_h w g) (.inl (some (.int 1))) h' ∧ h'.length ≤ 45 + g.length + (n + 1) * 1150 ∧ am_sz h' ≤ xs.length + 12000 + am_sz g + (n + 1) * 14000 := by
        intro pc k hk hs hh
        obtain ⟨h', q1, q2, q3⟩ := hh
        refine ⟨h', ?_, q2, q3⟩
        refine am_R.nxs 2 (pc' := 26) (lv' := aw_lv i x5 x6) (st' := [.ref 1000, .int (Int32.ofNat i)]) (h1 := am_h w g) rfl ?_
        refine am_R.ali (xs := xs) (pc' := 27) rfl (am_wf 0 (by decide) h0) rfl ?_
        refine am_R.ites 3 (P := Int32.ofNat xs.length - 4 < Int32.ofNat i) (T := 927) (F := 32) (lv' := aw_lv i x5 x6) (st' := []) (h1 := am_h w g) rfl (fun c => ?_) (fun c => ?_)
        · exact absurd ((aw_head hx (by omega)).mp c) (by omega)
        · refine am_R.nxs 2 (pc' := 35) (lv' := aw_lv i x5 x6) (st' := [.int (Int32.ofNat i), .ref 1000]) (h1 := am_h w g) rfl ?_
          refine am_R.ldi (i := i) (xs := xs) (pc' := 36) rfl (am_wf 0 (by decide) h0) (by omega) (by omega) rfl ?_
          refine am_R.nxs 2 (pc' := 39) (lv' := aw_lv i x5 x6) (st' := [.int (xs.getD i 0 &&& 15)]) (h1 := am_h w g) rfl ?_
          rw [hk]
          exact am_R.nx hs q1
      obtain ⟨k, k1, k2⟩ := aw_and15 (xs.getD i 0)
      rcases (by omega : k = 0 ∨ k = 1 ∨ k = 2 ∨ k = 3 ∨ k = 4 ∨ k = 5 ∨ k = 6 ∨ k = 7 ∨ k = 8 ∨ k = 9 ∨ k = 10 ∨ k = 11 ∨ k = 12 ∨ k = 13 ∨ k = 14 ∨ k = 15) with rfl | rfl | rfl | rfl | rfl | rfl | rfl | rfl | rfl | rfl | rfl | rfl | rfl | rfl | rfl | rfl
      · exact enter k2 rfl (next o0)
      · exact enter k2 rfl (next o1)
      · exact enter k2 rfl (next o2)
      · exact enter k2 rfl (next o3)
      · exact enter k2 rfl (next o4)
      · exact enter k2 rfl (next o5)
      · exact enter k2 rfl (next o6)
      · exact enter k2 rfl (next o7)
      · exact enter k2 rfl (next o8)
      · exact enter k2 rfl (next o9)
      · exact enter k2 rfl (next o10)
      · exact enter k2 rfl (next o11)
      · exact enter k2 rfl (next o12)
      · exact enter k2 rfl (next o13)
      · exact enter k2 rfl (next o14)
      · exact enter k2 rfl skip
end AmLoop
