/-! What holds between two calls of the law: the class's cells and the reference's. -/
theorem am_add (a n : Nat) : Int32.ofNat a + Int32.ofNat n = Int32.ofNat (a + n) := (Int32.ofNat_add ..).symm
theorem am_wsE {w w' : Nat → am_C} {g : am_H} {c : am_C} {k : Nat} (h0 : 0 < k) (hk : k < 45) (e : am_pu w k c = w') : am_set (am_h w g) (1000 + k) c = some (am_h w' g) := by
  rw [← e]
  exact am_ws h0 hk
section AmR3
variable {d mi pc pc' len : Nat} {lv lv' : am_L} {st st' : List Value} {h h1 h' : am_H} {o : am_O}
theorem am_R.ali {a t : Nat} {xs : List Int32} (hc : am_code mi pc = some (.arraylength, len)) (ha : am_at h a = some (am_I t xs)) (hq : pc + len = pc') (k1 : am_R d mi pc' lv (.int (Int32.ofNat xs.length) :: st) h o h') : am_R d mi pc lv (.ref a :: st) h o h' := by
  refine am_R.al (xs := xs.map Value.int) (t := t) hc ha hq ?_
  rw [List.length_map]
  exact k1
/-- an int is returned: it fits -/
theorem am_R.reti {x : Int32} {ty : FieldType} (hc : am_code mi pc = some (.ireturn, len)) (hr : am_mr mi = some ty) (hf : fits ty (.int x) = true) : am_R d mi pc lv [.int x] h (.inl (some (.int x))) h := by
  refine am_R.ret hc ?_
  simp only [am_ret, hr, hf, if_true]
end AmR3
def aw_c1 (tl pl sp : Nat) : am_C := .inl (0, [.ref 1002, .int (Int32.ofNat tl), .ref 1003, .int (Int32.ofNat pl), .ref 1004, .ref (1005 + 4 * sp)])
def aw_c21 (ft ty wr wd wt sn : Int32) : am_C := .inl (2, [.int ft, .int ty, .ref 1022, .int wr, .ref 1023, .ref 1024, .ref 1025, .ref 1026, .ref 1027, .ref 1028, .ref 1029, .ref 1030, .ref 1031, .ref 1032, .int wd, .int wt, .ref 1033, .ref 1034, .int sn, .ref 1035, .ref 1036, .ref 1037, .ref 1038, .ref 1039, .ref 1040, .ref 1041, .ref 1042, .ref 1043])
/-! The invariant. -/
/-- the reference's number of the class's word j -/
def aw_tauL : List Int32 := [0, 1, 2, 3, 4, 5, 6, 7, 8, 36, 9, 13, 14, 15, 16, 23, 24, 18, 11, 10, 12, 19, 20, 21, 22, 17, 31, 32, 33, 34, 35, 25, 26, 27, 28, 29, 30, -1]
def aw_tau (j : Nat) : Int32 := aw_tauL.getD j (-1)
/-- how long word j, or the one that it is turned to, may be -/
def aw_wlL : List Nat := [6, 6, 5, 5, 5, 5, 7, 6, 4, 14, 3, 9, 3, 1, 1, 7, 4, 5, 4, 4, 4, 5, 7, 7, 7, 1, 3, 5, 4, 4, 3, 7, 6, 7, 8, 7, 8, 0]
def aw_wl (j : Nat) : Nat := aw_wlL.getD j 0
def aw_pgl (js : List Nat) : Nat := (js.map fun j => aw_wl j + 1).sum
def aw_n1 : List Int64 := [498, 52663764, 8040627, 1922629, 726612, 19958149, 17903932997, 187082181, 722226, 16562, 525701, 202355, 71108, 606717220428, 1476, 0, 0, 1, 3417254, 3751539, 20447897157, 3495643630, 2669827653, 3491306660, 763528, 19853152428, 76951732, 13415659749, 635300877715, 2462455443, 429301111987, 21231, 21252261, 212658, 206533, 19768, 119905326659]
def aw_n2 : List Int64 := [0, 0, 0, 0, 0, 0, 0, 0, 0, 0, 0, 0, 0, 25, 0, 0, 0, 0, 0, 0, 0, 0, 0, 0, 0, 0, 0, 0, 0, 0, 0, 0, 0, 0, 0, 0, 269950116]
def aw_cT (r : Nat) (wc bc sc ic cc dp rd : Int32) : am_C := .inl (1, [.ref (1006 + 4 * r), .int wc, .ref (1007 + 4 * r), .ref (1008 + 4 * r), .int bc, .int sc, .int ic, .int cc, .int dp, .int rd])
/-- the cells of a Told -/
def aw_TC (w : Nat → am_C) (r : Nat) (wc bc sc ic cc dp rd : Int32) (ws : List Value) (pc bw : List Int32) : Prop :=
  w (5 + 4 * r) = aw_cT r wc bc sc ic cc dp rd ∧ w (6 + 4 * r) = .inr (4, ws) ∧ w (7 + 4 * r) = am_I 0 pc ∧ w (8 + 4 * r) = am_I 0 bw ∧ ws.length = 120 ∧ pc.length = 576 ∧ bw.length = 120
def aw_Tok (w : Nat → am_C) (r : Nat) : Prop := ∃ (wc bc sc ic cc dp rd : Int32) (ws : List Value) (pc bw : List Int32), aw_TC w r wc bc sc ic cc dp rd ws pc bw
/-- what the reference keeps of the shields: words, how many, pictures, breaches, how many, counts -/
def aw_MC (w : Nat → am_C) (to ma pi br bk co : List Int32) : Prop :=
  w 26 = am_I 0 to ∧ w 27 = am_I 0 ma ∧ w 28 = am_I 0 pi ∧ w 29 = am_I 0 br ∧ w 30 = am_I 0 bk ∧ w 31 = am_I 0 co ∧ to.length = 360 ∧ ma.length = 3 ∧ pi.length = 1728 ∧ br.length = 120 ∧ bk.length = 3 ∧ co.length = 12
/-- a shield that was read: what the Told has is what the reference has of shield s -/
def aw_Rd (s : Nat) (to ma pi br bk co : List Int32) (wc bc sc ic cc dp : Int32) (ws : List Value) (pc bw : List Int32) : Prop :=
  ∃ (js : List Nat) (b : Nat), 1 ≤ js.length ∧ js.length ≤ 120 ∧ wc = Int32.ofNat js.length ∧ ma.getD s 0 = Int32.ofNat js.length ∧ (∀ k j, js[k]? = some j → j < 37 ∧ ws[k]? = some (.ref j) ∧ to.getD (120 * s + k) 0 = aw_tau j) ∧
    (∀ k, k < 576 → pc.getD k 0 = pi.getD (576 * s + k) 0) ∧ b ≤ 40 ∧ bc = Int32.ofNat b ∧ bk.getD s 0 = Int32.ofNat b ∧ (∀ k, k < b → bw.getD k 0 = br.getD (40 * s + k) 0) ∧
    sc = co.getD (4 * s) 0 ∧ ic = co.getD (4 * s + 1) 0 ∧ cc = co.getD (4 * s + 2) 0 ∧ dp = co.getD (4 * s + 3) 0 ∧ aw_pgl js ≤ 400
def aw_Sh (w : Nat → am_C) (r s : Nat) (to ma pi br bk co : List Int32) : Prop := ∃ (wc bc sc ic cc dp rd : Int32) (ws : List Value) (pc bw : List Int32), aw_TC w r wc bc sc ic cc dp rd ws pc bw ∧
  ((rd = 0 ∧ ma.getD s 0 = 0) ∨ (rd = 1 ∧ aw_Rd s to ma pi br bk co wc bc sc ic cc dp ws pc bw))
def aw_Shs (w : Nat → am_C) (sp : Nat) : Prop := ∃ (r0 r1 r2 : Nat) (to ma pi br bk co : List Int32), w 4 = .inr (5, [.ref (1005 + 4 * r0), .ref (1005 + 4 * r1), .ref (1005 + 4 * r2)]) ∧ (r0 < 4 ∧ r1 < 4 ∧ r2 < 4 ∧ sp < 4 ∧ r0 ≠ r1 ∧ r0 ≠ r2 ∧ r1 ≠ r2 ∧ sp ≠ r0 ∧ sp ≠ r1 ∧ sp ≠ r2) ∧
  aw_MC w to ma pi br bk co ∧ aw_Tok w sp ∧ aw_Sh w r0 0 to ma pi br bk co ∧ aw_Sh w r1 1 to ma pi br bk co ∧ aw_Sh w r2 2 to ma pi br bk co
/-- characters that can be typed -/
def aw_chr (x : Int32) : Prop := 32 ≤ x ∧ x ≤ 126
def aw_Txt (w : Nat → am_C) (tl : Nat) : Prop := ∃ tx mt : List Int32, w 2 = am_I 1 tx ∧ w 22 = am_I 0 mt ∧ tx.length = 120 ∧ mt.length = 120 ∧ tl ≤ 120 ∧ ∀ i, i < tl → tx.getD i 0 = mt.getD i 0 ∧ aw_chr (tx.getD i 0)
def aw_Pag (w : Nat → am_C) (pl : Nat) : Prop := ∃ pg mp : List Int32, w 3 = am_I 1 pg ∧ w 23 = am_I 0 mp ∧ pg.length = 480 ∧ mp.length = 400 ∧ pl ≤ 400 ∧ ∀ i, i < pl → pg.getD i 0 = mp.getD i 0 ∧ aw_chr (pg.getD i 0)
/-- a row of n ints at k -/
def aw_row (w : Nat → am_C) (k n : Nat) : Prop := ∃ l : List Int32, w k = am_I 0 l ∧ l.length = n
/-- the reference's names, and its rows for reading -/
def aw_Con (w : Nat → am_C) : Prop := w 24 = .inr (3, aw_n1.map Value.long) ∧ w 25 = .inr (3, aw_n2.map Value.long) ∧ aw_row w 32 120 ∧ aw_row w 33 300 ∧ aw_row w 34 300 ∧ aw_row w 35 40 ∧ aw_row w 36 80 ∧ aw_row w 37 40 ∧ aw_row w 38 40 ∧ aw_row w 39 160 ∧ aw_row w 40 160 ∧ aw_row w 41 160 ∧ aw_row w 42 160 ∧ aw_row w 43 160
def aw_Out (w : Nat → am_C) : Prop := ∃ v : Int64, w 44 = .inr (3, [.long v])
def aw_Inv (w : Nat → am_C) : Prop := ∃ (tl pl sp : Nat) (ft wd wt sn : Int32), w 1 = aw_c1 tl pl sp ∧ w 21 = aw_c21 ft (Int32.ofNat tl) (Int32.ofNat pl) wd wt sn ∧ aw_Txt w tl ∧ aw_Pag w pl ∧ aw_Shs w sp ∧ aw_Con w ∧ aw_Out w
theorem aw_TC_up {w : Nat → am_C} {k r : Nat} {c : am_C} {wc bc sc ic cc dp rd : Int32} {ws : List Value} {pc bw : List Int32} (hk : k < 5 + 4 * r ∨ 8 + 4 * r < k) (h : aw_TC w r wc bc sc ic cc dp rd ws pc bw) : aw_TC (am_pu w k c) r wc bc sc ic cc dp rd ws pc bw := by
  obtain ⟨h1, h2, h3, h4, h5⟩ := h
  exact ⟨by rw [am_pu_ne (by omega)]; exact h1, by rw [am_pu_ne (by omega)]; exact h2, by rw [am_pu_ne (by omega)]; exact h3, by rw [am_pu_ne (by omega)]; exact h4, h5⟩
theorem aw_Tok_up {w : Nat → am_C} {k r : Nat} {c : am_C} (hk : k < 5 + 4 * r ∨ 8 + 4 * r < k) (h : aw_Tok w r) : aw_Tok (am_pu w k c) r := by
  obtain ⟨wc, bc, sc, ic, cc, dp, rd, ws, pc, bw, h⟩ := h
  exact ⟨wc, bc, sc, ic, cc, dp, rd, ws, pc, bw, aw_TC_up hk h⟩
theorem aw_Sh_up {w : Nat → am_C} {k r s : Nat} {c : am_C} {to ma pi br bk co : List Int32} (hk : k < 5 + 4 * r ∨ 8 + 4 * r < k) (h : aw_Sh w r s to ma pi br bk co) : aw_Sh (am_pu w k c) r s to ma pi br bk co := by
  obtain ⟨wc, bc, sc, ic, cc, dp, rd, ws, pc, bw, h, h2⟩ := h
  exact ⟨wc, bc, sc, ic, cc, dp, rd, ws, pc, bw, aw_TC_up hk h, h2⟩
theorem aw_Shs_up {w : Nat → am_C} {k sp : Nat} {c : am_C} (hk : k < 4 ∨ (20 < k ∧ k < 26) ∨ 31 < k) (h : aw_Shs w sp) : aw_Shs (am_pu w k c) sp := by
  obtain ⟨r0, r1, r2, to, ma, pi, br, bk, co, h4, hp, ⟨m1, m2, m3, m4, m5, m6, m7⟩, hT, h0, h1, h2⟩ := h
  refine ⟨r0, r1, r2, to, ma, pi, br, bk, co, by rw [am_pu_ne (by omega)]; exact h4, hp, ⟨by rw [am_pu_ne (by omega)]; exact m1, by rw [am_pu_ne (by omega)]; exact m2, by rw [am_pu_ne (by omega)]; exact m3, by rw [am_pu_ne (by omega)]; exact m4, by rw [am_pu_ne (by omega)]; exact m5, by rw [am_pu_ne (by omega)]; exact m6, m7⟩, aw_Tok_up (by omega) hT, aw_Sh_up (by omega) h0, aw_Sh_up (by omega) h1, aw_Sh_up (by omega) h2⟩
