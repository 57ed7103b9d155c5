/-! countAll, judge and read of the reference. -/
theorem aw_mt_pu {w : Nat → am_C} {ft wr wd : Int32} {n sh : Nat} {T : aw_T} {k : Nat} {c : am_C} (h1 : k ≠ 21) (h2 : k < 33 ∨ 43 < k) : am_pu (aw_mt w ft wr wd n sh T) k c = aw_mt (am_pu w k c) ft wr wd n sh T := by
  funext z
  unfold aw_mt
  by_cases hz : z = k
  · subst hz
    rw [am_pu_eq, if_neg h1, if_neg (by omega), am_pu_eq]
  · rw [am_pu_ne hz, am_pu_ne hz]
/-- k entries from o on are written anew -/
def aw_ps (l : List Int32) (o : Nat) (f : Nat → Int32) : Nat → List Int32
  | 0 => l
  | k + 1 => (aw_ps l o f k).set (o + k) (f k)
theorem aw_ps_len (l : List Int32) (o : Nat) (f : Nat → Int32) : ∀ k, (aw_ps l o f k).length = l.length := by
  intro k
  induction k with
  | zero => rfl
  | succ k ih => rw [aw_ps, List.length_set, ih]
theorem aw_ps_get (l : List Int32) (o : Nat) (f : Nat → Int32) (z : Nat) : ∀ k, o + k ≤ l.length → (aw_ps l o f k).getD z 0 = if o ≤ z ∧ z < o + k then f (z - o) else l.getD z 0 := by
  intro k
  induction k with
  | zero => intro _; rw [if_neg (by omega)]; rfl
  | succ k ih =>
    intro hk
    rw [aw_ps, aw_gset (by rw [aw_ps_len]; omega), ih (by omega)]
    by_cases h1 : z = o + k
    · rw [if_pos h1, if_pos (by omega), h1, Nat.add_sub_cancel_left]
    · rw [if_neg h1]
      by_cases h2 : o ≤ z ∧ z < o + k
      · rw [if_pos h2, if_pos (by omega)]
      · rw [if_neg h2, if_neg (by omega)]
theorem aw_k127i {w : Nat → am_C} {g : am_H} (d : Nat) {ft wr wd : Int32} {n sh : Nat} {T : aw_T} (hs8 : sh ≤ 8) (hsm : ∀ z, z < sh → aw_sm T z) {co : List Int32} (h31 : w 31 = am_I 0 co) (hco : co.length = 12) {sd : Nat} (hsd : sd < 3) {s : Nat} (hs : s < sh) {a m B : Nat} {o : am_O} {h' : am_H} (k : ∀ y : Option Value, am_R d 127 91 [some (.ref 1021), some (.int (Int32.ofNat sd)), some (.int (Int32.ofNat a)), some (.int (Int32.ofNat (B + aw_nc T s))), some (.int (Int32.ofNat m)), some (.int (Int32.ofNat s)), y] [] (am_h (aw_mt w ft wr wd n sh T) g) o h') : ∀ (e i : Nat), i + e = aw_ni T s → am_R d 127 58 [some (.ref 1021), some (.int (Int32.ofNat sd)), some (.int (Int32.ofNat a)), some (.int (Int32.ofNat (B + aw_su (fun j => aw_nmq T (4 * s + j)) i))), some (.int (Int32.ofNat m)), some (.int (Int32.ofNat s)), some (.int (Int32.ofNat i))] [] (am_h (aw_mt w ft wr wd n sh T) g) o h' := by
  have hni := (hsm s hs).2.1
  intro e
  induction e with
  | zero =>
    intro i hi
    refine am_R.nxs 2 (pc' := 61) (lv' := [some (.ref 1021), some (.int (Int32.ofNat sd)), some (.int (Int32.ofNat a)), some (.int (Int32.ofNat (B + aw_su (fun j => aw_nmq T (4 * s + j)) i))), some (.int (Int32.ofNat m)), some (.int (Int32.ofNat s)), some (.int (Int32.ofNat i))]) (st' := [.ref 1021, .int (Int32.ofNat i)]) (h1 := am_h (aw_mt w ft wr wd n sh T) g) rfl ?_
    refine am_R.gf (pc' := 64) (v := .ref 1038) rfl (am_wf 21 (by decide) (aw_mt21 : (aw_mt w ft wr wd n sh T) 21 = _)) rfl rfl rfl ?_
    refine am_R.nxs 1 (pc' := 66) (lv' := [some (.ref 1021), some (.int (Int32.ofNat sd)), some (.int (Int32.ofNat a)), some (.int (Int32.ofNat (B + aw_su (fun j => aw_nmq T (4 * s + j)) i))), some (.int (Int32.ofNat m)), some (.int (Int32.ofNat s)), some (.int (Int32.ofNat i))]) (st' := [.int (Int32.ofNat s), .ref 1038, .int (Int32.ofNat i)]) (h1 := am_h (aw_mt w ft wr wd n sh T) g) rfl ?_
    refine am_R.ldi (i := s) (xs := (aw_lT T 38)) (pc' := 67) rfl (am_wf 38 (by decide) (aw_mtk (by decide) (by decide) : (aw_mt w ft wr wd n sh T) 38 = _)) (aw_lT_b (show s < 40 by omega)) aw_lT_s rfl ?_
    rw [aw_lT_get (show s < 40 by omega), (hsm s hs).1]
    refine am_R.ites 1 (P := Int32.ofNat (aw_ni T s) ≤ Int32.ofNat i) (T := 91) (F := 70) (lv' := [some (.ref 1021), some (.int (Int32.ofNat sd)), some (.int (Int32.ofNat a)), some (.int (Int32.ofNat (B + aw_su (fun j => aw_nmq T (4 * s + j)) i))), some (.int (Int32.ofNat m)), some (.int (Int32.ofNat s)), some (.int (Int32.ofNat i))]) (st' := []) (h1 := am_h (aw_mt w ft wr wd n sh T) g) rfl (fun b67 => ?_) (fun b67 => ?_)
    · have b67 : (aw_ni T s) ≤ i := (am_leN (i := (aw_ni T s)) (n := i) (by omega) (by omega)).mp b67
      have e9 : i = aw_ni T s := by omega
      subst e9
      exact k _
    · have b67 : ¬ (aw_ni T s) ≤ i := fun hq9 => b67 ((am_leN (i := (aw_ni T s)) (n := i) (by omega) (by omega)).mpr hq9)
      omega
  | succ e ih =>
    intro i hi
    have hi2 : i < aw_ni T s := by omega
    refine am_R.nxs 2 (pc' := 61) (lv' := [some (.ref 1021), some (.int (Int32.ofNat sd)), some (.int (Int32.ofNat a)), some (.int (Int32.ofNat (B + aw_su (fun j => aw_nmq T (4 * s + j)) i))), some (.int (Int32.ofNat m)), some (.int (Int32.ofNat s)), some (.int (Int32.ofNat i))]) (st' := [.ref 1021, .int (Int32.ofNat i)]) (h1 := am_h (aw_mt w ft wr wd n sh T) g) rfl ?_
    refine am_R.gf (pc' := 64) (v := .ref 1038) rfl (am_wf 21 (by decide) (aw_mt21 : (aw_mt w ft wr wd n sh T) 21 = _)) rfl rfl rfl ?_
    refine am_R.nxs 1 (pc' := 66) (lv' := [some (.ref 1021), some (.int (Int32.ofNat sd)), some (.int (Int32.ofNat a)), some (.int (Int32.ofNat (B + aw_su (fun j => aw_nmq T (4 * s + j)) i))), some (.int (Int32.ofNat m)), some (.int (Int32.ofNat s)), some (.int (Int32.ofNat i))]) (st' := [.int (Int32.ofNat s), .ref 1038, .int (Int32.ofNat i)]) (h1 := am_h (aw_mt w ft wr wd n sh T) g) rfl ?_
    refine am_R.ldi (i := s) (xs := (aw_lT T 38)) (pc' := 67) rfl (am_wf 38 (by decide) (aw_mtk (by decide) (by decide) : (aw_mt w ft wr wd n sh T) 38 = _)) (aw_lT_b (show s < 40 by omega)) aw_lT_s rfl ?_
    rw [aw_lT_get (show s < 40 by omega), (hsm s hs).1]
    refine am_R.ites 1 (P := Int32.ofNat (aw_ni T s) ≤ Int32.ofNat i) (T := 91) (F := 70) (lv' := [some (.ref 1021), some (.int (Int32.ofNat sd)), some (.int (Int32.ofNat a)), some (.int (Int32.ofNat (B + aw_su (fun j => aw_nmq T (4 * s + j)) i))), some (.int (Int32.ofNat m)), some (.int (Int32.ofNat s)), some (.int (Int32.ofNat i))]) (st' := []) (h1 := am_h (aw_mt w ft wr wd n sh T) g) rfl (fun b67 => ?_) (fun b67 => ?_)
    · have b67 : (aw_ni T s) ≤ i := (am_leN (i := (aw_ni T s)) (n := i) (by omega) (by omega)).mp b67
      omega
    · have b67 : ¬ (aw_ni T s) ≤ i := fun hq9 => b67 ((am_leN (i := (aw_ni T s)) (n := i) (by omega) (by omega)).mpr hq9)
      refine am_R.nxs 2 (pc' := 72) (lv' := [some (.ref 1021), some (.int (Int32.ofNat sd)), some (.int (Int32.ofNat a)), some (.int (Int32.ofNat (B + aw_su (fun j => aw_nmq T (4 * s + j)) i))), some (.int (Int32.ofNat m)), some (.int (Int32.ofNat s)), some (.int (Int32.ofNat i))]) (st' := [.ref 1021, .int (Int32.ofNat (B + aw_su (fun j => aw_nmq T (4 * s + j)) i))]) (h1 := am_h (aw_mt w ft wr wd n sh T) g) rfl ?_
      refine am_R.gf (pc' := 75) (v := .ref 1042) rfl (am_wf 21 (by decide) (aw_mt21 : (aw_mt w ft wr wd n sh T) 21 = _)) rfl rfl rfl ?_
      refine am_R.nxs 3 (pc' := 79) (lv' := [some (.ref 1021), some (.int (Int32.ofNat sd)), some (.int (Int32.ofNat a)), some (.int (Int32.ofNat (B + aw_su (fun j => aw_nmq T (4 * s + j)) i))), some (.int (Int32.ofNat m)), some (.int (Int32.ofNat s)), some (.int (Int32.ofNat i))]) (st' := [.int (4 * Int32.ofNat s), .ref 1042, .int (Int32.ofNat (B + aw_su (fun j => aw_nmq T (4 * s + j)) i))]) (h1 := am_h (aw_mt w ft wr wd n sh T) g) rfl ?_
      rw [show (4 * Int32.ofNat s : Int32) = Int32.ofNat (4 * s) from am_mul 4 s]
      refine am_R.nxs 2 (pc' := 82) (lv' := [some (.ref 1021), some (.int (Int32.ofNat sd)), some (.int (Int32.ofNat a)), some (.int (Int32.ofNat (B + aw_su (fun j => aw_nmq T (4 * s + j)) i))), some (.int (Int32.ofNat m)), some (.int (Int32.ofNat s)), some (.int (Int32.ofNat i))]) (st' := [.int (Int32.ofNat (4 * s) + Int32.ofNat i), .ref 1042, .int (Int32.ofNat (B + aw_su (fun j => aw_nmq T (4 * s + j)) i))]) (h1 := am_h (aw_mt w ft wr wd n sh T) g) rfl ?_
      rw [show (Int32.ofNat (4 * s) + Int32.ofNat i : Int32) = Int32.ofNat ((4 * s) + i) from am_add (4 * s) i]
      refine am_R.ldi (i := ((4 * s) + i)) (xs := (aw_lT T 42)) (pc' := 83) rfl (am_wf 42 (by decide) (aw_mtk (by decide) (by decide) : (aw_mt w ft wr wd n sh T) 42 = _)) (aw_lT_b (show ((4 * s) + i) < 160 by omega)) aw_lT_s rfl ?_
      rw [aw_lT_get (show ((4 * s) + i) < 160 by omega), ((hsm s hs).2.2.2.2 i hi2).1]
      refine am_R.nxs 1 (pc' := 84) (lv' := [some (.ref 1021), some (.int (Int32.ofNat sd)), some (.int (Int32.ofNat a)), some (.int (Int32.ofNat (B + aw_su (fun j => aw_nmq T (4 * s + j)) i))), some (.int (Int32.ofNat m)), some (.int (Int32.ofNat s)), some (.int (Int32.ofNat i))]) (st' := [.int (Int32.ofNat (B + aw_su (fun j => aw_nmq T (4 * s + j)) i) + Int32.ofNat (aw_nmq T (4 * s + i)))]) (h1 := am_h (aw_mt w ft wr wd n sh T) g) rfl ?_
      rw [show (Int32.ofNat (B + aw_su (fun j => aw_nmq T (4 * s + j)) i) + Int32.ofNat (aw_nmq T (4 * s + i)) : Int32) = Int32.ofNat ((B + aw_su (fun j => aw_nmq T (4 * s + j)) i) + (aw_nmq T (4 * s + i))) from am_add (B + aw_su (fun j => aw_nmq T (4 * s + j)) i) (aw_nmq T (4 * s + i))]
      refine am_R.nxs 2 (pc' := 88) (lv' := [some (.ref 1021), some (.int (Int32.ofNat sd)), some (.int (Int32.ofNat a)), some (.int (Int32.ofNat ((B + aw_su (fun j => aw_nmq T (4 * s + j)) i) + (aw_nmq T (4 * s + i))))), some (.int (Int32.ofNat m)), some (.int (Int32.ofNat s)), some (.int (Int32.ofNat i + 1))]) (st' := []) (h1 := am_h (aw_mt w ft wr wd n sh T) g) rfl ?_
      rw [show (Int32.ofNat i + 1 : Int32) = Int32.ofNat (i + 1) from am_add i 1]
      refine am_R.nxs 1 (pc' := 58) (lv' := [some (.ref 1021), some (.int (Int32.ofNat sd)), some (.int (Int32.ofNat a)), some (.int (Int32.ofNat ((B + aw_su (fun j => aw_nmq T (4 * s + j)) i) + (aw_nmq T (4 * s + i))))), some (.int (Int32.ofNat m)), some (.int (Int32.ofNat s)), some (.int (Int32.ofNat (i + 1)))]) (st' := []) (h1 := am_h (aw_mt w ft wr wd n sh T) g) rfl ?_
      rw [Nat.add_assoc B]
      exact ih (i + 1) (by omega)
theorem aw_mx_le {f : Nat → Nat} : ∀ n, (∀ z, z < n → f z ≤ 3) → aw_mx f n ≤ 3 := by
  intro n
  induction n with
  | zero => intro _; exact Nat.zero_le _
  | succ n ih =>
    intro h
    have a := ih (fun z hz => h z (by omega))
    have b := h n (by omega)
    rw [aw_mx]
    omega
theorem aw_k127l {w : Nat → am_C} {g : am_H} (d : Nat) {ft wr wd : Int32} {n sh : Nat} {T : aw_T} (hs8 : sh ≤ 8) (hsm : ∀ z, z < sh → aw_sm T z) {co : List Int32} (h31 : w 31 = am_I 0 co) (hco : co.length = 12) {sd : Nat} (hsd : sd < 3) : ∀ (e s : Nat) (x6 : Option Value), s + e = sh → am_R d 127 10 [some (.ref 1021), some (.int (Int32.ofNat sd)), some (.int (Int32.ofNat (aw_su (aw_ni T) s))), some (.int (Int32.ofNat (aw_su (aw_nc T) s))), some (.int (Int32.ofNat (aw_mx (aw_nd T) s))), some (.int (Int32.ofNat s)), x6] [] (am_h (aw_mt w ft wr wd n sh T) g) (.inl none) (am_h (aw_mt (am_pu w 31 (am_I 0 ((((co.set (4 * sd) (Int32.ofNat sh)).set (4 * sd + 1) (Int32.ofNat (aw_su (aw_ni T) sh))).set (4 * sd + 2) (Int32.ofNat (aw_su (aw_nc T) sh))).set (4 * sd + 3) (Int32.ofNat (aw_mx (aw_nd T) sh))))) ft wr wd n sh T) g) := by
  intro e
  induction e with
  | zero =>
    intro s x6 hs0
    have e9 : s = sh := by omega
    subst e9
    refine am_R.nxs 2 (pc' := 13) (lv' := [some (.ref 1021), some (.int (Int32.ofNat sd)), some (.int (Int32.ofNat (aw_su (aw_ni T) s))), some (.int (Int32.ofNat (aw_su (aw_nc T) s))), some (.int (Int32.ofNat (aw_mx (aw_nd T) s))), some (.int (Int32.ofNat s)), x6]) (st' := [.ref 1021, .int (Int32.ofNat s)]) (h1 := am_h (aw_mt w ft wr wd n s T) g) rfl ?_
    refine am_R.gf (pc' := 16) (v := .int (Int32.ofNat s)) rfl (am_wf 21 (by decide) (aw_mt21 : (aw_mt w ft wr wd n s T) 21 = _)) rfl rfl rfl ?_
    refine am_R.ites 1 (P := Int32.ofNat s ≤ Int32.ofNat s) (T := 97) (F := 19) (lv' := [some (.ref 1021), some (.int (Int32.ofNat sd)), some (.int (Int32.ofNat (aw_su (aw_ni T) s))), some (.int (Int32.ofNat (aw_su (aw_nc T) s))), some (.int (Int32.ofNat (aw_mx (aw_nd T) s))), some (.int (Int32.ofNat s)), x6]) (st' := []) (h1 := am_h (aw_mt w ft wr wd n s T) g) rfl (fun b16 => ?_) (fun b16 => ?_)
    · have b16 : s ≤ s := (am_leN (i := s) (n := s) (by omega) (by omega)).mp b16
      refine am_R.nxs 1 (pc' := 98) (lv' := [some (.ref 1021), some (.int (Int32.ofNat sd)), some (.int (Int32.ofNat (aw_su (aw_ni T) s))), some (.int (Int32.ofNat (aw_su (aw_nc T) s))), some (.int (Int32.ofNat (aw_mx (aw_nd T) s))), some (.int (Int32.ofNat s)), x6]) (st' := [.ref 1021]) (h1 := am_h (aw_mt w ft wr wd n s T) g) rfl ?_
      refine am_R.gf (pc' := 101) (v := .ref 1031) rfl (am_wf 21 (by decide) (aw_mt21 : (aw_mt w ft wr wd n s T) 21 = _)) rfl rfl rfl ?_
      refine am_R.nxs 3 (pc' := 104) (lv' := [some (.ref 1021), some (.int (Int32.ofNat sd)), some (.int (Int32.ofNat (aw_su (aw_ni T) s))), some (.int (Int32.ofNat (aw_su (aw_nc T) s))), some (.int (Int32.ofNat (aw_mx (aw_nd T) s))), some (.int (Int32.ofNat s)), x6]) (st' := [.int (4 * Int32.ofNat sd), .ref 1031]) (h1 := am_h (aw_mt w ft wr wd n s T) g) rfl ?_
      rw [show (4 * Int32.ofNat sd : Int32) = Int32.ofNat (4 * sd) from am_mul 4 sd]
      refine am_R.nxs 1 (pc' := 105) (lv' := [some (.ref 1021), some (.int (Int32.ofNat sd)), some (.int (Int32.ofNat (aw_su (aw_ni T) s))), some (.int (Int32.ofNat (aw_su (aw_nc T) s))), some (.int (Int32.ofNat (aw_mx (aw_nd T) s))), some (.int (Int32.ofNat s)), x6]) (st' := [.ref 1021, .int (Int32.ofNat (4 * sd)), .ref 1031]) (h1 := am_h (aw_mt w ft wr wd n s T) g) rfl ?_
      refine am_R.gf (pc' := 108) (v := .int (Int32.ofNat s)) rfl (am_wf 21 (by decide) (aw_mt21 : (aw_mt w ft wr wd n s T) 21 = _)) rfl rfl rfl ?_
      refine am_R.sti (i := (4 * sd)) (xs := co) (pc' := 109) rfl (am_wf 31 (by decide) ((aw_mt_other (by decide) (by decide)).trans h31 : (aw_mt w ft wr wd n s T) 31 = _)) (by first | omega | (simp only [List.length_set]; omega)) (by first | omega | (simp only [List.length_set]; omega)) (am_wsE (k := 31) (w' := (aw_mt (am_pu w 31 (am_I 0 (co.set (4 * sd) (Int32.ofNat s)))) ft wr wd n s T)) (by decide) (by decide) (aw_mt_pu (by decide) (by decide))) rfl ?_
      refine am_R.nxs 1 (pc' := 110) (lv' := [some (.ref 1021), some (.int (Int32.ofNat sd)), some (.int (Int32.ofNat (aw_su (aw_ni T) s))), some (.int (Int32.ofNat (aw_su (aw_nc T) s))), some (.int (Int32.ofNat (aw_mx (aw_nd T) s))), some (.int (Int32.ofNat s)), x6]) (st' := [.ref 1021]) (h1 := am_h (aw_mt (am_pu w 31 (am_I 0 (co.set (4 * sd) (Int32.ofNat s)))) ft wr wd n s T) g) rfl ?_
      refine am_R.gf (pc' := 113) (v := .ref 1031) rfl (am_wf 21 (by decide) (aw_mt21 : (aw_mt (am_pu w 31 (am_I 0 (co.set (4 * sd) (Int32.ofNat s)))) ft wr wd n s T) 21 = _)) rfl rfl rfl ?_
      refine am_R.nxs 3 (pc' := 116) (lv' := [some (.ref 1021), some (.int (Int32.ofNat sd)), some (.int (Int32.ofNat (aw_su (aw_ni T) s))), some (.int (Int32.ofNat (aw_su (aw_nc T) s))), some (.int (Int32.ofNat (aw_mx (aw_nd T) s))), some (.int (Int32.ofNat s)), x6]) (st' := [.int (4 * Int32.ofNat sd), .ref 1031]) (h1 := am_h (aw_mt (am_pu w 31 (am_I 0 (co.set (4 * sd) (Int32.ofNat s)))) ft wr wd n s T) g) rfl ?_
      rw [show (4 * Int32.ofNat sd : Int32) = Int32.ofNat (4 * sd) from am_mul 4 sd]
      refine am_R.nxs 2 (pc' := 118) (lv' := [some (.ref 1021), some (.int (Int32.ofNat sd)), some (.int (Int32.ofNat (aw_su (aw_ni T) s))), some (.int (Int32.ofNat (aw_su (aw_nc T) s))), some (.int (Int32.ofNat (aw_mx (aw_nd T) s))), some (.int (Int32.ofNat s)), x6]) (st' := [.int (Int32.ofNat (4 * sd) + 1), .ref 1031]) (h1 := am_h (aw_mt (am_pu w 31 (am_I 0 (co.set (4 * sd) (Int32.ofNat s)))) ft wr wd n s T) g) rfl ?_
      rw [show (Int32.ofNat (4 * sd) + 1 : Int32) = Int32.ofNat ((4 * sd) + 1) from am_add (4 * sd) 1]
      refine am_R.nxs 1 (pc' := 119) (lv' := [some (.ref 1021), some (.int (Int32.ofNat sd)), some (.int (Int32.ofNat (aw_su (aw_ni T) s))), some (.int (Int32.ofNat (aw_su (aw_nc T) s))), some (.int (Int32.ofNat (aw_mx (aw_nd T) s))), some (.int (Int32.ofNat s)), x6]) (st' := [.int (Int32.ofNat (aw_su (aw_ni T) s)), .int (Int32.ofNat ((4 * sd) + 1)), .ref 1031]) (h1 := am_h (aw_mt (am_pu w 31 (am_I 0 (co.set (4 * sd) (Int32.ofNat s)))) ft wr wd n s T) g) rfl ?_
      refine am_R.sti (i := ((4 * sd) + 1)) (xs := (co.set (4 * sd) (Int32.ofNat s))) (pc' := 120) rfl (am_wf 31 (by decide) ((aw_mt_other (by decide) (by decide)).trans (am_pu_eq _ _ _ : (am_pu w 31 (am_I 0 (co.set (4 * sd) (Int32.ofNat s)))) 31 = _) : (aw_mt (am_pu w 31 (am_I 0 (co.set (4 * sd) (Int32.ofNat s)))) ft wr wd n s T) 31 = _)) (by first | omega | (simp only [List.length_set]; omega)) (by first | omega | (simp only [List.length_set]; omega)) (am_wsE (k := 31) (w' := (aw_mt (am_pu w 31 (am_I 0 ((co.set (4 * sd) (Int32.ofNat s)).set ((4 * sd) + 1) (Int32.ofNat (aw_su (aw_ni T) s))))) ft wr wd n s T)) (by decide) (by decide) ((aw_mt_pu (by decide) (by decide)).trans (by rw [am_pu_pu]))) rfl ?_
      refine am_R.nxs 1 (pc' := 121) (lv' := [some (.ref 1021), some (.int (Int32.ofNat sd)), some (.int (Int32.ofNat (aw_su (aw_ni T) s))), some (.int (Int32.ofNat (aw_su (aw_nc T) s))), some (.int (Int32.ofNat (aw_mx (aw_nd T) s))), some (.int (Int32.ofNat s)), x6]) (st' := [.ref 1021]) (h1 := am_h (aw_mt (am_pu w 31 (am_I 0 ((co.set (4 * sd) (Int32.ofNat s)).set ((4 * sd) + 1) (Int32.ofNat (aw_su (aw_ni T) s))))) ft wr wd n s T) g) rfl ?_
      refine am_R.gf (pc' := 124) (v := .ref 1031) rfl (am_wf 21 (by decide) (aw_mt21 : (aw_mt (am_pu w 31 (am_I 0 ((co.set (4 * sd) (Int32.ofNat s)).set ((4 * sd) + 1) (Int32.ofNat (aw_su (aw_ni T) s))))) ft wr wd n s T) 21 = _)) rfl rfl rfl ?_
      refine am_R.nxs 3 (pc' := 127) (lv' := [some (.ref 1021), some (.int (Int32.ofNat sd)), some (.int (Int32.ofNat (aw_su (aw_ni T) s))), some (.int (Int32.ofNat (aw_su (aw_nc T) s))), some (.int (Int32.ofNat (aw_mx (aw_nd T) s))), some (.int (Int32.ofNat s)), x6]) (st' := [.int (4 * Int32.ofNat sd), .ref 1031]) (h1 := am_h (aw_mt (am_pu w 31 (am_I 0 ((co.set (4 * sd) (Int32.ofNat s)).set ((4 * sd) + 1) (Int32.ofNat (aw_su (aw_ni T) s))))) ft wr wd n s T) g) rfl ?_
      rw [show (4 * Int32.ofNat sd : Int32) = Int32.ofNat (4 * sd) from am_mul 4 sd]
      refine am_R.nxs 2 (pc' := 129) (lv' := [some (.ref 1021), some (.int (Int32.ofNat sd)), some (.int (Int32.ofNat (aw_su (aw_ni T) s))), some (.int (Int32.ofNat (aw_su (aw_nc T) s))), some (.int (Int32.ofNat (aw_mx (aw_nd T) s))), some (.int (Int32.ofNat s)), x6]) (st' := [.int (Int32.ofNat (4 * sd) + 2), .ref 1031]) (h1 := am_h (aw_mt (am_pu w 31 (am_I 0 ((co.set (4 * sd) (Int32.ofNat s)).set ((4 * sd) + 1) (Int32.ofNat (aw_su (aw_ni T) s))))) ft wr wd n s T) g) rfl ?_
      rw [show (Int32.ofNat (4 * sd) + 2 : Int32) = Int32.ofNat ((4 * sd) + 2) from am_add (4 * sd) 2]
      refine am_R.nxs 1 (pc' := 130) (lv' := [some (.ref 1021), some (.int (Int32.ofNat sd)), some (.int (Int32.ofNat (aw_su (aw_ni T) s))), some (.int (Int32.ofNat (aw_su (aw_nc T) s))), some (.int (Int32.ofNat (aw_mx (aw_nd T) s))), some (.int (Int32.ofNat s)), x6]) (st' := [.int (Int32.ofNat (aw_su (aw_nc T) s)), .int (Int32.ofNat ((4 * sd) + 2)), .ref 1031]) (h1 := am_h (aw_mt (am_pu w 31 (am_I 0 ((co.set (4 * sd) (Int32.ofNat s)).set ((4 * sd) + 1) (Int32.ofNat (aw_su (aw_ni T) s))))) ft wr wd n s T) g) rfl ?_
      refine am_R.sti (i := ((4 * sd) + 2)) (xs := ((co.set (4 * sd) (Int32.ofNat s)).set ((4 * sd) + 1) (Int32.ofNat (aw_su (aw_ni T) s)))) (pc' := 131) rfl (am_wf 31 (by decide) ((aw_mt_other (by decide) (by decide)).trans (am_pu_eq _ _ _ : (am_pu w 31 (am_I 0 ((co.set (4 * sd) (Int32.ofNat s)).set ((4 * sd) + 1) (Int32.ofNat (aw_su (aw_ni T) s))))) 31 = _) : (aw_mt (am_pu w 31 (am_I 0 ((co.set (4 * sd) (Int32.ofNat s)).set ((4 * sd) + 1) (Int32.ofNat (aw_su (aw_ni T) s))))) ft wr wd n s T) 31 = _)) (by first | omega | (simp only [List.length_set]; omega)) (by first | omega | (simp only [List.length_set]; omega)) (am_wsE (k := 31) (w' := (aw_mt (am_pu w 31 (am_I 0 (((co.set (4 * sd) (Int32.ofNat s)).set ((4 * sd) + 1) (Int32.ofNat (aw_su (aw_ni T) s))).set ((4 * sd) + 2) (Int32.ofNat (aw_su (aw_nc T) s))))) ft wr wd n s T)) (by decide) (by decide) ((aw_mt_pu (by decide) (by decide)).trans (by rw [am_pu_pu]))) rfl ?_
      refine am_R.nxs 1 (pc' := 132) (lv' := [some (.ref 1021), some (.int (Int32.ofNat sd)), some (.int (Int32.ofNat (aw_su (aw_ni T) s))), some (.int (Int32.ofNat (aw_su (aw_nc T) s))), some (.int (Int32.ofNat (aw_mx (aw_nd T) s))), some (.int (Int32.ofNat s)), x6]) (st' := [.ref 1021]) (h1 := am_h (aw_mt (am_pu w 31 (am_I 0 (((co.set (4 * sd) (Int32.ofNat s)).set ((4 * sd) + 1) (Int32.ofNat (aw_su (aw_ni T) s))).set ((4 * sd) + 2) (Int32.ofNat (aw_su (aw_nc T) s))))) ft wr wd n s T) g) rfl ?_
      refine am_R.gf (pc' := 135) (v := .ref 1031) rfl (am_wf 21 (by decide) (aw_mt21 : (aw_mt (am_pu w 31 (am_I 0 (((co.set (4 * sd) (Int32.ofNat s)).set ((4 * sd) + 1) (Int32.ofNat (aw_su (aw_ni T) s))).set ((4 * sd) + 2) (Int32.ofNat (aw_su (aw_nc T) s))))) ft wr wd n s T) 21 = _)) rfl rfl rfl ?_
      refine am_R.nxs 3 (pc' := 138) (lv' := [some (.ref 1021), some (.int (Int32.ofNat sd)), some (.int (Int32.ofNat (aw_su (aw_ni T) s))), some (.int (Int32.ofNat (aw_su (aw_nc T) s))), some (.int (Int32.ofNat (aw_mx (aw_nd T) s))), some (.int (Int32.ofNat s)), x6]) (st' := [.int (4 * Int32.ofNat sd), .ref 1031]) (h1 := am_h (aw_mt (am_pu w 31 (am_I 0 (((co.set (4 * sd) (Int32.ofNat s)).set ((4 * sd) + 1) (Int32.ofNat (aw_su (aw_ni T) s))).set ((4 * sd) + 2) (Int32.ofNat (aw_su (aw_nc T) s))))) ft wr wd n s T) g) rfl ?_
      rw [show (4 * Int32.ofNat sd : Int32) = Int32.ofNat (4 * sd) from am_mul 4 sd]
      refine am_R.nxs 2 (pc' := 140) (lv' := [some (.ref 1021), some (.int (Int32.ofNat sd)), some (.int (Int32.ofNat (aw_su (aw_ni T) s))), some (.int (Int32.ofNat (aw_su (aw_nc T) s))), some (.int (Int32.ofNat (aw_mx (aw_nd T) s))), some (.int (Int32.ofNat s)), x6]) (st' := [.int (Int32.ofNat (4 * sd) + 3), .ref 1031]) (h1 := am_h (aw_mt (am_pu w 31 (am_I 0 (((co.set (4 * sd) (Int32.ofNat s)).set ((4 * sd) + 1) (Int32.ofNat (aw_su (aw_ni T) s))).set ((4 * sd) + 2) (Int32.ofNat (aw_su (aw_nc T) s))))) ft wr wd n s T) g) rfl ?_
      rw [show (Int32.ofNat (4 * sd) + 3 : Int32) = Int32.ofNat ((4 * sd) + 3) from am_add (4 * sd) 3]
      refine am_R.nxs 1 (pc' := 142) (lv' := [some (.ref 1021), some (.int (Int32.ofNat sd)), some (.int (Int32.ofNat (aw_su (aw_ni T) s))), some (.int (Int32.ofNat (aw_su (aw_nc T) s))), some (.int (Int32.ofNat (aw_mx (aw_nd T) s))), some (.int (Int32.ofNat s)), x6]) (st' := [.int (Int32.ofNat (aw_mx (aw_nd T) s)), .int (Int32.ofNat ((4 * sd) + 3)), .ref 1031]) (h1 := am_h (aw_mt (am_pu w 31 (am_I 0 (((co.set (4 * sd) (Int32.ofNat s)).set ((4 * sd) + 1) (Int32.ofNat (aw_su (aw_ni T) s))).set ((4 * sd) + 2) (Int32.ofNat (aw_su (aw_nc T) s))))) ft wr wd n s T) g) rfl ?_
      refine am_R.sti (i := ((4 * sd) + 3)) (xs := (((co.set (4 * sd) (Int32.ofNat s)).set ((4 * sd) + 1) (Int32.ofNat (aw_su (aw_ni T) s))).set ((4 * sd) + 2) (Int32.ofNat (aw_su (aw_nc T) s)))) (pc' := 143) rfl (am_wf 31 (by decide) ((aw_mt_other (by decide) (by decide)).trans (am_pu_eq _ _ _ : (am_pu w 31 (am_I 0 (((co.set (4 * sd) (Int32.ofNat s)).set ((4 * sd) + 1) (Int32.ofNat (aw_su (aw_ni T) s))).set ((4 * sd) + 2) (Int32.ofNat (aw_su (aw_nc T) s))))) 31 = _) : (aw_mt (am_pu w 31 (am_I 0 (((co.set (4 * sd) (Int32.ofNat s)).set ((4 * sd) + 1) (Int32.ofNat (aw_su (aw_ni T) s))).set ((4 * sd) + 2) (Int32.ofNat (aw_su (aw_nc T) s))))) ft wr wd n s T) 31 = _)) (by first | omega | (simp only [List.length_set]; omega)) (by first | omega | (simp only [List.length_set]; omega)) (am_wsE (k := 31) (w' := (aw_mt (am_pu w 31 (am_I 0 ((((co.set (4 * sd) (Int32.ofNat s)).set ((4 * sd) + 1) (Int32.ofNat (aw_su (aw_ni T) s))).set ((4 * sd) + 2) (Int32.ofNat (aw_su (aw_nc T) s))).set ((4 * sd) + 3) (Int32.ofNat (aw_mx (aw_nd T) s))))) ft wr wd n s T)) (by decide) (by decide) ((aw_mt_pu (by decide) (by decide)).trans (by rw [am_pu_pu]))) rfl ?_
      exact am_R.ret rfl rfl
    · have b16 : ¬ s ≤ s := fun hq9 => b16 ((am_leN (i := s) (n := s) (by omega) (by omega)).mpr hq9)
      omega
  | succ e ih =>
    intro s x6 hs0
    have hs : s < sh := by omega
    have hni := (hsm s hs).2.1
    have hnd := (hsm s hs).2.2.2.1
    have hmx : aw_mx (aw_nd T) s ≤ 3 := aw_mx_le s (fun z hz => (hsm z (by omega)).2.2.2.1)
    refine am_R.nxs 2 (pc' := 13) (lv' := [some (.ref 1021), some (.int (Int32.ofNat sd)), some (.int (Int32.ofNat (aw_su (aw_ni T) s))), some (.int (Int32.ofNat (aw_su (aw_nc T) s))), some (.int (Int32.ofNat (aw_mx (aw_nd T) s))), some (.int (Int32.ofNat s)), x6]) (st' := [.ref 1021, .int (Int32.ofNat s)]) (h1 := am_h (aw_mt w ft wr wd n sh T) g) rfl ?_
    refine am_R.gf (pc' := 16) (v := .int (Int32.ofNat sh)) rfl (am_wf 21 (by decide) (aw_mt21 : (aw_mt w ft wr wd n sh T) 21 = _)) rfl rfl rfl ?_
    refine am_R.ites 1 (P := Int32.ofNat sh ≤ Int32.ofNat s) (T := 97) (F := 19) (lv' := [some (.ref 1021), some (.int (Int32.ofNat sd)), some (.int (Int32.ofNat (aw_su (aw_ni T) s))), some (.int (Int32.ofNat (aw_su (aw_nc T) s))), some (.int (Int32.ofNat (aw_mx (aw_nd T) s))), some (.int (Int32.ofNat s)), x6]) (st' := []) (h1 := am_h (aw_mt w ft wr wd n sh T) g) rfl (fun b16 => ?_) (fun b16 => ?_)
    · have b16 : sh ≤ s := (am_leN (i := sh) (n := s) (by omega) (by omega)).mp b16
      omega
    · have b16 : ¬ sh ≤ s := fun hq9 => b16 ((am_leN (i := sh) (n := s) (by omega) (by omega)).mpr hq9)
      refine am_R.nxs 2 (pc' := 21) (lv' := [some (.ref 1021), some (.int (Int32.ofNat sd)), some (.int (Int32.ofNat (aw_su (aw_ni T) s))), some (.int (Int32.ofNat (aw_su (aw_nc T) s))), some (.int (Int32.ofNat (aw_mx (aw_nd T) s))), some (.int (Int32.ofNat s)), x6]) (st' := [.ref 1021, .int (Int32.ofNat (aw_su (aw_ni T) s))]) (h1 := am_h (aw_mt w ft wr wd n sh T) g) rfl ?_
      refine am_R.gf (pc' := 24) (v := .ref 1038) rfl (am_wf 21 (by decide) (aw_mt21 : (aw_mt w ft wr wd n sh T) 21 = _)) rfl rfl rfl ?_
      refine am_R.nxs 1 (pc' := 26) (lv' := [some (.ref 1021), some (.int (Int32.ofNat sd)), some (.int (Int32.ofNat (aw_su (aw_ni T) s))), some (.int (Int32.ofNat (aw_su (aw_nc T) s))), some (.int (Int32.ofNat (aw_mx (aw_nd T) s))), some (.int (Int32.ofNat s)), x6]) (st' := [.int (Int32.ofNat s), .ref 1038, .int (Int32.ofNat (aw_su (aw_ni T) s))]) (h1 := am_h (aw_mt w ft wr wd n sh T) g) rfl ?_
      refine am_R.ldi (i := s) (xs := (aw_lT T 38)) (pc' := 27) rfl (am_wf 38 (by decide) (aw_mtk (by decide) (by decide) : (aw_mt w ft wr wd n sh T) 38 = _)) (aw_lT_b (show s < 40 by omega)) aw_lT_s rfl ?_
      rw [aw_lT_get (show s < 40 by omega), (hsm s hs).1]
      refine am_R.nxs 1 (pc' := 28) (lv' := [some (.ref 1021), some (.int (Int32.ofNat sd)), some (.int (Int32.ofNat (aw_su (aw_ni T) s))), some (.int (Int32.ofNat (aw_su (aw_nc T) s))), some (.int (Int32.ofNat (aw_mx (aw_nd T) s))), some (.int (Int32.ofNat s)), x6]) (st' := [.int (Int32.ofNat (aw_su (aw_ni T) s) + Int32.ofNat (aw_ni T s))]) (h1 := am_h (aw_mt w ft wr wd n sh T) g) rfl ?_
      rw [show (Int32.ofNat (aw_su (aw_ni T) s) + Int32.ofNat (aw_ni T s) : Int32) = Int32.ofNat ((aw_su (aw_ni T) s) + (aw_ni T s)) from am_add (aw_su (aw_ni T) s) (aw_ni T s)]
      refine am_R.nxs 2 (pc' := 30) (lv' := [some (.ref 1021), some (.int (Int32.ofNat sd)), some (.int (Int32.ofNat ((aw_su (aw_ni T) s) + (aw_ni T s)))), some (.int (Int32.ofNat (aw_su (aw_nc T) s))), some (.int (Int32.ofNat (aw_mx (aw_nd T) s))), some (.int (Int32.ofNat s)), x6]) (st' := [.ref 1021]) (h1 := am_h (aw_mt w ft wr wd n sh T) g) rfl ?_
      refine am_R.gf (pc' := 33) (v := .ref 1037) rfl (am_wf 21 (by decide) (aw_mt21 : (aw_mt w ft wr wd n sh T) 21 = _)) rfl rfl rfl ?_
      refine am_R.nxs 1 (pc' := 35) (lv' := [some (.ref 1021), some (.int (Int32.ofNat sd)), some (.int (Int32.ofNat ((aw_su (aw_ni T) s) + (aw_ni T s)))), some (.int (Int32.ofNat (aw_su (aw_nc T) s))), some (.int (Int32.ofNat (aw_mx (aw_nd T) s))), some (.int (Int32.ofNat s)), x6]) (st' := [.int (Int32.ofNat s), .ref 1037]) (h1 := am_h (aw_mt w ft wr wd n sh T) g) rfl ?_
      refine am_R.ldi (i := s) (xs := (aw_lT T 37)) (pc' := 36) rfl (am_wf 37 (by decide) (aw_mtk (by decide) (by decide) : (aw_mt w ft wr wd n sh T) 37 = _)) (aw_lT_b (show s < 40 by omega)) aw_lT_s rfl ?_
      rw [aw_lT_get (show s < 40 by omega), (hsm s hs).2.2.1]
      refine am_R.ites 2 (P := Int32.ofNat (aw_nd T s) ≤ Int32.ofNat (aw_mx (aw_nd T) s)) (T := 51) (F := 41) (lv' := [some (.ref 1021), some (.int (Int32.ofNat sd)), some (.int (Int32.ofNat ((aw_su (aw_ni T) s) + (aw_ni T s)))), some (.int (Int32.ofNat (aw_su (aw_nc T) s))), some (.int (Int32.ofNat (aw_mx (aw_nd T) s))), some (.int (Int32.ofNat s)), x6]) (st' := []) (h1 := am_h (aw_mt w ft wr wd n sh T) g) rfl (fun b38 => ?_) (fun b38 => ?_)
      · have b38 : (aw_nd T s) ≤ (aw_mx (aw_nd T) s) := (am_leN (i := (aw_nd T s)) (n := (aw_mx (aw_nd T) s)) (by omega) (by omega)).mp b38
        refine am_R.nxs 2 (pc' := 55) (lv' := [some (.ref 1021), some (.int (Int32.ofNat sd)), some (.int (Int32.ofNat ((aw_su (aw_ni T) s) + (aw_ni T s)))), some (.int (Int32.ofNat (aw_su (aw_nc T) s))), some (.int (Int32.ofNat (aw_mx (aw_nd T) s))), some (.int (Int32.ofNat s)), x6]) (st' := []) (h1 := am_h (aw_mt w ft wr wd n sh T) g) rfl ?_
        have em : (aw_mx (aw_nd T) s) = aw_mx (aw_nd T) (s + 1) := by rw [aw_mx]; omega
        rw [em]
        refine am_R.nxs 2 (pc' := 58) (lv' := [some (.ref 1021), some (.int (Int32.ofNat sd)), some (.int (Int32.ofNat ((aw_su (aw_ni T) s) + (aw_ni T s)))), some (.int (Int32.ofNat (aw_su (aw_nc T) s))), some (.int (Int32.ofNat (aw_mx (aw_nd T) (s + 1)))), some (.int (Int32.ofNat s)), some (.int 0)]) (st' := []) (h1 := am_h (aw_mt w ft wr wd n sh T) g) rfl ?_
        refine aw_k127i d hs8 hsm h31 hco hsd hs (a := aw_su (aw_ni T) (s + 1)) (B := aw_su (aw_nc T) s) (fun y => ?_) (aw_ni T s) 0 (by omega)
        refine am_R.nxs 1 (pc' := 94) (lv' := [some (.ref 1021), some (.int (Int32.ofNat sd)), some (.int (Int32.ofNat (aw_su (aw_ni T) (s + 1)))), some (.int (Int32.ofNat (aw_su (aw_nc T) s + aw_nc T s))), some (.int (Int32.ofNat (aw_mx (aw_nd T) (s + 1)))), some (.int (Int32.ofNat s + 1)), y]) (st' := []) (h1 := am_h (aw_mt w ft wr wd n sh T) g) rfl ?_
        rw [show (Int32.ofNat s + 1 : Int32) = Int32.ofNat (s + 1) from am_add s 1]
        refine am_R.nxs 1 (pc' := 10) (lv' := [some (.ref 1021), some (.int (Int32.ofNat sd)), some (.int (Int32.ofNat (aw_su (aw_ni T) (s + 1)))), some (.int (Int32.ofNat (aw_su (aw_nc T) s + aw_nc T s))), some (.int (Int32.ofNat (aw_mx (aw_nd T) (s + 1)))), some (.int (Int32.ofNat (s + 1))), y]) (st' := []) (h1 := am_h (aw_mt w ft wr wd n sh T) g) rfl ?_
        exact ih (s + 1) _ (by omega)
      · have b38 : ¬ (aw_nd T s) ≤ (aw_mx (aw_nd T) s) := fun hq9 => b38 ((am_leN (i := (aw_nd T s)) (n := (aw_mx (aw_nd T) s)) (by omega) (by omega)).mpr hq9)
        refine am_R.nxs 1 (pc' := 42) (lv' := [some (.ref 1021), some (.int (Int32.ofNat sd)), some (.int (Int32.ofNat ((aw_su (aw_ni T) s) + (aw_ni T s)))), some (.int (Int32.ofNat (aw_su (aw_nc T) s))), some (.int (Int32.ofNat (aw_mx (aw_nd T) s))), some (.int (Int32.ofNat s)), x6]) (st' := [.ref 1021]) (h1 := am_h (aw_mt w ft wr wd n sh T) g) rfl ?_
        refine am_R.gf (pc' := 45) (v := .ref 1037) rfl (am_wf 21 (by decide) (aw_mt21 : (aw_mt w ft wr wd n sh T) 21 = _)) rfl rfl rfl ?_
        refine am_R.nxs 1 (pc' := 47) (lv' := [some (.ref 1021), some (.int (Int32.ofNat sd)), some (.int (Int32.ofNat ((aw_su (aw_ni T) s) + (aw_ni T s)))), some (.int (Int32.ofNat (aw_su (aw_nc T) s))), some (.int (Int32.ofNat (aw_mx (aw_nd T) s))), some (.int (Int32.ofNat s)), x6]) (st' := [.int (Int32.ofNat s), .ref 1037]) (h1 := am_h (aw_mt w ft wr wd n sh T) g) rfl ?_
        refine am_R.ldi (i := s) (xs := (aw_lT T 37)) (pc' := 48) rfl (am_wf 37 (by decide) (aw_mtk (by decide) (by decide) : (aw_mt w ft wr wd n sh T) 37 = _)) (aw_lT_b (show s < 40 by omega)) aw_lT_s rfl ?_
        rw [aw_lT_get (show s < 40 by omega), (hsm s hs).2.2.1]
        refine am_R.nxs 2 (pc' := 55) (lv' := [some (.ref 1021), some (.int (Int32.ofNat sd)), some (.int (Int32.ofNat ((aw_su (aw_ni T) s) + (aw_ni T s)))), some (.int (Int32.ofNat (aw_su (aw_nc T) s))), some (.int (Int32.ofNat (aw_nd T s))), some (.int (Int32.ofNat s)), x6]) (st' := []) (h1 := am_h (aw_mt w ft wr wd n sh T) g) rfl ?_
        have em : (aw_nd T s) = aw_mx (aw_nd T) (s + 1) := by rw [aw_mx]; omega
        rw [em]
        refine am_R.nxs 2 (pc' := 58) (lv' := [some (.ref 1021), some (.int (Int32.ofNat sd)), some (.int (Int32.ofNat ((aw_su (aw_ni T) s) + (aw_ni T s)))), some (.int (Int32.ofNat (aw_su (aw_nc T) s))), some (.int (Int32.ofNat (aw_mx (aw_nd T) (s + 1)))), some (.int (Int32.ofNat s)), some (.int 0)]) (st' := []) (h1 := am_h (aw_mt w ft wr wd n sh T) g) rfl ?_
        refine aw_k127i d hs8 hsm h31 hco hsd hs (a := aw_su (aw_ni T) (s + 1)) (B := aw_su (aw_nc T) s) (fun y => ?_) (aw_ni T s) 0 (by omega)
        refine am_R.nxs 1 (pc' := 94) (lv' := [some (.ref 1021), some (.int (Int32.ofNat sd)), some (.int (Int32.ofNat (aw_su (aw_ni T) (s + 1)))), some (.int (Int32.ofNat (aw_su (aw_nc T) s + aw_nc T s))), some (.int (Int32.ofNat (aw_mx (aw_nd T) (s + 1)))), some (.int (Int32.ofNat s + 1)), y]) (st' := []) (h1 := am_h (aw_mt w ft wr wd n sh T) g) rfl ?_
        rw [show (Int32.ofNat s + 1 : Int32) = Int32.ofNat (s + 1) from am_add s 1]
        refine am_R.nxs 1 (pc' := 10) (lv' := [some (.ref 1021), some (.int (Int32.ofNat sd)), some (.int (Int32.ofNat (aw_su (aw_ni T) (s + 1)))), some (.int (Int32.ofNat (aw_su (aw_nc T) s + aw_nc T s))), some (.int (Int32.ofNat (aw_mx (aw_nd T) (s + 1)))), some (.int (Int32.ofNat (s + 1))), y]) (st' := []) (h1 := am_h (aw_mt w ft wr wd n sh T) g) rfl ?_
        exact ih (s + 1) _ (by omega)
theorem aw_k127 {w : Nat → am_C} {g : am_H} (d : Nat) {ft wr wd : Int32} {n sh : Nat} {T : aw_T} (hs8 : sh ≤ 8) (hsm : ∀ z, z < sh → aw_sm T z) {co : List Int32} (h31 : w 31 = am_I 0 co) (hco : co.length = 12) {sd : Nat} (hsd : sd < 3) : am_R d 127 0 [some (.ref 1021), some (.int (Int32.ofNat sd)), none, none, none, none, none] [] (am_h (aw_mt w ft wr wd n sh T) g) (.inl none) (am_h (aw_mt (am_pu w 31 (am_I 0 ((((co.set (4 * sd) (Int32.ofNat sh)).set (4 * sd + 1) (Int32.ofNat (aw_su (aw_ni T) sh))).set (4 * sd + 2) (Int32.ofNat (aw_su (aw_nc T) sh))).set (4 * sd + 3) (Int32.ofNat (aw_mx (aw_nd T) sh))))) ft wr wd n sh T) g) := by
  refine am_R.nxs 8 (pc' := 10) (lv' := [some (.ref 1021), some (.int (Int32.ofNat sd)), some (.int 0), some (.int 0), some (.int 0), some (.int 0), none]) (st' := []) (h1 := am_h (aw_mt w ft wr wd n sh T) g) rfl ?_
  exact aw_k127l d hs8 hsm h31 hco hsd sh 0 none (by omega)
