/-! cells, row, differ: loops of both sides, and their calls in the law. -/
/-- how many of the first n -/
def aw_cnt (f : Nat → Bool) : Nat → Int32
  | 0 => 0
  | n + 1 => if f n = true then aw_cnt f n + 1 else aw_cnt f n
/-- the bits of the first n, added -/
def aw_bitA (f : Nat → Bool) : Nat → Int32
  | 0 => 0
  | n + 1 => if f n = true then aw_bitA f n + (1 <<< (Int32.ofNat n &&& 31)) else aw_bitA f n
/-- the bits of the first n, joined -/
def aw_bitO (f : Nat → Bool) : Nat → Int32
  | 0 => 0
  | n + 1 => if f n = true then aw_bitO f n ||| (1 <<< (Int32.ofNat n &&& 31)) else aw_bitO f n
theorem aw_cnt_cong {f g : Nat → Bool} {n : Nat} (h : ∀ k, k < n → f k = g k) : aw_cnt f n = aw_cnt g n := by
  induction n with
  | zero => rfl
  | succ n ih => rw [aw_cnt, aw_cnt, ih (fun k hk => h k (by omega)), h n (by omega)]
theorem aw_bitO_cong {f g : Nat → Bool} {n : Nat} (h : ∀ k, k < n → f k = g k) : aw_bitO f n = aw_bitO g n := by
  induction n with
  | zero => rfl
  | succ n ih => rw [aw_bitO, aw_bitO, ih (fun k hk => h k (by omega)), h n (by omega)]
theorem aw_bit1 {n : Nat} (hn : n < 31) : ((1 : Int32) <<< (Int32.ofNat n &&& 31)).toBitVec = BitVec.twoPow 32 n := by
  have key : ∀ n, n < 31 → ((1 : Int32) <<< (Int32.ofNat n &&& 31)).toBitVec = BitVec.twoPow 32 n := by decide
  exact key n hn
theorem aw_bitO_lt (f : Nat → Bool) : ∀ n, n ≤ 31 → (aw_bitO f n).toBitVec.toNat < 2 ^ n := by
  intro n
  induction n with
  | zero => intro _; show (0 : Int32).toBitVec.toNat < 2 ^ 0; decide
  | succ n ih =>
    intro hn
    have h1 := ih (by omega)
    have hp : (2 : Nat) ^ (n + 1) = 2 ^ n + 2 ^ n := by rw [Nat.pow_succ]; omega
    rw [aw_bitO]
    split
    · show ((aw_bitO f n).toBitVec ||| ((1 : Int32) <<< (Int32.ofNat n &&& 31)).toBitVec).toNat < _
      rw [aw_bit1 (by omega), BitVec.toNat_or]
      refine Nat.or_lt_two_pow (by omega) ?_
      rw [BitVec.toNat_twoPow]
      exact Nat.lt_of_le_of_lt (Nat.mod_le _ _) (Nat.pow_lt_pow_right (by decide) (by omega))
    · omega
theorem aw_bit_eq (f : Nat → Bool) : ∀ n, n ≤ 31 → aw_bitA f n = aw_bitO f n := by
  intro n
  induction n with
  | zero => intro _; rfl
  | succ n ih =>
    intro hn
    rw [aw_bitA, aw_bitO, ih (by omega)]
    split
    · apply Int32.toBitVec_inj.mp
      show (aw_bitO f n).toBitVec + ((1 : Int32) <<< (Int32.ofNat n &&& 31)).toBitVec = (aw_bitO f n).toBitVec ||| ((1 : Int32) <<< (Int32.ofNat n &&& 31)).toBitVec
      rw [aw_bit1 (by omega)]
      apply BitVec.add_eq_or_of_and_eq_zero
      apply BitVec.eq_of_getLsbD_eq
      intro j hj
      rw [BitVec.getLsbD_and, BitVec.getLsbD_twoPow]
      have h1 := aw_bitO_lt f n (by omega)
      by_cases hjn : n = j
      · subst hjn
        rw [BitVec.getLsbD, Nat.testBit_lt_two_pow h1]
        simp
      · simp [hjn]
    · rfl
theorem aw_k73l {w : Nat → am_C} {g : am_H} (d : Nat) {r : Nat} (hr : r < 4) {pc : List Int32} (hP : w (7 + 4 * r) = am_I 0 pc) (hpl : pc.length = 576) (t : Int32) (x1 : Option Value) : ∀ m i : Nat, i + m = pc.length → am_R d 73 15 [some (.ref 1001), x1, some (.int t), some (.ref (1007 + 4 * r)), some (.int (aw_cnt (fun j => decide (pc.getD j 0 = t)) i)), some (.int (Int32.ofNat i))] [] (am_h w g) (.inl (some (.int (aw_cnt (fun j => decide (pc.getD j 0 = t)) pc.length)))) (am_h w g) := by
  intro m
  induction m with
  | zero =>
    intro i hi
    have hi9 : i = pc.length := by omega
    subst hi9
    refine am_R.nxs 2 (pc' := 18) (lv' := [some (.ref 1001), x1, some (.int t), some (.ref (1007 + 4 * r)), some (.int (aw_cnt (fun j => decide (pc.getD j 0 = t)) pc.length)), some (.int (Int32.ofNat pc.length))]) (st' := [.ref (1007 + 4 * r), .int (Int32.ofNat pc.length)]) (h1 := am_h w g) rfl ?_
    refine am_R.ali (xs := pc) (pc' := 19) rfl (aw_at7 hr hP) rfl ?_
    refine am_R.ites 1 (P := Int32.ofNat pc.length ≤ Int32.ofNat pc.length) (T := 39) (F := 22) (lv' := [some (.ref 1001), x1, some (.int t), some (.ref (1007 + 4 * r)), some (.int (aw_cnt (fun j => decide (pc.getD j 0 = t)) pc.length)), some (.int (Int32.ofNat pc.length))]) (st' := []) (h1 := am_h w g) rfl (fun b19 => ?_) (fun b19 => ?_)
    · have b19 : pc.length ≤ pc.length := (am_leN (i := pc.length) (n := pc.length) (by omega) (by omega)).mp b19
      refine am_R.nxs 1 (pc' := 41) (lv' := [some (.ref 1001), x1, some (.int t), some (.ref (1007 + 4 * r)), some (.int (aw_cnt (fun j => decide (pc.getD j 0 = t)) pc.length)), some (.int (Int32.ofNat pc.length))]) (st' := [.int (aw_cnt (fun j => decide (pc.getD j 0 = t)) pc.length)]) (h1 := am_h w g) rfl ?_
      exact am_R.reti rfl rfl rfl
    · have b19 : ¬ pc.length ≤ pc.length := fun hq9 => b19 ((am_leN (i := pc.length) (n := pc.length) (by omega) (by omega)).mpr hq9)
      omega
  | succ m ih =>
    intro i hi
    refine am_R.nxs 2 (pc' := 18) (lv' := [some (.ref 1001), x1, some (.int t), some (.ref (1007 + 4 * r)), some (.int (aw_cnt (fun j => decide (pc.getD j 0 = t)) i)), some (.int (Int32.ofNat i))]) (st' := [.ref (1007 + 4 * r), .int (Int32.ofNat i)]) (h1 := am_h w g) rfl ?_
    refine am_R.ali (xs := pc) (pc' := 19) rfl (aw_at7 hr hP) rfl ?_
    refine am_R.ites 1 (P := Int32.ofNat pc.length ≤ Int32.ofNat i) (T := 39) (F := 22) (lv' := [some (.ref 1001), x1, some (.int t), some (.ref (1007 + 4 * r)), some (.int (aw_cnt (fun j => decide (pc.getD j 0 = t)) i)), some (.int (Int32.ofNat i))]) (st' := []) (h1 := am_h w g) rfl (fun b19 => ?_) (fun b19 => ?_)
    · have b19 : pc.length ≤ i := (am_leN (i := pc.length) (n := i) (by omega) (by omega)).mp b19
      omega
    · have b19 : ¬ pc.length ≤ i := fun hq9 => b19 ((am_leN (i := pc.length) (n := i) (by omega) (by omega)).mpr hq9)
      refine am_R.nxs 2 (pc' := 25) (lv' := [some (.ref 1001), x1, some (.int t), some (.ref (1007 + 4 * r)), some (.int (aw_cnt (fun j => decide (pc.getD j 0 = t)) i)), some (.int (Int32.ofNat i))]) (st' := [.int (Int32.ofNat i), .ref (1007 + 4 * r)]) (h1 := am_h w g) rfl ?_
      refine am_R.ldi (i := i) (xs := pc) (pc' := 26) rfl (aw_at7 hr hP) (by omega) (by omega) rfl ?_
      refine am_R.ites 2 (P := ¬ (pc.getD i 0) = t) (T := 33) (F := 30) (lv' := [some (.ref 1001), x1, some (.int t), some (.ref (1007 + 4 * r)), some (.int (aw_cnt (fun j => decide (pc.getD j 0 = t)) i)), some (.int (Int32.ofNat i))]) (st' := []) (h1 := am_h w g) rfl (fun b27 => ?_) (fun b27 => ?_)
      · refine am_R.nxs 1 (pc' := 36) (lv' := [some (.ref 1001), x1, some (.int t), some (.ref (1007 + 4 * r)), some (.int (aw_cnt (fun j => decide (pc.getD j 0 = t)) i)), some (.int (Int32.ofNat i + 1))]) (st' := []) (h1 := am_h w g) rfl ?_
        rw [show (Int32.ofNat i + 1 : Int32) = Int32.ofNat (i + 1) from am_add i 1]
        refine am_R.nxs 1 (pc' := 15) (lv' := [some (.ref 1001), x1, some (.int t), some (.ref (1007 + 4 * r)), some (.int (aw_cnt (fun j => decide (pc.getD j 0 = t)) i)), some (.int (Int32.ofNat (i + 1)))]) (st' := []) (h1 := am_h w g) rfl ?_
        have e9 : (aw_cnt (fun j => decide (pc.getD j 0 = t)) (i + 1)) = (aw_cnt (fun j => decide (pc.getD j 0 = t)) i) := if_neg (by rw [decide_eq_true_eq]; exact b27)
        rw [← e9]
        exact ih (i + 1) (by omega)
      · refine am_R.nxs 2 (pc' := 36) (lv' := [some (.ref 1001), x1, some (.int t), some (.ref (1007 + 4 * r)), some (.int ((aw_cnt (fun j => decide (pc.getD j 0 = t)) i) + 1)), some (.int (Int32.ofNat i + 1))]) (st' := []) (h1 := am_h w g) rfl ?_
        rw [show (Int32.ofNat i + 1 : Int32) = Int32.ofNat (i + 1) from am_add i 1]
        refine am_R.nxs 1 (pc' := 15) (lv' := [some (.ref 1001), x1, some (.int t), some (.ref (1007 + 4 * r)), some (.int ((aw_cnt (fun j => decide (pc.getD j 0 = t)) i) + 1)), some (.int (Int32.ofNat (i + 1)))]) (st' := []) (h1 := am_h w g) rfl ?_
        have e9 : (aw_cnt (fun j => decide (pc.getD j 0 = t)) (i + 1)) = (aw_cnt (fun j => decide (pc.getD j 0 = t)) i) + 1 := if_pos (decide_eq_true (Decidable.not_not.mp b27))
        rw [← e9]
        exact ih (i + 1) (by omega)
theorem aw_k73a {w : Nat → am_C} {g : am_H} (d : Nat) {tl pl sp : Nat} (h1 : w 1 = aw_c1 tl pl sp) {rs : List Value} (h4 : w 4 = .inr (5, rs)) (hl : rs.length = 3) {k r : Nat} (hk : k < 3) (hr : r < 4) (hrs : rs[k]? = some (.ref (1005 + 4 * r))) {wc bc sc ic cc dp rd : Int32} (hT : w (5 + 4 * r) = aw_cT r wc bc sc ic cc dp rd) {pc : List Int32} (hP : w (7 + 4 * r) = am_I 0 pc) (hpl : pc.length = 576) (hd : rd = 1) (t : Int32) : am_R (d + 2) 73 0 [some (.ref 1001), some (.int (Int32.ofNat k)), some (.int t), none, none, none] [] (am_h w g) (.inl (some (.int (aw_cnt (fun j => decide (pc.getD j 0 = t)) pc.length)))) (am_h w g) := by
  refine am_R.nxs 2 (pc' := 2) (lv' := [some (.ref 1001), some (.int (Int32.ofNat k)), some (.int t), none, none, none]) (st' := [.int (Int32.ofNat k), .ref 1001]) (h1 := am_h w g) rfl ?_
  refine am_R.cv (a := 1001) (as' := [.int (Int32.ofNat k)]) (r := []) (v := some (.ref (1005 + 4 * r))) (h1 := am_h w g) (pc' := 5) rfl rfl rfl rfl (am_wf 1 (by decide) h1) rfl rfl (aw_k69a d h1 h4 hl hk hr hrs hT hd) rfl ?_
  refine am_R.gf (pc' := 8) (v := .ref (1007 + 4 * r)) rfl (aw_at5 hr hT) rfl rfl rfl ?_
  refine am_R.nxs 5 (pc' := 15) (lv' := [some (.ref 1001), some (.int (Int32.ofNat k)), some (.int t), some (.ref (1007 + 4 * r)), some (.int 0), some (.int 0)]) (st' := []) (h1 := am_h w g) rfl ?_
  exact aw_k73l (d + 2) hr hP hpl t _ pc.length 0 (Nat.zero_add _)
theorem aw_k73b {w : Nat → am_C} {g : am_H} (d : Nat) {tl pl sp : Nat} (h1 : w 1 = aw_c1 tl pl sp) {rs : List Value} (h4 : w 4 = .inr (5, rs)) (hl : rs.length = 3) {k r : Nat} (hk : k < 3) (hr : r < 4) (hrs : rs[k]? = some (.ref (1005 + 4 * r))) {wc bc sc ic cc dp rd : Int32} (hT : w (5 + 4 * r) = aw_cT r wc bc sc ic cc dp rd) (hd : rd = 0) (t : Int32) : am_R (d + 2) 73 0 [some (.ref 1001), some (.int (Int32.ofNat k)), some (.int t), none, none, none] [] (am_h w g) (.inr (1000 + (am_h w g).length)) (am_h w (g ++ [.inl (9, [])])) := by
  refine am_R.nxs 2 (pc' := 2) (lv' := [some (.ref 1001), some (.int (Int32.ofNat k)), some (.int t), none, none, none]) (st' := [.int (Int32.ofNat k), .ref 1001]) (h1 := am_h w g) rfl ?_
  exact am_R.cvp (a := 1001) (as' := [.int (Int32.ofNat k)]) (r := []) rfl rfl rfl rfl (am_wf 1 (by decide) h1) rfl rfl (aw_k69b d h1 h4 hl hk hr hrs hT hd) rfl
theorem aw_k73c {w : Nat → am_C} {g : am_H} (d : Nat) {tl pl sp : Nat} (h1 : w 1 = aw_c1 tl pl sp) (s t : Int32) (hs : s < 0 ∨ ¬ s < 3) : am_R (d + 2) 73 0 [some (.ref 1001), some (.int s), some (.int t), none, none, none] [] (am_h w g) (.inr (1000 + (am_h w g).length)) (am_h w (g ++ [.inl (8, [])])) := by
  refine am_R.nxs 2 (pc' := 2) (lv' := [some (.ref 1001), some (.int s), some (.int t), none, none, none]) (st' := [.int s, .ref 1001]) (h1 := am_h w g) rfl ?_
  exact am_R.cvp (a := 1001) (as' := [.int s]) (r := []) rfl rfl rfl rfl (am_wf 1 (by decide) h1) rfl rfl (aw_k69c d h1 s hs) rfl
theorem aw_k135l {w : Nat → am_C} {g : am_H} (d : Nat) {ft ty wr wd wt sn : Int32} (h21 : w 21 = aw_c21 ft ty wr wd wt sn) {pi : List Int32} (h28 : w 28 = am_I 0 pi) (l28 : pi.length = 1728) {k : Nat} (hk : k < 3) (t : Int32) : ∀ m i : Nat, i + m = 576 → am_R d 135 20 [some (.ref 1021), some (.int (Int32.ofNat k)), some (.int t), some (.int (aw_cnt (fun j => decide (pi.getD (576 * k + j) 0 = t)) i)), some (.int (Int32.ofNat i))] [] (am_h w g) (.inl (some (.int (aw_cnt (fun j => decide (pi.getD (576 * k + j) 0 = t)) 576)))) (am_h w g) := by
  intro m
  induction m with
  | zero =>
    intro i hi
    have hi9 : i = 576 := by omega
    subst hi9
    refine am_R.ites 3 (P := 576 ≤ Int32.ofNat 576) (T := 59) (F := 28) (lv' := [some (.ref 1021), some (.int (Int32.ofNat k)), some (.int t), some (.int (aw_cnt (fun j => decide (pi.getD (576 * k + j) 0 = t)) 576)), some (.int (Int32.ofNat 576))]) (st' := []) (h1 := am_h w g) rfl (fun b25 => ?_) (fun b25 => ?_)
    · have b25 : 576 ≤ 576 := (am_leN (i := 576) (n := 576) (by omega) (by omega)).mp b25
      refine am_R.nxs 1 (pc' := 60) (lv' := [some (.ref 1021), some (.int (Int32.ofNat k)), some (.int t), some (.int (aw_cnt (fun j => decide (pi.getD (576 * k + j) 0 = t)) 576)), some (.int (Int32.ofNat 576))]) (st' := [.int (aw_cnt (fun j => decide (pi.getD (576 * k + j) 0 = t)) 576)]) (h1 := am_h w g) rfl ?_
      exact am_R.reti rfl rfl rfl
    · have b25 : ¬ 576 ≤ 576 := fun hq9 => b25 ((am_leN (i := 576) (n := 576) (by omega) (by omega)).mpr hq9)
      omega
  | succ m ih =>
    intro i hi
    refine am_R.ites 3 (P := 576 ≤ Int32.ofNat i) (T := 59) (F := 28) (lv' := [some (.ref 1021), some (.int (Int32.ofNat k)), some (.int t), some (.int (aw_cnt (fun j => decide (pi.getD (576 * k + j) 0 = t)) i)), some (.int (Int32.ofNat i))]) (st' := []) (h1 := am_h w g) rfl (fun b25 => ?_) (fun b25 => ?_)
    · have b25 : 576 ≤ i := (am_leN (i := 576) (n := i) (by omega) (by omega)).mp b25
      omega
    · have b25 : ¬ 576 ≤ i := fun hq9 => b25 ((am_leN (i := 576) (n := i) (by omega) (by omega)).mpr hq9)
      refine am_R.nxs 1 (pc' := 29) (lv' := [some (.ref 1021), some (.int (Int32.ofNat k)), some (.int t), some (.int (aw_cnt (fun j => decide (pi.getD (576 * k + j) 0 = t)) i)), some (.int (Int32.ofNat i))]) (st' := [.ref 1021]) (h1 := am_h w g) rfl ?_
      refine am_R.gf (pc' := 32) (v := .ref 1028) rfl (am_wf 21 (by decide) h21) rfl rfl rfl ?_
      refine am_R.nxs 3 (pc' := 37) (lv' := [some (.ref 1021), some (.int (Int32.ofNat k)), some (.int t), some (.int (aw_cnt (fun j => decide (pi.getD (576 * k + j) 0 = t)) i)), some (.int (Int32.ofNat i))]) (st' := [.int (576 * Int32.ofNat k), .ref 1028]) (h1 := am_h w g) rfl ?_
      rw [show (576 * Int32.ofNat k : Int32) = Int32.ofNat (576 * k) from am_mul 576 k]
      refine am_R.nxs 2 (pc' := 40) (lv' := [some (.ref 1021), some (.int (Int32.ofNat k)), some (.int t), some (.int (aw_cnt (fun j => decide (pi.getD (576 * k + j) 0 = t)) i)), some (.int (Int32.ofNat i))]) (st' := [.int (Int32.ofNat (576 * k) + Int32.ofNat i), .ref 1028]) (h1 := am_h w g) rfl ?_
      rw [show (Int32.ofNat (576 * k) + Int32.ofNat i : Int32) = Int32.ofNat ((576 * k) + i) from am_add (576 * k) i]
      refine am_R.ldi (i := ((576 * k) + i)) (xs := pi) (pc' := 41) rfl (am_wf 28 (by decide) h28) (by omega) (by omega) rfl ?_
      refine am_R.ites 2 (P := ¬ (pi.getD ((576 * k) + i) 0) = t) (T := 51) (F := 45) (lv' := [some (.ref 1021), some (.int (Int32.ofNat k)), some (.int t), some (.int (aw_cnt (fun j => decide (pi.getD (576 * k + j) 0 = t)) i)), some (.int (Int32.ofNat i))]) (st' := []) (h1 := am_h w g) rfl (fun b42 => ?_) (fun b42 => ?_)
      · refine am_R.nxs 3 (pc' := 56) (lv' := [some (.ref 1021), some (.int (Int32.ofNat k)), some (.int t), some (.int (aw_cnt (fun j => decide (pi.getD (576 * k + j) 0 = t)) i)), some (.int (Int32.ofNat i + 1))]) (st' := []) (h1 := am_h w g) rfl ?_
        rw [show (Int32.ofNat i + 1 : Int32) = Int32.ofNat (i + 1) from am_add i 1]
        refine am_R.nxs 1 (pc' := 20) (lv' := [some (.ref 1021), some (.int (Int32.ofNat k)), some (.int t), some (.int (aw_cnt (fun j => decide (pi.getD (576 * k + j) 0 = t)) i)), some (.int (Int32.ofNat (i + 1)))]) (st' := []) (h1 := am_h w g) rfl ?_
        have e9 : (aw_cnt (fun j => decide (pi.getD (576 * k + j) 0 = t)) (i + 1)) = (aw_cnt (fun j => decide (pi.getD (576 * k + j) 0 = t)) i) := if_neg (by rw [decide_eq_true_eq]; exact b42)
        rw [← e9]
        exact ih (i + 1) (by omega)
      · refine am_R.nxs 6 (pc' := 56) (lv' := [some (.ref 1021), some (.int (Int32.ofNat k)), some (.int t), some (.int ((aw_cnt (fun j => decide (pi.getD (576 * k + j) 0 = t)) i) + 1)), some (.int (Int32.ofNat i + 1))]) (st' := []) (h1 := am_h w g) rfl ?_
        rw [show (Int32.ofNat i + 1 : Int32) = Int32.ofNat (i + 1) from am_add i 1]
        refine am_R.nxs 1 (pc' := 20) (lv' := [some (.ref 1021), some (.int (Int32.ofNat k)), some (.int t), some (.int ((aw_cnt (fun j => decide (pi.getD (576 * k + j) 0 = t)) i) + 1)), some (.int (Int32.ofNat (i + 1)))]) (st' := []) (h1 := am_h w g) rfl ?_
        have e9 : (aw_cnt (fun j => decide (pi.getD (576 * k + j) 0 = t)) (i + 1)) = (aw_cnt (fun j => decide (pi.getD (576 * k + j) 0 = t)) i) + 1 := if_pos (decide_eq_true (Decidable.not_not.mp b42))
        rw [← e9]
        exact ih (i + 1) (by omega)
theorem aw_k135a {w : Nat → am_C} {g : am_H} (d : Nat) {ft ty wr wd wt sn : Int32} (h21 : w 21 = aw_c21 ft ty wr wd wt sn) {ma : List Int32} (h27 : w 27 = am_I 0 ma) (l27 : ma.length = 3) {pi : List Int32} (h28 : w 28 = am_I 0 pi) (l28 : pi.length = 1728) {k : Nat} (hk : k < 3) (hm : ¬ ma.getD k 0 = 0) (t : Int32)  : am_R (d + 1) 135 0 [some (.ref 1021), some (.int (Int32.ofNat k)), some (.int t), none, none] [] (am_h w g) (.inl (some (.int (aw_cnt (fun j => decide (pi.getD (576 * k + j) 0 = t)) 576)))) (am_h (am_pu w 21 (aw_c21 0 ty wr wd wt sn)) g) := by
  refine am_R.nxs 4 (pc' := 4) (lv' := [some (.ref 1021), some (.int (Int32.ofNat k)), some (.int t), none, none]) (st' := [.int 1, .int (Int32.ofNat k), .ref 1021, .ref 1021]) (h1 := am_h w g) rfl ?_
  refine am_R.cv (a := 1021) (as' := [.int (Int32.ofNat k), .int 1]) (r := [.ref 1021]) (v := some (.int 0)) (h1 := am_h w g) (pc' := 7) rfl rfl rfl rfl (am_wf 21 (by decide) h21) rfl rfl (aw_k133a d h21 h27 l27 hk hm) rfl ?_
  refine am_R.cv (a := 1021) (as' := [.int 0]) (r := []) (v := some (.int 0)) (h1 := am_h (am_pu w 21 (aw_c21 0 ty wr wd wt sn)) g) (pc' := 10) rfl rfl rfl rfl (am_wf 21 (by decide) h21) rfl rfl (aw_k99a (w := w) d h21 0 (by decide)) rfl ?_
  refine am_R.ites 1 (P := 0 = 0) (T := 15) (F := 13) (lv' := [some (.ref 1021), some (.int (Int32.ofNat k)), some (.int t), none, none]) (st' := []) (h1 := am_h (am_pu w 21 (aw_c21 0 ty wr wd wt sn)) g) rfl (fun b10 => ?_) (fun b10 => ?_)
  · refine am_R.nxs 4 (pc' := 20) (lv' := [some (.ref 1021), some (.int (Int32.ofNat k)), some (.int t), some (.int 0), some (.int 0)]) (st' := []) (h1 := am_h (am_pu w 21 (aw_c21 0 ty wr wd wt sn)) g) rfl ?_
    exact aw_k135l (w := am_pu w 21 (aw_c21 0 ty wr wd wt sn)) (d + 1) rfl h28 l28 hk t 576 0 rfl
  · exact absurd rfl b10
theorem aw_k135b {w : Nat → am_C} {g : am_H} (d : Nat) {ft ty wr wd wt sn : Int32} (h21 : w 21 = aw_c21 ft ty wr wd wt sn) {ma : List Int32} (h27 : w 27 = am_I 0 ma) (l27 : ma.length = 3) {k : Nat} (hk : k < 3) (hm : ma.getD k 0 = 0) (t : Int32) : am_R (d + 1) 135 0 [some (.ref 1021), some (.int (Int32.ofNat k)), some (.int t), none, none] [] (am_h w g) (.inl (some (.int 0))) (am_h (am_pu w 21 (aw_c21 2 ty wr wd wt sn)) g) := by
  refine am_R.nxs 4 (pc' := 4) (lv' := [some (.ref 1021), some (.int (Int32.ofNat k)), some (.int t), none, none]) (st' := [.int 1, .int (Int32.ofNat k), .ref 1021, .ref 1021]) (h1 := am_h w g) rfl ?_
  refine am_R.cv (a := 1021) (as' := [.int (Int32.ofNat k), .int 1]) (r := [.ref 1021]) (v := some (.int 2)) (h1 := am_h w g) (pc' := 7) rfl rfl rfl rfl (am_wf 21 (by decide) h21) rfl rfl (aw_k133b d h21 h27 l27 hk hm) rfl ?_
  refine am_R.cv (a := 1021) (as' := [.int 2]) (r := []) (v := some (.int 1)) (h1 := am_h (am_pu w 21 (aw_c21 2 ty wr wd wt sn)) g) (pc' := 10) rfl rfl rfl rfl (am_wf 21 (by decide) h21) rfl rfl (aw_k99b (w := w) d h21 2 (by decide)) rfl ?_
  refine am_R.ites 1 (P := 1 = 0) (T := 15) (F := 13) (lv' := [some (.ref 1021), some (.int (Int32.ofNat k)), some (.int t), none, none]) (st' := []) (h1 := am_h (am_pu w 21 (aw_c21 2 ty wr wd wt sn)) g) rfl (fun b10 => ?_) (fun b10 => ?_)
  · exact absurd b10 (by decide)
  · refine am_R.nxs 1 (pc' := 14) (lv' := [some (.ref 1021), some (.int (Int32.ofNat k)), some (.int t), none, none]) (st' := [.int 0]) (h1 := am_h (am_pu w 21 (aw_c21 2 ty wr wd wt sn)) g) rfl ?_
    exact am_R.reti rfl rfl rfl
theorem aw_k135c {w : Nat → am_C} {g : am_H} (d : Nat) {ft ty wr wd wt sn : Int32} (h21 : w 21 = aw_c21 ft ty wr wd wt sn) (s : Int32) (hs : s < 0 ∨ 2 < s) (t : Int32) : am_R (d + 1) 135 0 [some (.ref 1021), some (.int s), some (.int t), none, none] [] (am_h w g) (.inl (some (.int 0))) (am_h (am_pu w 21 (aw_c21 1 ty wr wd wt sn)) g) := by
  refine am_R.nxs 4 (pc' := 4) (lv' := [some (.ref 1021), some (.int s), some (.int t), none, none]) (st' := [.int 1, .int s, .ref 1021, .ref 1021]) (h1 := am_h w g) rfl ?_
  refine am_R.cv (a := 1021) (as' := [.int s, .int 1]) (r := [.ref 1021]) (v := some (.int 1)) (h1 := am_h w g) (pc' := 7) rfl rfl rfl rfl (am_wf 21 (by decide) h21) rfl rfl (aw_k133c d h21 s 1 (hs.elim Or.inl (fun q => Or.inr (Or.inl q)))) rfl ?_
  refine am_R.cv (a := 1021) (as' := [.int 1]) (r := []) (v := some (.int 1)) (h1 := am_h (am_pu w 21 (aw_c21 1 ty wr wd wt sn)) g) (pc' := 10) rfl rfl rfl rfl (am_wf 21 (by decide) h21) rfl rfl (aw_k99b (w := w) d h21 1 (by decide)) rfl ?_
  refine am_R.ites 1 (P := 1 = 0) (T := 15) (F := 13) (lv' := [some (.ref 1021), some (.int s), some (.int t), none, none]) (st' := []) (h1 := am_h (am_pu w 21 (aw_c21 1 ty wr wd wt sn)) g) rfl (fun b10 => ?_) (fun b10 => ?_)
  · exact absurd b10 (by decide)
  · refine am_R.nxs 1 (pc' := 14) (lv' := [some (.ref 1021), some (.int s), some (.int t), none, none]) (st' := [.int 0]) (h1 := am_h (am_pu w 21 (aw_c21 1 ty wr wd wt sn)) g) rfl ?_
    exact am_R.reti rfl rfl rfl
set_option maxRecDepth 100000 in
theorem aw_o5 : aw_Op 368 := by
  intro d i w g x5 x6 xs hI h0 hi hx
  obtain ⟨tl, pl, sp, ft, wd, wt, sn, h1, h21, hT, hP, hS, hC, u, hO⟩ := hI
  by_cases hs : xs.getD (i + 1) 0 < 0 ∨ ¬ xs.getD (i + 1) 0 < 3
  · refine ⟨am_pu w 21 (aw_c21 1 (Int32.ofNat tl) (Int32.ofNat pl) wd wt sn), g ++ [.inl (8, [])], some (.int 1), some (.int 0), ⟨tl, pl, sp, 1, wd, wt, sn, h1, rfl, hT, hP, aw_Shs_up (by omega) hS, hC, u, hO⟩, h0, by simp, aw_sz1 rfl, fun o h' K => ?_⟩
    exact aw_L5 d i x5 x6 h0 hi hx (aw_W72t8 (d + 38) h1 _ _ (aw_k73c (d + 36) h1 _ _ hs)) h0 h21 (aw_k135c (d + 38) h21 _ (aw_gt2 hs) _) rfl (fun q => absurd q (by decide)) K
  · obtain ⟨k, hk, hke⟩ := aw_sh3 hs
    obtain ⟨rs, r, to, ma, pi, br, bk, co, h4, hl, hr, hrs, ⟨m1, m2, m3, m4, m5, m6, m7, m8, m9, m10, m11, m12⟩, wc, bc, sc, ic, cc, dp, rd, ws, pc, bw, ⟨t1, t2, t3, t4, t5, t6, t7⟩, hsh⟩ := aw_get hS hk
    rcases hsh with ⟨hd, hm⟩ | ⟨hd, js, b, j1, j2, j3, j4, j5, j6, b1, b2, b3, b4, q1, q2, q3, q4, q5⟩
    · refine ⟨am_pu w 21 (aw_c21 2 (Int32.ofNat tl) (Int32.ofNat pl) wd wt sn), g ++ [.inl (9, [])], some (.int 2), some (.int 0), ⟨tl, pl, sp, 2, wd, wt, sn, h1, rfl, hT, hP, aw_Shs_up (by omega) hS, hC, u, hO⟩, h0, by simp, aw_sz1 rfl, fun o h' K => ?_⟩
      exact aw_L5 d i x5 x6 h0 hi hx (aw_W72t9 (d + 38) h1 _ _ (by rw [hke]; exact aw_k73b (d + 36) h1 h4 hl hk hr hrs t1 hd _)) h0 h21 (by rw [hke]; exact aw_k135b (d + 38) h21 m2 m8 hk hm _) rfl (fun q => absurd q (by decide)) K
    · have e6 : aw_cnt (fun j => decide (pc.getD j 0 = xs.getD (i + 2) 0)) pc.length = aw_cnt (fun j => decide (pi.getD (576 * k + j) 0 = xs.getD (i + 2) 0)) 576 := by
        rw [t6]
        exact aw_cnt_cong (fun j hj => by rw [j6 j hj])
      refine ⟨am_pu (am_pu w 44 (.inr (3, [.long (aw_cnt (fun j => decide (pc.getD j 0 = xs.getD (i + 2) 0)) pc.length).toInt64]))) 21 (aw_c21 0 (Int32.ofNat tl) (Int32.ofNat pl) wd wt sn), g, some (.int 0), some (.int (aw_cnt (fun j => decide (pc.getD j 0 = xs.getD (i + 2) 0)) pc.length)), ⟨tl, pl, sp, 0, wd, wt, sn, h1, rfl, hT, hP, aw_Shs_up (by omega) (aw_Shs_up (by omega) hS), hC, _, rfl⟩, h0, by omega, by omega, fun o h' K => ?_⟩
      exact aw_L5 d i x5 x6 h0 hi hx (aw_W72a (d + 38) h1 _ _ (by rw [hke]; exact aw_k73a (d + 36) h1 h4 hl hk hr hrs t1 t3 t6 hd _) hO) h0 h21 (by rw [hke, e6]; exact aw_k135a (w := am_pu w 44 _) (d + 38) h21 m2 m8 m3 m9 hk (by rw [j4]; exact aw_nz j1 j2) _) rfl (fun _ => rfl) K
