/-! paint of the class. -/
theorem aw_ws7 {w : Nat → am_C} {g : am_H} {r : Nat} {c : am_C} (hr : r < 4) : am_set (am_h w g) (1007 + 4 * r) c = some (am_h (am_pu w (7 + 4 * r) c) g) := by
  rw [show 1007 + 4 * r = 1000 + (7 + 4 * r) by omega]
  exact am_ws (by omega) (by omega)
def aw_rmB (i : Nat) : Bool := decide (Int32.ofNat i - Int32.ofNat i / 24 * 24 = Int32.ofNat (i % 24) ∧ Int32.ofNat i / 24 = Int32.ofNat (i / 24))
set_option maxRecDepth 100000 in
theorem aw_rmK : (List.range 576).all aw_rmB = true := by decide +kernel
theorem aw_rm {i : Nat} (h : i < 576) : Int32.ofNat i - Int32.ofNat i / 24 * 24 = Int32.ofNat (i % 24) ∧ Int32.ofNat i / 24 = Int32.ofNat (i / 24) := of_decide_eq_true (List.all_eq_true.mp aw_rmK i (List.mem_range.mpr h))
/-- the i-th cell of the picture -/
def aw_px (T : aw_T) (i : Nat) : Int32 := aw_pn T 3 0 (Int32.ofNat (i % 24)) (Int32.ofNat (i / 24)) 24 24
theorem aw_bx24 {i : Nat} (h : i < 576) : aw_bx 3 (Int32.ofNat (i % 24)) (Int32.ofNat (i / 24)) 24 24 := ⟨i % 24, i / 24, 24, 24, .inl rfl, .inl rfl, by omega, by omega, rfl, rfl, rfl, rfl, .inr (.inr ⟨rfl, rfl, rfl⟩)⟩
def aw_pl0 (T : aw_T) (i : Nat) : List Int32 := (List.range i).map (aw_px T)
theorem aw_pl0_len (T : aw_T) (i : Nat) : (aw_pl0 T i).length = i := by
  unfold aw_pl0
  rw [List.length_map, List.length_range]
theorem aw_pl0_set {T : aw_T} {i : Nat} {S : List Int32} (hS : 0 < S.length) : (aw_pl0 T i ++ S).set i (aw_px T i) = aw_pl0 T (i + 1) ++ S.drop 1 := by
  have hq := aw_pl0_len T i
  have e : aw_pl0 T (i + 1) = aw_pl0 T i ++ [aw_px T i] := by
    unfold aw_pl0
    rw [List.range_succ, List.map_append]
    rfl
  cases S with
  | nil => cases hS
  | cons a S =>
    rw [e]
    generalize aw_pl0 T i = A at hq
    subst hq
    simp
theorem aw_k48l {w : Nat → am_C} {g : am_H} (d : Nat) {r : Nat} (hr : r < 4) {wc bc sc icc ccc dpp ir : Int32} (h5 : w (5 + 4 * r) = aw_cT r wc bc sc icc ccc dpp ir) {T : aw_T} {lo hi shi a : Nat} (hR : aw_RS g T lo hi shi 3 0 a 0) : ∀ (m i : Nat) (S : List Int32), i + m = 576 → S.length = m → am_R (d + 12) 48 2 [some (.ref (1005 + 4 * r)), some (.ref (1045 + a)), some (.int (Int32.ofNat i))] [] (am_h (am_pu w (7 + 4 * r) (am_I 0 (aw_pl0 T i ++ S))) g) (.inl none) (am_h (am_pu w (7 + 4 * r) (am_I 0 (aw_pl0 T 576))) g) := by
  intro m
  induction m with
  | zero =>
    intro i S hi hS
    have hln : (aw_pl0 T i ++ S).length = 576 := by rw [List.length_append, aw_pl0_len]; omega
    refine am_R.nxs 2 (pc' := 4) (lv' := [some (.ref (1005 + 4 * r)), some (.ref (1045 + a)), some (.int (Int32.ofNat i))]) (st' := [.ref (1005 + 4 * r), .int (Int32.ofNat i)]) (h1 := am_h (am_pu w (7 + 4 * r) (am_I 0 (aw_pl0 T i ++ S))) g) rfl ?_
    refine am_R.gf (pc' := 7) (v := .ref (1007 + 4 * r)) rfl (aw_at5 hr ((am_pu_ne (by omega)).trans h5)) rfl rfl rfl ?_
    refine am_R.ali (xs := (aw_pl0 T i ++ S)) (pc' := 8) rfl (aw_at7 hr (am_pu_eq _ _ _)) rfl ?_
    refine am_R.ites 1 (P := Int32.ofNat ((aw_pl0 T i ++ S).length) ≤ Int32.ofNat i) (T := 39) (F := 11) (lv' := [some (.ref (1005 + 4 * r)), some (.ref (1045 + a)), some (.int (Int32.ofNat i))]) (st' := []) (h1 := am_h (am_pu w (7 + 4 * r) (am_I 0 (aw_pl0 T i ++ S))) g) rfl (fun b8 => ?_) (fun b8 => ?_)
    · have b8 : (aw_pl0 T i ++ S).length ≤ i := (am_leN (i := (aw_pl0 T i ++ S).length) (n := i) (by omega) (by omega)).mp b8
      have h0 : S = [] := List.length_eq_zero_iff.mp hS
      subst h0
      rw [List.append_nil, show i = 576 by omega]
      exact am_R.ret rfl rfl
    · have b8 : ¬ (aw_pl0 T i ++ S).length ≤ i := fun hq9 => b8 ((am_leN (i := (aw_pl0 T i ++ S).length) (n := i) (by omega) (by omega)).mpr hq9)
      omega
  | succ m ih =>
    intro i S hi hS
    obtain ⟨fs5, hc5⟩ := aw_RS_cell hR
    have hln : (aw_pl0 T i ++ S).length = 576 := by rw [List.length_append, aw_pl0_len]; omega
    refine am_R.nxs 2 (pc' := 4) (lv' := [some (.ref (1005 + 4 * r)), some (.ref (1045 + a)), some (.int (Int32.ofNat i))]) (st' := [.ref (1005 + 4 * r), .int (Int32.ofNat i)]) (h1 := am_h (am_pu w (7 + 4 * r) (am_I 0 (aw_pl0 T i ++ S))) g) rfl ?_
    refine am_R.gf (pc' := 7) (v := .ref (1007 + 4 * r)) rfl (aw_at5 hr ((am_pu_ne (by omega)).trans h5)) rfl rfl rfl ?_
    refine am_R.ali (xs := (aw_pl0 T i ++ S)) (pc' := 8) rfl (aw_at7 hr (am_pu_eq _ _ _)) rfl ?_
    refine am_R.ites 1 (P := Int32.ofNat ((aw_pl0 T i ++ S).length) ≤ Int32.ofNat i) (T := 39) (F := 11) (lv' := [some (.ref (1005 + 4 * r)), some (.ref (1045 + a)), some (.int (Int32.ofNat i))]) (st' := []) (h1 := am_h (am_pu w (7 + 4 * r) (am_I 0 (aw_pl0 T i ++ S))) g) rfl (fun b8 => ?_) (fun b8 => ?_)
    · have b8 : (aw_pl0 T i ++ S).length ≤ i := (am_leN (i := (aw_pl0 T i ++ S).length) (n := i) (by omega) (by omega)).mp b8
      omega
    · have b8 : ¬ (aw_pl0 T i ++ S).length ≤ i := fun hq9 => b8 ((am_leN (i := (aw_pl0 T i ++ S).length) (n := i) (by omega) (by omega)).mpr hq9)
      refine am_R.nxs 1 (pc' := 12) (lv' := [some (.ref (1005 + 4 * r)), some (.ref (1045 + a)), some (.int (Int32.ofNat i))]) (st' := [.ref (1005 + 4 * r)]) (h1 := am_h (am_pu w (7 + 4 * r) (am_I 0 (aw_pl0 T i ++ S))) g) rfl ?_
      refine am_R.gf (pc' := 15) (v := .ref (1007 + 4 * r)) rfl (aw_at5 hr ((am_pu_ne (by omega)).trans h5)) rfl rfl rfl ?_
      refine am_R.nxs 10 (pc' := 29) (lv' := [some (.ref (1005 + 4 * r)), some (.ref (1045 + a)), some (.int (Int32.ofNat i))]) (st' := [.int 24, .int 24, .int (Int32.ofNat i / 24), .int (Int32.ofNat i - Int32.ofNat i / 24 * 24), .ref (1045 + a), .int (Int32.ofNat i), .ref (1007 + 4 * r)]) (h1 := am_h (am_pu w (7 + 4 * r) (am_I 0 (aw_pl0 T i ++ S))) g) rfl ?_
      rw [(aw_rm (show i < 576 by omega)).1, (aw_rm (show i < 576 by omega)).2]
      refine am_R.cv (a := 1045 + a) (as' := [.int (Int32.ofNat (i % 24)), .int (Int32.ofNat (i / 24)), .int 24, .int 24]) (r := [.int (Int32.ofNat i), .ref (1007 + 4 * r)]) (v := some (.int (aw_px T i))) (h1 := am_h (am_pu w (7 + 4 * r) (am_I 0 (aw_pl0 T i ++ S))) g) (pc' := 32) rfl rfl rfl rfl (am_gfn a hc5) rfl rfl (aw_c_tinct d 3 0 a 0 _ _ 24 24 (by decide) hR (aw_bx24 (by omega)) _) rfl ?_
      refine am_R.sti (i := i) (xs := (aw_pl0 T i ++ S)) (pc' := 33) rfl (aw_at7 hr (am_pu_eq _ _ _)) (by omega) (by omega) ((aw_ws7 hr).trans (by rw [am_pu_pu, aw_pl0_set (by omega)])) rfl ?_
      refine am_R.nxs 1 (pc' := 36) (lv' := [some (.ref (1005 + 4 * r)), some (.ref (1045 + a)), some (.int (Int32.ofNat i + 1))]) (st' := []) (h1 := am_h (am_pu w (7 + 4 * r) (am_I 0 (aw_pl0 T (i + 1) ++ (S.drop 1)))) g) rfl ?_
      rw [show (Int32.ofNat i + 1 : Int32) = Int32.ofNat (i + 1) from am_add i 1]
      refine am_R.nxs 1 (pc' := 2) (lv' := [some (.ref (1005 + 4 * r)), some (.ref (1045 + a)), some (.int (Int32.ofNat (i + 1)))]) (st' := []) (h1 := am_h (am_pu w (7 + 4 * r) (am_I 0 (aw_pl0 T (i + 1) ++ (S.drop 1)))) g) rfl ?_
      exact ih (i + 1) (S.drop 1) (by omega) (by rw [List.length_drop]; omega)
theorem aw_k48 {w : Nat → am_C} {g : am_H} (d : Nat) {r : Nat} (hr : r < 4) {wc bc sc icc ccc dpp ir : Int32} (h5 : w (5 + 4 * r) = aw_cT r wc bc sc icc ccc dpp ir) {T : aw_T} {lo hi shi a : Nat} (hR : aw_RS g T lo hi shi 3 0 a 0) {pc : List Int32} (h7 : w (7 + 4 * r) = am_I 0 pc) (hpc : pc.length = 576) : am_R (d + 12) 48 0 [some (.ref (1005 + 4 * r)), some (.ref (1045 + a)), none] [] (am_h w g) (.inl none) (am_h (am_pu w (7 + 4 * r) (am_I 0 (aw_pl0 T 576))) g) := by
  refine am_R.nxs 2 (pc' := 2) (lv' := [some (.ref (1005 + 4 * r)), some (.ref (1045 + a)), some (.int (Int32.ofNat 0))]) (st' := []) (h1 := am_h w g) rfl ?_
  have k := aw_k48l (g := g) d hr h5 hR 576 0 pc rfl hpc
  rw [show am_pu w (7 + 4 * r) (am_I 0 (aw_pl0 T 0 ++ pc)) = w by
    funext z
    unfold am_pu
    split
    · rename_i e
      rw [e, h7]
      rfl
    · rfl] at k
  exact k
