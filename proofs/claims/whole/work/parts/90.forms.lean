/-! What covers a cell: ordinaries and charges, of both sides. -/
section AmDv
variable {d mi pc pc' len : Nat} {lv : am_L} {st : List Value} {h h' : am_H} {o : am_O}
theorem am_R.idv {x y : Int32} (hc : am_code mi pc = some (.idiv, len)) (hy : ¬ y = 0) (hq : pc + len = pc') (k : am_R d mi pc' lv (.int (x / y) :: st) h o h') : am_R d mi pc lv (.int y :: .int x :: st) h o h' := by
  subst hq
  refine am_R.nx (pc' := pc + len) (lv' := lv) (st' := .int (x / y) :: st) (h1 := h) ?_ k
  simp [am_nx, hc, am_ret, am_thr, am_inv, am_one, am_push, am_sto, am_ari, hy]
end AmDv
def aw_smL : List Int32 := [0, 0, 0, 0, 0, 0, 0, 0, 0, 0, 0, 0, 0, 0, 0, 0, 0, 1, 2, 3, 4, 5, 6, 7, 0, 0, 0, 0, 0, 0, 0, 8, 10, 0, 9, 11, 0, 0]
set_option maxRecDepth 100000 in
theorem aw_st39 {h : am_H} : am_at h 39 = some (am_I 0 aw_smL) := rfl
theorem aw_smlen : aw_smL.length = 38 := rfl
theorem aw_k59 {h : am_H} (d : Nat) {j : Nat} (hj : j < 38) : am_R d 59 0 [some (.ref j)] [] h (.inl (some (.int (Int32.ofNat j)))) h := by
  refine am_R.nxs 1 (pc' := 1) (lv' := [some (.ref j)]) (st' := [.ref j]) (h1 := h) rfl ?_
  refine am_R.gf (pc' := 4) (v := .int (Int32.ofNat j)) rfl (aw_st0 hj) rfl rfl rfl ?_
  exact am_R.reti rfl rfl rfl
def aw_abs (v : Int32) : Int32 := if 0 ≤ v then v else 0 - v
def aw_mid (p z : Int32) : Bool := decide (¬ p < z / 3 ∧ ¬ z - z / 3 ≤ p)
def aw_bnd (x y w h : Int32) : Bool := decide (¬ w * h / 2 < 3 * aw_abs (x * h - y * w))
def aw_chn (v all : Int32) : Bool := decide (¬ v < 0 ∧ ¬ all ≤ v)
def aw_chw (x y w h : Int32) : Int32 := 2 * y * w - aw_abs (2 * x + 1 - w) * h - w * h / 2
def aw_edg (p z : Int32) : Bool := decide (p < z / 8 + 1 ∨ ¬ p < z - z / 8 - 1)
/-- the ordinary j covers the cell -/
def aw_oc (j : Nat) (x y w h : Int32) : Bool := if j = 17 then decide (¬ h / 3 ≤ y) else if j = 18 then aw_mid y h else if j = 19 then aw_mid x w else if j = 20 then aw_bnd x y w h else if j = 21 then aw_mid y h || aw_mid x w else if j = 22 then aw_bnd x y w h || aw_bnd (w - 1 - x) y w h else if j = 23 then aw_chn (aw_chw x y w h) (w * h) else aw_edg x w || aw_edg y h
/-- a charge in its box covers the cell -/
def aw_cg (ch : Nat) (x y w h : Int32) : Bool := if ch = 0 then decide (¬ 9 * w * w * h * h < 16 * (aw_abs (2 * x + 1 - w) * aw_abs (2 * x + 1 - w) * h * h + aw_abs (2 * y + 1 - h) * aw_abs (2 * y + 1 - h) * w * w)) else if ch = 1 then decide (¬ w < 2 * aw_abs (2 * x + 1 - w) ∧ ¬ 3 * h < 4 * aw_abs (2 * y + 1 - h)) else decide (¬ 3 * w * h < 4 * (aw_abs (2 * x + 1 - w) * h + aw_abs (2 * y + 1 - h) * w))
/-- the stripe in which a cell lies, as the reference seeks it -/
def aw_sp (at_ len k : Int32) : Nat → Int32 → Option Int32
  | 0, _ => none
  | f + 1, r => if at_ < (r + 1) * len / k then some r else aw_sp at_ len k f (r + 1)
/-- and as the class seeks it -/
def aw_fr (at_ len k : Int32) : Nat → Int32 → Option (Option Int32)
  | 0, _ => none
  | f + 1, r => if k ≤ r then some none else if at_ < r * len / k then aw_fr at_ len k f (r + 1) else if (r + 1) * len / k ≤ at_ then aw_fr at_ len k f (r + 1) else some (some r)
def aw_rwc (ch : Nat) (x y w h c : Int32) : Option Bool := match aw_fr x w c 8 0 with
  | none => none
  | some none => some false
  | some (some j) => some (aw_cg ch (x - j * w / c) y ((j + 1) * w / c - j * w / c) h)
def aw_rsc (ch : Nat) (cf : Int32 → Int32) (x y w h rows : Int32) : Option Bool := match aw_fr y h rows 8 0 with
  | none => none
  | some none => some false
  | some (some r) => if cf r = 0 then none else aw_rwc ch x (y - r * h / rows) w ((r + 1) * h / rows - r * h / rows) (cf r)
def aw_cin (n r : Int32) : Int32 := if n = 6 then 3 - r else (if n - 2 * r < 2 then n - 2 * r else 2)
def aw_inr (n r : Int32) : Int32 := if n = 1 then 1 else if n = 2 then 2 else if n = 3 then (if r = 0 then 2 else 1) else if n = 4 then 2 else if n = 5 then (if r < 2 then 2 else 1) else 3 - r
theorem aw_k61 (d : Nat) {h : am_H} (p z : Int32) : am_R d 61 0 [some (.int p), some (.int z)] [] h (.inl (some (.int (if aw_mid p z = true then 1 else 0)))) h := by
  refine am_R.ites 5 (P := p < (z / 3)) (T := 20) (F := 7) (lv' := [some (.int p), some (.int z)]) (st' := []) (h1 := h) rfl (fun b4 => ?_) (fun b4 => ?_)
  · refine am_R.nxs 1 (pc' := 21) (lv' := [some (.int p), some (.int z)]) (st' := [.int 0]) (h1 := h) rfl ?_
    rw [show aw_mid p z = false from decide_eq_false (fun q => q.1 b4)]
    exact am_R.reti rfl rfl rfl
  · refine am_R.ites 7 (P := (z - (z / 3)) ≤ p) (T := 20) (F := 16) (lv' := [some (.int p), some (.int z)]) (st' := []) (h1 := h) rfl (fun b13 => ?_) (fun b13 => ?_)
    · refine am_R.nxs 1 (pc' := 21) (lv' := [some (.int p), some (.int z)]) (st' := [.int 0]) (h1 := h) rfl ?_
      rw [show aw_mid p z = false from decide_eq_false (fun q => q.2 b13)]
      exact am_R.reti rfl rfl rfl
    · refine am_R.nxs 2 (pc' := 21) (lv' := [some (.int p), some (.int z)]) (st' := [.int 1]) (h1 := h) rfl ?_
      rw [show aw_mid p z = true from decide_eq_true ⟨b4, b13⟩]
      exact am_R.reti rfl rfl rfl
theorem aw_k62 (d : Nat) {h : am_H} (x y bw bh : Int32) : am_R d 62 0 [some (.int x), some (.int y), some (.int bw), some (.int bh)] [] h (.inl (some (.int (if aw_bnd x y bw bh = true then 1 else 0)))) h := by
  refine am_R.ites 16 (P := ((bw * bh) / 2) < (3 * (if 0 ≤ ((x * bh) - (y * bw)) then ((x * bh) - (y * bw)) else 0 - ((x * bh) - (y * bw))))) (T := 24) (F := 20) (lv' := [some (.int x), some (.int y), some (.int bw), some (.int bh)]) (st' := []) (h1 := h) rfl (fun b17 => ?_) (fun b17 => ?_)
  · refine am_R.nxs 1 (pc' := 25) (lv' := [some (.int x), some (.int y), some (.int bw), some (.int bh)]) (st' := [.int 0]) (h1 := h) rfl ?_
    rw [show aw_bnd x y bw bh = false from decide_eq_false (fun q => q b17)]
    exact am_R.reti rfl rfl rfl
  · refine am_R.nxs 2 (pc' := 25) (lv' := [some (.int x), some (.int y), some (.int bw), some (.int bh)]) (st' := [.int 1]) (h1 := h) rfl ?_
    rw [show aw_bnd x y bw bh = true from decide_eq_true b17]
    exact am_R.reti rfl rfl rfl
theorem aw_k63 (d : Nat) {h : am_H} (x y bw bh : Int32) : am_R d 63 0 [some (.int x), some (.int y), some (.int bw), some (.int bh), none] [] h (.inl (some (.int (if aw_chn (aw_chw x y bw bh) (bw * bh) = true then 1 else 0)))) h := by
  refine am_R.ites 26 (P := ((((2 * y) * bw) - ((if 0 ≤ (((2 * x) + 1) - bw) then (((2 * x) + 1) - bw) else 0 - (((2 * x) + 1) - bw)) * bh)) - ((bw * bh) / 2)) < 0) (T := 44) (F := 32) (lv' := [some (.int x), some (.int y), some (.int bw), some (.int bh), some (.int ((((2 * y) * bw) - ((if 0 ≤ (((2 * x) + 1) - bw) then (((2 * x) + 1) - bw) else 0 - (((2 * x) + 1) - bw)) * bh)) - ((bw * bh) / 2)))]) (st' := []) (h1 := h) rfl (fun b29 => ?_) (fun b29 => ?_)
  · refine am_R.nxs 1 (pc' := 45) (lv' := [some (.int x), some (.int y), some (.int bw), some (.int bh), some (.int ((((2 * y) * bw) - ((if 0 ≤ (((2 * x) + 1) - bw) then (((2 * x) + 1) - bw) else 0 - (((2 * x) + 1) - bw)) * bh)) - ((bw * bh) / 2)))]) (st' := [.int 0]) (h1 := h) rfl ?_
    rw [show aw_chn (aw_chw x y bw bh) (bw * bh) = false from decide_eq_false (fun q => q.1 b29)]
    exact am_R.reti rfl rfl rfl
  · refine am_R.ites 5 (P := (bw * bh) ≤ ((((2 * y) * bw) - ((if 0 ≤ (((2 * x) + 1) - bw) then (((2 * x) + 1) - bw) else 0 - (((2 * x) + 1) - bw)) * bh)) - ((bw * bh) / 2))) (T := 44) (F := 40) (lv' := [some (.int x), some (.int y), some (.int bw), some (.int bh), some (.int ((((2 * y) * bw) - ((if 0 ≤ (((2 * x) + 1) - bw) then (((2 * x) + 1) - bw) else 0 - (((2 * x) + 1) - bw)) * bh)) - ((bw * bh) / 2)))]) (st' := []) (h1 := h) rfl (fun b37 => ?_) (fun b37 => ?_)
    · refine am_R.nxs 1 (pc' := 45) (lv' := [some (.int x), some (.int y), some (.int bw), some (.int bh), some (.int ((((2 * y) * bw) - ((if 0 ≤ (((2 * x) + 1) - bw) then (((2 * x) + 1) - bw) else 0 - (((2 * x) + 1) - bw)) * bh)) - ((bw * bh) / 2)))]) (st' := [.int 0]) (h1 := h) rfl ?_
      rw [show aw_chn (aw_chw x y bw bh) (bw * bh) = false from decide_eq_false (fun q => q.2 b37)]
      exact am_R.reti rfl rfl rfl
    · refine am_R.nxs 2 (pc' := 45) (lv' := [some (.int x), some (.int y), some (.int bw), some (.int bh), some (.int ((((2 * y) * bw) - ((if 0 ≤ (((2 * x) + 1) - bw) then (((2 * x) + 1) - bw) else 0 - (((2 * x) + 1) - bw)) * bh)) - ((bw * bh) / 2)))]) (st' := [.int 1]) (h1 := h) rfl ?_
      rw [show aw_chn (aw_chw x y bw bh) (bw * bh) = true from decide_eq_true ⟨b29, b37⟩]
      exact am_R.reti rfl rfl rfl
theorem aw_k64 (d : Nat) {h : am_H} (p z : Int32) : am_R d 64 0 [some (.int p), some (.int z)] [] h (.inl (some (.int (if aw_edg p z = true then 1 else 0)))) h := by
  refine am_R.ites 7 (P := p < ((z / 8) + 1)) (T := 22) (F := 10) (lv' := [some (.int p), some (.int z)]) (st' := []) (h1 := h) rfl (fun b7 => ?_) (fun b7 => ?_)
  · refine am_R.nxs 2 (pc' := 27) (lv' := [some (.int p), some (.int z)]) (st' := [.int 1]) (h1 := h) rfl ?_
    rw [show aw_edg p z = true from decide_eq_true (.inl b7)]
    exact am_R.reti rfl rfl rfl
  · refine am_R.ites 9 (P := p < ((z - (z / 8)) - 1)) (T := 26) (F := 22) (lv' := [some (.int p), some (.int z)]) (st' := []) (h1 := h) rfl (fun b19 => ?_) (fun b19 => ?_)
    · refine am_R.nxs 1 (pc' := 27) (lv' := [some (.int p), some (.int z)]) (st' := [.int 0]) (h1 := h) rfl ?_
      rw [show aw_edg p z = false from decide_eq_false (fun q => q.elim b7 (fun z => z b19))]
      exact am_R.reti rfl rfl rfl
    · refine am_R.nxs 2 (pc' := 27) (lv' := [some (.int p), some (.int z)]) (st' := [.int 1]) (h1 := h) rfl ?_
      rw [show aw_edg p z = true from decide_eq_true (.inr b19)]
      exact am_R.reti rfl rfl rfl
set_option maxRecDepth 100000 in
theorem aw_k60_17 {w : Nat → am_C} {g : am_H} (d : Nat) {a : Nat} {v : Int32} (ha : g[a]? = some (aw_cO 17 v)) (x y bw bh : Int32) : am_R (d + 1) 60 0 [some (.ref (1045 + a)), some (.int x), some (.int y), some (.int bw), some (.int bh)] [] (am_h w g) (.inl (some (.int (if aw_oc 17 x y bw bh = true then 1 else 0)))) (am_h w g) := by
  have hsm := aw_smlen
  refine am_R.nxs 2 (pc' := 4) (lv' := [some (.ref (1045 + a)), some (.int x), some (.int y), some (.int bw), some (.int bh)]) (st' := [.ref (1045 + a), .ref 39]) (h1 := am_h w g) rfl ?_
  refine am_R.gf (pc' := 7) (v := .ref 17) rfl (am_gfn a ha) rfl rfl rfl ?_
  refine am_R.cv (a := 17) (as' := []) (r := [.ref 39]) (v := some (.int (Int32.ofNat 17))) (h1 := am_h w g) (pc' := 10) rfl rfl rfl rfl (aw_st0 (by decide)) rfl rfl (aw_k59 _ (by decide)) rfl ?_
  refine am_R.ldi (i := 17) (xs := aw_smL) (pc' := 11) rfl (aw_st39) (by omega) (by omega) rfl ?_
  rw [show aw_smL.getD 17 0 = 1 from rfl]
  refine am_R.ites 6 (P := (bh / 3) ≤ y) (T := 64) (F := 60) (lv' := [some (.ref (1045 + a)), some (.int x), some (.int y), some (.int bw), some (.int bh)]) (st' := []) (h1 := am_h w g) rfl (fun b57 => ?_) (fun b57 => ?_)
  · refine am_R.nxs 1 (pc' := 65) (lv' := [some (.ref (1045 + a)), some (.int x), some (.int y), some (.int bw), some (.int bh)]) (st' := [.int 0]) (h1 := am_h w g) rfl ?_
    rw [show aw_oc 17 x y bw bh = false from decide_eq_false (fun z => z b57)]
    exact am_R.reti rfl rfl (by (first | rfl | (split <;> rfl)))
  · refine am_R.nxs 2 (pc' := 65) (lv' := [some (.ref (1045 + a)), some (.int x), some (.int y), some (.int bw), some (.int bh)]) (st' := [.int 1]) (h1 := am_h w g) rfl ?_
    rw [show aw_oc 17 x y bw bh = true from decide_eq_true b57]
    exact am_R.reti rfl rfl (by (first | rfl | (split <;> rfl)))
set_option maxRecDepth 100000 in
theorem aw_k60_18 {w : Nat → am_C} {g : am_H} (d : Nat) {a : Nat} {v : Int32} (ha : g[a]? = some (aw_cO 18 v)) (x y bw bh : Int32) : am_R (d + 1) 60 0 [some (.ref (1045 + a)), some (.int x), some (.int y), some (.int bw), some (.int bh)] [] (am_h w g) (.inl (some (.int (if aw_oc 18 x y bw bh = true then 1 else 0)))) (am_h w g) := by
  have hsm := aw_smlen
  refine am_R.nxs 2 (pc' := 4) (lv' := [some (.ref (1045 + a)), some (.int x), some (.int y), some (.int bw), some (.int bh)]) (st' := [.ref (1045 + a), .ref 39]) (h1 := am_h w g) rfl ?_
  refine am_R.gf (pc' := 7) (v := .ref 18) rfl (am_gfn a ha) rfl rfl rfl ?_
  refine am_R.cv (a := 18) (as' := []) (r := [.ref 39]) (v := some (.int (Int32.ofNat 18))) (h1 := am_h w g) (pc' := 10) rfl rfl rfl rfl (aw_st0 (by decide)) rfl rfl (aw_k59 _ (by decide)) rfl ?_
  refine am_R.ldi (i := 18) (xs := aw_smL) (pc' := 11) rfl (aw_st39) (by omega) (by omega) rfl ?_
  rw [show aw_smL.getD 18 0 = 2 from rfl]
  refine am_R.nxs 3 (pc' := 69) (lv' := [some (.ref (1045 + a)), some (.int x), some (.int y), some (.int bw), some (.int bh)]) (st' := [.int bh, .int y]) (h1 := am_h w g) rfl ?_
  refine am_R.cs (mj := 61) (as := [.int y, .int bh]) (r := []) (v := some (.int (if aw_mid y bh = true then 1 else 0))) (h1 := am_h w g) (pc' := 72) rfl (aw_k61 _ y bh) rfl ?_
  exact am_R.reti rfl rfl (by (first | rfl | (split <;> rfl)))
set_option maxRecDepth 100000 in
theorem aw_k60_19 {w : Nat → am_C} {g : am_H} (d : Nat) {a : Nat} {v : Int32} (ha : g[a]? = some (aw_cO 19 v)) (x y bw bh : Int32) : am_R (d + 1) 60 0 [some (.ref (1045 + a)), some (.int x), some (.int y), some (.int bw), some (.int bh)] [] (am_h w g) (.inl (some (.int (if aw_oc 19 x y bw bh = true then 1 else 0)))) (am_h w g) := by
  have hsm := aw_smlen
  refine am_R.nxs 2 (pc' := 4) (lv' := [some (.ref (1045 + a)), some (.int x), some (.int y), some (.int bw), some (.int bh)]) (st' := [.ref (1045 + a), .ref 39]) (h1 := am_h w g) rfl ?_
  refine am_R.gf (pc' := 7) (v := .ref 19) rfl (am_gfn a ha) rfl rfl rfl ?_
  refine am_R.cv (a := 19) (as' := []) (r := [.ref 39]) (v := some (.int (Int32.ofNat 19))) (h1 := am_h w g) (pc' := 10) rfl rfl rfl rfl (aw_st0 (by decide)) rfl rfl (aw_k59 _ (by decide)) rfl ?_
  refine am_R.ldi (i := 19) (xs := aw_smL) (pc' := 11) rfl (aw_st39) (by omega) (by omega) rfl ?_
  rw [show aw_smL.getD 19 0 = 3 from rfl]
  refine am_R.nxs 3 (pc' := 75) (lv' := [some (.ref (1045 + a)), some (.int x), some (.int y), some (.int bw), some (.int bh)]) (st' := [.int bw, .int x]) (h1 := am_h w g) rfl ?_
  refine am_R.cs (mj := 61) (as := [.int x, .int bw]) (r := []) (v := some (.int (if aw_mid x bw = true then 1 else 0))) (h1 := am_h w g) (pc' := 78) rfl (aw_k61 _ x bw) rfl ?_
  exact am_R.reti rfl rfl (by (first | rfl | (split <;> rfl)))
set_option maxRecDepth 100000 in
theorem aw_k60_20 {w : Nat → am_C} {g : am_H} (d : Nat) {a : Nat} {v : Int32} (ha : g[a]? = some (aw_cO 20 v)) (x y bw bh : Int32) : am_R (d + 1) 60 0 [some (.ref (1045 + a)), some (.int x), some (.int y), some (.int bw), some (.int bh)] [] (am_h w g) (.inl (some (.int (if aw_oc 20 x y bw bh = true then 1 else 0)))) (am_h w g) := by
  have hsm := aw_smlen
  refine am_R.nxs 2 (pc' := 4) (lv' := [some (.ref (1045 + a)), some (.int x), some (.int y), some (.int bw), some (.int bh)]) (st' := [.ref (1045 + a), .ref 39]) (h1 := am_h w g) rfl ?_
  refine am_R.gf (pc' := 7) (v := .ref 20) rfl (am_gfn a ha) rfl rfl rfl ?_
  refine am_R.cv (a := 20) (as' := []) (r := [.ref 39]) (v := some (.int (Int32.ofNat 20))) (h1 := am_h w g) (pc' := 10) rfl rfl rfl rfl (aw_st0 (by decide)) rfl rfl (aw_k59 _ (by decide)) rfl ?_
  refine am_R.ldi (i := 20) (xs := aw_smL) (pc' := 11) rfl (aw_st39) (by omega) (by omega) rfl ?_
  rw [show aw_smL.getD 20 0 = 4 from rfl]
  refine am_R.nxs 5 (pc' := 84) (lv' := [some (.ref (1045 + a)), some (.int x), some (.int y), some (.int bw), some (.int bh)]) (st' := [.int bh, .int bw, .int y, .int x]) (h1 := am_h w g) rfl ?_
  refine am_R.cs (mj := 62) (as := [.int x, .int y, .int bw, .int bh]) (r := []) (v := some (.int (if aw_bnd x y bw bh = true then 1 else 0))) (h1 := am_h w g) (pc' := 87) rfl (aw_k62 _ x y bw bh) rfl ?_
  exact am_R.reti rfl rfl (by (first | rfl | (split <;> rfl)))
set_option maxRecDepth 100000 in
theorem aw_k60_21 {w : Nat → am_C} {g : am_H} (d : Nat) {a : Nat} {v : Int32} (ha : g[a]? = some (aw_cO 21 v)) (x y bw bh : Int32) : am_R (d + 1) 60 0 [some (.ref (1045 + a)), some (.int x), some (.int y), some (.int bw), some (.int bh)] [] (am_h w g) (.inl (some (.int (if aw_oc 21 x y bw bh = true then 1 else 0)))) (am_h w g) := by
  have hsm := aw_smlen
  refine am_R.nxs 2 (pc' := 4) (lv' := [some (.ref (1045 + a)), some (.int x), some (.int y), some (.int bw), some (.int bh)]) (st' := [.ref (1045 + a), .ref 39]) (h1 := am_h w g) rfl ?_
  refine am_R.gf (pc' := 7) (v := .ref 21) rfl (am_gfn a ha) rfl rfl rfl ?_
  refine am_R.cv (a := 21) (as' := []) (r := [.ref 39]) (v := some (.int (Int32.ofNat 21))) (h1 := am_h w g) (pc' := 10) rfl rfl rfl rfl (aw_st0 (by decide)) rfl rfl (aw_k59 _ (by decide)) rfl ?_
  refine am_R.ldi (i := 21) (xs := aw_smL) (pc' := 11) rfl (aw_st39) (by omega) (by omega) rfl ?_
  rw [show aw_smL.getD 21 0 = 5 from rfl]
  refine am_R.nxs 3 (pc' := 91) (lv' := [some (.ref (1045 + a)), some (.int x), some (.int y), some (.int bw), some (.int bh)]) (st' := [.int bh, .int y]) (h1 := am_h w g) rfl ?_
  refine am_R.cs (mj := 61) (as := [.int y, .int bh]) (r := []) (v := some (.int (if aw_mid y bh = true then 1 else 0))) (h1 := am_h w g) (pc' := 94) rfl (aw_k61 _ y bh) rfl ?_
  refine am_R.ites 1 (P := ¬ (if aw_mid y bh = true then 1 else 0) = 0) (T := 105) (F := 97) (lv' := [some (.ref (1045 + a)), some (.int x), some (.int y), some (.int bw), some (.int bh)]) (st' := []) (h1 := am_h w g) rfl (fun b94 => ?_) (fun b94 => ?_)
  · refine am_R.nxs 2 (pc' := 110) (lv' := [some (.ref (1045 + a)), some (.int x), some (.int y), some (.int bw), some (.int bh)]) (st' := [.int 1]) (h1 := am_h w g) rfl ?_
    rw [show aw_oc 21 x y bw bh = true from show (aw_mid y bh || aw_mid x bw) = true from by rw [aw_01 b94]; rfl]
    exact am_R.reti rfl rfl (by (first | rfl | (split <;> rfl)))
  · refine am_R.nxs 2 (pc' := 99) (lv' := [some (.ref (1045 + a)), some (.int x), some (.int y), some (.int bw), some (.int bh)]) (st' := [.int bw, .int x]) (h1 := am_h w g) rfl ?_
    refine am_R.cs (mj := 61) (as := [.int x, .int bw]) (r := []) (v := some (.int (if aw_mid x bw = true then 1 else 0))) (h1 := am_h w g) (pc' := 102) rfl (aw_k61 _ x bw) rfl ?_
    refine am_R.ites 1 (P := (if aw_mid x bw = true then 1 else 0) = 0) (T := 109) (F := 105) (lv' := [some (.ref (1045 + a)), some (.int x), some (.int y), some (.int bw), some (.int bh)]) (st' := []) (h1 := am_h w g) rfl (fun b102 => ?_) (fun b102 => ?_)
    · refine am_R.nxs 1 (pc' := 110) (lv' := [some (.ref (1045 + a)), some (.int x), some (.int y), some (.int bw), some (.int bh)]) (st' := [.int 0]) (h1 := am_h w g) rfl ?_
      rw [show aw_oc 21 x y bw bh = false from show (aw_mid y bh || aw_mid x bw) = false from by rw [aw_00 (Decidable.not_not.mp b94), aw_00 b102]; rfl]
      exact am_R.reti rfl rfl (by (first | rfl | (split <;> rfl)))
    · refine am_R.nxs 2 (pc' := 110) (lv' := [some (.ref (1045 + a)), some (.int x), some (.int y), some (.int bw), some (.int bh)]) (st' := [.int 1]) (h1 := am_h w g) rfl ?_
      rw [show aw_oc 21 x y bw bh = true from show (aw_mid y bh || aw_mid x bw) = true from by rw [aw_01 b102]; exact Bool.or_true _]
      exact am_R.reti rfl rfl (by (first | rfl | (split <;> rfl)))
set_option maxRecDepth 100000 in
theorem aw_k60_22 {w : Nat → am_C} {g : am_H} (d : Nat) {a : Nat} {v : Int32} (ha : g[a]? = some (aw_cO 22 v)) (x y bw bh : Int32) : am_R (d + 1) 60 0 [some (.ref (1045 + a)), some (.int x), some (.int y), some (.int bw), some (.int bh)] [] (am_h w g) (.inl (some (.int (if aw_oc 22 x y bw bh = true then 1 else 0)))) (am_h w g) := by
  have hsm := aw_smlen
  refine am_R.nxs 2 (pc' := 4) (lv' := [some (.ref (1045 + a)), some (.int x), some (.int y), some (.int bw), some (.int bh)]) (st' := [.ref (1045 + a), .ref 39]) (h1 := am_h w g) rfl ?_
  refine am_R.gf (pc' := 7) (v := .ref 22) rfl (am_gfn a ha) rfl rfl rfl ?_
  refine am_R.cv (a := 22) (as' := []) (r := [.ref 39]) (v := some (.int (Int32.ofNat 22))) (h1 := am_h w g) (pc' := 10) rfl rfl rfl rfl (aw_st0 (by decide)) rfl rfl (aw_k59 _ (by decide)) rfl ?_
  refine am_R.ldi (i := 22) (xs := aw_smL) (pc' := 11) rfl (aw_st39) (by omega) (by omega) rfl ?_
  rw [show aw_smL.getD 22 0 = 6 from rfl]
  refine am_R.nxs 5 (pc' := 116) (lv' := [some (.ref (1045 + a)), some (.int x), some (.int y), some (.int bw), some (.int bh)]) (st' := [.int bh, .int bw, .int y, .int x]) (h1 := am_h w g) rfl ?_
  refine am_R.cs (mj := 62) (as := [.int x, .int y, .int bw, .int bh]) (r := []) (v := some (.int (if aw_bnd x y bw bh = true then 1 else 0))) (h1 := am_h w g) (pc' := 119) rfl (aw_k62 _ x y bw bh) rfl ?_
  refine am_R.ites 1 (P := ¬ (if aw_bnd x y bw bh = true then 1 else 0) = 0) (T := 137) (F := 122) (lv' := [some (.ref (1045 + a)), some (.int x), some (.int y), some (.int bw), some (.int bh)]) (st' := []) (h1 := am_h w g) rfl (fun b119 => ?_) (fun b119 => ?_)
  · refine am_R.nxs 2 (pc' := 142) (lv' := [some (.ref (1045 + a)), some (.int x), some (.int y), some (.int bw), some (.int bh)]) (st' := [.int 1]) (h1 := am_h w g) rfl ?_
    rw [show aw_oc 22 x y bw bh = true from show (aw_bnd x y bw bh || aw_bnd (bw - 1 - x) y bw bh) = true from by rw [aw_01 b119]; rfl]
    exact am_R.reti rfl rfl (by (first | rfl | (split <;> rfl)))
  · refine am_R.nxs 8 (pc' := 131) (lv' := [some (.ref (1045 + a)), some (.int x), some (.int y), some (.int bw), some (.int bh)]) (st' := [.int bh, .int bw, .int y, .int ((bw - 1) - x)]) (h1 := am_h w g) rfl ?_
    refine am_R.cs (mj := 62) (as := [.int ((bw - 1) - x), .int y, .int bw, .int bh]) (r := []) (v := some (.int (if aw_bnd ((bw - 1) - x) y bw bh = true then 1 else 0))) (h1 := am_h w g) (pc' := 134) rfl (aw_k62 _ ((bw - 1) - x) y bw bh) rfl ?_
    refine am_R.ites 1 (P := (if aw_bnd ((bw - 1) - x) y bw bh = true then 1 else 0) = 0) (T := 141) (F := 137) (lv' := [some (.ref (1045 + a)), some (.int x), some (.int y), some (.int bw), some (.int bh)]) (st' := []) (h1 := am_h w g) rfl (fun b134 => ?_) (fun b134 => ?_)
    · refine am_R.nxs 1 (pc' := 142) (lv' := [some (.ref (1045 + a)), some (.int x), some (.int y), some (.int bw), some (.int bh)]) (st' := [.int 0]) (h1 := am_h w g) rfl ?_
      rw [show aw_oc 22 x y bw bh = false from show (aw_bnd x y bw bh || aw_bnd (bw - 1 - x) y bw bh) = false from by rw [aw_00 (Decidable.not_not.mp b119), aw_00 b134]; rfl]
      exact am_R.reti rfl rfl (by (first | rfl | (split <;> rfl)))
    · refine am_R.nxs 2 (pc' := 142) (lv' := [some (.ref (1045 + a)), some (.int x), some (.int y), some (.int bw), some (.int bh)]) (st' := [.int 1]) (h1 := am_h w g) rfl ?_
      rw [show aw_oc 22 x y bw bh = true from show (aw_bnd x y bw bh || aw_bnd (bw - 1 - x) y bw bh) = true from by rw [aw_01 b134]; exact Bool.or_true _]
      exact am_R.reti rfl rfl (by (first | rfl | (split <;> rfl)))
set_option maxRecDepth 100000 in
theorem aw_k60_23 {w : Nat → am_C} {g : am_H} (d : Nat) {a : Nat} {v : Int32} (ha : g[a]? = some (aw_cO 23 v)) (x y bw bh : Int32) : am_R (d + 1) 60 0 [some (.ref (1045 + a)), some (.int x), some (.int y), some (.int bw), some (.int bh)] [] (am_h w g) (.inl (some (.int (if aw_oc 23 x y bw bh = true then 1 else 0)))) (am_h w g) := by
  have hsm := aw_smlen
  refine am_R.nxs 2 (pc' := 4) (lv' := [some (.ref (1045 + a)), some (.int x), some (.int y), some (.int bw), some (.int bh)]) (st' := [.ref (1045 + a), .ref 39]) (h1 := am_h w g) rfl ?_
  refine am_R.gf (pc' := 7) (v := .ref 23) rfl (am_gfn a ha) rfl rfl rfl ?_
  refine am_R.cv (a := 23) (as' := []) (r := [.ref 39]) (v := some (.int (Int32.ofNat 23))) (h1 := am_h w g) (pc' := 10) rfl rfl rfl rfl (aw_st0 (by decide)) rfl rfl (aw_k59 _ (by decide)) rfl ?_
  refine am_R.ldi (i := 23) (xs := aw_smL) (pc' := 11) rfl (aw_st39) (by omega) (by omega) rfl ?_
  rw [show aw_smL.getD 23 0 = 7 from rfl]
  refine am_R.nxs 5 (pc' := 148) (lv' := [some (.ref (1045 + a)), some (.int x), some (.int y), some (.int bw), some (.int bh)]) (st' := [.int bh, .int bw, .int y, .int x]) (h1 := am_h w g) rfl ?_
  refine am_R.cs (mj := 63) (as := [.int x, .int y, .int bw, .int bh]) (r := []) (v := some (.int (if (aw_chn (aw_chw x y bw bh) (bw * bh)) = true then 1 else 0))) (h1 := am_h w g) (pc' := 151) rfl (aw_k63 _ x y bw bh) rfl ?_
  exact am_R.reti rfl rfl (by (first | rfl | (split <;> rfl)))
set_option maxRecDepth 100000 in
theorem aw_k60_24 {w : Nat → am_C} {g : am_H} (d : Nat) {a : Nat} {v : Int32} (ha : g[a]? = some (aw_cO 24 v)) (x y bw bh : Int32) : am_R (d + 1) 60 0 [some (.ref (1045 + a)), some (.int x), some (.int y), some (.int bw), some (.int bh)] [] (am_h w g) (.inl (some (.int (if aw_oc 24 x y bw bh = true then 1 else 0)))) (am_h w g) := by
  have hsm := aw_smlen
  refine am_R.nxs 2 (pc' := 4) (lv' := [some (.ref (1045 + a)), some (.int x), some (.int y), some (.int bw), some (.int bh)]) (st' := [.ref (1045 + a), .ref 39]) (h1 := am_h w g) rfl ?_
  refine am_R.gf (pc' := 7) (v := .ref 24) rfl (am_gfn a ha) rfl rfl rfl ?_
  refine am_R.cv (a := 24) (as' := []) (r := [.ref 39]) (v := some (.int (Int32.ofNat 24))) (h1 := am_h w g) (pc' := 10) rfl rfl rfl rfl (aw_st0 (by decide)) rfl rfl (aw_k59 _ (by decide)) rfl ?_
  refine am_R.ldi (i := 24) (xs := aw_smL) (pc' := 11) rfl (aw_st39) (by omega) (by omega) rfl ?_
  rw [show aw_smL.getD 24 0 = 0 from rfl]
  refine am_R.nxs 3 (pc' := 154) (lv' := [some (.ref (1045 + a)), some (.int x), some (.int y), some (.int bw), some (.int bh)]) (st' := [.int bw, .int x]) (h1 := am_h w g) rfl ?_
  refine am_R.cs (mj := 64) (as := [.int x, .int bw]) (r := []) (v := some (.int (if aw_edg x bw = true then 1 else 0))) (h1 := am_h w g) (pc' := 157) rfl (aw_k64 _ x bw) rfl ?_
  refine am_R.ites 1 (P := ¬ (if aw_edg x bw = true then 1 else 0) = 0) (T := 169) (F := 160) (lv' := [some (.ref (1045 + a)), some (.int x), some (.int y), some (.int bw), some (.int bh)]) (st' := []) (h1 := am_h w g) rfl (fun b157 => ?_) (fun b157 => ?_)
  · refine am_R.nxs 2 (pc' := 174) (lv' := [some (.ref (1045 + a)), some (.int x), some (.int y), some (.int bw), some (.int bh)]) (st' := [.int 1]) (h1 := am_h w g) rfl ?_
    rw [show aw_oc 24 x y bw bh = true from show (aw_edg x bw || aw_edg y bh) = true from by rw [aw_01 b157]; rfl]
    exact am_R.reti rfl rfl (by (first | rfl | (split <;> rfl)))
  · refine am_R.nxs 2 (pc' := 163) (lv' := [some (.ref (1045 + a)), some (.int x), some (.int y), some (.int bw), some (.int bh)]) (st' := [.int bh, .int y]) (h1 := am_h w g) rfl ?_
    refine am_R.cs (mj := 64) (as := [.int y, .int bh]) (r := []) (v := some (.int (if aw_edg y bh = true then 1 else 0))) (h1 := am_h w g) (pc' := 166) rfl (aw_k64 _ y bh) rfl ?_
    refine am_R.ites 1 (P := (if aw_edg y bh = true then 1 else 0) = 0) (T := 173) (F := 169) (lv' := [some (.ref (1045 + a)), some (.int x), some (.int y), some (.int bw), some (.int bh)]) (st' := []) (h1 := am_h w g) rfl (fun b166 => ?_) (fun b166 => ?_)
    · refine am_R.nxs 1 (pc' := 174) (lv' := [some (.ref (1045 + a)), some (.int x), some (.int y), some (.int bw), some (.int bh)]) (st' := [.int 0]) (h1 := am_h w g) rfl ?_
      rw [show aw_oc 24 x y bw bh = false from show (aw_edg x bw || aw_edg y bh) = false from by rw [aw_00 (Decidable.not_not.mp b157), aw_00 b166]; rfl]
      exact am_R.reti rfl rfl (by (first | rfl | (split <;> rfl)))
    · refine am_R.nxs 2 (pc' := 174) (lv' := [some (.ref (1045 + a)), some (.int x), some (.int y), some (.int bw), some (.int bh)]) (st' := [.int 1]) (h1 := am_h w g) rfl ?_
      rw [show aw_oc 24 x y bw bh = true from show (aw_edg x bw || aw_edg y bh) = true from by rw [aw_01 b166]; exact Bool.or_true _]
      exact am_R.reti rfl rfl (by (first | rfl | (split <;> rfl)))
theorem aw_k60 {w : Nat → am_C} {g : am_H} (d : Nat) {a j : Nat} {v : Int32} (h1 : 17 ≤ j) (h2 : j ≤ 24) (ha : g[a]? = some (aw_cO j v)) (x y bw bh : Int32) : am_R (d + 1) 60 0 [some (.ref (1045 + a)), some (.int x), some (.int y), some (.int bw), some (.int bh)] [] (am_h w g) (.inl (some (.int (if aw_oc j x y bw bh = true then 1 else 0)))) (am_h w g) := by
  rcases (by omega : j = 17 ∨ j = 18 ∨ j = 19 ∨ j = 20 ∨ j = 21 ∨ j = 22 ∨ j = 23 ∨ j = 24) with q | q | q | q | q | q | q | q <;> subst q
  · exact aw_k60_17 d ha x y bw bh
  · exact aw_k60_18 d ha x y bw bh
  · exact aw_k60_19 d ha x y bw bh
  · exact aw_k60_20 d ha x y bw bh
  · exact aw_k60_21 d ha x y bw bh
  · exact aw_k60_22 d ha x y bw bh
  · exact aw_k60_23 d ha x y bw bh
  · exact aw_k60_24 d ha x y bw bh
set_option maxRecDepth 100000 in
theorem aw_k57_31 {w : Nat → am_C} {g : am_H} (d : Nat) {a : Nat} {n v : Int32} {ov : Value} (ha : g[a]? = some (aw_cC 31 n ov v)) (x y bw bh : Int32) : am_R (d + 1) 57 0 [some (.ref (1045 + a)), some (.int x), some (.int y), some (.int bw), some (.int bh), none, none] [] (am_h w g) (.inl (some (.int (if aw_cg 0 x y bw bh = true then 1 else 0)))) (am_h w g) := by
  have hsm := aw_smlen
  refine am_R.nxs 20 (pc' := 29) (lv' := [some (.ref (1045 + a)), some (.int x), some (.int y), some (.int bw), some (.int bh), some (.int (if 0 ≤ (((2 * x) + 1) - bw) then (((2 * x) + 1) - bw) else 0 - (((2 * x) + 1) - bw))), some (.int (if 0 ≤ (((2 * y) + 1) - bh) then (((2 * y) + 1) - bh) else 0 - (((2 * y) + 1) - bh)))]) (st' := [.ref (1045 + a), .ref 39]) (h1 := am_h w g) rfl ?_
  refine am_R.gf (pc' := 32) (v := .ref 31) rfl (am_gfn a ha) rfl rfl rfl ?_
  refine am_R.cv (a := 31) (as' := []) (r := [.ref 39]) (v := some (.int (Int32.ofNat 31))) (h1 := am_h w g) (pc' := 35) rfl rfl rfl rfl (aw_st0 (by decide)) rfl rfl (aw_k59 _ (by decide)) rfl ?_
  refine am_R.ldi (i := 31) (xs := aw_smL) (pc' := 36) rfl (aw_st39) (by omega) (by omega) rfl ?_
  rw [show aw_smL.getD 31 0 = 8 from rfl]
  refine am_R.ites 28 (P := ((((9 * bw) * bw) * bh) * bh) < (16 * (((((if 0 ≤ (((2 * x) + 1) - bw) then (((2 * x) + 1) - bw) else 0 - (((2 * x) + 1) - bw)) * (if 0 ≤ (((2 * x) + 1) - bw) then (((2 * x) + 1) - bw) else 0 - (((2 * x) + 1) - bw))) * bh) * bh) + ((((if 0 ≤ (((2 * y) + 1) - bh) then (((2 * y) + 1) - bh) else 0 - (((2 * y) + 1) - bh)) * (if 0 ≤ (((2 * y) + 1) - bh) then (((2 * y) + 1) - bh) else 0 - (((2 * y) + 1) - bh))) * bw) * bw)))) (T := 111) (F := 107) (lv' := [some (.ref (1045 + a)), some (.int x), some (.int y), some (.int bw), some (.int bh), some (.int (if 0 ≤ (((2 * x) + 1) - bw) then (((2 * x) + 1) - bw) else 0 - (((2 * x) + 1) - bw))), some (.int (if 0 ≤ (((2 * y) + 1) - bh) then (((2 * y) + 1) - bh) else 0 - (((2 * y) + 1) - bh)))]) (st' := []) (h1 := am_h w g) rfl (fun b104 => ?_) (fun b104 => ?_)
  · refine am_R.nxs 1 (pc' := 112) (lv' := [some (.ref (1045 + a)), some (.int x), some (.int y), some (.int bw), some (.int bh), some (.int (if 0 ≤ (((2 * x) + 1) - bw) then (((2 * x) + 1) - bw) else 0 - (((2 * x) + 1) - bw))), some (.int (if 0 ≤ (((2 * y) + 1) - bh) then (((2 * y) + 1) - bh) else 0 - (((2 * y) + 1) - bh)))]) (st' := [.int 0]) (h1 := am_h w g) rfl ?_
    rw [show aw_cg 0 x y bw bh = false from decide_eq_false (fun z => z b104)]
    exact am_R.reti rfl rfl rfl
  · refine am_R.nxs 2 (pc' := 112) (lv' := [some (.ref (1045 + a)), some (.int x), some (.int y), some (.int bw), some (.int bh), some (.int (if 0 ≤ (((2 * x) + 1) - bw) then (((2 * x) + 1) - bw) else 0 - (((2 * x) + 1) - bw))), some (.int (if 0 ≤ (((2 * y) + 1) - bh) then (((2 * y) + 1) - bh) else 0 - (((2 * y) + 1) - bh)))]) (st' := [.int 1]) (h1 := am_h w g) rfl ?_
    rw [show aw_cg 0 x y bw bh = true from decide_eq_true b104]
    exact am_R.reti rfl rfl rfl
set_option maxRecDepth 100000 in
theorem aw_k57_32 {w : Nat → am_C} {g : am_H} (d : Nat) {a : Nat} {n v : Int32} {ov : Value} (ha : g[a]? = some (aw_cC 32 n ov v)) (x y bw bh : Int32) : am_R (d + 1) 57 0 [some (.ref (1045 + a)), some (.int x), some (.int y), some (.int bw), some (.int bh), none, none] [] (am_h w g) (.inl (some (.int (if aw_cg 1 x y bw bh = true then 1 else 0)))) (am_h w g) := by
  have hsm := aw_smlen
  refine am_R.nxs 20 (pc' := 29) (lv' := [some (.ref (1045 + a)), some (.int x), some (.int y), some (.int bw), some (.int bh), some (.int (if 0 ≤ (((2 * x) + 1) - bw) then (((2 * x) + 1) - bw) else 0 - (((2 * x) + 1) - bw))), some (.int (if 0 ≤ (((2 * y) + 1) - bh) then (((2 * y) + 1) - bh) else 0 - (((2 * y) + 1) - bh)))]) (st' := [.ref (1045 + a), .ref 39]) (h1 := am_h w g) rfl ?_
  refine am_R.gf (pc' := 32) (v := .ref 32) rfl (am_gfn a ha) rfl rfl rfl ?_
  refine am_R.cv (a := 32) (as' := []) (r := [.ref 39]) (v := some (.int (Int32.ofNat 32))) (h1 := am_h w g) (pc' := 35) rfl rfl rfl rfl (aw_st0 (by decide)) rfl rfl (aw_k59 _ (by decide)) rfl ?_
  refine am_R.ldi (i := 32) (xs := aw_smL) (pc' := 36) rfl (aw_st39) (by omega) (by omega) rfl ?_
  rw [show aw_smL.getD 32 0 = 10 from rfl]
  refine am_R.ites 6 (P := bw < (2 * (if 0 ≤ (((2 * x) + 1) - bw) then (((2 * x) + 1) - bw) else 0 - (((2 * x) + 1) - bw)))) (T := 136) (F := 121) (lv' := [some (.ref (1045 + a)), some (.int x), some (.int y), some (.int bw), some (.int bh), some (.int (if 0 ≤ (((2 * x) + 1) - bw) then (((2 * x) + 1) - bw) else 0 - (((2 * x) + 1) - bw))), some (.int (if 0 ≤ (((2 * y) + 1) - bh) then (((2 * y) + 1) - bh) else 0 - (((2 * y) + 1) - bh)))]) (st' := []) (h1 := am_h w g) rfl (fun b118 => ?_) (fun b118 => ?_)
  · refine am_R.nxs 1 (pc' := 137) (lv' := [some (.ref (1045 + a)), some (.int x), some (.int y), some (.int bw), some (.int bh), some (.int (if 0 ≤ (((2 * x) + 1) - bw) then (((2 * x) + 1) - bw) else 0 - (((2 * x) + 1) - bw))), some (.int (if 0 ≤ (((2 * y) + 1) - bh) then (((2 * y) + 1) - bh) else 0 - (((2 * y) + 1) - bh)))]) (st' := [.int 0]) (h1 := am_h w g) rfl ?_
    rw [show aw_cg 1 x y bw bh = false from decide_eq_false (fun z => z.1 b118)]
    exact am_R.reti rfl rfl rfl
  · refine am_R.ites 7 (P := (3 * bh) < (4 * (if 0 ≤ (((2 * y) + 1) - bh) then (((2 * y) + 1) - bh) else 0 - (((2 * y) + 1) - bh)))) (T := 136) (F := 132) (lv' := [some (.ref (1045 + a)), some (.int x), some (.int y), some (.int bw), some (.int bh), some (.int (if 0 ≤ (((2 * x) + 1) - bw) then (((2 * x) + 1) - bw) else 0 - (((2 * x) + 1) - bw))), some (.int (if 0 ≤ (((2 * y) + 1) - bh) then (((2 * y) + 1) - bh) else 0 - (((2 * y) + 1) - bh)))]) (st' := []) (h1 := am_h w g) rfl (fun b129 => ?_) (fun b129 => ?_)
    · refine am_R.nxs 1 (pc' := 137) (lv' := [some (.ref (1045 + a)), some (.int x), some (.int y), some (.int bw), some (.int bh), some (.int (if 0 ≤ (((2 * x) + 1) - bw) then (((2 * x) + 1) - bw) else 0 - (((2 * x) + 1) - bw))), some (.int (if 0 ≤ (((2 * y) + 1) - bh) then (((2 * y) + 1) - bh) else 0 - (((2 * y) + 1) - bh)))]) (st' := [.int 0]) (h1 := am_h w g) rfl ?_
      rw [show aw_cg 1 x y bw bh = false from decide_eq_false (fun z => z.2 b129)]
      exact am_R.reti rfl rfl rfl
    · refine am_R.nxs 2 (pc' := 137) (lv' := [some (.ref (1045 + a)), some (.int x), some (.int y), some (.int bw), some (.int bh), some (.int (if 0 ≤ (((2 * x) + 1) - bw) then (((2 * x) + 1) - bw) else 0 - (((2 * x) + 1) - bw))), some (.int (if 0 ≤ (((2 * y) + 1) - bh) then (((2 * y) + 1) - bh) else 0 - (((2 * y) + 1) - bh)))]) (st' := [.int 1]) (h1 := am_h w g) rfl ?_
      rw [show aw_cg 1 x y bw bh = true from decide_eq_true ⟨b118, b129⟩]
      exact am_R.reti rfl rfl rfl
set_option maxRecDepth 100000 in
theorem aw_k57_33 {w : Nat → am_C} {g : am_H} (d : Nat) {a : Nat} {n v : Int32} {ov : Value} (ha : g[a]? = some (aw_cC 33 n ov v)) (x y bw bh : Int32) : am_R (d + 1) 57 0 [some (.ref (1045 + a)), some (.int x), some (.int y), some (.int bw), some (.int bh), none, none] [] (am_h w g) (.inl (some (.int (if aw_cg 2 x y bw bh = true then 1 else 0)))) (am_h w g) := by
  have hsm := aw_smlen
  refine am_R.nxs 20 (pc' := 29) (lv' := [some (.ref (1045 + a)), some (.int x), some (.int y), some (.int bw), some (.int bh), some (.int (if 0 ≤ (((2 * x) + 1) - bw) then (((2 * x) + 1) - bw) else 0 - (((2 * x) + 1) - bw))), some (.int (if 0 ≤ (((2 * y) + 1) - bh) then (((2 * y) + 1) - bh) else 0 - (((2 * y) + 1) - bh)))]) (st' := [.ref (1045 + a), .ref 39]) (h1 := am_h w g) rfl ?_
  refine am_R.gf (pc' := 32) (v := .ref 33) rfl (am_gfn a ha) rfl rfl rfl ?_
  refine am_R.cv (a := 33) (as' := []) (r := [.ref 39]) (v := some (.int (Int32.ofNat 33))) (h1 := am_h w g) (pc' := 35) rfl rfl rfl rfl (aw_st0 (by decide)) rfl rfl (aw_k59 _ (by decide)) rfl ?_
  refine am_R.ldi (i := 33) (xs := aw_smL) (pc' := 36) rfl (aw_st39) (by omega) (by omega) rfl ?_
  rw [show aw_smL.getD 33 0 = 0 from rfl]
  refine am_R.ites 16 (P := ((3 * bw) * bh) < (4 * (((if 0 ≤ (((2 * x) + 1) - bw) then (((2 * x) + 1) - bw) else 0 - (((2 * x) + 1) - bw)) * bh) + ((if 0 ≤ (((2 * y) + 1) - bh) then (((2 * y) + 1) - bh) else 0 - (((2 * y) + 1) - bh)) * bw)))) (T := 163) (F := 159) (lv' := [some (.ref (1045 + a)), some (.int x), some (.int y), some (.int bw), some (.int bh), some (.int (if 0 ≤ (((2 * x) + 1) - bw) then (((2 * x) + 1) - bw) else 0 - (((2 * x) + 1) - bw))), some (.int (if 0 ≤ (((2 * y) + 1) - bh) then (((2 * y) + 1) - bh) else 0 - (((2 * y) + 1) - bh)))]) (st' := []) (h1 := am_h w g) rfl (fun b156 => ?_) (fun b156 => ?_)
  · refine am_R.nxs 1 (pc' := 164) (lv' := [some (.ref (1045 + a)), some (.int x), some (.int y), some (.int bw), some (.int bh), some (.int (if 0 ≤ (((2 * x) + 1) - bw) then (((2 * x) + 1) - bw) else 0 - (((2 * x) + 1) - bw))), some (.int (if 0 ≤ (((2 * y) + 1) - bh) then (((2 * y) + 1) - bh) else 0 - (((2 * y) + 1) - bh)))]) (st' := [.int 0]) (h1 := am_h w g) rfl ?_
    rw [show aw_cg 2 x y bw bh = false from decide_eq_false (fun z => z b156)]
    exact am_R.reti rfl rfl rfl
  · refine am_R.nxs 2 (pc' := 164) (lv' := [some (.ref (1045 + a)), some (.int x), some (.int y), some (.int bw), some (.int bh), some (.int (if 0 ≤ (((2 * x) + 1) - bw) then (((2 * x) + 1) - bw) else 0 - (((2 * x) + 1) - bw))), some (.int (if 0 ≤ (((2 * y) + 1) - bh) then (((2 * y) + 1) - bh) else 0 - (((2 * y) + 1) - bh)))]) (st' := [.int 1]) (h1 := am_h w g) rfl ?_
    rw [show aw_cg 2 x y bw bh = true from decide_eq_true b156]
    exact am_R.reti rfl rfl rfl
set_option maxRecDepth 100000 in
theorem aw_k57_34 {w : Nat → am_C} {g : am_H} (d : Nat) {a : Nat} {n v : Int32} {ov : Value} (ha : g[a]? = some (aw_cC 34 n ov v)) (x y bw bh : Int32) : am_R (d + 1) 57 0 [some (.ref (1045 + a)), some (.int x), some (.int y), some (.int bw), some (.int bh), none, none] [] (am_h w g) (.inl (some (.int (if aw_cg 0 x y bw bh = true then 1 else 0)))) (am_h w g) := by
  have hsm := aw_smlen
  refine am_R.nxs 20 (pc' := 29) (lv' := [some (.ref (1045 + a)), some (.int x), some (.int y), some (.int bw), some (.int bh), some (.int (if 0 ≤ (((2 * x) + 1) - bw) then (((2 * x) + 1) - bw) else 0 - (((2 * x) + 1) - bw))), some (.int (if 0 ≤ (((2 * y) + 1) - bh) then (((2 * y) + 1) - bh) else 0 - (((2 * y) + 1) - bh)))]) (st' := [.ref (1045 + a), .ref 39]) (h1 := am_h w g) rfl ?_
  refine am_R.gf (pc' := 32) (v := .ref 34) rfl (am_gfn a ha) rfl rfl rfl ?_
  refine am_R.cv (a := 34) (as' := []) (r := [.ref 39]) (v := some (.int (Int32.ofNat 34))) (h1 := am_h w g) (pc' := 35) rfl rfl rfl rfl (aw_st0 (by decide)) rfl rfl (aw_k59 _ (by decide)) rfl ?_
  refine am_R.ldi (i := 34) (xs := aw_smL) (pc' := 36) rfl (aw_st39) (by omega) (by omega) rfl ?_
  rw [show aw_smL.getD 34 0 = 9 from rfl]
  refine am_R.ites 28 (P := ((((9 * bw) * bw) * bh) * bh) < (16 * (((((if 0 ≤ (((2 * x) + 1) - bw) then (((2 * x) + 1) - bw) else 0 - (((2 * x) + 1) - bw)) * (if 0 ≤ (((2 * x) + 1) - bw) then (((2 * x) + 1) - bw) else 0 - (((2 * x) + 1) - bw))) * bh) * bh) + ((((if 0 ≤ (((2 * y) + 1) - bh) then (((2 * y) + 1) - bh) else 0 - (((2 * y) + 1) - bh)) * (if 0 ≤ (((2 * y) + 1) - bh) then (((2 * y) + 1) - bh) else 0 - (((2 * y) + 1) - bh))) * bw) * bw)))) (T := 111) (F := 107) (lv' := [some (.ref (1045 + a)), some (.int x), some (.int y), some (.int bw), some (.int bh), some (.int (if 0 ≤ (((2 * x) + 1) - bw) then (((2 * x) + 1) - bw) else 0 - (((2 * x) + 1) - bw))), some (.int (if 0 ≤ (((2 * y) + 1) - bh) then (((2 * y) + 1) - bh) else 0 - (((2 * y) + 1) - bh)))]) (st' := []) (h1 := am_h w g) rfl (fun b104 => ?_) (fun b104 => ?_)
  · refine am_R.nxs 1 (pc' := 112) (lv' := [some (.ref (1045 + a)), some (.int x), some (.int y), some (.int bw), some (.int bh), some (.int (if 0 ≤ (((2 * x) + 1) - bw) then (((2 * x) + 1) - bw) else 0 - (((2 * x) + 1) - bw))), some (.int (if 0 ≤ (((2 * y) + 1) - bh) then (((2 * y) + 1) - bh) else 0 - (((2 * y) + 1) - bh)))]) (st' := [.int 0]) (h1 := am_h w g) rfl ?_
    rw [show aw_cg 0 x y bw bh = false from decide_eq_false (fun z => z b104)]
    exact am_R.reti rfl rfl rfl
  · refine am_R.nxs 2 (pc' := 112) (lv' := [some (.ref (1045 + a)), some (.int x), some (.int y), some (.int bw), some (.int bh), some (.int (if 0 ≤ (((2 * x) + 1) - bw) then (((2 * x) + 1) - bw) else 0 - (((2 * x) + 1) - bw))), some (.int (if 0 ≤ (((2 * y) + 1) - bh) then (((2 * y) + 1) - bh) else 0 - (((2 * y) + 1) - bh)))]) (st' := [.int 1]) (h1 := am_h w g) rfl ?_
    rw [show aw_cg 0 x y bw bh = true from decide_eq_true b104]
    exact am_R.reti rfl rfl rfl
set_option maxRecDepth 100000 in
theorem aw_k57_35 {w : Nat → am_C} {g : am_H} (d : Nat) {a : Nat} {n v : Int32} {ov : Value} (ha : g[a]? = some (aw_cC 35 n ov v)) (x y bw bh : Int32) : am_R (d + 1) 57 0 [some (.ref (1045 + a)), some (.int x), some (.int y), some (.int bw), some (.int bh), none, none] [] (am_h w g) (.inl (some (.int (if aw_cg 1 x y bw bh = true then 1 else 0)))) (am_h w g) := by
  have hsm := aw_smlen
  refine am_R.nxs 20 (pc' := 29) (lv' := [some (.ref (1045 + a)), some (.int x), some (.int y), some (.int bw), some (.int bh), some (.int (if 0 ≤ (((2 * x) + 1) - bw) then (((2 * x) + 1) - bw) else 0 - (((2 * x) + 1) - bw))), some (.int (if 0 ≤ (((2 * y) + 1) - bh) then (((2 * y) + 1) - bh) else 0 - (((2 * y) + 1) - bh)))]) (st' := [.ref (1045 + a), .ref 39]) (h1 := am_h w g) rfl ?_
  refine am_R.gf (pc' := 32) (v := .ref 35) rfl (am_gfn a ha) rfl rfl rfl ?_
  refine am_R.cv (a := 35) (as' := []) (r := [.ref 39]) (v := some (.int (Int32.ofNat 35))) (h1 := am_h w g) (pc' := 35) rfl rfl rfl rfl (aw_st0 (by decide)) rfl rfl (aw_k59 _ (by decide)) rfl ?_
  refine am_R.ldi (i := 35) (xs := aw_smL) (pc' := 36) rfl (aw_st39) (by omega) (by omega) rfl ?_
  rw [show aw_smL.getD 35 0 = 11 from rfl]
  refine am_R.ites 6 (P := bw < (2 * (if 0 ≤ (((2 * x) + 1) - bw) then (((2 * x) + 1) - bw) else 0 - (((2 * x) + 1) - bw)))) (T := 136) (F := 121) (lv' := [some (.ref (1045 + a)), some (.int x), some (.int y), some (.int bw), some (.int bh), some (.int (if 0 ≤ (((2 * x) + 1) - bw) then (((2 * x) + 1) - bw) else 0 - (((2 * x) + 1) - bw))), some (.int (if 0 ≤ (((2 * y) + 1) - bh) then (((2 * y) + 1) - bh) else 0 - (((2 * y) + 1) - bh)))]) (st' := []) (h1 := am_h w g) rfl (fun b118 => ?_) (fun b118 => ?_)
  · refine am_R.nxs 1 (pc' := 137) (lv' := [some (.ref (1045 + a)), some (.int x), some (.int y), some (.int bw), some (.int bh), some (.int (if 0 ≤ (((2 * x) + 1) - bw) then (((2 * x) + 1) - bw) else 0 - (((2 * x) + 1) - bw))), some (.int (if 0 ≤ (((2 * y) + 1) - bh) then (((2 * y) + 1) - bh) else 0 - (((2 * y) + 1) - bh)))]) (st' := [.int 0]) (h1 := am_h w g) rfl ?_
    rw [show aw_cg 1 x y bw bh = false from decide_eq_false (fun z => z.1 b118)]
    exact am_R.reti rfl rfl rfl
  · refine am_R.ites 7 (P := (3 * bh) < (4 * (if 0 ≤ (((2 * y) + 1) - bh) then (((2 * y) + 1) - bh) else 0 - (((2 * y) + 1) - bh)))) (T := 136) (F := 132) (lv' := [some (.ref (1045 + a)), some (.int x), some (.int y), some (.int bw), some (.int bh), some (.int (if 0 ≤ (((2 * x) + 1) - bw) then (((2 * x) + 1) - bw) else 0 - (((2 * x) + 1) - bw))), some (.int (if 0 ≤ (((2 * y) + 1) - bh) then (((2 * y) + 1) - bh) else 0 - (((2 * y) + 1) - bh)))]) (st' := []) (h1 := am_h w g) rfl (fun b129 => ?_) (fun b129 => ?_)
    · refine am_R.nxs 1 (pc' := 137) (lv' := [some (.ref (1045 + a)), some (.int x), some (.int y), some (.int bw), some (.int bh), some (.int (if 0 ≤ (((2 * x) + 1) - bw) then (((2 * x) + 1) - bw) else 0 - (((2 * x) + 1) - bw))), some (.int (if 0 ≤ (((2 * y) + 1) - bh) then (((2 * y) + 1) - bh) else 0 - (((2 * y) + 1) - bh)))]) (st' := [.int 0]) (h1 := am_h w g) rfl ?_
      rw [show aw_cg 1 x y bw bh = false from decide_eq_false (fun z => z.2 b129)]
      exact am_R.reti rfl rfl rfl
    · refine am_R.nxs 2 (pc' := 137) (lv' := [some (.ref (1045 + a)), some (.int x), some (.int y), some (.int bw), some (.int bh), some (.int (if 0 ≤ (((2 * x) + 1) - bw) then (((2 * x) + 1) - bw) else 0 - (((2 * x) + 1) - bw))), some (.int (if 0 ≤ (((2 * y) + 1) - bh) then (((2 * y) + 1) - bh) else 0 - (((2 * y) + 1) - bh)))]) (st' := [.int 1]) (h1 := am_h w g) rfl ?_
      rw [show aw_cg 1 x y bw bh = true from decide_eq_true ⟨b118, b129⟩]
      exact am_R.reti rfl rfl rfl
set_option maxRecDepth 100000 in
theorem aw_k57_36 {w : Nat → am_C} {g : am_H} (d : Nat) {a : Nat} {n v : Int32} {ov : Value} (ha : g[a]? = some (aw_cC 36 n ov v)) (x y bw bh : Int32) : am_R (d + 1) 57 0 [some (.ref (1045 + a)), some (.int x), some (.int y), some (.int bw), some (.int bh), none, none] [] (am_h w g) (.inl (some (.int (if aw_cg 2 x y bw bh = true then 1 else 0)))) (am_h w g) := by
  have hsm := aw_smlen
  refine am_R.nxs 20 (pc' := 29) (lv' := [some (.ref (1045 + a)), some (.int x), some (.int y), some (.int bw), some (.int bh), some (.int (if 0 ≤ (((2 * x) + 1) - bw) then (((2 * x) + 1) - bw) else 0 - (((2 * x) + 1) - bw))), some (.int (if 0 ≤ (((2 * y) + 1) - bh) then (((2 * y) + 1) - bh) else 0 - (((2 * y) + 1) - bh)))]) (st' := [.ref (1045 + a), .ref 39]) (h1 := am_h w g) rfl ?_
  refine am_R.gf (pc' := 32) (v := .ref 36) rfl (am_gfn a ha) rfl rfl rfl ?_
  refine am_R.cv (a := 36) (as' := []) (r := [.ref 39]) (v := some (.int (Int32.ofNat 36))) (h1 := am_h w g) (pc' := 35) rfl rfl rfl rfl (aw_st0 (by decide)) rfl rfl (aw_k59 _ (by decide)) rfl ?_
  refine am_R.ldi (i := 36) (xs := aw_smL) (pc' := 36) rfl (aw_st39) (by omega) (by omega) rfl ?_
  rw [show aw_smL.getD 36 0 = 0 from rfl]
  refine am_R.ites 16 (P := ((3 * bw) * bh) < (4 * (((if 0 ≤ (((2 * x) + 1) - bw) then (((2 * x) + 1) - bw) else 0 - (((2 * x) + 1) - bw)) * bh) + ((if 0 ≤ (((2 * y) + 1) - bh) then (((2 * y) + 1) - bh) else 0 - (((2 * y) + 1) - bh)) * bw)))) (T := 163) (F := 159) (lv' := [some (.ref (1045 + a)), some (.int x), some (.int y), some (.int bw), some (.int bh), some (.int (if 0 ≤ (((2 * x) + 1) - bw) then (((2 * x) + 1) - bw) else 0 - (((2 * x) + 1) - bw))), some (.int (if 0 ≤ (((2 * y) + 1) - bh) then (((2 * y) + 1) - bh) else 0 - (((2 * y) + 1) - bh)))]) (st' := []) (h1 := am_h w g) rfl (fun b156 => ?_) (fun b156 => ?_)
  · refine am_R.nxs 1 (pc' := 164) (lv' := [some (.ref (1045 + a)), some (.int x), some (.int y), some (.int bw), some (.int bh), some (.int (if 0 ≤ (((2 * x) + 1) - bw) then (((2 * x) + 1) - bw) else 0 - (((2 * x) + 1) - bw))), some (.int (if 0 ≤ (((2 * y) + 1) - bh) then (((2 * y) + 1) - bh) else 0 - (((2 * y) + 1) - bh)))]) (st' := [.int 0]) (h1 := am_h w g) rfl ?_
    rw [show aw_cg 2 x y bw bh = false from decide_eq_false (fun z => z b156)]
    exact am_R.reti rfl rfl rfl
  · refine am_R.nxs 2 (pc' := 164) (lv' := [some (.ref (1045 + a)), some (.int x), some (.int y), some (.int bw), some (.int bh), some (.int (if 0 ≤ (((2 * x) + 1) - bw) then (((2 * x) + 1) - bw) else 0 - (((2 * x) + 1) - bw))), some (.int (if 0 ≤ (((2 * y) + 1) - bh) then (((2 * y) + 1) - bh) else 0 - (((2 * y) + 1) - bh)))]) (st' := [.int 1]) (h1 := am_h w g) rfl ?_
    rw [show aw_cg 2 x y bw bh = true from decide_eq_true b156]
    exact am_R.reti rfl rfl rfl
theorem aw_k57 {w : Nat → am_C} {g : am_H} (d : Nat) {a : Nat} {n v : Int32} {ov : Value} {j : Nat} (h1 : 31 ≤ j) (h2 : j ≤ 36) (ha : g[a]? = some (aw_cC j n ov v)) (x y bw bh : Int32) : am_R (d + 1) 57 0 [some (.ref (1045 + a)), some (.int x), some (.int y), some (.int bw), some (.int bh), none, none] [] (am_h w g) (.inl (some (.int (if aw_cg ((j - 31) % 3) x y bw bh = true then 1 else 0)))) (am_h w g) := by
  rcases (by omega : j = 31 ∨ j = 32 ∨ j = 33 ∨ j = 34 ∨ j = 35 ∨ j = 36) with q | q | q | q | q | q <;> subst q
  · exact aw_k57_31 d ha x y bw bh
  · exact aw_k57_32 d ha x y bw bh
  · exact aw_k57_33 d ha x y bw bh
  · exact aw_k57_34 d ha x y bw bh
  · exact aw_k57_35 d ha x y bw bh
  · exact aw_k57_36 d ha x y bw bh
theorem aw_k56y {w : Nat → am_C} {g : am_H} (d : Nat) {a : Nat} {n v : Int32} {ov : Value} {j : Nat} (h1 : 31 ≤ j) (h2 : j ≤ 36) (ha : g[a]? = some (aw_cC j n ov v)) (x y bw bh c : Int32) (hk : ¬ c = 0) {e : Int32} : ∀ (f : Nat) (i : Int32) (x7 x8 : Option Value), aw_fr x bw c f i = some (some e) → am_R (d + 2) 56 3 [some (.ref (1045 + a)), some (.int x), some (.int y), some (.int bw), some (.int bh), some (.int c), some (.int i), x7, x8] [] (am_h w g) (.inl (some (.int (if aw_cg ((j - 31) % 3) (x - e * bw / c) y ((e + 1) * bw / c - e * bw / c) bh = true then 1 else 0)))) (am_h w g) := by
  intro f
  induction f with
  | zero =>
    intro i x7 x8 h
    cases h
  | succ f ih =>
    intro i x7 x8 h
    rw [aw_fr] at h
    refine am_R.ites 3 (P := c ≤ i) (T := 65) (F := 10) (lv' := [some (.ref (1045 + a)), some (.int x), some (.int y), some (.int bw), some (.int bh), some (.int c), some (.int i), x7, x8]) (st' := []) (h1 := am_h w g) rfl (fun b7 => ?_) (fun b7 => ?_)
    · refine am_R.nxs 1 (pc' := 66) (lv' := [some (.ref (1045 + a)), some (.int x), some (.int y), some (.int bw), some (.int bh), some (.int c), some (.int i), x7, x8]) (st' := [.int 0]) (h1 := am_h w g) rfl ?_
      rw [if_pos b7] at h
      cases h
    · refine am_R.nxs 4 (pc' := 16) (lv' := [some (.ref (1045 + a)), some (.int x), some (.int y), some (.int bw), some (.int bh), some (.int c), some (.int i), x7, x8]) (st' := [.int c, .int (i * bw)]) (h1 := am_h w g) rfl ?_
      refine am_R.idv (pc' := 17) rfl (hk) rfl ?_
      refine am_R.nxs 7 (pc' := 27) (lv' := [some (.ref (1045 + a)), some (.int x), some (.int y), some (.int bw), some (.int bh), some (.int c), some (.int i), some (.int ((i * bw) / c)), x8]) (st' := [.int c, .int ((i + 1) * bw)]) (h1 := am_h w g) rfl ?_
      refine am_R.idv (pc' := 28) rfl (hk) rfl ?_
      refine am_R.ites 4 (P := x < ((i * bw) / c)) (T := 59) (F := 36) (lv' := [some (.ref (1045 + a)), some (.int x), some (.int y), some (.int bw), some (.int bh), some (.int c), some (.int i), some (.int ((i * bw) / c)), some (.int (((i + 1) * bw) / c))]) (st' := []) (h1 := am_h w g) rfl (fun b33 => ?_) (fun b33 => ?_)
      · refine am_R.nxs 2 (pc' := 3) (lv' := [some (.ref (1045 + a)), some (.int x), some (.int y), some (.int bw), some (.int bh), some (.int c), some (.int (i + 1)), some (.int ((i * bw) / c)), some (.int (((i + 1) * bw) / c))]) (st' := []) (h1 := am_h w g) rfl ?_
        rw [if_neg b7, if_pos b33] at h
        exact ih (i + 1) _ _ h
      · refine am_R.ites 3 (P := (((i + 1) * bw) / c) ≤ x) (T := 59) (F := 42) (lv' := [some (.ref (1045 + a)), some (.int x), some (.int y), some (.int bw), some (.int bh), some (.int c), some (.int i), some (.int ((i * bw) / c)), some (.int (((i + 1) * bw) / c))]) (st' := []) (h1 := am_h w g) rfl (fun b39 => ?_) (fun b39 => ?_)
        · refine am_R.nxs 2 (pc' := 3) (lv' := [some (.ref (1045 + a)), some (.int x), some (.int y), some (.int bw), some (.int bh), some (.int c), some (.int (i + 1)), some (.int ((i * bw) / c)), some (.int (((i + 1) * bw) / c))]) (st' := []) (h1 := am_h w g) rfl ?_
          rw [if_neg b7, if_neg b33, if_pos b39] at h
          exact ih (i + 1) _ _ h
        · refine am_R.nxs 9 (pc' := 55) (lv' := [some (.ref (1045 + a)), some (.int x), some (.int y), some (.int bw), some (.int bh), some (.int c), some (.int i), some (.int ((i * bw) / c)), some (.int (((i + 1) * bw) / c))]) (st' := [.int bh, .int ((((i + 1) * bw) / c) - ((i * bw) / c)), .int y, .int (x - ((i * bw) / c)), .ref (1045 + a)]) (h1 := am_h w g) rfl ?_
          refine am_R.cv (a := (1045 + a)) (as' := [.int (x - ((i * bw) / c)), .int y, .int ((((i + 1) * bw) / c) - ((i * bw) / c)), .int bh]) (r := []) (v := some (.int (if aw_cg ((j - 31) % 3) (x - ((i * bw) / c)) y ((((i + 1) * bw) / c) - ((i * bw) / c)) bh = true then 1 else 0))) (h1 := am_h w g) (pc' := 58) rfl rfl rfl rfl (am_gfn a ha) rfl rfl (aw_k57 d h1 h2 ha (x - ((i * bw) / c)) y ((((i + 1) * bw) / c) - ((i * bw) / c)) bh) rfl ?_
          rw [if_neg b7, if_neg b33, if_neg b39] at h
          cases h
          exact am_R.reti rfl rfl (by split <;> rfl)
theorem aw_k56n {w : Nat → am_C} {g : am_H} (d : Nat) {a : Nat} {n v : Int32} {ov : Value} {j : Nat} (h1 : 31 ≤ j) (h2 : j ≤ 36) (ha : g[a]? = some (aw_cC j n ov v)) (x y bw bh c : Int32) (hk : ¬ c = 0) : ∀ (f : Nat) (i : Int32) (x7 x8 : Option Value), aw_fr x bw c f i = some none → am_R (d + 2) 56 3 [some (.ref (1045 + a)), some (.int x), some (.int y), some (.int bw), some (.int bh), some (.int c), some (.int i), x7, x8] [] (am_h w g) (.inl (some (.int 0))) (am_h w g) := by
  intro f
  induction f with
  | zero =>
    intro i x7 x8 h
    cases h
  | succ f ih =>
    intro i x7 x8 h
    rw [aw_fr] at h
    refine am_R.ites 3 (P := c ≤ i) (T := 65) (F := 10) (lv' := [some (.ref (1045 + a)), some (.int x), some (.int y), some (.int bw), some (.int bh), some (.int c), some (.int i), x7, x8]) (st' := []) (h1 := am_h w g) rfl (fun b7 => ?_) (fun b7 => ?_)
    · refine am_R.nxs 1 (pc' := 66) (lv' := [some (.ref (1045 + a)), some (.int x), some (.int y), some (.int bw), some (.int bh), some (.int c), some (.int i), x7, x8]) (st' := [.int 0]) (h1 := am_h w g) rfl ?_
      rw [if_pos b7] at h
      exact am_R.reti rfl rfl rfl
    · refine am_R.nxs 4 (pc' := 16) (lv' := [some (.ref (1045 + a)), some (.int x), some (.int y), some (.int bw), some (.int bh), some (.int c), some (.int i), x7, x8]) (st' := [.int c, .int (i * bw)]) (h1 := am_h w g) rfl ?_
      refine am_R.idv (pc' := 17) rfl (hk) rfl ?_
      refine am_R.nxs 7 (pc' := 27) (lv' := [some (.ref (1045 + a)), some (.int x), some (.int y), some (.int bw), some (.int bh), some (.int c), some (.int i), some (.int ((i * bw) / c)), x8]) (st' := [.int c, .int ((i + 1) * bw)]) (h1 := am_h w g) rfl ?_
      refine am_R.idv (pc' := 28) rfl (hk) rfl ?_
      refine am_R.ites 4 (P := x < ((i * bw) / c)) (T := 59) (F := 36) (lv' := [some (.ref (1045 + a)), some (.int x), some (.int y), some (.int bw), some (.int bh), some (.int c), some (.int i), some (.int ((i * bw) / c)), some (.int (((i + 1) * bw) / c))]) (st' := []) (h1 := am_h w g) rfl (fun b33 => ?_) (fun b33 => ?_)
      · refine am_R.nxs 2 (pc' := 3) (lv' := [some (.ref (1045 + a)), some (.int x), some (.int y), some (.int bw), some (.int bh), some (.int c), some (.int (i + 1)), some (.int ((i * bw) / c)), some (.int (((i + 1) * bw) / c))]) (st' := []) (h1 := am_h w g) rfl ?_
        rw [if_neg b7, if_pos b33] at h
        exact ih (i + 1) _ _ h
      · refine am_R.ites 3 (P := (((i + 1) * bw) / c) ≤ x) (T := 59) (F := 42) (lv' := [some (.ref (1045 + a)), some (.int x), some (.int y), some (.int bw), some (.int bh), some (.int c), some (.int i), some (.int ((i * bw) / c)), some (.int (((i + 1) * bw) / c))]) (st' := []) (h1 := am_h w g) rfl (fun b39 => ?_) (fun b39 => ?_)
        · refine am_R.nxs 2 (pc' := 3) (lv' := [some (.ref (1045 + a)), some (.int x), some (.int y), some (.int bw), some (.int bh), some (.int c), some (.int (i + 1)), some (.int ((i * bw) / c)), some (.int (((i + 1) * bw) / c))]) (st' := []) (h1 := am_h w g) rfl ?_
          rw [if_neg b7, if_neg b33, if_pos b39] at h
          exact ih (i + 1) _ _ h
        · rw [if_neg b7, if_neg b33, if_neg b39] at h
          cases h
theorem aw_k56 {w : Nat → am_C} {g : am_H} (d : Nat) {a : Nat} {n v : Int32} {ov : Value} {j : Nat} (h1 : 31 ≤ j) (h2 : j ≤ 36) (ha : g[a]? = some (aw_cC j n ov v)) (x y bw bh c : Int32) (hk : ¬ c = 0) {b : Bool} (hb : aw_rwc ((j - 31) % 3) x y bw bh c = some b) : am_R (d + 2) 56 0 [some (.ref (1045 + a)), some (.int x), some (.int y), some (.int bw), some (.int bh), some (.int c), none, none, none] [] (am_h w g) (.inl (some (.int (if b = true then 1 else 0)))) (am_h w g) := by
  refine am_R.nxs 2 (pc' := 3) (lv' := [some (.ref (1045 + a)), some (.int x), some (.int y), some (.int bw), some (.int bh), some (.int c), some (.int 0), none, none]) (st' := []) (h1 := am_h w g) rfl ?_
  unfold aw_rwc at hb
  split at hb
  · cases hb
  · rename_i hf
    cases hb
    exact aw_k56n d h1 h2 ha x y bw bh c hk 8 0 none none hf
  · rename_i e hf
    cases hb
    exact aw_k56y d h1 h2 ha x y bw bh c hk 8 0 none none hf
theorem aw_k54_0 {w : Nat → am_C} {g : am_H} (d : Nat) {a : Nat} {n v : Int32} {j : Nat} (h1 : 31 ≤ j) (h2 : j ≤ 36) (ha : g[a]? = some (aw_cC j n .null v)) (i : Int32) : am_R d 54 0 [some (.ref (1045 + a)), some (.int i)] [] (am_h w g) (.inl (some (.int ((aw_cin n) i)))) (am_h w g) := by
  refine am_R.nxs 1 (pc' := 1) (lv' := [some (.ref (1045 + a)), some (.int i)]) (st' := [.ref (1045 + a)]) (h1 := am_h w g) rfl ?_
  refine am_R.gf (pc' := 4) (v := .null) rfl (am_gfn a ha) rfl rfl rfl ?_
  refine am_R.nxs 3 (pc' := 13) (lv' := [some (.ref (1045 + a)), some (.int i)]) (st' := [.ref (1045 + a)]) (h1 := am_h w g) rfl ?_
  refine am_R.gf (pc' := 16) (v := .null) rfl (am_gfn a ha) rfl rfl rfl ?_
  refine am_R.nxs 2 (pc' := 25) (lv' := [some (.ref (1045 + a)), some (.int i)]) (st' := [.ref (1045 + a)]) (h1 := am_h w g) rfl ?_
  refine am_R.gf (pc' := 28) (v := .int n) rfl (am_gfn a ha) rfl rfl rfl ?_
  refine am_R.ites 2 (P := ¬ n = 6) (T := 39) (F := 33) (lv' := [some (.ref (1045 + a)), some (.int i)]) (st' := []) (h1 := am_h w g) rfl (fun b30 => ?_) (fun b30 => ?_)
  · refine am_R.nxs 2 (pc' := 41) (lv' := [some (.ref (1045 + a)), some (.int i)]) (st' := [.ref (1045 + a), .int 2]) (h1 := am_h w g) rfl ?_
    refine am_R.gf (pc' := 44) (v := .int n) rfl (am_gfn a ha) rfl rfl rfl ?_
    refine am_R.nxs 5 (pc' := 51) (lv' := [some (.ref (1045 + a)), some (.int i)]) (st' := [.int (if (n - (2 * i)) < 2 then (n - (2 * i)) else 2)]) (h1 := am_h w g) rfl ?_
    rw [show aw_cin n i = (if (n - (2 * i)) < 2 then (n - (2 * i)) else 2) from if_neg b30]
    exact am_R.reti rfl rfl rfl
  · refine am_R.nxs 4 (pc' := 51) (lv' := [some (.ref (1045 + a)), some (.int i)]) (st' := [.int (3 - i)]) (h1 := am_h w g) rfl ?_
    rw [show aw_cin n i = (3 - i) from if_pos (Decidable.not_not.mp b30)]
    exact am_R.reti rfl rfl rfl
theorem aw_k53y_0 {w : Nat → am_C} {g : am_H} (d : Nat) {a : Nat} {n v : Int32} {j : Nat} (h1 : 31 ≤ j) (h2 : j ≤ 36) (ha : g[a]? = some (aw_cC j n .null v)) (x y bw bh rows : Int32) (hk : ¬ rows = 0) {e : Int32} {b : Bool} (hc : ¬ (aw_cin n) e = 0) (hb : aw_rwc ((j - 31) % 3) x (y - e * bh / rows) bw ((e + 1) * bh / rows - e * bh / rows) ((aw_cin n) e) = some b) : ∀ (f : Nat) (i : Int32) (x7 x8 : Option Value), aw_fr y bh rows f i = some (some e) → am_R (d + 3) 53 3 [some (.ref (1045 + a)), some (.int x), some (.int y), some (.int bw), some (.int bh), some (.int rows), some (.int i), x7, x8] [] (am_h w g) (.inl (some (.int (if b = true then 1 else 0)))) (am_h w g) := by
  intro f
  induction f with
  | zero =>
    intro i x7 x8 h
    cases h
  | succ f ih =>
    intro i x7 x8 h
    rw [aw_fr] at h
    refine am_R.ites 3 (P := rows ≤ i) (T := 72) (F := 10) (lv' := [some (.ref (1045 + a)), some (.int x), some (.int y), some (.int bw), some (.int bh), some (.int rows), some (.int i), x7, x8]) (st' := []) (h1 := am_h w g) rfl (fun b7 => ?_) (fun b7 => ?_)
    · refine am_R.nxs 1 (pc' := 73) (lv' := [some (.ref (1045 + a)), some (.int x), some (.int y), some (.int bw), some (.int bh), some (.int rows), some (.int i), x7, x8]) (st' := [.int 0]) (h1 := am_h w g) rfl ?_
      rw [if_pos b7] at h
      cases h
    · refine am_R.nxs 4 (pc' := 17) (lv' := [some (.ref (1045 + a)), some (.int x), some (.int y), some (.int bw), some (.int bh), some (.int rows), some (.int i), x7, x8]) (st' := [.int rows, .int (i * bh)]) (h1 := am_h w g) rfl ?_
      refine am_R.idv (pc' := 18) rfl (hk) rfl ?_
      refine am_R.nxs 7 (pc' := 29) (lv' := [some (.ref (1045 + a)), some (.int x), some (.int y), some (.int bw), some (.int bh), some (.int rows), some (.int i), some (.int ((i * bh) / rows)), x8]) (st' := [.int rows, .int ((i + 1) * bh)]) (h1 := am_h w g) rfl ?_
      refine am_R.idv (pc' := 30) rfl (hk) rfl ?_
      refine am_R.ites 4 (P := y < ((i * bh) / rows)) (T := 66) (F := 38) (lv' := [some (.ref (1045 + a)), some (.int x), some (.int y), some (.int bw), some (.int bh), some (.int rows), some (.int i), some (.int ((i * bh) / rows)), some (.int (((i + 1) * bh) / rows))]) (st' := []) (h1 := am_h w g) rfl (fun b35 => ?_) (fun b35 => ?_)
      · refine am_R.nxs 2 (pc' := 3) (lv' := [some (.ref (1045 + a)), some (.int x), some (.int y), some (.int bw), some (.int bh), some (.int rows), some (.int (i + 1)), some (.int ((i * bh) / rows)), some (.int (((i + 1) * bh) / rows))]) (st' := []) (h1 := am_h w g) rfl ?_
        rw [if_neg b7, if_pos b35] at h
        exact ih (i + 1) _ _ h
      · refine am_R.ites 3 (P := (((i + 1) * bh) / rows) ≤ y) (T := 66) (F := 44) (lv' := [some (.ref (1045 + a)), some (.int x), some (.int y), some (.int bw), some (.int bh), some (.int rows), some (.int i), some (.int ((i * bh) / rows)), some (.int (((i + 1) * bh) / rows))]) (st' := []) (h1 := am_h w g) rfl (fun b41 => ?_) (fun b41 => ?_)
        · refine am_R.nxs 2 (pc' := 3) (lv' := [some (.ref (1045 + a)), some (.int x), some (.int y), some (.int bw), some (.int bh), some (.int rows), some (.int (i + 1)), some (.int ((i * bh) / rows)), some (.int (((i + 1) * bh) / rows))]) (st' := []) (h1 := am_h w g) rfl ?_
          rw [if_neg b7, if_neg b35, if_pos b41] at h
          exact ih (i + 1) _ _ h
        · rw [if_neg b7, if_neg b35, if_neg b41] at h
          cases h
          refine am_R.nxs 11 (pc' := 59) (lv' := [some (.ref (1045 + a)), some (.int x), some (.int y), some (.int bw), some (.int bh), some (.int rows), some (.int e), some (.int ((e * bh) / rows)), some (.int (((e + 1) * bh) / rows))]) (st' := [.int e, .ref (1045 + a), .int ((((e + 1) * bh) / rows) - ((e * bh) / rows)), .int bw, .int (y - ((e * bh) / rows)), .int x, .ref (1045 + a)]) (h1 := am_h w g) rfl ?_
          refine am_R.cv (a := (1045 + a)) (as' := [.int e]) (r := [.int ((((e + 1) * bh) / rows) - ((e * bh) / rows)), .int bw, .int (y - ((e * bh) / rows)), .int x, .ref (1045 + a)]) (v := some (.int ((aw_cin n) e))) (h1 := am_h w g) (pc' := 62) rfl rfl rfl rfl (am_gfn a ha) rfl rfl (aw_k54_0 _ h1 h2 ha e) rfl ?_
          refine am_R.cv (a := (1045 + a)) (as' := [.int x, .int (y - ((e * bh) / rows)), .int bw, .int ((((e + 1) * bh) / rows) - ((e * bh) / rows)), .int ((aw_cin n) e)]) (r := []) (v := some (.int (if b = true then 1 else 0))) (h1 := am_h w g) (pc' := 65) rfl rfl rfl rfl (am_gfn a ha) rfl rfl (aw_k56 d h1 h2 ha _ _ _ _ _ hc hb) rfl ?_
          exact am_R.reti rfl rfl (by split <;> rfl)
theorem aw_k53n_0 {w : Nat → am_C} {g : am_H} (d : Nat) {a : Nat} {n v : Int32} {j : Nat} (h1 : 31 ≤ j) (h2 : j ≤ 36) (ha : g[a]? = some (aw_cC j n .null v)) (x y bw bh rows : Int32) (hk : ¬ rows = 0) : ∀ (f : Nat) (i : Int32) (x7 x8 : Option Value), aw_fr y bh rows f i = some none → am_R (d + 3) 53 3 [some (.ref (1045 + a)), some (.int x), some (.int y), some (.int bw), some (.int bh), some (.int rows), some (.int i), x7, x8] [] (am_h w g) (.inl (some (.int 0))) (am_h w g) := by
  intro f
  induction f with
  | zero =>
    intro i x7 x8 h
    cases h
  | succ f ih =>
    intro i x7 x8 h
    rw [aw_fr] at h
    refine am_R.ites 3 (P := rows ≤ i) (T := 72) (F := 10) (lv' := [some (.ref (1045 + a)), some (.int x), some (.int y), some (.int bw), some (.int bh), some (.int rows), some (.int i), x7, x8]) (st' := []) (h1 := am_h w g) rfl (fun b7 => ?_) (fun b7 => ?_)
    · refine am_R.nxs 1 (pc' := 73) (lv' := [some (.ref (1045 + a)), some (.int x), some (.int y), some (.int bw), some (.int bh), some (.int rows), some (.int i), x7, x8]) (st' := [.int 0]) (h1 := am_h w g) rfl ?_
      rw [if_pos b7] at h
      exact am_R.reti rfl rfl rfl
    · refine am_R.nxs 4 (pc' := 17) (lv' := [some (.ref (1045 + a)), some (.int x), some (.int y), some (.int bw), some (.int bh), some (.int rows), some (.int i), x7, x8]) (st' := [.int rows, .int (i * bh)]) (h1 := am_h w g) rfl ?_
      refine am_R.idv (pc' := 18) rfl (hk) rfl ?_
      refine am_R.nxs 7 (pc' := 29) (lv' := [some (.ref (1045 + a)), some (.int x), some (.int y), some (.int bw), some (.int bh), some (.int rows), some (.int i), some (.int ((i * bh) / rows)), x8]) (st' := [.int rows, .int ((i + 1) * bh)]) (h1 := am_h w g) rfl ?_
      refine am_R.idv (pc' := 30) rfl (hk) rfl ?_
      refine am_R.ites 4 (P := y < ((i * bh) / rows)) (T := 66) (F := 38) (lv' := [some (.ref (1045 + a)), some (.int x), some (.int y), some (.int bw), some (.int bh), some (.int rows), some (.int i), some (.int ((i * bh) / rows)), some (.int (((i + 1) * bh) / rows))]) (st' := []) (h1 := am_h w g) rfl (fun b35 => ?_) (fun b35 => ?_)
      · refine am_R.nxs 2 (pc' := 3) (lv' := [some (.ref (1045 + a)), some (.int x), some (.int y), some (.int bw), some (.int bh), some (.int rows), some (.int (i + 1)), some (.int ((i * bh) / rows)), some (.int (((i + 1) * bh) / rows))]) (st' := []) (h1 := am_h w g) rfl ?_
        rw [if_neg b7, if_pos b35] at h
        exact ih (i + 1) _ _ h
      · refine am_R.ites 3 (P := (((i + 1) * bh) / rows) ≤ y) (T := 66) (F := 44) (lv' := [some (.ref (1045 + a)), some (.int x), some (.int y), some (.int bw), some (.int bh), some (.int rows), some (.int i), some (.int ((i * bh) / rows)), some (.int (((i + 1) * bh) / rows))]) (st' := []) (h1 := am_h w g) rfl (fun b41 => ?_) (fun b41 => ?_)
        · refine am_R.nxs 2 (pc' := 3) (lv' := [some (.ref (1045 + a)), some (.int x), some (.int y), some (.int bw), some (.int bh), some (.int rows), some (.int (i + 1)), some (.int ((i * bh) / rows)), some (.int (((i + 1) * bh) / rows))]) (st' := []) (h1 := am_h w g) rfl ?_
          rw [if_neg b7, if_neg b35, if_pos b41] at h
          exact ih (i + 1) _ _ h
        · rw [if_neg b7, if_neg b35, if_neg b41] at h
          cases h
theorem aw_k53_0 {w : Nat → am_C} {g : am_H} (d : Nat) {a : Nat} {n v : Int32} {j : Nat} (h1 : 31 ≤ j) (h2 : j ≤ 36) (ha : g[a]? = some (aw_cC j n .null v)) (x y bw bh rows : Int32) (hk : ¬ rows = 0) {b : Bool} (hb : aw_rsc ((j - 31) % 3) (aw_cin n) x y bw bh rows = some b) : am_R (d + 3) 53 0 [some (.ref (1045 + a)), some (.int x), some (.int y), some (.int bw), some (.int bh), some (.int rows), none, none, none] [] (am_h w g) (.inl (some (.int (if b = true then 1 else 0)))) (am_h w g) := by
  refine am_R.nxs 2 (pc' := 3) (lv' := [some (.ref (1045 + a)), some (.int x), some (.int y), some (.int bw), some (.int bh), some (.int rows), some (.int 0), none, none]) (st' := []) (h1 := am_h w g) rfl ?_
  unfold aw_rsc at hb
  split at hb
  · cases hb
  · rename_i hf
    cases hb
    exact aw_k53n_0 d h1 h2 ha x y bw bh rows hk 8 0 none none hf
  · rename_i e hf
    split at hb
    · cases hb
    · rename_i hc
      exact aw_k53y_0 d h1 h2 ha x y bw bh rows hk hc hb 8 0 none none hf
theorem aw_k52_0 {w : Nat → am_C} {g : am_H} (d : Nat) {a : Nat} {n v : Int32} {j : Nat} (h1 : 31 ≤ j) (h2 : j ≤ 36) (ha : g[a]? = some (aw_cC j n .null v)) (x y bw bh : Int32) (hk : ¬ (((n + 1) / 2) : Int32) = 0) {b : Bool} (hb : aw_rsc ((j - 31) % 3) (aw_cin n) x y bw bh ((n + 1) / 2) = some b) : am_R (d + 4) 52 0 [some (.ref (1045 + a)), some (.int x), some (.int y), some (.int bw), some (.int bh)] [] (am_h w g) (.inl (some (.int (if b = true then 1 else 0)))) (am_h w g) := by
  refine am_R.nxs 1 (pc' := 1) (lv' := [some (.ref (1045 + a)), some (.int x), some (.int y), some (.int bw), some (.int bh)]) (st' := [.ref (1045 + a)]) (h1 := am_h w g) rfl ?_
  refine am_R.gf (pc' := 4) (v := .null) rfl (am_gfn a ha) rfl rfl rfl ?_
  refine am_R.nxs 3 (pc' := 24) (lv' := [some (.ref (1045 + a)), some (.int x), some (.int y), some (.int bw), some (.int bh)]) (st' := [.ref (1045 + a)]) (h1 := am_h w g) rfl ?_
  refine am_R.gf (pc' := 27) (v := .null) rfl (am_gfn a ha) rfl rfl rfl ?_
  refine am_R.nxs 3 (pc' := 57) (lv' := [some (.ref (1045 + a)), some (.int x), some (.int y), some (.int bw), some (.int bh)]) (st' := [.ref (1045 + a)]) (h1 := am_h w g) rfl ?_
  refine am_R.gf (pc' := 60) (v := .null) rfl (am_gfn a ha) rfl rfl rfl ?_
  refine am_R.nxs 8 (pc' := 97) (lv' := [some (.ref (1045 + a)), some (.int x), some (.int y), some (.int bw), some (.int bh)]) (st' := [.ref (1045 + a), .int bh, .int bw, .int y, .int x, .ref (1045 + a)]) (h1 := am_h w g) rfl ?_
  refine am_R.gf (pc' := 100) (v := .int n) rfl (am_gfn a ha) rfl rfl rfl ?_
  refine am_R.nxs 4 (pc' := 104) (lv' := [some (.ref (1045 + a)), some (.int x), some (.int y), some (.int bw), some (.int bh)]) (st' := [.int ((n + 1) / 2), .int bh, .int bw, .int y, .int x, .ref (1045 + a)]) (h1 := am_h w g) rfl ?_
  refine am_R.cv (a := (1045 + a)) (as' := [.int x, .int y, .int bw, .int bh, .int ((n + 1) / 2)]) (r := []) (v := some (.int (if b = true then 1 else 0))) (h1 := am_h w g) (pc' := 107) rfl rfl rfl rfl (am_gfn a ha) rfl rfl (aw_k53_0 d h1 h2 ha _ _ _ _ _ hk hb) rfl ?_
  exact am_R.reti rfl rfl (by split <;> rfl)
theorem aw_k54_17 {w : Nat → am_C} {g : am_H} (d : Nat) {a : Nat} {n v : Int32} {j : Nat} (h1 : 31 ≤ j) (h2 : j ≤ 36) (ha : g[a]? = some (aw_cC j n (.ref 17) v)) (i : Int32) : am_R d 54 0 [some (.ref (1045 + a)), some (.int i)] [] (am_h w g) (.inl (some (.int ((fun _ => n) i)))) (am_h w g) := by
  refine am_R.nxs 1 (pc' := 1) (lv' := [some (.ref (1045 + a)), some (.int i)]) (st' := [.ref (1045 + a)]) (h1 := am_h w g) rfl ?_
  refine am_R.gf (pc' := 4) (v := .ref 17) rfl (am_gfn a ha) rfl rfl rfl ?_
  refine am_R.nxs 1 (pc' := 7) (lv' := [some (.ref (1045 + a)), some (.int i)]) (st' := [.ref 19, .ref 17]) (h1 := am_h w g) rfl ?_
  refine am_R.acn (j1 := 17) (j2 := 19) (T := 12) (F := 10) rfl (by decide) (by decide) rfl rfl (fun b7 => ?_) (fun b7 => ?_)
  · refine am_R.nxs 1 (pc' := 13) (lv' := [some (.ref (1045 + a)), some (.int i)]) (st' := [.ref (1045 + a)]) (h1 := am_h w g) rfl ?_
    refine am_R.gf (pc' := 16) (v := .ref 17) rfl (am_gfn a ha) rfl rfl rfl ?_
    refine am_R.nxs 2 (pc' := 20) (lv' := [some (.ref (1045 + a)), some (.int i)]) (st' := [.ref (1045 + a)]) (h1 := am_h w g) rfl ?_
    refine am_R.gf (pc' := 23) (v := .int n) rfl (am_gfn a ha) rfl rfl rfl ?_
    exact am_R.reti rfl rfl rfl
  · exact absurd b7 (by decide)
theorem aw_k53y_17 {w : Nat → am_C} {g : am_H} (d : Nat) {a : Nat} {n v : Int32} {j : Nat} (h1 : 31 ≤ j) (h2 : j ≤ 36) (ha : g[a]? = some (aw_cC j n (.ref 17) v)) (x y bw bh rows : Int32) (hk : ¬ rows = 0) {e : Int32} {b : Bool} (hc : ¬ (fun _ => n) e = 0) (hb : aw_rwc ((j - 31) % 3) x (y - e * bh / rows) bw ((e + 1) * bh / rows - e * bh / rows) ((fun _ => n) e) = some b) : ∀ (f : Nat) (i : Int32) (x7 x8 : Option Value), aw_fr y bh rows f i = some (some e) → am_R (d + 3) 53 3 [some (.ref (1045 + a)), some (.int x), some (.int y), some (.int bw), some (.int bh), some (.int rows), some (.int i), x7, x8] [] (am_h w g) (.inl (some (.int (if b = true then 1 else 0)))) (am_h w g) := by
  intro f
  induction f with
  | zero =>
    intro i x7 x8 h
    cases h
  | succ f ih =>
    intro i x7 x8 h
    rw [aw_fr] at h
    refine am_R.ites 3 (P := rows ≤ i) (T := 72) (F := 10) (lv' := [some (.ref (1045 + a)), some (.int x), some (.int y), some (.int bw), some (.int bh), some (.int rows), some (.int i), x7, x8]) (st' := []) (h1 := am_h w g) rfl (fun b7 => ?_) (fun b7 => ?_)
    · refine am_R.nxs 1 (pc' := 73) (lv' := [some (.ref (1045 + a)), some (.int x), some (.int y), some (.int bw), some (.int bh), some (.int rows), some (.int i), x7, x8]) (st' := [.int 0]) (h1 := am_h w g) rfl ?_
      rw [if_pos b7] at h
      cases h
    · refine am_R.nxs 4 (pc' := 17) (lv' := [some (.ref (1045 + a)), some (.int x), some (.int y), some (.int bw), some (.int bh), some (.int rows), some (.int i), x7, x8]) (st' := [.int rows, .int (i * bh)]) (h1 := am_h w g) rfl ?_
      refine am_R.idv (pc' := 18) rfl (hk) rfl ?_
      refine am_R.nxs 7 (pc' := 29) (lv' := [some (.ref (1045 + a)), some (.int x), some (.int y), some (.int bw), some (.int bh), some (.int rows), some (.int i), some (.int ((i * bh) / rows)), x8]) (st' := [.int rows, .int ((i + 1) * bh)]) (h1 := am_h w g) rfl ?_
      refine am_R.idv (pc' := 30) rfl (hk) rfl ?_
      refine am_R.ites 4 (P := y < ((i * bh) / rows)) (T := 66) (F := 38) (lv' := [some (.ref (1045 + a)), some (.int x), some (.int y), some (.int bw), some (.int bh), some (.int rows), some (.int i), some (.int ((i * bh) / rows)), some (.int (((i + 1) * bh) / rows))]) (st' := []) (h1 := am_h w g) rfl (fun b35 => ?_) (fun b35 => ?_)
      · refine am_R.nxs 2 (pc' := 3) (lv' := [some (.ref (1045 + a)), some (.int x), some (.int y), some (.int bw), some (.int bh), some (.int rows), some (.int (i + 1)), some (.int ((i * bh) / rows)), some (.int (((i + 1) * bh) / rows))]) (st' := []) (h1 := am_h w g) rfl ?_
        rw [if_neg b7, if_pos b35] at h
        exact ih (i + 1) _ _ h
      · refine am_R.ites 3 (P := (((i + 1) * bh) / rows) ≤ y) (T := 66) (F := 44) (lv' := [some (.ref (1045 + a)), some (.int x), some (.int y), some (.int bw), some (.int bh), some (.int rows), some (.int i), some (.int ((i * bh) / rows)), some (.int (((i + 1) * bh) / rows))]) (st' := []) (h1 := am_h w g) rfl (fun b41 => ?_) (fun b41 => ?_)
        · refine am_R.nxs 2 (pc' := 3) (lv' := [some (.ref (1045 + a)), some (.int x), some (.int y), some (.int bw), some (.int bh), some (.int rows), some (.int (i + 1)), some (.int ((i * bh) / rows)), some (.int (((i + 1) * bh) / rows))]) (st' := []) (h1 := am_h w g) rfl ?_
          rw [if_neg b7, if_neg b35, if_pos b41] at h
          exact ih (i + 1) _ _ h
        · rw [if_neg b7, if_neg b35, if_neg b41] at h
          cases h
          refine am_R.nxs 11 (pc' := 59) (lv' := [some (.ref (1045 + a)), some (.int x), some (.int y), some (.int bw), some (.int bh), some (.int rows), some (.int e), some (.int ((e * bh) / rows)), some (.int (((e + 1) * bh) / rows))]) (st' := [.int e, .ref (1045 + a), .int ((((e + 1) * bh) / rows) - ((e * bh) / rows)), .int bw, .int (y - ((e * bh) / rows)), .int x, .ref (1045 + a)]) (h1 := am_h w g) rfl ?_
          refine am_R.cv (a := (1045 + a)) (as' := [.int e]) (r := [.int ((((e + 1) * bh) / rows) - ((e * bh) / rows)), .int bw, .int (y - ((e * bh) / rows)), .int x, .ref (1045 + a)]) (v := some (.int ((fun _ => n) e))) (h1 := am_h w g) (pc' := 62) rfl rfl rfl rfl (am_gfn a ha) rfl rfl (aw_k54_17 _ h1 h2 ha e) rfl ?_
          refine am_R.cv (a := (1045 + a)) (as' := [.int x, .int (y - ((e * bh) / rows)), .int bw, .int ((((e + 1) * bh) / rows) - ((e * bh) / rows)), .int ((fun _ => n) e)]) (r := []) (v := some (.int (if b = true then 1 else 0))) (h1 := am_h w g) (pc' := 65) rfl rfl rfl rfl (am_gfn a ha) rfl rfl (aw_k56 d h1 h2 ha _ _ _ _ _ hc hb) rfl ?_
          exact am_R.reti rfl rfl (by split <;> rfl)
theorem aw_k53n_17 {w : Nat → am_C} {g : am_H} (d : Nat) {a : Nat} {n v : Int32} {j : Nat} (h1 : 31 ≤ j) (h2 : j ≤ 36) (ha : g[a]? = some (aw_cC j n (.ref 17) v)) (x y bw bh rows : Int32) (hk : ¬ rows = 0) : ∀ (f : Nat) (i : Int32) (x7 x8 : Option Value), aw_fr y bh rows f i = some none → am_R (d + 3) 53 3 [some (.ref (1045 + a)), some (.int x), some (.int y), some (.int bw), some (.int bh), some (.int rows), some (.int i), x7, x8] [] (am_h w g) (.inl (some (.int 0))) (am_h w g) := by
  intro f
  induction f with
  | zero =>
    intro i x7 x8 h
    cases h
  | succ f ih =>
    intro i x7 x8 h
    rw [aw_fr] at h
    refine am_R.ites 3 (P := rows ≤ i) (T := 72) (F := 10) (lv' := [some (.ref (1045 + a)), some (.int x), some (.int y), some (.int bw), some (.int bh), some (.int rows), some (.int i), x7, x8]) (st' := []) (h1 := am_h w g) rfl (fun b7 => ?_) (fun b7 => ?_)
    · refine am_R.nxs 1 (pc' := 73) (lv' := [some (.ref (1045 + a)), some (.int x), some (.int y), some (.int bw), some (.int bh), some (.int rows), some (.int i), x7, x8]) (st' := [.int 0]) (h1 := am_h w g) rfl ?_
      rw [if_pos b7] at h
      exact am_R.reti rfl rfl rfl
    · refine am_R.nxs 4 (pc' := 17) (lv' := [some (.ref (1045 + a)), some (.int x), some (.int y), some (.int bw), some (.int bh), some (.int rows), some (.int i), x7, x8]) (st' := [.int rows, .int (i * bh)]) (h1 := am_h w g) rfl ?_
      refine am_R.idv (pc' := 18) rfl (hk) rfl ?_
      refine am_R.nxs 7 (pc' := 29) (lv' := [some (.ref (1045 + a)), some (.int x), some (.int y), some (.int bw), some (.int bh), some (.int rows), some (.int i), some (.int ((i * bh) / rows)), x8]) (st' := [.int rows, .int ((i + 1) * bh)]) (h1 := am_h w g) rfl ?_
      refine am_R.idv (pc' := 30) rfl (hk) rfl ?_
      refine am_R.ites 4 (P := y < ((i * bh) / rows)) (T := 66) (F := 38) (lv' := [some (.ref (1045 + a)), some (.int x), some (.int y), some (.int bw), some (.int bh), some (.int rows), some (.int i), some (.int ((i * bh) / rows)), some (.int (((i + 1) * bh) / rows))]) (st' := []) (h1 := am_h w g) rfl (fun b35 => ?_) (fun b35 => ?_)
      · refine am_R.nxs 2 (pc' := 3) (lv' := [some (.ref (1045 + a)), some (.int x), some (.int y), some (.int bw), some (.int bh), some (.int rows), some (.int (i + 1)), some (.int ((i * bh) / rows)), some (.int (((i + 1) * bh) / rows))]) (st' := []) (h1 := am_h w g) rfl ?_
        rw [if_neg b7, if_pos b35] at h
        exact ih (i + 1) _ _ h
      · refine am_R.ites 3 (P := (((i + 1) * bh) / rows) ≤ y) (T := 66) (F := 44) (lv' := [some (.ref (1045 + a)), some (.int x), some (.int y), some (.int bw), some (.int bh), some (.int rows), some (.int i), some (.int ((i * bh) / rows)), some (.int (((i + 1) * bh) / rows))]) (st' := []) (h1 := am_h w g) rfl (fun b41 => ?_) (fun b41 => ?_)
        · refine am_R.nxs 2 (pc' := 3) (lv' := [some (.ref (1045 + a)), some (.int x), some (.int y), some (.int bw), some (.int bh), some (.int rows), some (.int (i + 1)), some (.int ((i * bh) / rows)), some (.int (((i + 1) * bh) / rows))]) (st' := []) (h1 := am_h w g) rfl ?_
          rw [if_neg b7, if_neg b35, if_pos b41] at h
          exact ih (i + 1) _ _ h
        · rw [if_neg b7, if_neg b35, if_neg b41] at h
          cases h
theorem aw_k53_17 {w : Nat → am_C} {g : am_H} (d : Nat) {a : Nat} {n v : Int32} {j : Nat} (h1 : 31 ≤ j) (h2 : j ≤ 36) (ha : g[a]? = some (aw_cC j n (.ref 17) v)) (x y bw bh rows : Int32) (hk : ¬ rows = 0) {b : Bool} (hb : aw_rsc ((j - 31) % 3) (fun _ => n) x y bw bh rows = some b) : am_R (d + 3) 53 0 [some (.ref (1045 + a)), some (.int x), some (.int y), some (.int bw), some (.int bh), some (.int rows), none, none, none] [] (am_h w g) (.inl (some (.int (if b = true then 1 else 0)))) (am_h w g) := by
  refine am_R.nxs 2 (pc' := 3) (lv' := [some (.ref (1045 + a)), some (.int x), some (.int y), some (.int bw), some (.int bh), some (.int rows), some (.int 0), none, none]) (st' := []) (h1 := am_h w g) rfl ?_
  unfold aw_rsc at hb
  split at hb
  · cases hb
  · rename_i hf
    cases hb
    exact aw_k53n_17 d h1 h2 ha x y bw bh rows hk 8 0 none none hf
  · rename_i e hf
    split at hb
    · cases hb
    · rename_i hc
      exact aw_k53y_17 d h1 h2 ha x y bw bh rows hk hc hb 8 0 none none hf
theorem aw_k52_17 {w : Nat → am_C} {g : am_H} (d : Nat) {a : Nat} {n v : Int32} {j : Nat} (h1 : 31 ≤ j) (h2 : j ≤ 36) (ha : g[a]? = some (aw_cC j n (.ref 17) v)) (x y bw bh : Int32) (hk : ¬ (1 : Int32) = 0) {b : Bool} (hb : aw_rsc ((j - 31) % 3) (fun _ => n) x y bw (bh / 3) 1 = some b) : am_R (d + 4) 52 0 [some (.ref (1045 + a)), some (.int x), some (.int y), some (.int bw), some (.int bh)] [] (am_h w g) (.inl (some (.int (if b = true then 1 else 0)))) (am_h w g) := by
  refine am_R.nxs 1 (pc' := 1) (lv' := [some (.ref (1045 + a)), some (.int x), some (.int y), some (.int bw), some (.int bh)]) (st' := [.ref (1045 + a)]) (h1 := am_h w g) rfl ?_
  refine am_R.gf (pc' := 4) (v := .ref 17) rfl (am_gfn a ha) rfl rfl rfl ?_
  refine am_R.nxs 1 (pc' := 7) (lv' := [some (.ref (1045 + a)), some (.int x), some (.int y), some (.int bw), some (.int bh)]) (st' := [.ref 17, .ref 17]) (h1 := am_h w g) rfl ?_
  refine am_R.acn (j1 := 17) (j2 := 17) (T := 23) (F := 10) rfl (by decide) (by decide) rfl rfl (fun b7 => ?_) (fun b7 => ?_)
  · exact absurd rfl b7
  · refine am_R.nxs 8 (pc' := 19) (lv' := [some (.ref (1045 + a)), some (.int x), some (.int y), some (.int bw), some (.int bh)]) (st' := [.int 1, .int (bh / 3), .int bw, .int y, .int x, .ref (1045 + a)]) (h1 := am_h w g) rfl ?_
    refine am_R.cv (a := (1045 + a)) (as' := [.int x, .int y, .int bw, .int (bh / 3), .int 1]) (r := []) (v := some (.int (if b = true then 1 else 0))) (h1 := am_h w g) (pc' := 22) rfl rfl rfl rfl (am_gfn a ha) rfl rfl (aw_k53_17 d h1 h2 ha _ _ _ _ _ hk hb) rfl ?_
    exact am_R.reti rfl rfl (by split <;> rfl)
theorem aw_k54_18 {w : Nat → am_C} {g : am_H} (d : Nat) {a : Nat} {n v : Int32} {j : Nat} (h1 : 31 ≤ j) (h2 : j ≤ 36) (ha : g[a]? = some (aw_cC j n (.ref 18) v)) (i : Int32) : am_R d 54 0 [some (.ref (1045 + a)), some (.int i)] [] (am_h w g) (.inl (some (.int ((fun _ => n) i)))) (am_h w g) := by
  refine am_R.nxs 1 (pc' := 1) (lv' := [some (.ref (1045 + a)), some (.int i)]) (st' := [.ref (1045 + a)]) (h1 := am_h w g) rfl ?_
  refine am_R.gf (pc' := 4) (v := .ref 18) rfl (am_gfn a ha) rfl rfl rfl ?_
  refine am_R.nxs 1 (pc' := 7) (lv' := [some (.ref (1045 + a)), some (.int i)]) (st' := [.ref 19, .ref 18]) (h1 := am_h w g) rfl ?_
  refine am_R.acn (j1 := 18) (j2 := 19) (T := 12) (F := 10) rfl (by decide) (by decide) rfl rfl (fun b7 => ?_) (fun b7 => ?_)
  · refine am_R.nxs 1 (pc' := 13) (lv' := [some (.ref (1045 + a)), some (.int i)]) (st' := [.ref (1045 + a)]) (h1 := am_h w g) rfl ?_
    refine am_R.gf (pc' := 16) (v := .ref 18) rfl (am_gfn a ha) rfl rfl rfl ?_
    refine am_R.nxs 2 (pc' := 20) (lv' := [some (.ref (1045 + a)), some (.int i)]) (st' := [.ref (1045 + a)]) (h1 := am_h w g) rfl ?_
    refine am_R.gf (pc' := 23) (v := .int n) rfl (am_gfn a ha) rfl rfl rfl ?_
    exact am_R.reti rfl rfl rfl
  · exact absurd b7 (by decide)
theorem aw_k53y_18 {w : Nat → am_C} {g : am_H} (d : Nat) {a : Nat} {n v : Int32} {j : Nat} (h1 : 31 ≤ j) (h2 : j ≤ 36) (ha : g[a]? = some (aw_cC j n (.ref 18) v)) (x y bw bh rows : Int32) (hk : ¬ rows = 0) {e : Int32} {b : Bool} (hc : ¬ (fun _ => n) e = 0) (hb : aw_rwc ((j - 31) % 3) x (y - e * bh / rows) bw ((e + 1) * bh / rows - e * bh / rows) ((fun _ => n) e) = some b) : ∀ (f : Nat) (i : Int32) (x7 x8 : Option Value), aw_fr y bh rows f i = some (some e) → am_R (d + 3) 53 3 [some (.ref (1045 + a)), some (.int x), some (.int y), some (.int bw), some (.int bh), some (.int rows), some (.int i), x7, x8] [] (am_h w g) (.inl (some (.int (if b = true then 1 else 0)))) (am_h w g) := by
  intro f
  induction f with
  | zero =>
    intro i x7 x8 h
    cases h
  | succ f ih =>
    intro i x7 x8 h
    rw [aw_fr] at h
    refine am_R.ites 3 (P := rows ≤ i) (T := 72) (F := 10) (lv' := [some (.ref (1045 + a)), some (.int x), some (.int y), some (.int bw), some (.int bh), some (.int rows), some (.int i), x7, x8]) (st' := []) (h1 := am_h w g) rfl (fun b7 => ?_) (fun b7 => ?_)
    · refine am_R.nxs 1 (pc' := 73) (lv' := [some (.ref (1045 + a)), some (.int x), some (.int y), some (.int bw), some (.int bh), some (.int rows), some (.int i), x7, x8]) (st' := [.int 0]) (h1 := am_h w g) rfl ?_
      rw [if_pos b7] at h
      cases h
    · refine am_R.nxs 4 (pc' := 17) (lv' := [some (.ref (1045 + a)), some (.int x), some (.int y), some (.int bw), some (.int bh), some (.int rows), some (.int i), x7, x8]) (st' := [.int rows, .int (i * bh)]) (h1 := am_h w g) rfl ?_
      refine am_R.idv (pc' := 18) rfl (hk) rfl ?_
      refine am_R.nxs 7 (pc' := 29) (lv' := [some (.ref (1045 + a)), some (.int x), some (.int y), some (.int bw), some (.int bh), some (.int rows), some (.int i), some (.int ((i * bh) / rows)), x8]) (st' := [.int rows, .int ((i + 1) * bh)]) (h1 := am_h w g) rfl ?_
      refine am_R.idv (pc' := 30) rfl (hk) rfl ?_
      refine am_R.ites 4 (P := y < ((i * bh) / rows)) (T := 66) (F := 38) (lv' := [some (.ref (1045 + a)), some (.int x), some (.int y), some (.int bw), some (.int bh), some (.int rows), some (.int i), some (.int ((i * bh) / rows)), some (.int (((i + 1) * bh) / rows))]) (st' := []) (h1 := am_h w g) rfl (fun b35 => ?_) (fun b35 => ?_)
      · refine am_R.nxs 2 (pc' := 3) (lv' := [some (.ref (1045 + a)), some (.int x), some (.int y), some (.int bw), some (.int bh), some (.int rows), some (.int (i + 1)), some (.int ((i * bh) / rows)), some (.int (((i + 1) * bh) / rows))]) (st' := []) (h1 := am_h w g) rfl ?_
        rw [if_neg b7, if_pos b35] at h
        exact ih (i + 1) _ _ h
      · refine am_R.ites 3 (P := (((i + 1) * bh) / rows) ≤ y) (T := 66) (F := 44) (lv' := [some (.ref (1045 + a)), some (.int x), some (.int y), some (.int bw), some (.int bh), some (.int rows), some (.int i), some (.int ((i * bh) / rows)), some (.int (((i + 1) * bh) / rows))]) (st' := []) (h1 := am_h w g) rfl (fun b41 => ?_) (fun b41 => ?_)
        · refine am_R.nxs 2 (pc' := 3) (lv' := [some (.ref (1045 + a)), some (.int x), some (.int y), some (.int bw), some (.int bh), some (.int rows), some (.int (i + 1)), some (.int ((i * bh) / rows)), some (.int (((i + 1) * bh) / rows))]) (st' := []) (h1 := am_h w g) rfl ?_
          rw [if_neg b7, if_neg b35, if_pos b41] at h
          exact ih (i + 1) _ _ h
        · rw [if_neg b7, if_neg b35, if_neg b41] at h
          cases h
          refine am_R.nxs 11 (pc' := 59) (lv' := [some (.ref (1045 + a)), some (.int x), some (.int y), some (.int bw), some (.int bh), some (.int rows), some (.int e), some (.int ((e * bh) / rows)), some (.int (((e + 1) * bh) / rows))]) (st' := [.int e, .ref (1045 + a), .int ((((e + 1) * bh) / rows) - ((e * bh) / rows)), .int bw, .int (y - ((e * bh) / rows)), .int x, .ref (1045 + a)]) (h1 := am_h w g) rfl ?_
          refine am_R.cv (a := (1045 + a)) (as' := [.int e]) (r := [.int ((((e + 1) * bh) / rows) - ((e * bh) / rows)), .int bw, .int (y - ((e * bh) / rows)), .int x, .ref (1045 + a)]) (v := some (.int ((fun _ => n) e))) (h1 := am_h w g) (pc' := 62) rfl rfl rfl rfl (am_gfn a ha) rfl rfl (aw_k54_18 _ h1 h2 ha e) rfl ?_
          refine am_R.cv (a := (1045 + a)) (as' := [.int x, .int (y - ((e * bh) / rows)), .int bw, .int ((((e + 1) * bh) / rows) - ((e * bh) / rows)), .int ((fun _ => n) e)]) (r := []) (v := some (.int (if b = true then 1 else 0))) (h1 := am_h w g) (pc' := 65) rfl rfl rfl rfl (am_gfn a ha) rfl rfl (aw_k56 d h1 h2 ha _ _ _ _ _ hc hb) rfl ?_
          exact am_R.reti rfl rfl (by split <;> rfl)
theorem aw_k53n_18 {w : Nat → am_C} {g : am_H} (d : Nat) {a : Nat} {n v : Int32} {j : Nat} (h1 : 31 ≤ j) (h2 : j ≤ 36) (ha : g[a]? = some (aw_cC j n (.ref 18) v)) (x y bw bh rows : Int32) (hk : ¬ rows = 0) : ∀ (f : Nat) (i : Int32) (x7 x8 : Option Value), aw_fr y bh rows f i = some none → am_R (d + 3) 53 3 [some (.ref (1045 + a)), some (.int x), some (.int y), some (.int bw), some (.int bh), some (.int rows), some (.int i), x7, x8] [] (am_h w g) (.inl (some (.int 0))) (am_h w g) := by
  intro f
  induction f with
  | zero =>
    intro i x7 x8 h
    cases h
  | succ f ih =>
    intro i x7 x8 h
    rw [aw_fr] at h
    refine am_R.ites 3 (P := rows ≤ i) (T := 72) (F := 10) (lv' := [some (.ref (1045 + a)), some (.int x), some (.int y), some (.int bw), some (.int bh), some (.int rows), some (.int i), x7, x8]) (st' := []) (h1 := am_h w g) rfl (fun b7 => ?_) (fun b7 => ?_)
    · refine am_R.nxs 1 (pc' := 73) (lv' := [some (.ref (1045 + a)), some (.int x), some (.int y), some (.int bw), some (.int bh), some (.int rows), some (.int i), x7, x8]) (st' := [.int 0]) (h1 := am_h w g) rfl ?_
      rw [if_pos b7] at h
      exact am_R.reti rfl rfl rfl
    · refine am_R.nxs 4 (pc' := 17) (lv' := [some (.ref (1045 + a)), some (.int x), some (.int y), some (.int bw), some (.int bh), some (.int rows), some (.int i), x7, x8]) (st' := [.int rows, .int (i * bh)]) (h1 := am_h w g) rfl ?_
      refine am_R.idv (pc' := 18) rfl (hk) rfl ?_
      refine am_R.nxs 7 (pc' := 29) (lv' := [some (.ref (1045 + a)), some (.int x), some (.int y), some (.int bw), some (.int bh), some (.int rows), some (.int i), some (.int ((i * bh) / rows)), x8]) (st' := [.int rows, .int ((i + 1) * bh)]) (h1 := am_h w g) rfl ?_
      refine am_R.idv (pc' := 30) rfl (hk) rfl ?_
      refine am_R.ites 4 (P := y < ((i * bh) / rows)) (T := 66) (F := 38) (lv' := [some (.ref (1045 + a)), some (.int x), some (.int y), some (.int bw), some (.int bh), some (.int rows), some (.int i), some (.int ((i * bh) / rows)), some (.int (((i + 1) * bh) / rows))]) (st' := []) (h1 := am_h w g) rfl (fun b35 => ?_) (fun b35 => ?_)
      · refine am_R.nxs 2 (pc' := 3) (lv' := [some (.ref (1045 + a)), some (.int x), some (.int y), some (.int bw), some (.int bh), some (.int rows), some (.int (i + 1)), some (.int ((i * bh) / rows)), some (.int (((i + 1) * bh) / rows))]) (st' := []) (h1 := am_h w g) rfl ?_
        rw [if_neg b7, if_pos b35] at h
        exact ih (i + 1) _ _ h
      · refine am_R.ites 3 (P := (((i + 1) * bh) / rows) ≤ y) (T := 66) (F := 44) (lv' := [some (.ref (1045 + a)), some (.int x), some (.int y), some (.int bw), some (.int bh), some (.int rows), some (.int i), some (.int ((i * bh) / rows)), some (.int (((i + 1) * bh) / rows))]) (st' := []) (h1 := am_h w g) rfl (fun b41 => ?_) (fun b41 => ?_)
        · refine am_R.nxs 2 (pc' := 3) (lv' := [some (.ref (1045 + a)), some (.int x), some (.int y), some (.int bw), some (.int bh), some (.int rows), some (.int (i + 1)), some (.int ((i * bh) / rows)), some (.int (((i + 1) * bh) / rows))]) (st' := []) (h1 := am_h w g) rfl ?_
          rw [if_neg b7, if_neg b35, if_pos b41] at h
          exact ih (i + 1) _ _ h
        · rw [if_neg b7, if_neg b35, if_neg b41] at h
          cases h
theorem aw_k53_18 {w : Nat → am_C} {g : am_H} (d : Nat) {a : Nat} {n v : Int32} {j : Nat} (h1 : 31 ≤ j) (h2 : j ≤ 36) (ha : g[a]? = some (aw_cC j n (.ref 18) v)) (x y bw bh rows : Int32) (hk : ¬ rows = 0) {b : Bool} (hb : aw_rsc ((j - 31) % 3) (fun _ => n) x y bw bh rows = some b) : am_R (d + 3) 53 0 [some (.ref (1045 + a)), some (.int x), some (.int y), some (.int bw), some (.int bh), some (.int rows), none, none, none] [] (am_h w g) (.inl (some (.int (if b = true then 1 else 0)))) (am_h w g) := by
  refine am_R.nxs 2 (pc' := 3) (lv' := [some (.ref (1045 + a)), some (.int x), some (.int y), some (.int bw), some (.int bh), some (.int rows), some (.int 0), none, none]) (st' := []) (h1 := am_h w g) rfl ?_
  unfold aw_rsc at hb
  split at hb
  · cases hb
  · rename_i hf
    cases hb
    exact aw_k53n_18 d h1 h2 ha x y bw bh rows hk 8 0 none none hf
  · rename_i e hf
    split at hb
    · cases hb
    · rename_i hc
      exact aw_k53y_18 d h1 h2 ha x y bw bh rows hk hc hb 8 0 none none hf
theorem aw_k52_18 {w : Nat → am_C} {g : am_H} (d : Nat) {a : Nat} {n v : Int32} {j : Nat} (h1 : 31 ≤ j) (h2 : j ≤ 36) (ha : g[a]? = some (aw_cC j n (.ref 18) v)) (x y bw bh : Int32) (hk : ¬ (1 : Int32) = 0) {b : Bool} (hb : aw_rsc ((j - 31) % 3) (fun _ => n) x (y - bh / 3) bw (bh - 2 * (bh / 3)) 1 = some b) : am_R (d + 4) 52 0 [some (.ref (1045 + a)), some (.int x), some (.int y), some (.int bw), some (.int bh)] [] (am_h w g) (.inl (some (.int (if b = true then 1 else 0)))) (am_h w g) := by
  refine am_R.nxs 1 (pc' := 1) (lv' := [some (.ref (1045 + a)), some (.int x), some (.int y), some (.int bw), some (.int bh)]) (st' := [.ref (1045 + a)]) (h1 := am_h w g) rfl ?_
  refine am_R.gf (pc' := 4) (v := .ref 18) rfl (am_gfn a ha) rfl rfl rfl ?_
  refine am_R.nxs 1 (pc' := 7) (lv' := [some (.ref (1045 + a)), some (.int x), some (.int y), some (.int bw), some (.int bh)]) (st' := [.ref 17, .ref 18]) (h1 := am_h w g) rfl ?_
  refine am_R.acn (j1 := 18) (j2 := 17) (T := 23) (F := 10) rfl (by decide) (by decide) rfl rfl (fun b7 => ?_) (fun b7 => ?_)
  · refine am_R.nxs 1 (pc' := 24) (lv' := [some (.ref (1045 + a)), some (.int x), some (.int y), some (.int bw), some (.int bh)]) (st' := [.ref (1045 + a)]) (h1 := am_h w g) rfl ?_
    refine am_R.gf (pc' := 27) (v := .ref 18) rfl (am_gfn a ha) rfl rfl rfl ?_
    refine am_R.nxs 1 (pc' := 30) (lv' := [some (.ref (1045 + a)), some (.int x), some (.int y), some (.int bw), some (.int bh)]) (st' := [.ref 18, .ref 18]) (h1 := am_h w g) rfl ?_
    refine am_R.acn (j1 := 18) (j2 := 18) (T := 56) (F := 33) rfl (by decide) (by decide) rfl rfl (fun b30 => ?_) (fun b30 => ?_)
    · exact absurd rfl b30
    · refine am_R.nxs 16 (pc' := 52) (lv' := [some (.ref (1045 + a)), some (.int x), some (.int y), some (.int bw), some (.int bh)]) (st' := [.int 1, .int (bh - (2 * (bh / 3))), .int bw, .int (y - (bh / 3)), .int x, .ref (1045 + a)]) (h1 := am_h w g) rfl ?_
      refine am_R.cv (a := (1045 + a)) (as' := [.int x, .int (y - (bh / 3)), .int bw, .int (bh - (2 * (bh / 3))), .int 1]) (r := []) (v := some (.int (if b = true then 1 else 0))) (h1 := am_h w g) (pc' := 55) rfl rfl rfl rfl (am_gfn a ha) rfl rfl (aw_k53_18 d h1 h2 ha _ _ _ _ _ hk hb) rfl ?_
      exact am_R.reti rfl rfl (by split <;> rfl)
  · exact absurd b7 (by decide)
theorem aw_k54_19 {w : Nat → am_C} {g : am_H} (d : Nat) {a : Nat} {n v : Int32} {j : Nat} (h1 : 31 ≤ j) (h2 : j ≤ 36) (ha : g[a]? = some (aw_cC j n (.ref 19) v)) (i : Int32) : am_R d 54 0 [some (.ref (1045 + a)), some (.int i)] [] (am_h w g) (.inl (some (.int ((fun _ => (1 : Int32)) i)))) (am_h w g) := by
  refine am_R.nxs 1 (pc' := 1) (lv' := [some (.ref (1045 + a)), some (.int i)]) (st' := [.ref (1045 + a)]) (h1 := am_h w g) rfl ?_
  refine am_R.gf (pc' := 4) (v := .ref 19) rfl (am_gfn a ha) rfl rfl rfl ?_
  refine am_R.nxs 1 (pc' := 7) (lv' := [some (.ref (1045 + a)), some (.int i)]) (st' := [.ref 19, .ref 19]) (h1 := am_h w g) rfl ?_
  refine am_R.acn (j1 := 19) (j2 := 19) (T := 12) (F := 10) rfl (by decide) (by decide) rfl rfl (fun b7 => ?_) (fun b7 => ?_)
  · exact absurd rfl b7
  · refine am_R.nxs 1 (pc' := 11) (lv' := [some (.ref (1045 + a)), some (.int i)]) (st' := [.int 1]) (h1 := am_h w g) rfl ?_
    exact am_R.reti rfl rfl rfl
theorem aw_k53y_19 {w : Nat → am_C} {g : am_H} (d : Nat) {a : Nat} {n v : Int32} {j : Nat} (h1 : 31 ≤ j) (h2 : j ≤ 36) (ha : g[a]? = some (aw_cC j n (.ref 19) v)) (x y bw bh rows : Int32) (hk : ¬ rows = 0) {e : Int32} {b : Bool} (hc : ¬ (fun _ => (1 : Int32)) e = 0) (hb : aw_rwc ((j - 31) % 3) x (y - e * bh / rows) bw ((e + 1) * bh / rows - e * bh / rows) ((fun _ => (1 : Int32)) e) = some b) : ∀ (f : Nat) (i : Int32) (x7 x8 : Option Value), aw_fr y bh rows f i = some (some e) → am_R (d + 3) 53 3 [some (.ref (1045 + a)), some (.int x), some (.int y), some (.int bw), some (.int bh), some (.int rows), some (.int i), x7, x8] [] (am_h w g) (.inl (some (.int (if b = true then 1 else 0)))) (am_h w g) := by
  intro f
  induction f with
  | zero =>
    intro i x7 x8 h
    cases h
  | succ f ih =>
    intro i x7 x8 h
    rw [aw_fr] at h
    refine am_R.ites 3 (P := rows ≤ i) (T := 72) (F := 10) (lv' := [some (.ref (1045 + a)), some (.int x), some (.int y), some (.int bw), some (.int bh), some (.int rows), some (.int i), x7, x8]) (st' := []) (h1 := am_h w g) rfl (fun b7 => ?_) (fun b7 => ?_)
    · refine am_R.nxs 1 (pc' := 73) (lv' := [some (.ref (1045 + a)), some (.int x), some (.int y), some (.int bw), some (.int bh), some (.int rows), some (.int i), x7, x8]) (st' := [.int 0]) (h1 := am_h w g) rfl ?_
      rw [if_pos b7] at h
      cases h
    · refine am_R.nxs 4 (pc' := 17) (lv' := [some (.ref (1045 + a)), some (.int x), some (.int y), some (.int bw), some (.int bh), some (.int rows), some (.int i), x7, x8]) (st' := [.int rows, .int (i * bh)]) (h1 := am_h w g) rfl ?_
      refine am_R.idv (pc' := 18) rfl (hk) rfl ?_
      refine am_R.nxs 7 (pc' := 29) (lv' := [some (.ref (1045 + a)), some (.int x), some (.int y), some (.int bw), some (.int bh), some (.int rows), some (.int i), some (.int ((i * bh) / rows)), x8]) (st' := [.int rows, .int ((i + 1) * bh)]) (h1 := am_h w g) rfl ?_
      refine am_R.idv (pc' := 30) rfl (hk) rfl ?_
      refine am_R.ites 4 (P := y < ((i * bh) / rows)) (T := 66) (F := 38) (lv' := [some (.ref (1045 + a)), some (.int x), some (.int y), some (.int bw), some (.int bh), some (.int rows), some (.int i), some (.int ((i * bh) / rows)), some (.int (((i + 1) * bh) / rows))]) (st' := []) (h1 := am_h w g) rfl (fun b35 => ?_) (fun b35 => ?_)
      · refine am_R.nxs 2 (pc' := 3) (lv' := [some (.ref (1045 + a)), some (.int x), some (.int y), some (.int bw), some (.int bh), some (.int rows), some (.int (i + 1)), some (.int ((i * bh) / rows)), some (.int (((i + 1) * bh) / rows))]) (st' := []) (h1 := am_h w g) rfl ?_
        rw [if_neg b7, if_pos b35] at h
        exact ih (i + 1) _ _ h
      · refine am_R.ites 3 (P := (((i + 1) * bh) / rows) ≤ y) (T := 66) (F := 44) (lv' := [some (.ref (1045 + a)), some (.int x), some (.int y), some (.int bw), some (.int bh), some (.int rows), some (.int i), some (.int ((i * bh) / rows)), some (.int (((i + 1) * bh) / rows))]) (st' := []) (h1 := am_h w g) rfl (fun b41 => ?_) (fun b41 => ?_)
        · refine am_R.nxs 2 (pc' := 3) (lv' := [some (.ref (1045 + a)), some (.int x), some (.int y), some (.int bw), some (.int bh), some (.int rows), some (.int (i + 1)), some (.int ((i * bh) / rows)), some (.int (((i + 1) * bh) / rows))]) (st' := []) (h1 := am_h w g) rfl ?_
          rw [if_neg b7, if_neg b35, if_pos b41] at h
          exact ih (i + 1) _ _ h
        · rw [if_neg b7, if_neg b35, if_neg b41] at h
          cases h
          refine am_R.nxs 11 (pc' := 59) (lv' := [some (.ref (1045 + a)), some (.int x), some (.int y), some (.int bw), some (.int bh), some (.int rows), some (.int e), some (.int ((e * bh) / rows)), some (.int (((e + 1) * bh) / rows))]) (st' := [.int e, .ref (1045 + a), .int ((((e + 1) * bh) / rows) - ((e * bh) / rows)), .int bw, .int (y - ((e * bh) / rows)), .int x, .ref (1045 + a)]) (h1 := am_h w g) rfl ?_
          refine am_R.cv (a := (1045 + a)) (as' := [.int e]) (r := [.int ((((e + 1) * bh) / rows) - ((e * bh) / rows)), .int bw, .int (y - ((e * bh) / rows)), .int x, .ref (1045 + a)]) (v := some (.int ((fun _ => (1 : Int32)) e))) (h1 := am_h w g) (pc' := 62) rfl rfl rfl rfl (am_gfn a ha) rfl rfl (aw_k54_19 _ h1 h2 ha e) rfl ?_
          refine am_R.cv (a := (1045 + a)) (as' := [.int x, .int (y - ((e * bh) / rows)), .int bw, .int ((((e + 1) * bh) / rows) - ((e * bh) / rows)), .int ((fun _ => (1 : Int32)) e)]) (r := []) (v := some (.int (if b = true then 1 else 0))) (h1 := am_h w g) (pc' := 65) rfl rfl rfl rfl (am_gfn a ha) rfl rfl (aw_k56 d h1 h2 ha _ _ _ _ _ hc hb) rfl ?_
          exact am_R.reti rfl rfl (by split <;> rfl)
theorem aw_k53n_19 {w : Nat → am_C} {g : am_H} (d : Nat) {a : Nat} {n v : Int32} {j : Nat} (h1 : 31 ≤ j) (h2 : j ≤ 36) (ha : g[a]? = some (aw_cC j n (.ref 19) v)) (x y bw bh rows : Int32) (hk : ¬ rows = 0) : ∀ (f : Nat) (i : Int32) (x7 x8 : Option Value), aw_fr y bh rows f i = some none → am_R (d + 3) 53 3 [some (.ref (1045 + a)), some (.int x), some (.int y), some (.int bw), some (.int bh), some (.int rows), some (.int i), x7, x8] [] (am_h w g) (.inl (some (.int 0))) (am_h w g) := by
  intro f
  induction f with
  | zero =>
    intro i x7 x8 h
    cases h
  | succ f ih =>
    intro i x7 x8 h
    rw [aw_fr] at h
    refine am_R.ites 3 (P := rows ≤ i) (T := 72) (F := 10) (lv' := [some (.ref (1045 + a)), some (.int x), some (.int y), some (.int bw), some (.int bh), some (.int rows), some (.int i), x7, x8]) (st' := []) (h1 := am_h w g) rfl (fun b7 => ?_) (fun b7 => ?_)
    · refine am_R.nxs 1 (pc' := 73) (lv' := [some (.ref (1045 + a)), some (.int x), some (.int y), some (.int bw), some (.int bh), some (.int rows), some (.int i), x7, x8]) (st' := [.int 0]) (h1 := am_h w g) rfl ?_
      rw [if_pos b7] at h
      exact am_R.reti rfl rfl rfl
    · refine am_R.nxs 4 (pc' := 17) (lv' := [some (.ref (1045 + a)), some (.int x), some (.int y), some (.int bw), some (.int bh), some (.int rows), some (.int i), x7, x8]) (st' := [.int rows, .int (i * bh)]) (h1 := am_h w g) rfl ?_
      refine am_R.idv (pc' := 18) rfl (hk) rfl ?_
      refine am_R.nxs 7 (pc' := 29) (lv' := [some (.ref (1045 + a)), some (.int x), some (.int y), some (.int bw), some (.int bh), some (.int rows), some (.int i), some (.int ((i * bh) / rows)), x8]) (st' := [.int rows, .int ((i + 1) * bh)]) (h1 := am_h w g) rfl ?_
      refine am_R.idv (pc' := 30) rfl (hk) rfl ?_
      refine am_R.ites 4 (P := y < ((i * bh) / rows)) (T := 66) (F := 38) (lv' := [some (.ref (1045 + a)), some (.int x), some (.int y), some (.int bw), some (.int bh), some (.int rows), some (.int i), some (.int ((i * bh) / rows)), some (.int (((i + 1) * bh) / rows))]) (st' := []) (h1 := am_h w g) rfl (fun b35 => ?_) (fun b35 => ?_)
      · refine am_R.nxs 2 (pc' := 3) (lv' := [some (.ref (1045 + a)), some (.int x), some (.int y), some (.int bw), some (.int bh), some (.int rows), some (.int (i + 1)), some (.int ((i * bh) / rows)), some (.int (((i + 1) * bh) / rows))]) (st' := []) (h1 := am_h w g) rfl ?_
        rw [if_neg b7, if_pos b35] at h
        exact ih (i + 1) _ _ h
      · refine am_R.ites 3 (P := (((i + 1) * bh) / rows) ≤ y) (T := 66) (F := 44) (lv' := [some (.ref (1045 + a)), some (.int x), some (.int y), some (.int bw), some (.int bh), some (.int rows), some (.int i), some (.int ((i * bh) / rows)), some (.int (((i + 1) * bh) / rows))]) (st' := []) (h1 := am_h w g) rfl (fun b41 => ?_) (fun b41 => ?_)
        · refine am_R.nxs 2 (pc' := 3) (lv' := [some (.ref (1045 + a)), some (.int x), some (.int y), some (.int bw), some (.int bh), some (.int rows), some (.int (i + 1)), some (.int ((i * bh) / rows)), some (.int (((i + 1) * bh) / rows))]) (st' := []) (h1 := am_h w g) rfl ?_
          rw [if_neg b7, if_neg b35, if_pos b41] at h
          exact ih (i + 1) _ _ h
        · rw [if_neg b7, if_neg b35, if_neg b41] at h
          cases h
theorem aw_k53_19 {w : Nat → am_C} {g : am_H} (d : Nat) {a : Nat} {n v : Int32} {j : Nat} (h1 : 31 ≤ j) (h2 : j ≤ 36) (ha : g[a]? = some (aw_cC j n (.ref 19) v)) (x y bw bh rows : Int32) (hk : ¬ rows = 0) {b : Bool} (hb : aw_rsc ((j - 31) % 3) (fun _ => (1 : Int32)) x y bw bh rows = some b) : am_R (d + 3) 53 0 [some (.ref (1045 + a)), some (.int x), some (.int y), some (.int bw), some (.int bh), some (.int rows), none, none, none] [] (am_h w g) (.inl (some (.int (if b = true then 1 else 0)))) (am_h w g) := by
  refine am_R.nxs 2 (pc' := 3) (lv' := [some (.ref (1045 + a)), some (.int x), some (.int y), some (.int bw), some (.int bh), some (.int rows), some (.int 0), none, none]) (st' := []) (h1 := am_h w g) rfl ?_
  unfold aw_rsc at hb
  split at hb
  · cases hb
  · rename_i hf
    cases hb
    exact aw_k53n_19 d h1 h2 ha x y bw bh rows hk 8 0 none none hf
  · rename_i e hf
    split at hb
    · cases hb
    · rename_i hc
      exact aw_k53y_19 d h1 h2 ha x y bw bh rows hk hc hb 8 0 none none hf
theorem aw_k52_19 {w : Nat → am_C} {g : am_H} (d : Nat) {a : Nat} {n v : Int32} {j : Nat} (h1 : 31 ≤ j) (h2 : j ≤ 36) (ha : g[a]? = some (aw_cC j n (.ref 19) v)) (x y bw bh : Int32) (hk : ¬ (n : Int32) = 0) {b : Bool} (hb : aw_rsc ((j - 31) % 3) (fun _ => (1 : Int32)) (x - bw / 3) y (bw - 2 * (bw / 3)) bh n = some b) : am_R (d + 4) 52 0 [some (.ref (1045 + a)), some (.int x), some (.int y), some (.int bw), some (.int bh)] [] (am_h w g) (.inl (some (.int (if b = true then 1 else 0)))) (am_h w g) := by
  refine am_R.nxs 1 (pc' := 1) (lv' := [some (.ref (1045 + a)), some (.int x), some (.int y), some (.int bw), some (.int bh)]) (st' := [.ref (1045 + a)]) (h1 := am_h w g) rfl ?_
  refine am_R.gf (pc' := 4) (v := .ref 19) rfl (am_gfn a ha) rfl rfl rfl ?_
  refine am_R.nxs 1 (pc' := 7) (lv' := [some (.ref (1045 + a)), some (.int x), some (.int y), some (.int bw), some (.int bh)]) (st' := [.ref 17, .ref 19]) (h1 := am_h w g) rfl ?_
  refine am_R.acn (j1 := 19) (j2 := 17) (T := 23) (F := 10) rfl (by decide) (by decide) rfl rfl (fun b7 => ?_) (fun b7 => ?_)
  · refine am_R.nxs 1 (pc' := 24) (lv' := [some (.ref (1045 + a)), some (.int x), some (.int y), some (.int bw), some (.int bh)]) (st' := [.ref (1045 + a)]) (h1 := am_h w g) rfl ?_
    refine am_R.gf (pc' := 27) (v := .ref 19) rfl (am_gfn a ha) rfl rfl rfl ?_
    refine am_R.nxs 1 (pc' := 30) (lv' := [some (.ref (1045 + a)), some (.int x), some (.int y), some (.int bw), some (.int bh)]) (st' := [.ref 18, .ref 19]) (h1 := am_h w g) rfl ?_
    refine am_R.acn (j1 := 19) (j2 := 18) (T := 56) (F := 33) rfl (by decide) (by decide) rfl rfl (fun b30 => ?_) (fun b30 => ?_)
    · refine am_R.nxs 1 (pc' := 57) (lv' := [some (.ref (1045 + a)), some (.int x), some (.int y), some (.int bw), some (.int bh)]) (st' := [.ref (1045 + a)]) (h1 := am_h w g) rfl ?_
      refine am_R.gf (pc' := 60) (v := .ref 19) rfl (am_gfn a ha) rfl rfl rfl ?_
      refine am_R.nxs 1 (pc' := 63) (lv' := [some (.ref (1045 + a)), some (.int x), some (.int y), some (.int bw), some (.int bh)]) (st' := [.ref 19, .ref 19]) (h1 := am_h w g) rfl ?_
      refine am_R.acn (j1 := 19) (j2 := 19) (T := 90) (F := 66) rfl (by decide) (by decide) rfl rfl (fun b63 => ?_) (fun b63 => ?_)
      · exact absurd rfl b63
      · refine am_R.nxs 16 (pc' := 83) (lv' := [some (.ref (1045 + a)), some (.int x), some (.int y), some (.int bw), some (.int bh)]) (st' := [.ref (1045 + a), .int bh, .int (bw - (2 * (bw / 3))), .int y, .int (x - (bw / 3)), .ref (1045 + a)]) (h1 := am_h w g) rfl ?_
        refine am_R.gf (pc' := 86) (v := .int n) rfl (am_gfn a ha) rfl rfl rfl ?_
        refine am_R.cv (a := (1045 + a)) (as' := [.int (x - (bw / 3)), .int y, .int (bw - (2 * (bw / 3))), .int bh, .int n]) (r := []) (v := some (.int (if b = true then 1 else 0))) (h1 := am_h w g) (pc' := 89) rfl rfl rfl rfl (am_gfn a ha) rfl rfl (aw_k53_19 d h1 h2 ha _ _ _ _ _ hk hb) rfl ?_
        exact am_R.reti rfl rfl (by split <;> rfl)
    · exact absurd b30 (by decide)
  · exact absurd b7 (by decide)
