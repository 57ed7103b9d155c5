/-! tinctureAt of the class. -/
/-- the part at f gives val at this cell -/
def aw_TA (g : am_H) (D f : Nat) (x y bw bh val : Int32) : Prop := g[f]? = some (aw_cP val) ∨ (∃ fs, g[f]? = some (.inl (5, fs)) ∧ ∀ w : Nat → am_C, am_R D 49 0 [some (.ref (1045 + f)), some (.int x), some (.int y), some (.int bw), some (.int bh), none, none, none] [] (am_h w g) (.inl (some (.int val))) (am_h w g))
theorem aw_cTA {w : Nat → am_C} {g : am_H} {D mi pc pc' len : Nat} {lv : am_L} {f y0 : Nat} {x y bw bh val : Int32} {o : am_O} {h' : am_H} (hc : am_code mi pc = some (.invokeinterface 79 y0, len)) (h : aw_TA g D f x y bw bh val) (hq : pc + len = pc') (k : am_R (D + 1) mi pc' lv [.int val] (am_h w g) o h') : am_R (D + 1) mi pc lv [.int bh, .int bw, .int y, .int x, .ref (1045 + f)] (am_h w g) o h' := by
  rcases h with h | ⟨fs, h1, h2⟩
  · refine am_R.cv (a := 1045 + f) (as' := [.int x, .int y, .int bw, .int bh]) (r := []) (v := some (.int val)) hc rfl rfl rfl (am_gfn f h) rfl rfl ?_ hq k
    refine am_R.nxs 1 (pc' := 1) (lv' := [some (.ref (1045 + f)), some (.int x), some (.int y), some (.int bw), some (.int bh)]) (st' := [.ref (1045 + f)]) (h1 := am_h w g) rfl ?_
    refine am_R.gf (pc' := 4) (v := .int val) rfl (am_gfn f h) rfl rfl rfl ?_
    exact am_R.reti rfl rfl rfl
  · exact am_R.cv (a := 1045 + f) (as' := [.int x, .int y, .int bw, .int bh]) (r := []) (v := some (.int val)) hc rfl rfl rfl (am_gfn f h1) rfl rfl (h2 w) hq k
theorem aw_k50_0 {w : Nat → am_C} {g : am_H} (D : Nat) {a f1 f2 la n : Nat} (x y bw bh F : Int32) (ha : g[a]? = some (aw_cS (aw_dvw 0) f1 f2 la n)) (hT : aw_TA g D (if aw_fs 0 x y bw bh = true then f1 else f2) (aw_h1 (decide (0 = 1 ∨ 0 = 4)) x bw) (aw_h1 (decide (0 = 2 ∨ 0 = 4)) y bh) (aw_h2 (decide (0 = 1 ∨ 0 = 4)) x bw) (aw_h2 (decide (0 = 2 ∨ 0 = 4)) y bh) F) : am_R (D + 1) 50 0 [some (.ref (1045 + a)), some (.int x), some (.int y), some (.int bw), some (.int bh), none, none, none, none, none] [] (am_h w g) (.inl (some (.int F))) (am_h w g) := by
  refine am_R.nxs 1 (pc' := 1) (lv' := [some (.ref (1045 + a)), some (.int x), some (.int y), some (.int bw), some (.int bh), none, none, none, none, none]) (st' := [.ref (1045 + a)]) (h1 := am_h w g) rfl ?_
  refine am_R.gf (pc' := 4) (v := .null) rfl (am_gfn a ha) rfl rfl rfl ?_
  refine am_R.nxs 2 (pc' := 8) (lv' := [some (.ref (1045 + a)), some (.int x), some (.int y), some (.int bw), some (.int bh), none, none, none, none, none]) (st' := [.ref (1045 + a)]) (h1 := am_h w g) rfl ?_
  refine am_R.gf (pc' := 11) (v := .ref (1045 + f1)) rfl (am_gfn a ha) rfl rfl rfl ?_
  refine am_R.nxs 4 (pc' := 16) (lv' := [some (.ref (1045 + a)), some (.int x), some (.int y), some (.int bw), some (.int bh), none, none, none, none, none]) (st' := [.int bh, .int bw, .int y, .int x, .ref (1045 + f1)]) (h1 := am_h w g) rfl ?_
  rw [show aw_fs 0 x y bw bh = true from rfl] at hT
  rw [if_pos rfl] at hT
  rw [show aw_h1 (decide (0 = 1 ∨ 0 = 4)) x bw = x from rfl] at hT
  rw [show aw_h1 (decide (0 = 2 ∨ 0 = 4)) y bh = y from rfl] at hT
  rw [show aw_h2 (decide (0 = 1 ∨ 0 = 4)) x bw = bw from rfl] at hT
  rw [show aw_h2 (decide (0 = 2 ∨ 0 = 4)) y bh = bh from rfl] at hT
  refine aw_cTA (pc' := 21) rfl hT rfl ?_
  exact am_R.reti rfl rfl rfl
theorem aw_k50_1 {w : Nat → am_C} {g : am_H} (D : Nat) {a f1 f2 la n : Nat} (x y bw bh F : Int32) (ha : g[a]? = some (aw_cS (aw_dvw 1) f1 f2 la n)) (hT : aw_TA g D (if aw_fs 1 x y bw bh = true then f1 else f2) (aw_h1 (decide (1 = 1 ∨ 1 = 4)) x bw) (aw_h1 (decide (1 = 2 ∨ 1 = 4)) y bh) (aw_h2 (decide (1 = 1 ∨ 1 = 4)) x bw) (aw_h2 (decide (1 = 2 ∨ 1 = 4)) y bh) F) : am_R (D + 1) 50 0 [some (.ref (1045 + a)), some (.int x), some (.int y), some (.int bw), some (.int bh), none, none, none, none, none] [] (am_h w g) (.inl (some (.int F))) (am_h w g) := by
  refine am_R.nxs 1 (pc' := 1) (lv' := [some (.ref (1045 + a)), some (.int x), some (.int y), some (.int bw), some (.int bh), none, none, none, none, none]) (st' := [.ref (1045 + a)]) (h1 := am_h w g) rfl ?_
  refine am_R.gf (pc' := 4) (v := .ref 19) rfl (am_gfn a ha) rfl rfl rfl ?_
  refine am_R.nxs 2 (pc' := 23) (lv' := [some (.ref (1045 + a)), some (.int x), some (.int y), some (.int bw), some (.int bh), none, none, none, none, none]) (st' := [.ref (1045 + a)]) (h1 := am_h w g) rfl ?_
  refine am_R.gf (pc' := 26) (v := .ref 19) rfl (am_gfn a ha) rfl rfl rfl ?_
  refine am_R.nxs 1 (pc' := 29) (lv' := [some (.ref (1045 + a)), some (.int x), some (.int y), some (.int bw), some (.int bh), none, none, none, none, none]) (st' := [.ref 20, .ref 19]) (h1 := am_h w g) rfl ?_
  refine am_R.acn (j1 := 19) (j2 := 20) (T := 64) (F := 32) rfl (by decide) (by decide) rfl rfl (fun b29 => ?_) (fun b29 => ?_)
  · refine am_R.nxs 1 (pc' := 65) (lv' := [some (.ref (1045 + a)), some (.int x), some (.int y), some (.int bw), some (.int bh), none, none, none, none, none]) (st' := [.ref (1045 + a)]) (h1 := am_h w g) rfl ?_
    refine am_R.gf (pc' := 68) (v := .ref 19) rfl (am_gfn a ha) rfl rfl rfl ?_
    refine am_R.nxs 1 (pc' := 71) (lv' := [some (.ref (1045 + a)), some (.int x), some (.int y), some (.int bw), some (.int bh), none, none, none, none, none]) (st' := [.ref 18, .ref 19]) (h1 := am_h w g) rfl ?_
    refine am_R.ac (j1 := 19) (j2 := 18) (T := 85) (F := 74) rfl (by decide) (by decide) rfl rfl (fun b71 => ?_) (fun b71 => ?_)
    · exact absurd b71 (by decide)
    · refine am_R.ites 5 (P := x < (bw / 2)) (T := 85) (F := 81) (lv' := [some (.ref (1045 + a)), some (.int x), some (.int y), some (.int bw), some (.int bh), none, none, none, none, none]) (st' := []) (h1 := am_h w g) rfl (fun b78 => ?_) (fun b78 => ?_)
      · refine am_R.nxs 3 (pc' := 89) (lv' := [some (.ref (1045 + a)), some (.int x), some (.int y), some (.int bw), some (.int bh), some (.int 0), none, none, none, none]) (st' := [.ref (1045 + a)]) (h1 := am_h w g) rfl ?_
        refine am_R.gf (pc' := 92) (v := .ref 19) rfl (am_gfn a ha) rfl rfl rfl ?_
        refine am_R.nxs 1 (pc' := 95) (lv' := [some (.ref (1045 + a)), some (.int x), some (.int y), some (.int bw), some (.int bh), some (.int 0), none, none, none, none]) (st' := [.ref 19, .ref 19]) (h1 := am_h w g) rfl ?_
        refine am_R.ac (j1 := 19) (j2 := 19) (T := 110) (F := 98) rfl (by decide) (by decide) rfl rfl (fun b95 => ?_) (fun b95 => ?_)
        · refine am_R.nxs 2 (pc' := 113) (lv' := [some (.ref (1045 + a)), some (.int x), some (.int y), some (.int bw), some (.int bh), some (.int 0), some (.int 0), none, none, none]) (st' := []) (h1 := am_h w g) rfl ?_
          refine am_R.nxs 1 (pc' := 114) (lv' := [some (.ref (1045 + a)), some (.int x), some (.int y), some (.int bw), some (.int bh), some (.int 0), some (.int 0), none, none, none]) (st' := [.ref (1045 + a)]) (h1 := am_h w g) rfl ?_
          refine am_R.gf (pc' := 117) (v := .ref 19) rfl (am_gfn a ha) rfl rfl rfl ?_
          refine am_R.nxs 1 (pc' := 120) (lv' := [some (.ref (1045 + a)), some (.int x), some (.int y), some (.int bw), some (.int bh), some (.int 0), some (.int 0), none, none, none]) (st' := [.ref 18, .ref 19]) (h1 := am_h w g) rfl ?_
          refine am_R.acn (j1 := 19) (j2 := 18) (T := 127) (F := 123) rfl (by decide) (by decide) rfl rfl (fun b120 => ?_) (fun b120 => ?_)
          · refine am_R.ites 2 (P := 0 = 0) (T := 140) (F := 132) (lv' := [some (.ref (1045 + a)), some (.int x), some (.int y), some (.int bw), some (.int bh), some (.int 0), some (.int 0), none, none, none]) (st' := []) (h1 := am_h w g) rfl (fun b129 => ?_) (fun b129 => ?_)
            · refine am_R.nxs 5 (pc' := 146) (lv' := [some (.ref (1045 + a)), some (.int x), some (.int y), some (.int bw), some (.int bh), some (.int 0), some (.int 0), some (.int (bw / 2)), none, none]) (st' := [.ref (1045 + a)]) (h1 := am_h w g) rfl ?_
              refine am_R.gf (pc' := 149) (v := .ref 19) rfl (am_gfn a ha) rfl rfl rfl ?_
              refine am_R.nxs 1 (pc' := 152) (lv' := [some (.ref (1045 + a)), some (.int x), some (.int y), some (.int bw), some (.int bh), some (.int 0), some (.int 0), some (.int (bw / 2)), none, none]) (st' := [.ref 19, .ref 19]) (h1 := am_h w g) rfl ?_
              refine am_R.acn (j1 := 19) (j2 := 19) (T := 160) (F := 155) rfl (by decide) (by decide) rfl rfl (fun b152 => ?_) (fun b152 => ?_)
              · exact absurd rfl b152
              · refine am_R.ites 6 (P := ¬ 0 = 0) (T := 195) (F := 188) (lv' := [some (.ref (1045 + a)), some (.int x), some (.int y), some (.int bw), some (.int bh), some (.int 0), some (.int 0), some (.int (bw / 2)), some (.int bh), none]) (st' := []) (h1 := am_h w g) rfl (fun b185 => ?_) (fun b185 => ?_)
                · exact absurd rfl b185
                · refine am_R.nxs 1 (pc' := 189) (lv' := [some (.ref (1045 + a)), some (.int x), some (.int y), some (.int bw), some (.int bh), some (.int 0), some (.int 0), some (.int (bw / 2)), some (.int bh), none]) (st' := [.ref (1045 + a)]) (h1 := am_h w g) rfl ?_
                  refine am_R.gf (pc' := 192) (v := .ref (1045 + f1)) rfl (am_gfn a ha) rfl rfl rfl ?_
                  refine am_R.ites 5 (P := 0 = 0) (T := 216) (F := 208) (lv' := [some (.ref (1045 + a)), some (.int x), some (.int y), some (.int bw), some (.int bh), some (.int 0), some (.int 0), some (.int (bw / 2)), some (.int bh), some (.ref (1045 + f1))]) (st' := [.ref (1045 + f1)]) (h1 := am_h w g) rfl (fun b205 => ?_) (fun b205 => ?_)
                  · refine am_R.ites 3 (P := 0 = 0) (T := 231) (F := 222) (lv' := [some (.ref (1045 + a)), some (.int x), some (.int y), some (.int bw), some (.int bh), some (.int 0), some (.int 0), some (.int (bw / 2)), some (.int bh), some (.ref (1045 + f1))]) (st' := [.int x, .ref (1045 + f1)]) (h1 := am_h w g) rfl (fun b219 => ?_) (fun b219 => ?_)
                    · refine am_R.nxs 3 (pc' := 236) (lv' := [some (.ref (1045 + a)), some (.int x), some (.int y), some (.int bw), some (.int bh), some (.int 0), some (.int 0), some (.int (bw / 2)), some (.int bh), some (.ref (1045 + f1))]) (st' := [.int bh, .int (bw / 2), .int y, .int x, .ref (1045 + f1)]) (h1 := am_h w g) rfl ?_
                      rw [show aw_fs 1 x y bw bh = true from decide_eq_true (Int32.not_le.mpr b78)] at hT
                      rw [if_pos rfl] at hT
                      rw [show aw_h1 (decide (1 = 1 ∨ 1 = 4)) x bw = x from if_neg (Int32.not_le.mpr b78)] at hT
                      rw [show aw_h1 (decide (1 = 2 ∨ 1 = 4)) y bh = y from rfl] at hT
                      rw [show aw_h2 (decide (1 = 1 ∨ 1 = 4)) x bw = (bw / 2) from if_neg (Int32.not_le.mpr b78)] at hT
                      rw [show aw_h2 (decide (1 = 2 ∨ 1 = 4)) y bh = bh from rfl] at hT
                      refine aw_cTA (pc' := 241) rfl hT rfl ?_
                      exact am_R.reti rfl rfl rfl
                    · exact absurd rfl b219
                  · exact absurd rfl b205
            · exact absurd rfl b129
          · exact absurd b120 (by decide)
        · exact absurd rfl b95
      · refine am_R.nxs 4 (pc' := 89) (lv' := [some (.ref (1045 + a)), some (.int x), some (.int y), some (.int bw), some (.int bh), some (.int 1), none, none, none, none]) (st' := [.ref (1045 + a)]) (h1 := am_h w g) rfl ?_
        refine am_R.gf (pc' := 92) (v := .ref 19) rfl (am_gfn a ha) rfl rfl rfl ?_
        refine am_R.nxs 1 (pc' := 95) (lv' := [some (.ref (1045 + a)), some (.int x), some (.int y), some (.int bw), some (.int bh), some (.int 1), none, none, none, none]) (st' := [.ref 19, .ref 19]) (h1 := am_h w g) rfl ?_
        refine am_R.ac (j1 := 19) (j2 := 19) (T := 110) (F := 98) rfl (by decide) (by decide) rfl rfl (fun b95 => ?_) (fun b95 => ?_)
        · refine am_R.nxs 2 (pc' := 113) (lv' := [some (.ref (1045 + a)), some (.int x), some (.int y), some (.int bw), some (.int bh), some (.int 1), some (.int 0), none, none, none]) (st' := []) (h1 := am_h w g) rfl ?_
          refine am_R.nxs 1 (pc' := 114) (lv' := [some (.ref (1045 + a)), some (.int x), some (.int y), some (.int bw), some (.int bh), some (.int 1), some (.int 0), none, none, none]) (st' := [.ref (1045 + a)]) (h1 := am_h w g) rfl ?_
          refine am_R.gf (pc' := 117) (v := .ref 19) rfl (am_gfn a ha) rfl rfl rfl ?_
          refine am_R.nxs 1 (pc' := 120) (lv' := [some (.ref (1045 + a)), some (.int x), some (.int y), some (.int bw), some (.int bh), some (.int 1), some (.int 0), none, none, none]) (st' := [.ref 18, .ref 19]) (h1 := am_h w g) rfl ?_
          refine am_R.acn (j1 := 19) (j2 := 18) (T := 127) (F := 123) rfl (by decide) (by decide) rfl rfl (fun b120 => ?_) (fun b120 => ?_)
          · refine am_R.ites 2 (P := 1 = 0) (T := 140) (F := 132) (lv' := [some (.ref (1045 + a)), some (.int x), some (.int y), some (.int bw), some (.int bh), some (.int 1), some (.int 0), none, none, none]) (st' := []) (h1 := am_h w g) rfl (fun b129 => ?_) (fun b129 => ?_)
            · exact absurd b129 (by decide)
            · refine am_R.nxs 8 (pc' := 146) (lv' := [some (.ref (1045 + a)), some (.int x), some (.int y), some (.int bw), some (.int bh), some (.int 1), some (.int 0), some (.int (bw - (bw / 2))), none, none]) (st' := [.ref (1045 + a)]) (h1 := am_h w g) rfl ?_
              refine am_R.gf (pc' := 149) (v := .ref 19) rfl (am_gfn a ha) rfl rfl rfl ?_
              refine am_R.nxs 1 (pc' := 152) (lv' := [some (.ref (1045 + a)), some (.int x), some (.int y), some (.int bw), some (.int bh), some (.int 1), some (.int 0), some (.int (bw - (bw / 2))), none, none]) (st' := [.ref 19, .ref 19]) (h1 := am_h w g) rfl ?_
              refine am_R.acn (j1 := 19) (j2 := 19) (T := 160) (F := 155) rfl (by decide) (by decide) rfl rfl (fun b152 => ?_) (fun b152 => ?_)
              · exact absurd rfl b152
              · refine am_R.ites 6 (P := ¬ 1 = 0) (T := 195) (F := 188) (lv' := [some (.ref (1045 + a)), some (.int x), some (.int y), some (.int bw), some (.int bh), some (.int 1), some (.int 0), some (.int (bw - (bw / 2))), some (.int bh), none]) (st' := []) (h1 := am_h w g) rfl (fun b185 => ?_) (fun b185 => ?_)
                · refine am_R.nxs 1 (pc' := 196) (lv' := [some (.ref (1045 + a)), some (.int x), some (.int y), some (.int bw), some (.int bh), some (.int 1), some (.int 0), some (.int (bw - (bw / 2))), some (.int bh), none]) (st' := [.ref (1045 + a)]) (h1 := am_h w g) rfl ?_
                  refine am_R.gf (pc' := 199) (v := .ref (1045 + f2)) rfl (am_gfn a ha) rfl rfl rfl ?_
                  refine am_R.ites 4 (P := 1 = 0) (T := 216) (F := 208) (lv' := [some (.ref (1045 + a)), some (.int x), some (.int y), some (.int bw), some (.int bh), some (.int 1), some (.int 0), some (.int (bw - (bw / 2))), some (.int bh), some (.ref (1045 + f2))]) (st' := [.ref (1045 + f2)]) (h1 := am_h w g) rfl (fun b205 => ?_) (fun b205 => ?_)
                  · exact absurd b205 (by decide)
                  · refine am_R.ites 8 (P := 0 = 0) (T := 231) (F := 222) (lv' := [some (.ref (1045 + a)), some (.int x), some (.int y), some (.int bw), some (.int bh), some (.int 1), some (.int 0), some (.int (bw - (bw / 2))), some (.int bh), some (.ref (1045 + f2))]) (st' := [.int (x - (bw / 2)), .ref (1045 + f2)]) (h1 := am_h w g) rfl (fun b219 => ?_) (fun b219 => ?_)
                    · refine am_R.nxs 3 (pc' := 236) (lv' := [some (.ref (1045 + a)), some (.int x), some (.int y), some (.int bw), some (.int bh), some (.int 1), some (.int 0), some (.int (bw - (bw / 2))), some (.int bh), some (.ref (1045 + f2))]) (st' := [.int bh, .int (bw - (bw / 2)), .int y, .int (x - (bw / 2)), .ref (1045 + f2)]) (h1 := am_h w g) rfl ?_
                      rw [show aw_fs 1 x y bw bh = false from decide_eq_false (fun z => z (Int32.not_lt.mp b78))] at hT
                      rw [if_neg (by decide)] at hT
                      rw [show aw_h1 (decide (1 = 1 ∨ 1 = 4)) x bw = (x - (bw / 2)) from if_pos (Int32.not_lt.mp b78)] at hT
                      rw [show aw_h1 (decide (1 = 2 ∨ 1 = 4)) y bh = y from rfl] at hT
                      rw [show aw_h2 (decide (1 = 1 ∨ 1 = 4)) x bw = (bw - (bw / 2)) from if_pos (Int32.not_lt.mp b78)] at hT
                      rw [show aw_h2 (decide (1 = 2 ∨ 1 = 4)) y bh = bh from rfl] at hT
                      refine aw_cTA (pc' := 241) rfl hT rfl ?_
                      exact am_R.reti rfl rfl rfl
                    · exact absurd rfl b219
                · exact absurd (by decide) b185
          · exact absurd b120 (by decide)
        · exact absurd rfl b95
  · exact absurd b29 (by decide)
theorem aw_k50_2 {w : Nat → am_C} {g : am_H} (D : Nat) {a f1 f2 la n : Nat} (x y bw bh F : Int32) (ha : g[a]? = some (aw_cS (aw_dvw 2) f1 f2 la n)) (hT : aw_TA g D (if aw_fs 2 x y bw bh = true then f1 else f2) (aw_h1 (decide (2 = 1 ∨ 2 = 4)) x bw) (aw_h1 (decide (2 = 2 ∨ 2 = 4)) y bh) (aw_h2 (decide (2 = 1 ∨ 2 = 4)) x bw) (aw_h2 (decide (2 = 2 ∨ 2 = 4)) y bh) F) : am_R (D + 1) 50 0 [some (.ref (1045 + a)), some (.int x), some (.int y), some (.int bw), some (.int bh), none, none, none, none, none] [] (am_h w g) (.inl (some (.int F))) (am_h w g) := by
  refine am_R.nxs 1 (pc' := 1) (lv' := [some (.ref (1045 + a)), some (.int x), some (.int y), some (.int bw), some (.int bh), none, none, none, none, none]) (st' := [.ref (1045 + a)]) (h1 := am_h w g) rfl ?_
  refine am_R.gf (pc' := 4) (v := .ref 18) rfl (am_gfn a ha) rfl rfl rfl ?_
  refine am_R.nxs 2 (pc' := 23) (lv' := [some (.ref (1045 + a)), some (.int x), some (.int y), some (.int bw), some (.int bh), none, none, none, none, none]) (st' := [.ref (1045 + a)]) (h1 := am_h w g) rfl ?_
  refine am_R.gf (pc' := 26) (v := .ref 18) rfl (am_gfn a ha) rfl rfl rfl ?_
  refine am_R.nxs 1 (pc' := 29) (lv' := [some (.ref (1045 + a)), some (.int x), some (.int y), some (.int bw), some (.int bh), none, none, none, none, none]) (st' := [.ref 20, .ref 18]) (h1 := am_h w g) rfl ?_
  refine am_R.acn (j1 := 18) (j2 := 20) (T := 64) (F := 32) rfl (by decide) (by decide) rfl rfl (fun b29 => ?_) (fun b29 => ?_)
  · refine am_R.nxs 1 (pc' := 65) (lv' := [some (.ref (1045 + a)), some (.int x), some (.int y), some (.int bw), some (.int bh), none, none, none, none, none]) (st' := [.ref (1045 + a)]) (h1 := am_h w g) rfl ?_
    refine am_R.gf (pc' := 68) (v := .ref 18) rfl (am_gfn a ha) rfl rfl rfl ?_
    refine am_R.nxs 1 (pc' := 71) (lv' := [some (.ref (1045 + a)), some (.int x), some (.int y), some (.int bw), some (.int bh), none, none, none, none, none]) (st' := [.ref 18, .ref 18]) (h1 := am_h w g) rfl ?_
    refine am_R.ac (j1 := 18) (j2 := 18) (T := 85) (F := 74) rfl (by decide) (by decide) rfl rfl (fun b71 => ?_) (fun b71 => ?_)
    · refine am_R.nxs 3 (pc' := 89) (lv' := [some (.ref (1045 + a)), some (.int x), some (.int y), some (.int bw), some (.int bh), some (.int 0), none, none, none, none]) (st' := [.ref (1045 + a)]) (h1 := am_h w g) rfl ?_
      refine am_R.gf (pc' := 92) (v := .ref 18) rfl (am_gfn a ha) rfl rfl rfl ?_
      refine am_R.nxs 1 (pc' := 95) (lv' := [some (.ref (1045 + a)), some (.int x), some (.int y), some (.int bw), some (.int bh), some (.int 0), none, none, none, none]) (st' := [.ref 19, .ref 18]) (h1 := am_h w g) rfl ?_
      refine am_R.ac (j1 := 18) (j2 := 19) (T := 110) (F := 98) rfl (by decide) (by decide) rfl rfl (fun b95 => ?_) (fun b95 => ?_)
      · exact absurd b95 (by decide)
      · refine am_R.ites 5 (P := y < (bh / 2)) (T := 110) (F := 106) (lv' := [some (.ref (1045 + a)), some (.int x), some (.int y), some (.int bw), some (.int bh), some (.int 0), none, none, none, none]) (st' := []) (h1 := am_h w g) rfl (fun b103 => ?_) (fun b103 => ?_)
        · refine am_R.nxs 2 (pc' := 113) (lv' := [some (.ref (1045 + a)), some (.int x), some (.int y), some (.int bw), some (.int bh), some (.int 0), some (.int 0), none, none, none]) (st' := []) (h1 := am_h w g) rfl ?_
          refine am_R.nxs 1 (pc' := 114) (lv' := [some (.ref (1045 + a)), some (.int x), some (.int y), some (.int bw), some (.int bh), some (.int 0), some (.int 0), none, none, none]) (st' := [.ref (1045 + a)]) (h1 := am_h w g) rfl ?_
          refine am_R.gf (pc' := 117) (v := .ref 18) rfl (am_gfn a ha) rfl rfl rfl ?_
          refine am_R.nxs 1 (pc' := 120) (lv' := [some (.ref (1045 + a)), some (.int x), some (.int y), some (.int bw), some (.int bh), some (.int 0), some (.int 0), none, none, none]) (st' := [.ref 18, .ref 18]) (h1 := am_h w g) rfl ?_
          refine am_R.acn (j1 := 18) (j2 := 18) (T := 127) (F := 123) rfl (by decide) (by decide) rfl rfl (fun b120 => ?_) (fun b120 => ?_)
          · exact absurd rfl b120
          · refine am_R.nxs 4 (pc' := 146) (lv' := [some (.ref (1045 + a)), some (.int x), some (.int y), some (.int bw), some (.int bh), some (.int 0), some (.int 0), some (.int bw), none, none]) (st' := [.ref (1045 + a)]) (h1 := am_h w g) rfl ?_
            refine am_R.gf (pc' := 149) (v := .ref 18) rfl (am_gfn a ha) rfl rfl rfl ?_
            refine am_R.nxs 1 (pc' := 152) (lv' := [some (.ref (1045 + a)), some (.int x), some (.int y), some (.int bw), some (.int bh), some (.int 0), some (.int 0), some (.int bw), none, none]) (st' := [.ref 19, .ref 18]) (h1 := am_h w g) rfl ?_
            refine am_R.acn (j1 := 18) (j2 := 19) (T := 160) (F := 155) rfl (by decide) (by decide) rfl rfl (fun b152 => ?_) (fun b152 => ?_)
            · refine am_R.ites 2 (P := 0 = 0) (T := 175) (F := 165) (lv' := [some (.ref (1045 + a)), some (.int x), some (.int y), some (.int bw), some (.int bh), some (.int 0), some (.int 0), some (.int bw), none, none]) (st' := []) (h1 := am_h w g) rfl (fun b162 => ?_) (fun b162 => ?_)
              · refine am_R.ites 7 (P := ¬ 0 = 0) (T := 195) (F := 188) (lv' := [some (.ref (1045 + a)), some (.int x), some (.int y), some (.int bw), some (.int bh), some (.int 0), some (.int 0), some (.int bw), some (.int (bh / 2)), none]) (st' := []) (h1 := am_h w g) rfl (fun b185 => ?_) (fun b185 => ?_)
                · exact absurd rfl b185
                · refine am_R.nxs 1 (pc' := 189) (lv' := [some (.ref (1045 + a)), some (.int x), some (.int y), some (.int bw), some (.int bh), some (.int 0), some (.int 0), some (.int bw), some (.int (bh / 2)), none]) (st' := [.ref (1045 + a)]) (h1 := am_h w g) rfl ?_
                  refine am_R.gf (pc' := 192) (v := .ref (1045 + f1)) rfl (am_gfn a ha) rfl rfl rfl ?_
                  refine am_R.ites 5 (P := 0 = 0) (T := 216) (F := 208) (lv' := [some (.ref (1045 + a)), some (.int x), some (.int y), some (.int bw), some (.int bh), some (.int 0), some (.int 0), some (.int bw), some (.int (bh / 2)), some (.ref (1045 + f1))]) (st' := [.ref (1045 + f1)]) (h1 := am_h w g) rfl (fun b205 => ?_) (fun b205 => ?_)
                  · refine am_R.ites 3 (P := 0 = 0) (T := 231) (F := 222) (lv' := [some (.ref (1045 + a)), some (.int x), some (.int y), some (.int bw), some (.int bh), some (.int 0), some (.int 0), some (.int bw), some (.int (bh / 2)), some (.ref (1045 + f1))]) (st' := [.int x, .ref (1045 + f1)]) (h1 := am_h w g) rfl (fun b219 => ?_) (fun b219 => ?_)
                    · refine am_R.nxs 3 (pc' := 236) (lv' := [some (.ref (1045 + a)), some (.int x), some (.int y), some (.int bw), some (.int bh), some (.int 0), some (.int 0), some (.int bw), some (.int (bh / 2)), some (.ref (1045 + f1))]) (st' := [.int (bh / 2), .int bw, .int y, .int x, .ref (1045 + f1)]) (h1 := am_h w g) rfl ?_
                      rw [show aw_fs 2 x y bw bh = true from decide_eq_true (Int32.not_le.mpr b103)] at hT
                      rw [if_pos rfl] at hT
                      rw [show aw_h1 (decide (2 = 1 ∨ 2 = 4)) x bw = x from rfl] at hT
                      rw [show aw_h1 (decide (2 = 2 ∨ 2 = 4)) y bh = y from if_neg (Int32.not_le.mpr b103)] at hT
                      rw [show aw_h2 (decide (2 = 1 ∨ 2 = 4)) x bw = bw from rfl] at hT
                      rw [show aw_h2 (decide (2 = 2 ∨ 2 = 4)) y bh = (bh / 2) from if_neg (Int32.not_le.mpr b103)] at hT
                      refine aw_cTA (pc' := 241) rfl hT rfl ?_
                      exact am_R.reti rfl rfl rfl
                    · exact absurd rfl b219
                  · exact absurd rfl b205
              · exact absurd rfl b162
            · exact absurd b152 (by decide)
        · refine am_R.nxs 3 (pc' := 113) (lv' := [some (.ref (1045 + a)), some (.int x), some (.int y), some (.int bw), some (.int bh), some (.int 0), some (.int 1), none, none, none]) (st' := []) (h1 := am_h w g) rfl ?_
          refine am_R.nxs 1 (pc' := 114) (lv' := [some (.ref (1045 + a)), some (.int x), some (.int y), some (.int bw), some (.int bh), some (.int 0), some (.int 1), none, none, none]) (st' := [.ref (1045 + a)]) (h1 := am_h w g) rfl ?_
          refine am_R.gf (pc' := 117) (v := .ref 18) rfl (am_gfn a ha) rfl rfl rfl ?_
          refine am_R.nxs 1 (pc' := 120) (lv' := [some (.ref (1045 + a)), some (.int x), some (.int y), some (.int bw), some (.int bh), some (.int 0), some (.int 1), none, none, none]) (st' := [.ref 18, .ref 18]) (h1 := am_h w g) rfl ?_
          refine am_R.acn (j1 := 18) (j2 := 18) (T := 127) (F := 123) rfl (by decide) (by decide) rfl rfl (fun b120 => ?_) (fun b120 => ?_)
          · exact absurd rfl b120
          · refine am_R.nxs 4 (pc' := 146) (lv' := [some (.ref (1045 + a)), some (.int x), some (.int y), some (.int bw), some (.int bh), some (.int 0), some (.int 1), some (.int bw), none, none]) (st' := [.ref (1045 + a)]) (h1 := am_h w g) rfl ?_
            refine am_R.gf (pc' := 149) (v := .ref 18) rfl (am_gfn a ha) rfl rfl rfl ?_
            refine am_R.nxs 1 (pc' := 152) (lv' := [some (.ref (1045 + a)), some (.int x), some (.int y), some (.int bw), some (.int bh), some (.int 0), some (.int 1), some (.int bw), none, none]) (st' := [.ref 19, .ref 18]) (h1 := am_h w g) rfl ?_
            refine am_R.acn (j1 := 18) (j2 := 19) (T := 160) (F := 155) rfl (by decide) (by decide) rfl rfl (fun b152 => ?_) (fun b152 => ?_)
            · refine am_R.ites 2 (P := 1 = 0) (T := 175) (F := 165) (lv' := [some (.ref (1045 + a)), some (.int x), some (.int y), some (.int bw), some (.int bh), some (.int 0), some (.int 1), some (.int bw), none, none]) (st' := []) (h1 := am_h w g) rfl (fun b162 => ?_) (fun b162 => ?_)
              · exact absurd b162 (by decide)
              · refine am_R.ites 10 (P := ¬ 0 = 1) (T := 195) (F := 188) (lv' := [some (.ref (1045 + a)), some (.int x), some (.int y), some (.int bw), some (.int bh), some (.int 0), some (.int 1), some (.int bw), some (.int (bh - (bh / 2))), none]) (st' := []) (h1 := am_h w g) rfl (fun b185 => ?_) (fun b185 => ?_)
                · refine am_R.nxs 1 (pc' := 196) (lv' := [some (.ref (1045 + a)), some (.int x), some (.int y), some (.int bw), some (.int bh), some (.int 0), some (.int 1), some (.int bw), some (.int (bh - (bh / 2))), none]) (st' := [.ref (1045 + a)]) (h1 := am_h w g) rfl ?_
                  refine am_R.gf (pc' := 199) (v := .ref (1045 + f2)) rfl (am_gfn a ha) rfl rfl rfl ?_
                  refine am_R.ites 4 (P := 0 = 0) (T := 216) (F := 208) (lv' := [some (.ref (1045 + a)), some (.int x), some (.int y), some (.int bw), some (.int bh), some (.int 0), some (.int 1), some (.int bw), some (.int (bh - (bh / 2))), some (.ref (1045 + f2))]) (st' := [.ref (1045 + f2)]) (h1 := am_h w g) rfl (fun b205 => ?_) (fun b205 => ?_)
                  · refine am_R.ites 3 (P := 1 = 0) (T := 231) (F := 222) (lv' := [some (.ref (1045 + a)), some (.int x), some (.int y), some (.int bw), some (.int bh), some (.int 0), some (.int 1), some (.int bw), some (.int (bh - (bh / 2))), some (.ref (1045 + f2))]) (st' := [.int x, .ref (1045 + f2)]) (h1 := am_h w g) rfl (fun b219 => ?_) (fun b219 => ?_)
                    · exact absurd b219 (by decide)
                    · refine am_R.nxs 8 (pc' := 236) (lv' := [some (.ref (1045 + a)), some (.int x), some (.int y), some (.int bw), some (.int bh), some (.int 0), some (.int 1), some (.int bw), some (.int (bh - (bh / 2))), some (.ref (1045 + f2))]) (st' := [.int (bh - (bh / 2)), .int bw, .int (y - (bh / 2)), .int x, .ref (1045 + f2)]) (h1 := am_h w g) rfl ?_
                      rw [show aw_fs 2 x y bw bh = false from decide_eq_false (fun z => z (Int32.not_lt.mp b103))] at hT
                      rw [if_neg (by decide)] at hT
                      rw [show aw_h1 (decide (2 = 1 ∨ 2 = 4)) x bw = x from rfl] at hT
                      rw [show aw_h1 (decide (2 = 2 ∨ 2 = 4)) y bh = (y - (bh / 2)) from if_pos (Int32.not_lt.mp b103)] at hT
                      rw [show aw_h2 (decide (2 = 1 ∨ 2 = 4)) x bw = bw from rfl] at hT
                      rw [show aw_h2 (decide (2 = 2 ∨ 2 = 4)) y bh = (bh - (bh / 2)) from if_pos (Int32.not_lt.mp b103)] at hT
                      refine aw_cTA (pc' := 241) rfl hT rfl ?_
                      exact am_R.reti rfl rfl rfl
                  · exact absurd rfl b205
                · exact absurd (by decide) b185
            · exact absurd b152 (by decide)
    · exact absurd rfl b71
  · exact absurd b29 (by decide)
theorem aw_k50_3 {w : Nat → am_C} {g : am_H} (D : Nat) {a f1 f2 la n : Nat} (x y bw bh F : Int32) (ha : g[a]? = some (aw_cS (aw_dvw 3) f1 f2 la n)) (hT : aw_TA g D (if aw_fs 3 x y bw bh = true then f1 else f2) (aw_h1 (decide (3 = 1 ∨ 3 = 4)) x bw) (aw_h1 (decide (3 = 2 ∨ 3 = 4)) y bh) (aw_h2 (decide (3 = 1 ∨ 3 = 4)) x bw) (aw_h2 (decide (3 = 2 ∨ 3 = 4)) y bh) F) : am_R (D + 1) 50 0 [some (.ref (1045 + a)), some (.int x), some (.int y), some (.int bw), some (.int bh), none, none, none, none, none] [] (am_h w g) (.inl (some (.int F))) (am_h w g) := by
  refine am_R.nxs 1 (pc' := 1) (lv' := [some (.ref (1045 + a)), some (.int x), some (.int y), some (.int bw), some (.int bh), none, none, none, none, none]) (st' := [.ref (1045 + a)]) (h1 := am_h w g) rfl ?_
  refine am_R.gf (pc' := 4) (v := .ref 20) rfl (am_gfn a ha) rfl rfl rfl ?_
  refine am_R.nxs 2 (pc' := 23) (lv' := [some (.ref (1045 + a)), some (.int x), some (.int y), some (.int bw), some (.int bh), none, none, none, none, none]) (st' := [.ref (1045 + a)]) (h1 := am_h w g) rfl ?_
  refine am_R.gf (pc' := 26) (v := .ref 20) rfl (am_gfn a ha) rfl rfl rfl ?_
  refine am_R.nxs 1 (pc' := 29) (lv' := [some (.ref (1045 + a)), some (.int x), some (.int y), some (.int bw), some (.int bh), none, none, none, none, none]) (st' := [.ref 20, .ref 20]) (h1 := am_h w g) rfl ?_
  refine am_R.acn (j1 := 20) (j2 := 20) (T := 64) (F := 32) rfl (by decide) (by decide) rfl rfl (fun b29 => ?_) (fun b29 => ?_)
  · exact absurd rfl b29
  · refine am_R.ites 7 (P := (x * bh) < (y * bw)) (T := 49) (F := 42) (lv' := [some (.ref (1045 + a)), some (.int x), some (.int y), some (.int bw), some (.int bh), none, none, none, none, none]) (st' := []) (h1 := am_h w g) rfl (fun b39 => ?_) (fun b39 => ?_)
    · refine am_R.nxs 1 (pc' := 50) (lv' := [some (.ref (1045 + a)), some (.int x), some (.int y), some (.int bw), some (.int bh), none, none, none, none, none]) (st' := [.ref (1045 + a)]) (h1 := am_h w g) rfl ?_
      refine am_R.gf (pc' := 53) (v := .ref (1045 + f2)) rfl (am_gfn a ha) rfl rfl rfl ?_
      refine am_R.nxs 4 (pc' := 58) (lv' := [some (.ref (1045 + a)), some (.int x), some (.int y), some (.int bw), some (.int bh), none, none, none, none, none]) (st' := [.int bh, .int bw, .int y, .int x, .ref (1045 + f2)]) (h1 := am_h w g) rfl ?_
      rw [show aw_fs 3 x y bw bh = false from decide_eq_false (fun z => z b39)] at hT
      rw [if_neg (by decide)] at hT
      rw [show aw_h1 (decide (3 = 1 ∨ 3 = 4)) x bw = x from rfl] at hT
      rw [show aw_h1 (decide (3 = 2 ∨ 3 = 4)) y bh = y from rfl] at hT
      rw [show aw_h2 (decide (3 = 1 ∨ 3 = 4)) x bw = bw from rfl] at hT
      rw [show aw_h2 (decide (3 = 2 ∨ 3 = 4)) y bh = bh from rfl] at hT
      refine aw_cTA (pc' := 63) rfl hT rfl ?_
      exact am_R.reti rfl rfl rfl
    · refine am_R.nxs 1 (pc' := 43) (lv' := [some (.ref (1045 + a)), some (.int x), some (.int y), some (.int bw), some (.int bh), none, none, none, none, none]) (st' := [.ref (1045 + a)]) (h1 := am_h w g) rfl ?_
      refine am_R.gf (pc' := 46) (v := .ref (1045 + f1)) rfl (am_gfn a ha) rfl rfl rfl ?_
      refine am_R.nxs 5 (pc' := 58) (lv' := [some (.ref (1045 + a)), some (.int x), some (.int y), some (.int bw), some (.int bh), none, none, none, none, none]) (st' := [.int bh, .int bw, .int y, .int x, .ref (1045 + f1)]) (h1 := am_h w g) rfl ?_
      rw [show aw_fs 3 x y bw bh = true from decide_eq_true b39] at hT
      rw [if_pos rfl] at hT
      rw [show aw_h1 (decide (3 = 1 ∨ 3 = 4)) x bw = x from rfl] at hT
      rw [show aw_h1 (decide (3 = 2 ∨ 3 = 4)) y bh = y from rfl] at hT
      rw [show aw_h2 (decide (3 = 1 ∨ 3 = 4)) x bw = bw from rfl] at hT
      rw [show aw_h2 (decide (3 = 2 ∨ 3 = 4)) y bh = bh from rfl] at hT
      refine aw_cTA (pc' := 63) rfl hT rfl ?_
      exact am_R.reti rfl rfl rfl
theorem aw_k50_4 {w : Nat → am_C} {g : am_H} (D : Nat) {a f1 f2 la n : Nat} (x y bw bh F : Int32) (ha : g[a]? = some (aw_cS (aw_dvw 4) f1 f2 la n)) (hT : aw_TA g D (if aw_fs 4 x y bw bh = true then f1 else f2) (aw_h1 (decide (4 = 1 ∨ 4 = 4)) x bw) (aw_h1 (decide (4 = 2 ∨ 4 = 4)) y bh) (aw_h2 (decide (4 = 1 ∨ 4 = 4)) x bw) (aw_h2 (decide (4 = 2 ∨ 4 = 4)) y bh) F) : am_R (D + 1) 50 0 [some (.ref (1045 + a)), some (.int x), some (.int y), some (.int bw), some (.int bh), none, none, none, none, none] [] (am_h w g) (.inl (some (.int F))) (am_h w g) := by
  refine am_R.nxs 1 (pc' := 1) (lv' := [some (.ref (1045 + a)), some (.int x), some (.int y), some (.int bw), some (.int bh), none, none, none, none, none]) (st' := [.ref (1045 + a)]) (h1 := am_h w g) rfl ?_
  refine am_R.gf (pc' := 4) (v := .ref 11) rfl (am_gfn a ha) rfl rfl rfl ?_
  refine am_R.nxs 2 (pc' := 23) (lv' := [some (.ref (1045 + a)), some (.int x), some (.int y), some (.int bw), some (.int bh), none, none, none, none, none]) (st' := [.ref (1045 + a)]) (h1 := am_h w g) rfl ?_
  refine am_R.gf (pc' := 26) (v := .ref 11) rfl (am_gfn a ha) rfl rfl rfl ?_
  refine am_R.nxs 1 (pc' := 29) (lv' := [some (.ref (1045 + a)), some (.int x), some (.int y), some (.int bw), some (.int bh), none, none, none, none, none]) (st' := [.ref 20, .ref 11]) (h1 := am_h w g) rfl ?_
  refine am_R.acn (j1 := 11) (j2 := 20) (T := 64) (F := 32) rfl (by decide) (by decide) rfl rfl (fun b29 => ?_) (fun b29 => ?_)
  · refine am_R.nxs 1 (pc' := 65) (lv' := [some (.ref (1045 + a)), some (.int x), some (.int y), some (.int bw), some (.int bh), none, none, none, none, none]) (st' := [.ref (1045 + a)]) (h1 := am_h w g) rfl ?_
    refine am_R.gf (pc' := 68) (v := .ref 11) rfl (am_gfn a ha) rfl rfl rfl ?_
    refine am_R.nxs 1 (pc' := 71) (lv' := [some (.ref (1045 + a)), some (.int x), some (.int y), some (.int bw), some (.int bh), none, none, none, none, none]) (st' := [.ref 18, .ref 11]) (h1 := am_h w g) rfl ?_
    refine am_R.ac (j1 := 11) (j2 := 18) (T := 85) (F := 74) rfl (by decide) (by decide) rfl rfl (fun b71 => ?_) (fun b71 => ?_)
    · exact absurd b71 (by decide)
    · refine am_R.ites 5 (P := x < (bw / 2)) (T := 85) (F := 81) (lv' := [some (.ref (1045 + a)), some (.int x), some (.int y), some (.int bw), some (.int bh), none, none, none, none, none]) (st' := []) (h1 := am_h w g) rfl (fun b78 => ?_) (fun b78 => ?_)
      · refine am_R.nxs 3 (pc' := 89) (lv' := [some (.ref (1045 + a)), some (.int x), some (.int y), some (.int bw), some (.int bh), some (.int 0), none, none, none, none]) (st' := [.ref (1045 + a)]) (h1 := am_h w g) rfl ?_
        refine am_R.gf (pc' := 92) (v := .ref 11) rfl (am_gfn a ha) rfl rfl rfl ?_
        refine am_R.nxs 1 (pc' := 95) (lv' := [some (.ref (1045 + a)), some (.int x), some (.int y), some (.int bw), some (.int bh), some (.int 0), none, none, none, none]) (st' := [.ref 19, .ref 11]) (h1 := am_h w g) rfl ?_
        refine am_R.ac (j1 := 11) (j2 := 19) (T := 110) (F := 98) rfl (by decide) (by decide) rfl rfl (fun b95 => ?_) (fun b95 => ?_)
        · exact absurd b95 (by decide)
        · refine am_R.ites 5 (P := y < (bh / 2)) (T := 110) (F := 106) (lv' := [some (.ref (1045 + a)), some (.int x), some (.int y), some (.int bw), some (.int bh), some (.int 0), none, none, none, none]) (st' := []) (h1 := am_h w g) rfl (fun b103 => ?_) (fun b103 => ?_)
          · refine am_R.nxs 2 (pc' := 113) (lv' := [some (.ref (1045 + a)), some (.int x), some (.int y), some (.int bw), some (.int bh), some (.int 0), some (.int 0), none, none, none]) (st' := []) (h1 := am_h w g) rfl ?_
            refine am_R.nxs 1 (pc' := 114) (lv' := [some (.ref (1045 + a)), some (.int x), some (.int y), some (.int bw), some (.int bh), some (.int 0), some (.int 0), none, none, none]) (st' := [.ref (1045 + a)]) (h1 := am_h w g) rfl ?_
            refine am_R.gf (pc' := 117) (v := .ref 11) rfl (am_gfn a ha) rfl rfl rfl ?_
            refine am_R.nxs 1 (pc' := 120) (lv' := [some (.ref (1045 + a)), some (.int x), some (.int y), some (.int bw), some (.int bh), some (.int 0), some (.int 0), none, none, none]) (st' := [.ref 18, .ref 11]) (h1 := am_h w g) rfl ?_
            refine am_R.acn (j1 := 11) (j2 := 18) (T := 127) (F := 123) rfl (by decide) (by decide) rfl rfl (fun b120 => ?_) (fun b120 => ?_)
            · refine am_R.ites 2 (P := 0 = 0) (T := 140) (F := 132) (lv' := [some (.ref (1045 + a)), some (.int x), some (.int y), some (.int bw), some (.int bh), some (.int 0), some (.int 0), none, none, none]) (st' := []) (h1 := am_h w g) rfl (fun b129 => ?_) (fun b129 => ?_)
              · refine am_R.nxs 5 (pc' := 146) (lv' := [some (.ref (1045 + a)), some (.int x), some (.int y), some (.int bw), some (.int bh), some (.int 0), some (.int 0), some (.int (bw / 2)), none, none]) (st' := [.ref (1045 + a)]) (h1 := am_h w g) rfl ?_
                refine am_R.gf (pc' := 149) (v := .ref 11) rfl (am_gfn a ha) rfl rfl rfl ?_
                refine am_R.nxs 1 (pc' := 152) (lv' := [some (.ref (1045 + a)), some (.int x), some (.int y), some (.int bw), some (.int bh), some (.int 0), some (.int 0), some (.int (bw / 2)), none, none]) (st' := [.ref 19, .ref 11]) (h1 := am_h w g) rfl ?_
                refine am_R.acn (j1 := 11) (j2 := 19) (T := 160) (F := 155) rfl (by decide) (by decide) rfl rfl (fun b152 => ?_) (fun b152 => ?_)
                · refine am_R.ites 2 (P := 0 = 0) (T := 175) (F := 165) (lv' := [some (.ref (1045 + a)), some (.int x), some (.int y), some (.int bw), some (.int bh), some (.int 0), some (.int 0), some (.int (bw / 2)), none, none]) (st' := []) (h1 := am_h w g) rfl (fun b162 => ?_) (fun b162 => ?_)
                  · refine am_R.ites 7 (P := ¬ 0 = 0) (T := 195) (F := 188) (lv' := [some (.ref (1045 + a)), some (.int x), some (.int y), some (.int bw), some (.int bh), some (.int 0), some (.int 0), some (.int (bw / 2)), some (.int (bh / 2)), none]) (st' := []) (h1 := am_h w g) rfl (fun b185 => ?_) (fun b185 => ?_)
                    · exact absurd rfl b185
                    · refine am_R.nxs 1 (pc' := 189) (lv' := [some (.ref (1045 + a)), some (.int x), some (.int y), some (.int bw), some (.int bh), some (.int 0), some (.int 0), some (.int (bw / 2)), some (.int (bh / 2)), none]) (st' := [.ref (1045 + a)]) (h1 := am_h w g) rfl ?_
                      refine am_R.gf (pc' := 192) (v := .ref (1045 + f1)) rfl (am_gfn a ha) rfl rfl rfl ?_
                      refine am_R.ites 5 (P := 0 = 0) (T := 216) (F := 208) (lv' := [some (.ref (1045 + a)), some (.int x), some (.int y), some (.int bw), some (.int bh), some (.int 0), some (.int 0), some (.int (bw / 2)), some (.int (bh / 2)), some (.ref (1045 + f1))]) (st' := [.ref (1045 + f1)]) (h1 := am_h w g) rfl (fun b205 => ?_) (fun b205 => ?_)
                      · refine am_R.ites 3 (P := 0 = 0) (T := 231) (F := 222) (lv' := [some (.ref (1045 + a)), some (.int x), some (.int y), some (.int bw), some (.int bh), some (.int 0), some (.int 0), some (.int (bw / 2)), some (.int (bh / 2)), some (.ref (1045 + f1))]) (st' := [.int x, .ref (1045 + f1)]) (h1 := am_h w g) rfl (fun b219 => ?_) (fun b219 => ?_)
                        · refine am_R.nxs 3 (pc' := 236) (lv' := [some (.ref (1045 + a)), some (.int x), some (.int y), some (.int bw), some (.int bh), some (.int 0), some (.int 0), some (.int (bw / 2)), some (.int (bh / 2)), some (.ref (1045 + f1))]) (st' := [.int (bh / 2), .int (bw / 2), .int y, .int x, .ref (1045 + f1)]) (h1 := am_h w g) rfl ?_
                          rw [show aw_fs 4 x y bw bh = true from decide_eq_true ⟨fun _ => (Int32.not_le.mpr b103), fun _ => (Int32.not_le.mpr b78)⟩] at hT
                          rw [if_pos rfl] at hT
                          rw [show aw_h1 (decide (4 = 1 ∨ 4 = 4)) x bw = x from if_neg (Int32.not_le.mpr b78)] at hT
                          rw [show aw_h1 (decide (4 = 2 ∨ 4 = 4)) y bh = y from if_neg (Int32.not_le.mpr b103)] at hT
                          rw [show aw_h2 (decide (4 = 1 ∨ 4 = 4)) x bw = (bw / 2) from if_neg (Int32.not_le.mpr b78)] at hT
                          rw [show aw_h2 (decide (4 = 2 ∨ 4 = 4)) y bh = (bh / 2) from if_neg (Int32.not_le.mpr b103)] at hT
                          refine aw_cTA (pc' := 241) rfl hT rfl ?_
                          exact am_R.reti rfl rfl rfl
                        · exact absurd rfl b219
                      · exact absurd rfl b205
                  · exact absurd rfl b162
                · exact absurd b152 (by decide)
              · exact absurd rfl b129
            · exact absurd b120 (by decide)
          · refine am_R.nxs 3 (pc' := 113) (lv' := [some (.ref (1045 + a)), some (.int x), some (.int y), some (.int bw), some (.int bh), some (.int 0), some (.int 1), none, none, none]) (st' := []) (h1 := am_h w g) rfl ?_
            refine am_R.nxs 1 (pc' := 114) (lv' := [some (.ref (1045 + a)), some (.int x), some (.int y), some (.int bw), some (.int bh), some (.int 0), some (.int 1), none, none, none]) (st' := [.ref (1045 + a)]) (h1 := am_h w g) rfl ?_
            refine am_R.gf (pc' := 117) (v := .ref 11) rfl (am_gfn a ha) rfl rfl rfl ?_
            refine am_R.nxs 1 (pc' := 120) (lv' := [some (.ref (1045 + a)), some (.int x), some (.int y), some (.int bw), some (.int bh), some (.int 0), some (.int 1), none, none, none]) (st' := [.ref 18, .ref 11]) (h1 := am_h w g) rfl ?_
            refine am_R.acn (j1 := 11) (j2 := 18) (T := 127) (F := 123) rfl (by decide) (by decide) rfl rfl (fun b120 => ?_) (fun b120 => ?_)
            · refine am_R.ites 2 (P := 0 = 0) (T := 140) (F := 132) (lv' := [some (.ref (1045 + a)), some (.int x), some (.int y), some (.int bw), some (.int bh), some (.int 0), some (.int 1), none, none, none]) (st' := []) (h1 := am_h w g) rfl (fun b129 => ?_) (fun b129 => ?_)
              · refine am_R.nxs 5 (pc' := 146) (lv' := [some (.ref (1045 + a)), some (.int x), some (.int y), some (.int bw), some (.int bh), some (.int 0), some (.int 1), some (.int (bw / 2)), none, none]) (st' := [.ref (1045 + a)]) (h1 := am_h w g) rfl ?_
                refine am_R.gf (pc' := 149) (v := .ref 11) rfl (am_gfn a ha) rfl rfl rfl ?_
                refine am_R.nxs 1 (pc' := 152) (lv' := [some (.ref (1045 + a)), some (.int x), some (.int y), some (.int bw), some (.int bh), some (.int 0), some (.int 1), some (.int (bw / 2)), none, none]) (st' := [.ref 19, .ref 11]) (h1 := am_h w g) rfl ?_
                refine am_R.acn (j1 := 11) (j2 := 19) (T := 160) (F := 155) rfl (by decide) (by decide) rfl rfl (fun b152 => ?_) (fun b152 => ?_)
                · refine am_R.ites 2 (P := 1 = 0) (T := 175) (F := 165) (lv' := [some (.ref (1045 + a)), some (.int x), some (.int y), some (.int bw), some (.int bh), some (.int 0), some (.int 1), some (.int (bw / 2)), none, none]) (st' := []) (h1 := am_h w g) rfl (fun b162 => ?_) (fun b162 => ?_)
                  · exact absurd b162 (by decide)
                  · refine am_R.ites 10 (P := ¬ 0 = 1) (T := 195) (F := 188) (lv' := [some (.ref (1045 + a)), some (.int x), some (.int y), some (.int bw), some (.int bh), some (.int 0), some (.int 1), some (.int (bw / 2)), some (.int (bh - (bh / 2))), none]) (st' := []) (h1 := am_h w g) rfl (fun b185 => ?_) (fun b185 => ?_)
                    · refine am_R.nxs 1 (pc' := 196) (lv' := [some (.ref (1045 + a)), some (.int x), some (.int y), some (.int bw), some (.int bh), some (.int 0), some (.int 1), some (.int (bw / 2)), some (.int (bh - (bh / 2))), none]) (st' := [.ref (1045 + a)]) (h1 := am_h w g) rfl ?_
                      refine am_R.gf (pc' := 199) (v := .ref (1045 + f2)) rfl (am_gfn a ha) rfl rfl rfl ?_
                      refine am_R.ites 4 (P := 0 = 0) (T := 216) (F := 208) (lv' := [some (.ref (1045 + a)), some (.int x), some (.int y), some (.int bw), some (.int bh), some (.int 0), some (.int 1), some (.int (bw / 2)), some (.int (bh - (bh / 2))), some (.ref (1045 + f2))]) (st' := [.ref (1045 + f2)]) (h1 := am_h w g) rfl (fun b205 => ?_) (fun b205 => ?_)
                      · refine am_R.ites 3 (P := 1 = 0) (T := 231) (F := 222) (lv' := [some (.ref (1045 + a)), some (.int x), some (.int y), some (.int bw), some (.int bh), some (.int 0), some (.int 1), some (.int (bw / 2)), some (.int (bh - (bh / 2))), some (.ref (1045 + f2))]) (st' := [.int x, .ref (1045 + f2)]) (h1 := am_h w g) rfl (fun b219 => ?_) (fun b219 => ?_)
                        · exact absurd b219 (by decide)
                        · refine am_R.nxs 8 (pc' := 236) (lv' := [some (.ref (1045 + a)), some (.int x), some (.int y), some (.int bw), some (.int bh), some (.int 0), some (.int 1), some (.int (bw / 2)), some (.int (bh - (bh / 2))), some (.ref (1045 + f2))]) (st' := [.int (bh - (bh / 2)), .int (bw / 2), .int (y - (bh / 2)), .int x, .ref (1045 + f2)]) (h1 := am_h w g) rfl ?_
                          rw [show aw_fs 4 x y bw bh = false from decide_eq_false (fun z => absurd (Int32.not_lt.mp b103) (z.mp (Int32.not_le.mpr b78)))] at hT
                          rw [if_neg (by decide)] at hT
                          rw [show aw_h1 (decide (4 = 1 ∨ 4 = 4)) x bw = x from if_neg (Int32.not_le.mpr b78)] at hT
                          rw [show aw_h1 (decide (4 = 2 ∨ 4 = 4)) y bh = (y - (bh / 2)) from if_pos (Int32.not_lt.mp b103)] at hT
                          rw [show aw_h2 (decide (4 = 1 ∨ 4 = 4)) x bw = (bw / 2) from if_neg (Int32.not_le.mpr b78)] at hT
                          rw [show aw_h2 (decide (4 = 2 ∨ 4 = 4)) y bh = (bh - (bh / 2)) from if_pos (Int32.not_lt.mp b103)] at hT
                          refine aw_cTA (pc' := 241) rfl hT rfl ?_
                          exact am_R.reti rfl rfl rfl
                      · exact absurd rfl b205
                    · exact absurd (by decide) b185
                · exact absurd b152 (by decide)
              · exact absurd rfl b129
            · exact absurd b120 (by decide)
      · refine am_R.nxs 4 (pc' := 89) (lv' := [some (.ref (1045 + a)), some (.int x), some (.int y), some (.int bw), some (.int bh), some (.int 1), none, none, none, none]) (st' := [.ref (1045 + a)]) (h1 := am_h w g) rfl ?_
        refine am_R.gf (pc' := 92) (v := .ref 11) rfl (am_gfn a ha) rfl rfl rfl ?_
        refine am_R.nxs 1 (pc' := 95) (lv' := [some (.ref (1045 + a)), some (.int x), some (.int y), some (.int bw), some (.int bh), some (.int 1), none, none, none, none]) (st' := [.ref 19, .ref 11]) (h1 := am_h w g) rfl ?_
        refine am_R.ac (j1 := 11) (j2 := 19) (T := 110) (F := 98) rfl (by decide) (by decide) rfl rfl (fun b95 => ?_) (fun b95 => ?_)
        · exact absurd b95 (by decide)
        · refine am_R.ites 5 (P := y < (bh / 2)) (T := 110) (F := 106) (lv' := [some (.ref (1045 + a)), some (.int x), some (.int y), some (.int bw), some (.int bh), some (.int 1), none, none, none, none]) (st' := []) (h1 := am_h w g) rfl (fun b103 => ?_) (fun b103 => ?_)
          · refine am_R.nxs 2 (pc' := 113) (lv' := [some (.ref (1045 + a)), some (.int x), some (.int y), some (.int bw), some (.int bh), some (.int 1), some (.int 0), none, none, none]) (st' := []) (h1 := am_h w g) rfl ?_
            refine am_R.nxs 1 (pc' := 114) (lv' := [some (.ref (1045 + a)), some (.int x), some (.int y), some (.int bw), some (.int bh), some (.int 1), some (.int 0), none, none, none]) (st' := [.ref (1045 + a)]) (h1 := am_h w g) rfl ?_
            refine am_R.gf (pc' := 117) (v := .ref 11) rfl (am_gfn a ha) rfl rfl rfl ?_
            refine am_R.nxs 1 (pc' := 120) (lv' := [some (.ref (1045 + a)), some (.int x), some (.int y), some (.int bw), some (.int bh), some (.int 1), some (.int 0), none, none, none]) (st' := [.ref 18, .ref 11]) (h1 := am_h w g) rfl ?_
            refine am_R.acn (j1 := 11) (j2 := 18) (T := 127) (F := 123) rfl (by decide) (by decide) rfl rfl (fun b120 => ?_) (fun b120 => ?_)
            · refine am_R.ites 2 (P := 1 = 0) (T := 140) (F := 132) (lv' := [some (.ref (1045 + a)), some (.int x), some (.int y), some (.int bw), some (.int bh), some (.int 1), some (.int 0), none, none, none]) (st' := []) (h1 := am_h w g) rfl (fun b129 => ?_) (fun b129 => ?_)
              · exact absurd b129 (by decide)
              · refine am_R.nxs 8 (pc' := 146) (lv' := [some (.ref (1045 + a)), some (.int x), some (.int y), some (.int bw), some (.int bh), some (.int 1), some (.int 0), some (.int (bw - (bw / 2))), none, none]) (st' := [.ref (1045 + a)]) (h1 := am_h w g) rfl ?_
                refine am_R.gf (pc' := 149) (v := .ref 11) rfl (am_gfn a ha) rfl rfl rfl ?_
                refine am_R.nxs 1 (pc' := 152) (lv' := [some (.ref (1045 + a)), some (.int x), some (.int y), some (.int bw), some (.int bh), some (.int 1), some (.int 0), some (.int (bw - (bw / 2))), none, none]) (st' := [.ref 19, .ref 11]) (h1 := am_h w g) rfl ?_
                refine am_R.acn (j1 := 11) (j2 := 19) (T := 160) (F := 155) rfl (by decide) (by decide) rfl rfl (fun b152 => ?_) (fun b152 => ?_)
                · refine am_R.ites 2 (P := 0 = 0) (T := 175) (F := 165) (lv' := [some (.ref (1045 + a)), some (.int x), some (.int y), some (.int bw), some (.int bh), some (.int 1), some (.int 0), some (.int (bw - (bw / 2))), none, none]) (st' := []) (h1 := am_h w g) rfl (fun b162 => ?_) (fun b162 => ?_)
                  · refine am_R.ites 7 (P := ¬ 1 = 0) (T := 195) (F := 188) (lv' := [some (.ref (1045 + a)), some (.int x), some (.int y), some (.int bw), some (.int bh), some (.int 1), some (.int 0), some (.int (bw - (bw / 2))), some (.int (bh / 2)), none]) (st' := []) (h1 := am_h w g) rfl (fun b185 => ?_) (fun b185 => ?_)
                    · refine am_R.nxs 1 (pc' := 196) (lv' := [some (.ref (1045 + a)), some (.int x), some (.int y), some (.int bw), some (.int bh), some (.int 1), some (.int 0), some (.int (bw - (bw / 2))), some (.int (bh / 2)), none]) (st' := [.ref (1045 + a)]) (h1 := am_h w g) rfl ?_
                      refine am_R.gf (pc' := 199) (v := .ref (1045 + f2)) rfl (am_gfn a ha) rfl rfl rfl ?_
                      refine am_R.ites 4 (P := 1 = 0) (T := 216) (F := 208) (lv' := [some (.ref (1045 + a)), some (.int x), some (.int y), some (.int bw), some (.int bh), some (.int 1), some (.int 0), some (.int (bw - (bw / 2))), some (.int (bh / 2)), some (.ref (1045 + f2))]) (st' := [.ref (1045 + f2)]) (h1 := am_h w g) rfl (fun b205 => ?_) (fun b205 => ?_)
                      · exact absurd b205 (by decide)
                      · refine am_R.ites 8 (P := 0 = 0) (T := 231) (F := 222) (lv' := [some (.ref (1045 + a)), some (.int x), some (.int y), some (.int bw), some (.int bh), some (.int 1), some (.int 0), some (.int (bw - (bw / 2))), some (.int (bh / 2)), some (.ref (1045 + f2))]) (st' := [.int (x - (bw / 2)), .ref (1045 + f2)]) (h1 := am_h w g) rfl (fun b219 => ?_) (fun b219 => ?_)
                        · refine am_R.nxs 3 (pc' := 236) (lv' := [some (.ref (1045 + a)), some (.int x), some (.int y), some (.int bw), some (.int bh), some (.int 1), some (.int 0), some (.int (bw - (bw / 2))), some (.int (bh / 2)), some (.ref (1045 + f2))]) (st' := [.int (bh / 2), .int (bw - (bw / 2)), .int y, .int (x - (bw / 2)), .ref (1045 + f2)]) (h1 := am_h w g) rfl ?_
                          rw [show aw_fs 4 x y bw bh = false from decide_eq_false (fun z => absurd (Int32.not_lt.mp b78) (z.mpr (Int32.not_le.mpr b103)))] at hT
                          rw [if_neg (by decide)] at hT
                          rw [show aw_h1 (decide (4 = 1 ∨ 4 = 4)) x bw = (x - (bw / 2)) from if_pos (Int32.not_lt.mp b78)] at hT
                          rw [show aw_h1 (decide (4 = 2 ∨ 4 = 4)) y bh = y from if_neg (Int32.not_le.mpr b103)] at hT
                          rw [show aw_h2 (decide (4 = 1 ∨ 4 = 4)) x bw = (bw - (bw / 2)) from if_pos (Int32.not_lt.mp b78)] at hT
                          rw [show aw_h2 (decide (4 = 2 ∨ 4 = 4)) y bh = (bh / 2) from if_neg (Int32.not_le.mpr b103)] at hT
                          refine aw_cTA (pc' := 241) rfl hT rfl ?_
                          exact am_R.reti rfl rfl rfl
                        · exact absurd rfl b219
                    · exact absurd (by decide) b185
                  · exact absurd rfl b162
                · exact absurd b152 (by decide)
            · exact absurd b120 (by decide)
          · refine am_R.nxs 3 (pc' := 113) (lv' := [some (.ref (1045 + a)), some (.int x), some (.int y), some (.int bw), some (.int bh), some (.int 1), some (.int 1), none, none, none]) (st' := []) (h1 := am_h w g) rfl ?_
            refine am_R.nxs 1 (pc' := 114) (lv' := [some (.ref (1045 + a)), some (.int x), some (.int y), some (.int bw), some (.int bh), some (.int 1), some (.int 1), none, none, none]) (st' := [.ref (1045 + a)]) (h1 := am_h w g) rfl ?_
            refine am_R.gf (pc' := 117) (v := .ref 11) rfl (am_gfn a ha) rfl rfl rfl ?_
            refine am_R.nxs 1 (pc' := 120) (lv' := [some (.ref (1045 + a)), some (.int x), some (.int y), some (.int bw), some (.int bh), some (.int 1), some (.int 1), none, none, none]) (st' := [.ref 18, .ref 11]) (h1 := am_h w g) rfl ?_
            refine am_R.acn (j1 := 11) (j2 := 18) (T := 127) (F := 123) rfl (by decide) (by decide) rfl rfl (fun b120 => ?_) (fun b120 => ?_)
            · refine am_R.ites 2 (P := 1 = 0) (T := 140) (F := 132) (lv' := [some (.ref (1045 + a)), some (.int x), some (.int y), some (.int bw), some (.int bh), some (.int 1), some (.int 1), none, none, none]) (st' := []) (h1 := am_h w g) rfl (fun b129 => ?_) (fun b129 => ?_)
              · exact absurd b129 (by decide)
              · refine am_R.nxs 8 (pc' := 146) (lv' := [some (.ref (1045 + a)), some (.int x), some (.int y), some (.int bw), some (.int bh), some (.int 1), some (.int 1), some (.int (bw - (bw / 2))), none, none]) (st' := [.ref (1045 + a)]) (h1 := am_h w g) rfl ?_
                refine am_R.gf (pc' := 149) (v := .ref 11) rfl (am_gfn a ha) rfl rfl rfl ?_
                refine am_R.nxs 1 (pc' := 152) (lv' := [some (.ref (1045 + a)), some (.int x), some (.int y), some (.int bw), some (.int bh), some (.int 1), some (.int 1), some (.int (bw - (bw / 2))), none, none]) (st' := [.ref 19, .ref 11]) (h1 := am_h w g) rfl ?_
                refine am_R.acn (j1 := 11) (j2 := 19) (T := 160) (F := 155) rfl (by decide) (by decide) rfl rfl (fun b152 => ?_) (fun b152 => ?_)
                · refine am_R.ites 2 (P := 1 = 0) (T := 175) (F := 165) (lv' := [some (.ref (1045 + a)), some (.int x), some (.int y), some (.int bw), some (.int bh), some (.int 1), some (.int 1), some (.int (bw - (bw / 2))), none, none]) (st' := []) (h1 := am_h w g) rfl (fun b162 => ?_) (fun b162 => ?_)
                  · exact absurd b162 (by decide)
                  · refine am_R.ites 10 (P := ¬ 1 = 1) (T := 195) (F := 188) (lv' := [some (.ref (1045 + a)), some (.int x), some (.int y), some (.int bw), some (.int bh), some (.int 1), some (.int 1), some (.int (bw - (bw / 2))), some (.int (bh - (bh / 2))), none]) (st' := []) (h1 := am_h w g) rfl (fun b185 => ?_) (fun b185 => ?_)
                    · exact absurd rfl b185
                    · refine am_R.nxs 1 (pc' := 189) (lv' := [some (.ref (1045 + a)), some (.int x), some (.int y), some (.int bw), some (.int bh), some (.int 1), some (.int 1), some (.int (bw - (bw / 2))), some (.int (bh - (bh / 2))), none]) (st' := [.ref (1045 + a)]) (h1 := am_h w g) rfl ?_
                      refine am_R.gf (pc' := 192) (v := .ref (1045 + f1)) rfl (am_gfn a ha) rfl rfl rfl ?_
                      refine am_R.ites 5 (P := 1 = 0) (T := 216) (F := 208) (lv' := [some (.ref (1045 + a)), some (.int x), some (.int y), some (.int bw), some (.int bh), some (.int 1), some (.int 1), some (.int (bw - (bw / 2))), some (.int (bh - (bh / 2))), some (.ref (1045 + f1))]) (st' := [.ref (1045 + f1)]) (h1 := am_h w g) rfl (fun b205 => ?_) (fun b205 => ?_)
                      · exact absurd b205 (by decide)
                      · refine am_R.ites 8 (P := 1 = 0) (T := 231) (F := 222) (lv' := [some (.ref (1045 + a)), some (.int x), some (.int y), some (.int bw), some (.int bh), some (.int 1), some (.int 1), some (.int (bw - (bw / 2))), some (.int (bh - (bh / 2))), some (.ref (1045 + f1))]) (st' := [.int (x - (bw / 2)), .ref (1045 + f1)]) (h1 := am_h w g) rfl (fun b219 => ?_) (fun b219 => ?_)
                        · exact absurd b219 (by decide)
                        · refine am_R.nxs 8 (pc' := 236) (lv' := [some (.ref (1045 + a)), some (.int x), some (.int y), some (.int bw), some (.int bh), some (.int 1), some (.int 1), some (.int (bw - (bw / 2))), some (.int (bh - (bh / 2))), some (.ref (1045 + f1))]) (st' := [.int (bh - (bh / 2)), .int (bw - (bw / 2)), .int (y - (bh / 2)), .int (x - (bw / 2)), .ref (1045 + f1)]) (h1 := am_h w g) rfl ?_
                          rw [show aw_fs 4 x y bw bh = true from decide_eq_true ⟨fun z => absurd (Int32.not_lt.mp b78) z, fun z => absurd (Int32.not_lt.mp b103) z⟩] at hT
                          rw [if_pos rfl] at hT
                          rw [show aw_h1 (decide (4 = 1 ∨ 4 = 4)) x bw = (x - (bw / 2)) from if_pos (Int32.not_lt.mp b78)] at hT
                          rw [show aw_h1 (decide (4 = 2 ∨ 4 = 4)) y bh = (y - (bh / 2)) from if_pos (Int32.not_lt.mp b103)] at hT
                          rw [show aw_h2 (decide (4 = 1 ∨ 4 = 4)) x bw = (bw - (bw / 2)) from if_pos (Int32.not_lt.mp b78)] at hT
                          rw [show aw_h2 (decide (4 = 2 ∨ 4 = 4)) y bh = (bh - (bh / 2)) from if_pos (Int32.not_lt.mp b103)] at hT
                          refine aw_cTA (pc' := 241) rfl hT rfl ?_
                          exact am_R.reti rfl rfl rfl
                · exact absurd b152 (by decide)
            · exact absurd b120 (by decide)
  · exact absurd b29 (by decide)
theorem aw_k50 {w : Nat → am_C} {g : am_H} (D : Nat) {a f1 f2 la n : Nat} (x y bw bh F : Int32) {k : Nat} (hk : k ≤ 4) (ha : g[a]? = some (aw_cS (aw_dvw k) f1 f2 la n)) (hT : aw_TA g D (if aw_fs k x y bw bh = true then f1 else f2) (aw_h1 (decide (k = 1 ∨ k = 4)) x bw) (aw_h1 (decide (k = 2 ∨ k = 4)) y bh) (aw_h2 (decide (k = 1 ∨ k = 4)) x bw) (aw_h2 (decide (k = 2 ∨ k = 4)) y bh) F) : am_R (D + 1) 50 0 [some (.ref (1045 + a)), some (.int x), some (.int y), some (.int bw), some (.int bh), none, none, none, none, none] [] (am_h w g) (.inl (some (.int F))) (am_h w g) := by
  rcases (by omega : k = 0 ∨ k = 1 ∨ k = 2 ∨ k = 3 ∨ k = 4) with q | q | q | q | q <;> subst q
  · exact aw_k50_0 D x y bw bh F ha hT
  · exact aw_k50_1 D x y bw bh F ha hT
  · exact aw_k50_2 D x y bw bh F ha hT
  · exact aw_k50_3 D x y bw bh F ha hT
  · exact aw_k50_4 D x y bw bh F ha hT
def aw_ot (F v1 v2 : Int32) : Int32 := if ¬ F = aw_pl v1 then aw_pl v1 else aw_pl v2
theorem aw_k65 {w : Nat → am_C} {g : am_H} (d : Nat) {a f1 f2 la n : Nat} {dv : Value} (ha : g[a]? = some (aw_cS dv f1 f2 la n)) {v1 v2 : Int32} (hv1 : aw_PT g f1 v1) (hv2 : aw_PT g f2 v2) (F : Int32) : am_R (d + 1) 65 0 [some (.ref (1045 + a)), some (.int F)] [] (am_h w g) (.inl (some (.int (aw_ot F v1 v2)))) (am_h w g) := by
  refine am_R.nxs 2 (pc' := 2) (lv' := [some (.ref (1045 + a)), some (.int F)]) (st' := [.ref (1045 + a), .int F]) (h1 := am_h w g) rfl ?_
  refine am_R.gf (pc' := 5) (v := .ref (1045 + f1)) rfl (am_gfn a ha) rfl rfl rfl ?_
  refine aw_cPT (pc' := 10) (r := [.int F]) rfl hv1 (Nat.le_of_ble_eq_true rfl) rfl ?_
  refine am_R.ites 1 (P := ¬ F = (aw_pl v1)) (T := 25) (F := 13) (lv' := [some (.ref (1045 + a)), some (.int F)]) (st' := []) (h1 := am_h w g) rfl (fun b10 => ?_) (fun b10 => ?_)
  · refine am_R.nxs 1 (pc' := 26) (lv' := [some (.ref (1045 + a)), some (.int F)]) (st' := [.ref (1045 + a)]) (h1 := am_h w g) rfl ?_
    refine am_R.gf (pc' := 29) (v := .ref (1045 + f1)) rfl (am_gfn a ha) rfl rfl rfl ?_
    refine aw_cPT (pc' := 34) (r := []) rfl hv1 (Nat.le_of_ble_eq_true rfl) rfl ?_
    rw [show aw_ot F v1 v2 = (aw_pl v1) from if_pos b10]
    exact am_R.reti rfl rfl rfl
  · refine am_R.nxs 1 (pc' := 14) (lv' := [some (.ref (1045 + a)), some (.int F)]) (st' := [.ref (1045 + a)]) (h1 := am_h w g) rfl ?_
    refine am_R.gf (pc' := 17) (v := .ref (1045 + f2)) rfl (am_gfn a ha) rfl rfl rfl ?_
    refine aw_cPT (pc' := 22) (r := []) rfl hv2 (Nat.le_of_ble_eq_true rfl) rfl ?_
    refine am_R.nxs 1 (pc' := 34) (lv' := [some (.ref (1045 + a)), some (.int F)]) (st' := [.int (aw_pl v2)]) (h1 := am_h w g) rfl ?_
    rw [show aw_ot F v1 v2 = (aw_pl v2) from if_neg b10]
    exact am_R.reti rfl rfl rfl
/-- the layer at a: it covers the cell (b), its tincture (t) -/
def aw_LY (g : am_H) (D a : Nat) (x y bw bh : Int32) (b : Bool) (t : Int32) : Prop := ∃ (ci : Nat) (fs : List Value) (mj k : Nat), g[a]? = some (.inl (ci, fs)) ∧ am_tgt 77 ci = some mj ∧ (∀ r, am_fit mj [.ref (1045 + a), .int x, .int y, .int bw, .int bh] r = decide ((r.map fun v => v.category).sum ≤ 8)) ∧ (∀ w : Nat → am_C, am_R D mj 0 (am_ent mj [.ref (1045 + a), .int x, .int y, .int bw, .int bh]) [] (am_h w g) (.inl (some (.int (if b = true then 1 else 0)))) (am_h w g)) ∧ am_pos ci 27 = some k ∧ fs[k]? = some (.int t)
def aw_pk (BT : List (Bool × Int32)) (F O : Int32) : Nat → Int32
  | 0 => F
  | m + 1 => if (BT.getD m (false, 0)).1 = true then (if (BT.getD m (false, 0)).2 = 9 then O else (BT.getD m (false, 0)).2) else aw_pk BT F O m
theorem aw_neg1 (m : Nat) : Int32.ofNat (m + 1) - 1 = Int32.ofNat m := am_sub (a := m + 1) (b := 1) (by omega)
theorem aw_dec (m : Nat) : Int32.ofNat m + -1 = Int32.ofNat m - 1 := by
  rw [Int32.sub_eq_add_neg]
theorem aw_lref {L : List Nat} {m a : Nat} (h : L[m]? = some a) (n : Nat) : (L.map (fun a => Value.ref (1045 + a)) ++ List.replicate n Value.null)[m]? = some (.ref (1045 + a)) := by
  rw [List.getElem?_append_left (by rw [List.length_map]; exact (List.getElem?_eq_some_iff.mp h).1), List.getElem?_map, h]
  rfl
theorem aw_k49l {w : Nat → am_C} {g : am_H} (D : Nat) {a f1 f2 la : Nat} {dv : Value} {L : List Nat} (ha : g[a]? = some (aw_cS dv f1 f2 la L.length)) (hla : g[la]? = some (aw_ar L)) (h8 : L.length ≤ 8) {v1 v2 : Int32} (hv1 : aw_PT g f1 v1) (hv2 : aw_PT g f2 v2) (x y bw bh F : Int32) {BT : List (Bool × Int32)} (hBT : ∀ k c : Nat, L[k]? = some c → ∃ b t, BT[k]? = some (b, t) ∧ aw_LY g (D + 1) c x y bw bh b t) : ∀ (m : Nat) (x7 : Option Value), m ≤ L.length → am_R (D + 2) 49 19 [some (.ref (1045 + a)), some (.int x), some (.int y), some (.int bw), some (.int bh), some (.int F), some (.int (Int32.ofNat m - 1)), x7] [] (am_h w g) (.inl (some (.int (aw_pk BT F (aw_ot F v1 v2) m)))) (am_h w g) := by
  have hll : (L.map (fun a => Value.ref (1045 + a)) ++ List.replicate (8 - L.length) Value.null).length = 8 := by rw [List.length_append, List.length_map, List.length_replicate]; omega
  intro m
  induction m with
  | zero =>
    intro x7 hm
    refine am_R.ites 2 (P := (Int32.ofNat 0 - 1) < 0) (T := 79) (F := 24) (lv' := [some (.ref (1045 + a)), some (.int x), some (.int y), some (.int bw), some (.int bh), some (.int F), some (.int (Int32.ofNat 0 - 1)), x7]) (st' := []) (h1 := am_h w g) rfl (fun b21 => ?_) (fun b21 => ?_)
    · refine am_R.nxs 1 (pc' := 81) (lv' := [some (.ref (1045 + a)), some (.int x), some (.int y), some (.int bw), some (.int bh), some (.int F), some (.int (Int32.ofNat 0 - 1)), x7]) (st' := [.int F]) (h1 := am_h w g) rfl ?_
      exact am_R.reti rfl rfl rfl
    · exact absurd (by decide) b21
  | succ m ih =>
    intro x7 hm
    rw [aw_neg1]
    have hc : L[m]? = some (L[m]'(by omega)) := List.getElem?_eq_getElem (by omega)
    generalize L[m]'(by omega) = c at hc
    obtain ⟨b, t, hbt, ci, fs, mj, kk, y1, y2, y3, y4, y5, y6⟩ := hBT m c hc
    have hg : BT.getD m (false, 0) = (b, t) := by rw [List.getD_eq_getElem?_getD, hbt]; rfl
    refine am_R.ites 2 (P := Int32.ofNat m < 0) (T := 79) (F := 24) (lv' := [some (.ref (1045 + a)), some (.int x), some (.int y), some (.int bw), some (.int bh), some (.int F), some (.int (Int32.ofNat m)), x7]) (st' := []) (h1 := am_h w g) rfl (fun b21 => ?_) (fun b21 => ?_)
    · exact absurd b21 (aw_nn m)
    · refine am_R.nxs 1 (pc' := 25) (lv' := [some (.ref (1045 + a)), some (.int x), some (.int y), some (.int bw), some (.int bh), some (.int F), some (.int (Int32.ofNat m)), x7]) (st' := [.ref (1045 + a)]) (h1 := am_h w g) rfl ?_
      refine am_R.gf (pc' := 28) (v := .ref (1045 + la)) rfl (am_gfn a ha) rfl rfl rfl ?_
      refine am_R.nxs 1 (pc' := 30) (lv' := [some (.ref (1045 + a)), some (.int x), some (.int y), some (.int bw), some (.int bh), some (.int F), some (.int (Int32.ofNat m)), x7]) (st' := [.int (Int32.ofNat m), .ref (1045 + la)]) (h1 := am_h w g) rfl ?_
      refine am_R.lda (i := m) (xs := (L.map (fun a => Value.ref (1045 + a)) ++ List.replicate (8 - L.length) Value.null)) (v := .ref (1045 + c)) (pc' := 31) rfl (am_gfn la hla) (by decide) (by omega) (by omega) (aw_lref hc _) rfl ?_
      refine am_R.nxs 4 (pc' := 36) (lv' := [some (.ref (1045 + a)), some (.int x), some (.int y), some (.int bw), some (.int bh), some (.int F), some (.int (Int32.ofNat m)), x7]) (st' := [.int bh, .int bw, .int y, .int x, .ref (1045 + c)]) (h1 := am_h w g) rfl ?_
      refine am_R.cv (a := 1045 + c) (as' := [.int x, .int y, .int bw, .int bh]) (r := []) (v := some (.int (if b = true then 1 else 0))) (h1 := am_h w g) (pc' := 39) rfl rfl rfl rfl (am_gfn c y1) y2 (by rw [y3]; rfl) (y4 w) rfl ?_
      refine am_R.ites 1 (P := (if b = true then 1 else 0) = 0) (T := 73) (F := 42) (lv' := [some (.ref (1045 + a)), some (.int x), some (.int y), some (.int bw), some (.int bh), some (.int F), some (.int (Int32.ofNat m)), x7]) (st' := []) (h1 := am_h w g) rfl (fun b39 => ?_) (fun b39 => ?_)
      · refine am_R.nxs 2 (pc' := 19) (lv' := [some (.ref (1045 + a)), some (.int x), some (.int y), some (.int bw), some (.int bh), some (.int F), some (.int (Int32.ofNat m + -1)), x7]) (st' := []) (h1 := am_h w g) rfl ?_
        rw [aw_dec]
        rw [show aw_pk BT F (aw_ot F v1 v2) (m + 1) = aw_pk BT F (aw_ot F v1 v2) m by rw [aw_pk, hg, if_neg (by rw [aw_00 b39]; exact Bool.false_ne_true)]]
        exact ih _ (by omega)
      · refine am_R.nxs 1 (pc' := 43) (lv' := [some (.ref (1045 + a)), some (.int x), some (.int y), some (.int bw), some (.int bh), some (.int F), some (.int (Int32.ofNat m)), x7]) (st' := [.ref (1045 + a)]) (h1 := am_h w g) rfl ?_
        refine am_R.gf (pc' := 46) (v := .ref (1045 + la)) rfl (am_gfn a ha) rfl rfl rfl ?_
        refine am_R.nxs 1 (pc' := 48) (lv' := [some (.ref (1045 + a)), some (.int x), some (.int y), some (.int bw), some (.int bh), some (.int F), some (.int (Int32.ofNat m)), x7]) (st' := [.int (Int32.ofNat m), .ref (1045 + la)]) (h1 := am_h w g) rfl ?_
        refine am_R.lda (i := m) (xs := (L.map (fun a => Value.ref (1045 + a)) ++ List.replicate (8 - L.length) Value.null)) (v := .ref (1045 + c)) (pc' := 49) rfl (am_gfn la hla) (by decide) (by omega) (by omega) (aw_lref hc _) rfl ?_
        refine am_R.gf (pc' := 52) (v := .int t) rfl (am_gfn c y1) y5 y6 rfl ?_
        refine am_R.ites 4 (P := ¬ t = 9) (T := 70) (F := 61) (lv' := [some (.ref (1045 + a)), some (.int x), some (.int y), some (.int bw), some (.int bh), some (.int F), some (.int (Int32.ofNat m)), some (.int t)]) (st' := []) (h1 := am_h w g) rfl (fun b58 => ?_) (fun b58 => ?_)
        · refine am_R.nxs 1 (pc' := 72) (lv' := [some (.ref (1045 + a)), some (.int x), some (.int y), some (.int bw), some (.int bh), some (.int F), some (.int (Int32.ofNat m)), some (.int t)]) (st' := [.int t]) (h1 := am_h w g) rfl ?_
          rw [show aw_pk BT F (aw_ot F v1 v2) (m + 1) = t by rw [aw_pk, hg, if_pos (aw_01 b39)]; exact if_neg b58]
          exact am_R.reti rfl rfl rfl
        · refine am_R.nxs 2 (pc' := 64) (lv' := [some (.ref (1045 + a)), some (.int x), some (.int y), some (.int bw), some (.int bh), some (.int F), some (.int (Int32.ofNat m)), some (.int t)]) (st' := [.int F, .ref (1045 + a)]) (h1 := am_h w g) rfl ?_
          refine am_R.cv (a := (1045 + a)) (as' := [.int F]) (r := []) (v := some (.int (aw_ot F v1 v2))) (h1 := am_h w g) (pc' := 67) rfl rfl rfl rfl (am_gfn a ha) rfl rfl (aw_k65 D ha hv1 hv2 F) rfl ?_
          refine am_R.nxs 1 (pc' := 72) (lv' := [some (.ref (1045 + a)), some (.int x), some (.int y), some (.int bw), some (.int bh), some (.int F), some (.int (Int32.ofNat m)), some (.int t)]) (st' := [.int (aw_ot F v1 v2)]) (h1 := am_h w g) rfl ?_
          rw [show aw_pk BT F (aw_ot F v1 v2) (m + 1) = (aw_ot F v1 v2) by rw [aw_pk, hg, if_pos (aw_01 b39)]; exact if_pos (Decidable.not_not.mp b58)]
          exact am_R.reti rfl rfl rfl
