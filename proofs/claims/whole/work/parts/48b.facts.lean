/-! What the Statement says of the start, in the small machine's words: am_Fx at every later state. -/
set_option maxRecDepth 100000 in
theorem am_noA : am_stat.zipIdx.all (fun z => am_nok z.2 z.1) = true := by decide +kernel
def am_vok (v : Value) : Bool := match v with
  | .int _ => true
  | .ref a => decide (a < 116)
  | _ => false
def am_cok (c : am_C) : Bool := match c with
  | .inl (ci, fs) => fs.all am_vok && decide (0 < (am_lay ci).length) && decide (0 < fs.length)
  | .inr (_, xs) => xs.all am_vok && decide (xs.length < 1000)
set_option maxRecDepth 100000 in
theorem am_cokA : am_stat.all am_cok = true := by decide +kernel
theorem am_stat116 : am_stat.length = 116 := by decide +kernel
section AmStart
variable {a0 : Array Value} {s0 : State} {b : Nat} {xs : List Int32}
def am_ad (a0 : Array Value) (s0 : State) (k : Nat) : Nat := match (am_tm k).eval a0 s0 none [] s0 with
  | some (.ref a) => a
  | _ => 0
def am_fcl (s0 : State) (C : String) : ClassId := (s0.vm.findClass C).getD 0
def am_so (s0 : State) (f : Nat) : Nat := match s0.fieldFound? (am_fd f).1 (am_fd f).2.1 (am_fd f).2.2 with
  | some (_, _, _, fd) => fd.slot
  | none => 0
def am_X0 (a0 : Array Value) (s0 : State) (b : Nat) (xs : List Int32) : am_X := (am_ad a0 s0, s0.heap.size, fun ci => am_fcl s0 (am_cn ci), am_so s0, fun t => am_fcl s0 ("[" ++ (am_ty t).toString), b, xs)
theorem am_nd_ok (hn : ∀ w ∈ flatC narrow_1, w.before a0 s0 = true) {k : Nat} {c : am_C} (h : am_stat[k]? = some c) : ∀ w ∈ am_nd k c, w.before a0 s0 = true := by
  intro w hw
  have hz : (c, k) ∈ am_stat.zipIdx := by
    refine List.mem_of_getElem? (i := k) ?_
    rw [List.getElem?_zipIdx, h]
    simp
  have q := List.all_eq_true.mp am_noA _ hz
  simp only [am_nok, decide_eq_true_eq] at q
  have hm : some w ∈ (am_niL.getD k []).map (fun i => (flatC narrow_1)[i]?) := by
    rw [q]
    exact List.mem_map.mpr ⟨w, hw, rfl⟩
  obtain ⟨i, -, hi⟩ := List.mem_map.mp hm
  exact hn w (List.mem_of_getElem? hi)
theorem am_ev0 (hn : ∀ w ∈ flatC narrow_1, w.before a0 s0 = true) {k : Nat} {c : am_C} (h : am_stat[k]? = some c) : (am_tm k).eval a0 s0 none [] s0 = some (.ref (am_ad a0 s0 k)) := by
  have key : ∃ a, (am_tm k).eval a0 s0 none [] s0 = some (.ref a) := by
    rcases c with ⟨ci, fs⟩ | ⟨t, ys⟩
    · obtain ⟨a, -, -, -, q1, -⟩ := Cond.exactly_spec (args := a0) (first := s0) (o := none) (s := s0) (idx := []) (am_nd_ok hn h _ List.mem_cons_self)
      exact ⟨a, q1⟩
    · have hl := va_eqv (am_nd_ok hn h _ (List.mem_cons_of_mem _ List.mem_cons_self)) (rfl : (Term.int (Int32.ofNat ys.length)).eval a0 s0 none [] s0 = _)
      obtain ⟨t, -, ht, -⟩ := Term.length_spec hl
      exact ⟨t, ht⟩
  obtain ⟨a, ha⟩ := key
  rw [ha]
  unfold am_ad
  rw [ha]
theorem am_vt_ev (hn : ∀ w ∈ flatC narrow_1, w.before a0 s0 = true) {v : Value} (hv : am_vok v = true) : (am_vt v).eval a0 s0 none [] s0 = some (am_v (am_X0 a0 s0 b xs) v) := by
  cases v with
  | int x => rfl
  | ref a =>
    have ha : a < 116 := by simpa [am_vok] using hv
    have hs : am_stat[a]? = some (am_stat[a]'(by rw [am_stat116]; exact ha)) := List.getElem?_eq_getElem _
    show (am_tm a).eval a0 s0 none [] s0 = some (.ref (am_ph (am_X0 a0 s0 b xs) a))
    rw [am_ev0 hn hs, am_ph, if_pos (Nat.lt_trans ha (by decide))]
    rfl
  | _ => cases hv
theorem am_cok_at {k : Nat} {c : am_C} (h : am_stat[k]? = some c) : am_cok c = true := List.all_eq_true.mp am_cokA _ (List.mem_of_getElem? h)
theorem am_fld0 (hn : ∀ w ∈ flatC narrow_1, w.before a0 s0 = true) {k ci i f : Nat} {fs : List Value} {v : Value} (h : am_stat[k]? = some (.inl (ci, fs))) (hf : (am_lay ci)[i]? = some f) (hv : fs[i]? = some v) :
    ∃ (cf : ClassId) (kk : Class) (fi : Nat) (fd : Field) (cell : Cell), s0.fieldFound? (am_fd f).1 (am_fd f).2.1 (am_fd f).2.2 = some (cf, kk, fi, fd) ∧ fd.isStatic = false ∧ s0.heap[am_ad a0 s0 k]? = some cell ∧ cell.vm ≠ .unknown ∧ cell.slots[am_so s0 f]? = some (am_v (am_X0 a0 s0 b xs) v) := by
  have hck := am_cok_at h
  simp only [am_cok, Bool.and_eq_true] at hck
  have hvk : am_vok v = true := List.all_eq_true.mp hck.1.1 _ (List.mem_of_getElem? hv)
  have hvt := am_vt_ev (b := b) (xs := xs) hn hvk
  have ev : (Term.field (am_tm k) (am_fd f).1 (am_fd f).2.1 (am_fd f).2.2).eval a0 s0 none [] s0 = some (am_v (am_X0 a0 s0 b xs) v) := by
    by_cases e : Term.field (am_tm k) (am_fd f).1 (am_fd f).2.1 (am_fd f).2.2 = am_vt v
    · rw [e]
      exact hvt
    · refine va_eqv (am_nd_ok hn h (.eq _ (am_vt v)) (List.mem_cons_of_mem _ (List.mem_flatMap.mpr ⟨(f, v), ?_, ?_⟩))) hvt
      · refine List.mem_of_getElem? (i := i) ?_
        rw [List.getElem?_zip_eq_some]
        exact ⟨hf, hv⟩
      · simp only [am_eqs]
        rw [if_neg e]
        exact List.mem_singleton.mpr rfl
  have hk := am_ev0 hn h
  cases hfo : s0.fieldFound? (am_fd f).1 (am_fd f).2.1 (am_fd f).2.2 with
  | none =>
    rw [va_fe hk] at ev
    simp [State.fieldOf?, State.fieldNamed?, hfo] at ev
  | some x =>
    obtain ⟨cf, kk, fi, fd⟩ := x
    obtain ⟨g1, cell, g2, g3, -, -, g6⟩ := Term.field_spec hfo hk ev
    refine ⟨cf, kk, fi, fd, cell, rfl, g1, g2, g3, ?_⟩
    unfold am_so
    rw [hfo]
    exact g6
theorem am_st0 (hn : ∀ w ∈ flatC narrow_1, w.before a0 s0 = true) {k : Nat} {c : am_C} (h : am_stat[k]? = some c) : ∃ cell, s0.heap[am_ad a0 s0 k]? = some cell ∧ am_RR (am_X0 a0 s0 b xs) s0 c cell := by
  have hck := am_cok_at h
  have hev := am_ev0 hn h
  rcases c with ⟨ci, fs⟩ | ⟨t, ys⟩
  · simp only [am_cok, Bool.and_eq_true, decide_eq_true_eq] at hck
    obtain ⟨a, cc, cell, kk, q1, q2, q3, q4, q5, q6, -⟩ := Cond.exactly_spec (args := a0) (first := s0) (o := none) (s := s0) (idx := []) (am_nd_ok hn h _ List.mem_cons_self)
    cases q1.symm.trans hev
    refine ⟨cell, q3, ?_, q5, by rw [q6]; exact q2, fun i f v hf hv => ?_⟩
    · obtain ⟨cf, kk2, fi, fd, cell2, -, -, g1, g2, -⟩ := am_fld0 (b := b) (xs := xs) hn h (List.getElem?_eq_getElem hck.1.2) (List.getElem?_eq_getElem hck.2)
      cases g1.symm.trans q3
      exact g2
    · obtain ⟨cf, kk2, fi, fd, cell2, -, -, g1, -, g3⟩ := am_fld0 (b := b) (xs := xs) hn h hf hv
      cases g1.symm.trans q3
      exact g3
  · simp only [am_cok, Bool.and_eq_true, decide_eq_true_eq] at hck
    have hlen := va_eqv (am_nd_ok hn h _ (List.mem_cons_of_mem _ List.mem_cons_self)) (rfl : (Term.int (Int32.ofNat ys.length)).eval a0 s0 none [] s0 = _)
    obtain ⟨t', ht', cell, r1, r2, r3, r4, r5, r6, -⟩ := va_Tof (N := ys.length) (f := fun j => am_v (am_X0 a0 s0 b xs) (ys.getD j .null)) (A := fun _ => False) (by omega) (am_nd_ok hn h _ List.mem_cons_self) hlen (fun j hj => by
      have hy : ys[j]? = some ys[j] := List.getElem?_eq_getElem hj
      have hg : ys.getD j .null = ys[j] := by rw [List.getD_eq_getElem?_getD, hy]; rfl
      simp only [hg]
      refine va_eqv (am_nd_ok hn h (.eq (.elem (am_tm k) (.int (Int32.ofNat j))) (am_vt ys[j])) (List.mem_cons_of_mem _ (List.mem_cons_of_mem _ (List.mem_map.mpr ⟨(ys[j], j), ?_, rfl⟩)))) (am_vt_ev hn (List.all_eq_true.mp hck.1 _ (List.getElem_mem hj)))
      refine List.mem_of_getElem? (i := j) ?_
      rw [List.getElem?_zipIdx, hy]
      simp) (fun _ _ q => q)
    cases ht'.symm.trans hev
    refine ⟨cell, r1, r2, r3, r4, r5, fun j v hv => ?_⟩
    have hj := (List.getElem?_eq_some_iff.mp hv).1
    have := r6 j hj
    simp only [List.getD_eq_getElem?_getD, hv] at this
    exact this
theorem am_ad_lt (hn : ∀ w ∈ flatC narrow_1, w.before a0 s0 = true) {k : Nat} (hk : k < am_stat.length) : am_ad a0 s0 k < s0.heap.size := by
  obtain ⟨cell, h1, -⟩ := am_st0 (b := 0) (xs := []) hn (List.getElem?_eq_getElem hk)
  exact (Array.getElem?_eq_some_iff.mp h1).1
def am_orB (j : Nat) : Bool := match am_stat[j]? with
  | some (.inl (ci, fs)) => decide (ci = 11) && decide (fs[3]? = some (.int (Int32.ofNat j)))
  | _ => false
set_option maxRecDepth 100000 in
theorem am_orA : (List.range 38).all am_orB = true := by decide +kernel
theorem am_or {j : Nat} (hj : j < 38) : ∃ fs, am_stat[j]? = some (.inl (11, fs)) ∧ fs[3]? = some (.int (Int32.ofNat j)) := by
  have q := List.all_eq_true.mp am_orA j (List.mem_range.mpr hj)
  unfold am_orB at q
  split at q
  · rename_i ci fs h
    simp only [Bool.and_eq_true, decide_eq_true_eq] at q
    obtain ⟨rfl, q⟩ := q
    exact ⟨fs, h, q⟩
  · cases q
theorem am_inj0 (hn : ∀ w ∈ flatC narrow_1, w.before a0 s0 = true) : am_inj (am_X0 a0 s0 b xs) := by
  refine ⟨fun k hk => am_ad_lt hn hk, fun j k hj hk he => ?_⟩
  obtain ⟨fs, h1, h2⟩ := am_or hj
  obtain ⟨gs, h3, h4⟩ := am_or hk
  have he' : am_ad a0 s0 j = am_ad a0 s0 k := he
  obtain ⟨_, _, _, _, cell, -, -, q1, -, q2⟩ := am_fld0 (b := b) (xs := xs) hn h1 (i := 3) (f := 60) (by decide) h2
  obtain ⟨_, _, _, _, cell', -, -, q3, -, q4⟩ := am_fld0 (b := b) (xs := xs) hn h3 (i := 3) (f := 60) (by decide) h4
  rw [he'] at q1
  cases q1.symm.trans q3
  have e := Option.some.inj (q2.symm.trans q4)
  have e2 : Int32.ofNat j = Int32.ofNat k := Value.int.inj e
  have e3 := congrArg Int32.toNatClampNeg e2
  rw [Int32.toNatClampNeg_ofNat_of_lt (by omega), Int32.toNatClampNeg_ofNat_of_lt (by omega)] at e3
  exact e3
end AmStart
