/-! The law's catch clauses: a search through the rows of the table, each row's class linked on the way. -/
section AmCatch
variable {l : Launch} {X : am_X} {s0 : State}
/-- one row that covers the place -/
theorem am_row {Q : Handler → Pre} {E : CtlPost} {e : Env} {d : Bool} {acts : List Action} {S : State} {f : JFrame} {a : Addr} {y : ExceptionTableEntry} {t : List ExceptionTableEntry} {c : ClassId} {cell : Cell} (hy : covers y f.pc = true) (h0 : y.catchType ≠ 0)
    (hl : S.vm.ClassLinks e.platform f.method.cls y.catchType c) (hcell : S.heap[a]? = some cell) (hobj : ∀ k, cell.vm ≠ .statics k) (hk : ∃ k, S.vm.classes[cell.cls]? = some k) (hc : ∃ k, S.vm.classes[c]? = some k) :
    wp (findHandler.go f a (y :: t)) Q E e d acts S ↔ if S.vm.assignable cell.cls c = true then Q (.found y.handlerPc) d acts (S.setVm (S.vm.noted f.method.cls y.catchType (.cls c))) else wp (findHandler.go f a t) Q E e d acts (S.setVm (S.vm.noted f.method.cls y.catchType (.cls c))) := by
  have hal : S.vm.Alike (S.vm.noted f.method.cls y.catchType (.cls c)) := (Vm.Alike.refl S.vm).noted _ _ _
  obtain ⟨k1, hk1⟩ := hk
  obtain ⟨k2, hk2⟩ := hc
  obtain ⟨j1, hj1, -⟩ := hal.2.2 _ _ hk1
  obtain ⟨j2, hj2, -⟩ := hal.2.2 _ _ hk2
  obtain ⟨ha, ht⟩ := (resolveClass_links e.toSetting hl).op (op := VmOp.resolveClass f.method.cls y.catchType) rfl
  have has : (S.vm.noted f.method.cls y.catchType (.cls c)).assignable cell.cls c = S.vm.assignable cell.cls c := by rw [hal.assignable]
  simp only [covers] at hy
  cases hfit : S.vm.assignable cell.cls c <;> rw [hfit] at has <;>
    simp [findHandler.go, hy, h0, ha, ht, hcell, hobj, hj1, hj2, has, VmOp.dirties, VmOp.acts]
/-- the kinds of things that the law catches -/
def am_x3 (x : Nat) : Prop := x = 8 ∨ x = 9 ∨ x = 10
theorem am_seek {e : Env} {s : State} {f : JFrame} {a : Addr} {cell : Cell} {x pc' : Nat} (hobj : ∀ k, cell.vm ≠ .statics k) (hk0 : ∃ k, s.vm.classes[cell.cls]? = some k) (hx3 : am_x3 x)
    (hlk : ∀ k, k = 13 ∨ k = 19 ∨ k = 40 → ∃ c, s.vm.ClassLinks e.platform f.method.cls k c ∧ (am_ct k = x → s.vm.assignable cell.cls c = true) ∧ (am_ct k ≠ x → s.vm.assignable cell.cls c = false)) :
    ∀ (tab : List ExceptionTableEntry) (S : State), (∀ y ∈ tab, y.catchType = 13 ∨ y.catchType = 19 ∨ y.catchType = 40) → am_hf f.pc x (tab.map (fun h => (h.startPc, h.endPc, h.handlerPc, h.catchType))) = some pc' → s.WarmedH S.vm → S.heap[a]? = some cell →
    ∃ vm' : Vm, s.WarmedH vm' ∧ ∀ (Q : Handler → Pre) (E : CtlPost) (d : Bool) (acts : List Action), wp (findHandler.go f a tab) Q E e d acts S ↔ Q (.found pc') d acts (S.setVm vm') := by
  intro tab
  induction tab with
  | nil => intro S _ h; cases h
  | cons y t ih =>
    intro S hty h hW hcell
    have hty' : ∀ z ∈ t, z.catchType = 13 ∨ z.catchType = 19 ∨ z.catchType = 40 := fun z hz => hty z (List.mem_cons_of_mem _ hz)
    have hyk := hty y List.mem_cons_self
    by_cases hcov : covers y f.pc = true
    · obtain ⟨c, hcl, h1, h2⟩ := hlk y.catchType hyk
      obtain ⟨dk, _, _, kt, hd, _, _, _, _, hkt, _, hfree⟩ := hcl.here
      obtain ⟨k0, hk0⟩ := hk0
      obtain ⟨k0', hk0', -⟩ := hW.alike.2.2 _ _ hk0
      obtain ⟨kt', hkt', -⟩ := hW.alike.2.2 _ _ hkt
      have hW' : s.WarmedH (S.vm.noted f.method.cls y.catchType (.cls c)) := hW.noted hd hfree (State.rightAt_cls hcl)
      have hrow := fun (Q : Handler → Pre) (E : CtlPost) (d : Bool) (acts : List Action) => am_row (Q := Q) (E := E) (d := d) (acts := acts) (t := t) hcov (by omega) (hW.classLinks hcl) hcell hobj ⟨k0', hk0'⟩ ⟨kt', hkt'⟩
      have hcov' : y.startPc ≤ f.pc ∧ f.pc < y.endPc := by simpa [covers] using hcov
      by_cases hct : am_ct y.catchType = x
      · simp only [List.map_cons, am_hf] at h
        rw [if_pos ⟨hcov'.1, hcov'.2, hct⟩] at h
        cases h
        refine ⟨_, hW', fun Q E d acts => ?_⟩
        rw [hrow Q E d acts, if_pos (by rw [hW.alike.assignable]; exact h1 hct)]
      · simp only [List.map_cons, am_hf] at h
        rw [if_neg (fun q => hct q.2.2)] at h
        obtain ⟨vm', hv, hq⟩ := ih (S.setVm (S.vm.noted f.method.cls y.catchType (.cls c))) hty' h hW' hcell
        refine ⟨vm', hv, fun Q E d acts => ?_⟩
        rw [hrow Q E d acts, if_neg (by rw [hW.alike.assignable, h2 hct]; decide)]
        exact hq Q E d acts
    · have hcov' : ¬ (y.startPc ≤ f.pc ∧ f.pc < y.endPc) := by simpa [covers] using hcov
      simp only [List.map_cons, am_hf] at h
      rw [if_neg (fun q => hcov' ⟨q.1, q.2.1⟩)] at h
      obtain ⟨vm', hv, hq⟩ := ih S hty' h hW hcell
      refine ⟨vm', hv, fun Q E d acts => ?_⟩
      rw [W.findHandler_go_skip (by simpa using hcov)]
      exact hq Q E d acts
/-- a search that ends at a handler, the tables warmer -/
theorem am_land {tb : Tables} {e : Env} {s target : State} {g : JFrame} {c : Code} {below : List Frame} {a : Addr} {pc : Nat} {vm' : Vm} (h : At s g.method c below)
    (hfind : ∀ (Q : Handler → Pre) (E : CtlPost) (d : Bool) (acts : List Action), wp (findHandler g a) Q E e d acts ((s.setTop g).pushFrame (.throwing a)) ↔ Q (.found pc) d acts (((s.setTop g).pushFrame (.throwing a)).setVm vm'))
    (hrest : Steps tb e below ((s.setVm vm').setTop { g with pc := pc, stack := [.ref a] }) target) : Steps tb e below ((s.setTop g).pushFrame (.throwing a)) target := by
  obtain ⟨hgo, hw⟩ := h.throwing a
  refine Steps.head hgo hw ?_
  have hstep : ∀ r, (stepThrowing e ((s.setTop g).pushFrame (.throwing a)) a (.java g :: r)).Is ((((s.setTop g).pushFrame (.throwing a)).setVm vm').setFrames (.java { g with pc := pc, stack := [.ref a] } :: r)) [] := by
    intro r
    simp only [stepThrowing, searchFrame, vmDo]
    generalize hr : Sem.go _ e false [] ((s.setTop g).pushFrame (.throwing a)) = res
    obtain ⟨as, rfl, ha⟩ := Sem.eq_ok_of hr (a := Handler.found pc) (s' := ((s.setTop g).pushFrame (.throwing a)).setVm vm') (acts' := []) (by simp [hfind _ _ _ _])
    exact ⟨rfl, ha⟩
  rw [stepThread_throwing (frames_entered h.top _), (hstep _).1]
  obtain ⟨g0, hg⟩ := Option.isSome_iff_exists.mp h.top
  obtain ⟨r, hr⟩ := State.topJava?_eq_some.mp hg
  have hr' : (s.setVm vm').frames = .java g0 :: r := hr
  rw [State.setTop_of_frames _ hr'] at hrest
  have key : ∀ (u : State) (F G : List Frame), ((u.setFrames F).setVm vm').setFrames G = (u.setVm vm').setFrames G := by
    intro u F G
    have q : (u.setFrames F).setVm vm' = (u.setVm vm').setFrames F := rfl
    rw [q, State.setFrames_setFrames]
  rw [hr, List.tail_cons, State.pushFrame, key, State.setTop_of_frames _ hr, key]
  exact hrest
set_option maxRecDepth 100000 in
theorem am_hsA : (List.range 150).all (fun mi => (am_hs mi).all (fun z => decide (z.2.2.2 = 13 ∨ z.2.2.2 = 19 ∨ z.2.2.2 = 40) && decide (am_ow (am_mo mi) = "ToldShieldsLaw"))) = true := by decide +kernel
theorem am_hs_out {mi : Nat} (h : ¬ mi < 150) : am_hs mi = [] := by
  obtain ⟨k, rfl⟩ := Nat.exists_eq_add_of_le (Nat.not_lt.mp h)
  rw [Nat.add_comm]
  rfl
theorem am_hf_x {pc x pc' : Nat} : ∀ {hs : List (Nat × Nat × Nat × Nat)}, am_hf pc x hs = some pc' → am_x3 x
  | [], h => by cases h
  | (a, b, t, k) :: r, h => by
    simp only [am_hf] at h
    split at h
    · rename_i hc
      obtain ⟨-, -, rfl⟩ := hc
      unfold am_ct am_x3
      split <;> simp
    · exact am_hf_x h
/-- that none of the three is another -/
def am_Nx (s0 : State) : Prop := ∀ x y : Nat, am_x3 x → am_x3 y → x ≠ y → va_Nc (am_cn x) (am_cn y) s0
theorem am_hh {a0 : Array Value} (hts : ∀ w ∈ lw_tbl, w.before a0 s0 = true) (hN : am_Nx s0) : am_HH l X s0 := by
  intro mi pc x pc' hh p e R s m args below meth c T locs cells slots ls st a cell hown hLt htab hcell hobj hcls XX
  have hx3 := am_hf_x hh
  have hm : mi < 150 := by
    by_cases hm : mi < 150
    · exact hm
    · unfold am_hnd at hh
      rw [am_hs_out hm] at hh
      cases hh
  have hall := List.all_eq_true.mp am_hsA mi (List.mem_range.mpr hm)
  have howL : am_ow (am_mo mi) = "ToldShieldsLaw" := by
    unfold am_hnd at hh
    cases hz : am_hs mi with
    | nil => rw [hz] at hh; cases hh
    | cons z r =>
      rw [hz] at hall
      have q := List.all_eq_true.mp hall z List.mem_cons_self
      simp only [Bool.and_eq_true, decide_eq_true_eq] at q
      exact q.2
  rw [howL] at hown
  have hty : ∀ y ∈ c.exceptionTable.toList, y.catchType = 13 ∨ y.catchType = 19 ∨ y.catchType = 40 := by
    intro y hy
    have hz : (y.startPc, y.endPc, y.handlerPc, y.catchType) ∈ am_hs mi := by
      rw [← htab]
      exact List.mem_map.mpr ⟨y, hy, rfl⟩
    have q := List.all_eq_true.mp hall _ hz
    simp only [Bool.and_eq_true, decide_eq_true_eq] at q
    exact q.1
  have hpl : e.platform.magicAccessors = ({} : Platform).magicAccessors := by rw [XX.admits.platform]
  have hgood : ∀ {w : Jvm.Cond} (i : Nat), lw_tbl[i]? = some w → goodWord w = true → w.before args s = true := fun i hi hg => am_w_of hts i hi hg args s hLt.1
  have hlk : ∀ k, k = 13 ∨ k = 19 ∨ k = 40 → ∃ c, s.vm.ClassLinks e.platform m.cls k c ∧ (am_ct k = x → s.vm.assignable cell.cls c = true) ∧ (am_ct k ≠ x → s.vm.assignable cell.cls c = false) := by
    intro k hk
    have hw : (Jvm.Cond.classLink "ToldShieldsLaw" k (am_cn (am_ct k))).before args s = true := by
      rcases hk with rfl | rfl | rfl
      · exact hgood 175 (by decide +kernel) rfl
      · exact hgood 619 (by decide +kernel) rfl
      · exact hgood 687 (by decide +kernel) rfl
    obtain ⟨c5, hc5, hcl5⟩ := Cond.classLink_spec hown hw e.platform hpl
    refine ⟨c5, hcl5, fun hq => ?_, fun hq => ?_⟩
    · rw [hq] at hc5
      cases hcls.symm.trans hc5
      exact va_asg _ _
    · have hk3 : am_x3 (am_ct k) := by
        rcases hk with rfl | rfl | rfl
        · exact Or.inl rfl
        · exact Or.inr (Or.inl rfl)
        · exact Or.inr (Or.inr rfl)
      obtain ⟨a8, b8, h1, h2, h3⟩ := va_Nc.moved hLt.1.alike (hN x (am_ct k) hx3 hk3 (fun q => hq q.symm))
      cases h1.symm.trans hcls
      cases h2.symm.trans hc5
      exact h3
  obtain ⟨k9, h9, -⟩ := Vm.findClass_spec hcls
  have hheap : ((T.setTop (F0 m pc ls st)).pushFrame (.throwing a)).heap[a]? = some cell := by rw [Stand.throwing_heap]; exact hcell
  have hvm : ((T.setTop (F0 m pc ls st)).pushFrame (.throwing a)).vm = T.vm := Stand.throwing_vm _ _ _
  obtain ⟨vm', hv, hq⟩ := am_seek (e := e) (s := s) (f := F0 m pc ls st) (a := a) (cell := cell) (x := x) (pc' := pc') (VmData.ne_statics_of hobj) ⟨k9, h9⟩ hx3 hlk c.exceptionTable.toList ((T.setTop (F0 m pc ls st)).pushFrame (.throwing a)) hty (by rw [htab]; exact hh) (by rw [hvm]; exact XX.warmed) hheap
  refine ⟨vm', XX.noted hv, fun target hrest => ?_⟩
  refine am_land (g := F0 m pc ls st) (pc := pc') (vm' := vm') XX.here (fun Q E d acts => ?_) hrest
  rw [W.findHandler_eq (meth := meth) (code := c) (by rw [hvm]; exact XX.method') XX.code]
  exact hq Q E d acts
end AmCatch
