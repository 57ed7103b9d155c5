/-! A walk begun anew where it stands; 'throw new X(message)' there: nothing old is written, one cell comes. No table of this claim is spoken of here. -/
section AmThrows
variable {p : Program} {l : Launch} {e : Env} {R : Room} {s : State} {m : MethodId} {args : Array Value} {below : List Frame} {meth : Method} {c : Code} {T : State} {locs : List Loc} {cells slots : Nat}
theorem am_hears {s U : State} (hvm : s.vm.Alike U.vm) {m : MethodId} {below : List Frame} (h : s.hears m below = true) : U.hears m below = true := by
  have e1 : ∀ k, U.code? k = s.code? k := fun k => by rw [State.code?_eq, State.code?_eq, hvm.method?]
  have e2 : ∀ k, U.vm.method? k = s.vm.method? k := fun k => hvm.method? k
  unfold State.hears at h ⊢
  split at h
  · simp only [e1]
    exact h
  · rfl
  · rfl
  · rename_i h1 h2 h3
    cases below with
    | nil => simp only [e2]; exact h
    | cons f r =>
      cases f <;> first | (exact absurd rfl (h1 _ _)) | (exact absurd rfl (h2 _ _)) | (exact absurd rfl (h3 _ _)) | (simp only [e2]; exact h)
theorem am_rebase (X : Stand p l e R s m args below meth c T locs cells slots) {R' : Room} (h1 : R'.frames ≤ R.frames) (h2 : R'.locals ≤ R.locals) (h3 : cells + R'.cells ≤ R.cells) (h4 : slots + R'.slots ≤ R.slots) :
    Stand p l e R' (T.setFrames (.invoking m args :: below)) m args below meth c T [] 0 0 := by
  obtain ⟨g0, hfr⟩ := X.frames_eq
  have hcur := State.cur_lt_of_frames hfr
  have hF : (T.setFrames (.invoking m args :: below)).frames = .invoking m args :: below := State.frames_setFrames _ hcur
  have hm : (T.setFrames (.invoking m args :: below)).vm.method? m = some meth := X.method'
  obtain ⟨th, hth, -⟩ := State.frames_cons hfr
  obtain ⟨th2, hth2, -⟩ := State.frames_cons hF
  refine ⟨X.admits, X.cas, X.clock, hF, ?_, am_hears (U := T.setFrames (.invoking m args :: below)) X.warmed.alike X.hears, hm, X.code, X.here, X.tail, State.WarmedH.refl (T.setFrames (.invoking m args :: below)), by rw [State.stackLimits_setFrames], by rw [State.stackBytes_setFrames], ?_⟩
  · obtain ⟨r1, r2, r3, r4⟩ := State.hasRoom_stack X.room
    have r5 := State.hasRoom_real X.room
    have h := X.room
    simp only [State.hasRoom, Bool.and_eq_true, decide_eq_true_eq] at h
    rw [State.localsInUse_invoking X.frames X.method X.code] at r3 r4 r5
    rw [X.frames, List.length_cons] at r1 r2
    have hU := State.localsInUse_invoking hF hm X.code
    have z1 := X.heapSize
    have z2 := X.used
    have z3 : (T.setFrames (.invoking m args :: below)).heap.size = T.heap.size := rfl
    have z4 : (T.setFrames (.invoking m args :: below)).slotsUsed = T.slotsUsed := rfl
    have z5 : (T.setFrames (.invoking m args :: below)).slotsTrue = T.slotsTrue := rfl
    simp only [State.hasRoom, Bool.and_eq_true, decide_eq_true_eq, hF, hU, List.length_cons, State.stackLimits_setFrames, State.stackBytes_setFrames, X.limits, X.bytes, z3, z4, z5]
    have y1 := h.1.1.2
    have y2 := h.1.2
    exact ⟨⟨⟨⟨by omega, by omega, by omega, by omega, by omega, h.1.1.1.2.2.2.2.2⟩, by omega⟩, by omega⟩, X.book⟩
  · have hc2 : (T.setFrames (.invoking m args :: below)).cur < (T.setFrames (.invoking m args :: below)).threads.size := State.cur_lt_of_frames hF
    have h := (State.sameButNew.refl (T.setFrames (.invoking m args :: below)) hth2).setFrames T.frames hc2
    rw [State.setFrames_setFrames, State.setFrames_self hth] at h
    exact h
theorem am_kept0 {s u : State} {k n : Nat} (h : s.sameButNew u [] k n) {q : Nat} (hq : q < s.heap.size) : u.heap[q]? = s.heap[q]? := by
  have hc : s.heap[q]? = some s.heap[q] := Array.getElem?_eq_getElem hq
  obtain ⟨c', h1, h2, h3, h4⟩ := h.2.2.2.2.2 q _ hc
  rw [h1, hc, h2]
  congr 1
  have : c'.slots = s.heap[q].slots := by
    apply Array.ext_getElem?
    intro i
    exact h4 i (fun hm => by cases hm)
  rw [this]
theorem am_unframe {A B : State} {F : List Frame} {L : List Loc} {k n : Nat} (h : (A.setFrames F).sameButNew B L k n) : A.sameButNew B L k n := by
  obtain ⟨h1, h2⟩ := h
  refine ⟨?_, h2⟩
  rw [State.setFrames_setFrames] at h1
  exact h1
theorem am_throwNew (X : Stand p l e R s m args below meth c T locs cells slots) (hx : p.tables.exec = Jvm.exec) (htr : e.platform.stackTraces = false) (hlocks : meth.locks = false) {own cls tx : String} {names : List String} {kc kl ic pc : Nat} {ls : Array Slot}
    (hown : s.vm.findClass own = some m.cls) (hcls : Bundle.fit cls = true) (hnames : ∀ n ∈ names, Bundle.fit n = true)
    (hat : ∀ a ∈ Bundle.ownAtoms own ic cls names, a.before args (T.setFrames (.invoking m args :: below)) = true)
    (hcl : (Cond.classLink own kc cls).before args (T.setFrames (.invoking m args :: below)) = true) (hini : (Cond.initialized cls).before args (T.setFrames (.invoking m args :: below)) = true) (hstr : (Cond.stringRef own kl tx).before args (T.setFrames (.invoking m args :: below)) = true)
    (hsize : ls.size = c.maxLocals) (htl : c.exceptionTable.toList = []) (hd0 : decode c.code pc = .ok (.new kc, 3)) (hd3 : decode c.code (pc + 3) = .ok (.dup, 1)) (hd4 : decode c.code (pc + 4) = .ok (.ldc kl, 2)) (hd6 : decode c.code (pc + 6) = .ok (.invokespecial ic, 3)) (hd9 : decode c.code (pc + 9) = .ok (.athrow, 1))
    (hRf : names.length + 3 < R.frames) (hRl : 13 * (names.length + 1) + 50 ≤ R.locals) (hRc : cells + 1 ≤ R.cells) (hRs : slots + 6 ≤ R.slots) :
    ∃ U : State, Steps p.tables e below (T.setTop (F0 m pc ls [])) U ∧ U.status = .running ∧ Ended U below (.threw T.heap.size) ∧ s.WarmedH U.vm ∧ s.sameButNew ({ U with vm := s.vm } : State) locs (cells + 1) (slots + 6) ∧ U.heap.size = T.heap.size + 1 ∧ (∀ q : Nat, q < T.heap.size → U.heap[q]? = T.heap[q]?) ∧
      ∃ ce : Cell, U.heap[T.heap.size]? = some ce ∧ T.vm.findClass cls = some ce.cls ∧ ce.vm = .none := by
  have X0 := am_rebase (R' := { frames := R.frames, cells := 1, slots := 6, locals := R.locals }) X (Nat.le_refl _) (Nat.le_refl _) hRc hRs
  have hown' : (T.setFrames (.invoking m args :: below)).vm.findClass own = some m.cls := by
    show T.vm.findClass own = some m.cls
    rw [X.warmed.alike.findClass]
    exact hown
  obtain ⟨vm1, cX, kX, hfX, hkX, -, -, X1, st1⟩ := X0.newCold hx (own := own) (C := cls) (index := kc) (n := 6) hown' hcl (hat (.instantiable cls 6) (by simp [Bundle.ownAtoms])) hini (g := F0 m pc ls []) rfl hd0 (Nat.le_refl _) (Nat.le_refl _)
  generalize hT2 : (T.setVm vm1).pushCell { cls := cX, slots := kX.instanceTypes.map defaultValue, vm := .none } = T2 at X1 st1
  have hcellA : T2.heap[T.heap.size]? = some (freshCell cX kX) := by rw [← hT2]; exact State.heap_pushCell_size _ _
  obtain ⟨-, -, -, sa, -, -, -, -, -, hev⟩ := Cond.stringRef_spec hown' hstr
  obtain ⟨U, hsteps, hrun, hend, hW, hsame, ce, hce, K⟩ := X1.ctorThrowS hx htr (own := own) (cls := cls) (names := names) (ic := ic) hown' hcls hnames hat (fun y hy => by cases hy) hfX hkX hcellA (Nat.le_refl _) (msg := .ref sa) rfl
    (g := F0 m (pc + 6) ls [.ref sa, .ref T.heap.size, .ref T.heap.size]) rfl hsize rfl rfl (rest := []) rfl hd6 hd9 (fun x hx => by rw [htl] at hx; cases hx) hRf (by show 2 * 0 + 1 + _ ≤ R.locals; omega)
  have hsz : (T.setFrames (.invoking m args :: below)).heap.size = T.heap.size := rfl
  refine ⟨U, ?_, hrun, hend, State.WarmedH.trans X.warmed hW, ?_, ?_, ?_, ce, hce, K.cls, K.vm⟩
  · refine st1 _ ?_
    show Steps p.tables e below (T2.setTop (F0 m (pc + 3) ls [.ref T.heap.size])) _
    jvm_step X1.here [X1.here.top, hx, hd3, Value.category]
    exact X1.ldcString hx (own := own) (text := tx) (index := kl) (a := sa) hown' hstr hev (g := F0 m (pc + 4) ls [.ref T.heap.size, .ref T.heap.size]) rfl hd4 _ hsteps
  · have h2 : T.sameButNew ({ U with vm := T.vm } : State) [] (0 + 1) (0 + 6) := am_unframe hsame
    have h3 := X.same.trans (h2.setVm s.vm)
    rw [List.append_nil] at h3
    exact h3
  · have h2 := hsame.2.2.1
    have h3 := (Array.getElem?_eq_some_iff.mp hce).1
    simp only [hsz] at h2
    omega
  · intro q hq
    exact am_kept0 hsame (q := q) (by rw [hsz]; exact hq)
end AmThrows
