/-! Calls that may return or throw: what a callee's free contract gives the caller. No table of this claim is spoken of here. -/
section AmCalls
variable {p : Program} {l : Launch} {e : Env} {R : Room} {s : State} {m : MethodId} {args : Array Value} {below : List Frame} {meth : Method} {c : Code}
/-- the machine's state behind a callee that came to t -/
def am_af (U t : State) : State := (({ U with heap := t.heap, slotsUsed := t.slotsUsed } : State).setVm t.vm)
theorem am_back {y : MethodName} {S : Spec} {P : Array Value → State → Prop} {Q : Array Value → State → Outcome → State → Prop} {mc ms : Nat} {Bad : Loc → Prop}
    (hM : MetFree l y S P (fun _ _ _ _ _ => True) Q) {U : State} {locs : List Loc} {cells slots : Nat}
    (X : Stand p l e R s m args below meth c U locs cells slots) {g : JFrame} (hg : g.method = m) (hsize : g.locals.size = c.maxLocals) {ig : Instr} {len : Nat} (hdg : decode c.code g.pc = .ok (ig, len))
    (hW : 2 * g.monitorRoom + (g.stack.map fun v => v.category).sum ≤ 8) {mk : MethodId} (hn : U.methodNamed? y = some mk) {methY : Method} {cY : Code} (hmY : U.vm.method? mk = some methY) (hcY : methY.code = some cY)
    (hini : (Cond.initialized y.cls).before #[] U = true) (hframes : S.room.frames + 1 ≤ R.frames) (hlocals : 8 + (cY.maxLocals + 11) + S.room.locals ≤ R.locals)
    {a : Array Value} (hpre : S.pre.before a U = true) (hcells : cells + S.room.cells ≤ R.cells) (hslots : slots + S.room.slots ≤ R.slots) (hP : ∀ (g' : JFrame) (mk' : MethodId), P a (U.calling g' mk' a))
    (hQ : ∀ (g' : JFrame) (mk' : MethodId) (o : Outcome) (t : State), Q a (U.calling g' mk' a) o t → (U.calling g' mk' a).WarmedH t.vm ∧ ∃ L, (U.calling g' mk' a).sameButNew ({ t with vm := (U.calling g' mk' a).vm } : State) L mc ms ∧ ∀ q ∈ L, Bad q) :
    ∃ (o : Outcome) (t : State) (L : List Loc) (g' : JFrame) (mk' : MethodId), Q a (U.calling g' mk' a) o t ∧ (∀ q ∈ L, Bad q) ∧ Stand p l e R s m args below meth c (am_af U t) (locs ++ L) (cells + mc) (slots + ms) ∧
      match o with
      | .returned v => Steps p.tables e below (doInvoke e (U.setTop g) [] mk a).1 ((am_af U t).setTop { g with pc := g.pc + len, stack := v.toList ++ g.stack })
      | .threw x => Steps p.tables e below (doInvoke e (U.setTop g) [] mk a).1 (((am_af U t).setTop g).pushFrame (.throwing x)) := by
  obtain ⟨kY, hkY, -⟩ := className_of_methodNamed hn
  have hinitY : kY.init = .initialized := Cond.initialized_spec (findClass_of_methodNamed hn) hkY hini
  have h : At U g.method c below := by rw [hg]; exact X.here
  have happ : S.appliesLoose y e.platform (U.calling g mk a) = true :=
    Spec.appliesLoose_calling (g := g) h hdg hn hkY hinitY (X.room_calling (g := g) (R' := S.room) hsize hmY hcY hframes (by omega) hcells hslots) hpre
  obtain ⟨mid, hmid⟩ := h.above
  have hfr : (U.setTop g).frames = (.java g :: mid) ++ below := by rw [State.frames_setTop' g h.top, hmid]; rfl
  obtain ⟨o, t, hsteps, -, hend, hq⟩ := Steps.callFree hM p X.admits X.cas X.clock (acts := []) hfr happ (hP g mk) trivial
  have hq' : Q a (U.calling g mk a) o t := hq
  rw [State.frames_setTop' g h.top] at hend
  obtain ⟨hW2, L, hfe, hL⟩ := hQ g mk o t hq'
  obtain ⟨e2, q2, q3, q4, q5, q6⟩ := id hfe
  have e3 : t = ({ (U.calling g mk a).setFrames t.frames with heap := t.heap, slotsUsed := t.slotsUsed } : State).setVm t.vm := by
    have : t = ({ t with vm := (U.calling g mk a).vm } : State).setVm t.vm := rfl
    rw [e2] at this
    exact this
  have hW' : U.WarmedH t.vm := hW2
  obtain ⟨g0, hg0⟩ := Option.isSome_iff_exists.mp h.top
  obtain ⟨r, hr⟩ := State.topJava?_eq_some.mp hg0
  have hr' : (am_af U t).frames = .java g0 :: r := hr
  have hsame : U.sameButNew ({ U with heap := t.heap, slotsUsed := t.slotsUsed } : State) L mc ms := by
    refine ⟨?_, q2, q3, q4, q5, q6⟩
    obtain ⟨th, hth, -⟩ := State.frames_cons hr
    show ({ U with heap := t.heap, slotsUsed := t.slotsUsed } : State) = { U.setFrames U.frames with heap := t.heap, slotsUsed := t.slotsUsed }
    rw [State.setFrames_self hth]
  have X' : Stand p l e R s m args below meth c (am_af U t) (locs ++ L) (cells + mc) (slots + ms) :=
    ⟨X.admits, X.cas, X.clock, X.frames, X.room, X.hears, X.method, X.code, (X.here.setHeapUsed t.heap t.slotsUsed).setVm hW'.alike, X.tail, State.WarmedH.trans X.warmed hW', X.limits, X.bytes, X.same.trans (hsame.setVm s.vm)⟩
  refine ⟨o, t, L, g, mk, hq', hL, X', ?_⟩
  cases o with
  | returned v =>
    obtain ⟨c2, i2, len2, hc2, hd2, hf2⟩ := hend
    have hcc : c2 = c := by
      have h1 : t.code? g.method = U.code? g.method := by
        rw [State.code?_eq, State.code?_eq, hW'.alike.method?]
      exact Option.some.inj (hc2.symm.trans (h1.trans h.code))
    subst hcc
    have hlen : len2 = len := by rw [hdg] at hd2; cases hd2; rfl
    subst hlen
    have hs2 : t = (am_af U t).setTop { g with pc := g.pc + len2, stack := v.toList ++ g.stack } := by
      refine e3.trans ?_
      rw [hf2, State.calling_eq h.top, State.setFrames_setFrames, State.setTop_of_frames _ hr', hr]
      rfl
    show Steps p.tables e below _ ((am_af U t).setTop _)
    rw [← hs2]
    exact hsteps
  | threw x =>
    have hf2 : t.frames = .throwing x :: .java g :: U.frames.tail := hend
    have hs2 : t = ((am_af U t).setTop g).pushFrame (.throwing x) := by
      refine e3.trans ?_
      rw [hf2, State.calling_eq h.top, State.setFrames_setFrames, State.pushFrame, State.frames_setTop _ hr', State.setTop_of_frames _ hr', State.setFrames_setFrames, hr]
      rfl
    show Steps p.tables e below _ (((am_af U t).setTop g).pushFrame (.throwing x))
    rw [← hs2]
    exact hsteps
/-- the invoking instruction is linked: what remains is the callee's own run -/
def am_Lk (p : Program) (l : Launch) (e : Env) (R : Room) (s : State) (m : MethodId) (args : Array Value) (below : List Frame) (meth : Method) (c : Code) (y : MethodName) (len : Nat) (as rest : List Value) (ls : Array Slot) (pc : Nat) (st : List Value) : Prop :=
  (∃ ig, decode c.code pc = .ok (ig, len)) ∧ ∀ (T : State) (locs : List Loc) (cells slots : Nat), Stand p l e R s m args below meth c T locs cells slots → (∀ b cell, as.head? = some (.ref b) → T.heap[b]? = some cell → True) →
    ∃ (vm' : Vm) (mk : MethodId), s.methodNamed? y = some mk ∧ Stand p l e R s m args below meth c (T.setVm vm') locs cells slots ∧
      ∀ target, (∀ acts, Steps p.tables e below (doInvoke e ((T.setVm vm').setTop (F0 m pc ls rest)) acts mk as.toArray).1 target) → Steps p.tables e below (T.setTop (F0 m pc ls st)) target
end AmCalls
