/-! The small machine's end is the true machine's end: by the number of its steps. What calls, throws and catches lean on is taken as hypotheses here (am_HC, am_HT, am_HH, am_HW) and paid in a later part. -/
/-- a state of the law's run: the tables warmer, the cells of the start as they were -/
def am_Lt (X : am_X) (s0 U : State) : Prop := s0.WarmedH U.vm ∧ ∀ q : Nat, q < X.2.1 → U.heap[q]? = s0.heap[q]?
def am_oc (X : am_X) (o : am_O) : Outcome := match o with
  | .inl v => .returned (v.map (am_v X))
  | .inr a => .threw (am_ph X a)
def am_PP (X : am_X) (s0 : State) (as : List Value) (h : am_H) : Array Value → State → Prop := fun a U => a = (as.map (am_v X)).toArray ∧ am_Lt X s0 U ∧ am_P X h U.heap
def am_QQ (X : am_X) (o : am_O) (h h' : am_H) : Array Value → State → Outcome → State → Prop := fun _ st oc t => oc = am_oc X o ∧ am_P X h' t.heap ∧ st.WarmedH t.vm ∧ ∃ L, st.sameButNew ({ t with vm := st.vm } : State) L (h'.length - h.length) (am_sz h' - am_sz h) ∧ ∀ q ∈ L, X.2.1 ≤ q.base
def am_rm (d : Nat) (h h' : am_H) : Room := { frames := d + 10, cells := h'.length - h.length, slots := am_sz h' - am_sz h, locals := 64 * d + 200 }
def am_cw (mi : Nat) : Jvm.Cond := match am_hs mi with
  | [] => .code (am_mn mi) (am_mb mi) (am_ml mi) (am_mr mi)
  | x :: hs => .codeWith (am_mn mi) (am_mb mi) (am_ml mi) (am_mr mi) (x :: hs)
def am_M (l : Launch) (X : am_X) (s0 : State) (d mi : Nat) (as : List Value) (h : am_H) (o : am_O) (h' : am_H) : Prop :=
  MetFree l (am_mn mi) (headSpec [am_cw mi] (am_rm d h h')) (am_PP X s0 as h) (fun _ _ _ _ _ => True) (am_QQ X o h h')
def am_MQ (X : am_X) (s : State) (below : List Frame) (o : am_O) (h0 h' : am_H) : State → Prop := fun t => t.status = .running ∧ Ended t below (am_oc X o) ∧ am_P X h' t.heap ∧ s.WarmedH t.vm ∧ ∃ L, s.sameButNew ({ t with vm := s.vm } : State) L (h'.length - h0.length) (am_sz h' - am_sz h0) ∧ ∀ q ∈ L, X.2.1 ≤ q.base
/-- the invoking instructions are linked -/
def am_HC (l : Launch) (X : am_X) (s0 : State) : Prop :=
  ∀ (mi pc len : Nat) (i : Instr) (mj : Nat) (as r st : List Value) (h : am_H), am_code mi pc = some (i, len) → am_inv i st h = some (mj, as, r) →
  ∀ (p : Program) (e : Env) (R : Room) (s : State) (m : MethodId) (args : Array Value) (below : List Frame) (meth : Method) (c : Code) (T : State) (locs : List Loc) (cells slots : Nat) (ls : Array Slot),
  p.tables.exec = Jvm.exec → c.code = am_mb mi → s.vm.findClass (am_ow (am_mo mi)) = some m.cls → am_Lt X s0 s → am_Fx X s → am_P X h T.heap → am_old X s T.heap → Stand p l e R s m args below meth c T locs cells slots →
  (∃ ig, decode c.code pc = .ok (ig, len)) ∧ ∃ (vm' : Vm) (mk : MethodId), s.methodNamed? (am_mn mj) = some mk ∧ Stand p l e R s m args below meth c (T.setVm vm') locs cells slots ∧
    ∀ target, (∀ acts, Steps p.tables e below (doInvoke e ((T.setVm vm').setTop (F0 m pc ls (r.map (am_v X)))) acts mk (as.map (am_v X)).toArray).1 target) → Steps p.tables e below (T.setTop (F0 m pc ls (st.map (am_v X)))) target
/-- 'throw new X(message)' -/
def am_HT (l : Launch) (X : am_X) (s0 : State) : Prop :=
  ∀ (mi pc len x : Nat), am_code mi pc = some (.instanceof x, len) →
  ∀ (p : Program) (e : Env) (R : Room) (s : State) (m : MethodId) (args : Array Value) (below : List Frame) (meth : Method) (c : Code) (T : State) (locs : List Loc) (cells slots : Nat) (ls : Array Slot),
  p.tables.exec = Jvm.exec → c.code = am_mb mi → s.vm.findClass (am_ow (am_mo mi)) = some m.cls → meth.locks = false → am_Lt X s0 s → am_old X s T.heap → X.2.1 ≤ T.heap.size → ls.size = c.maxLocals → c.exceptionTable.toList = [] → 10 ≤ R.frames → 200 ≤ R.locals → cells + 1 ≤ R.cells → slots + am_N x ≤ R.slots → Stand p l e R s m args below meth c T locs cells slots →
  am_own x = true ∧ am_lay x = [] ∧ ∃ U : State, Steps p.tables e below (T.setTop (F0 m pc ls [])) U ∧ U.status = .running ∧ Ended U below (.threw T.heap.size) ∧ s.WarmedH U.vm ∧ s.sameButNew ({ U with vm := s.vm } : State) locs (cells + 1) (slots + am_N x) ∧ U.heap.size = T.heap.size + 1 ∧ (∀ q : Nat, q < T.heap.size → U.heap[q]? = T.heap[q]?) ∧
    ∃ ce : Cell, U.heap[T.heap.size]? = some ce ∧ ce.cls = X.2.2.1 x ∧ ce.vm = .none
/-- the calls of Object.<init> and of String.checkIndex -/
def am_HS (l : Launch) (X : am_X) (s0 : State) : Prop :=
  ∀ (mi pc len : Nat) (i i0 : Instr) (st r : List Value), decode (am_mb mi) pc = .ok (i0, len) → am_ck (am_mo mi) pc i len i0 = true → am_spc i st = some r →
  ∀ (p : Program) (e : Env) (R : Room) (s : State) (m : MethodId) (args : Array Value) (below : List Frame) (meth : Method) (c : Code) (H : Heap) (locs : List Loc) (cells slots : Nat) (Q : State → Prop) (ls : Array Slot),
  p.tables.exec = Jvm.exec → c.code = am_mb mi → s.vm.findClass (am_ow (am_mo mi)) = some m.cls → am_Lt X s0 s → am_old X s H → cells ≤ R.cells → slots ≤ R.slots → ls.size = c.maxLocals → 10 ≤ R.frames → 200 ≤ R.locals →
  W p l e R s m args below meth c H locs cells slots Q (F0 m (pc + len) ls (r.map (am_v X))) → W p l e R s m args below meth c H locs cells slots Q (F0 m pc ls (st.map (am_v X)))
/-- a catch clause -/
def am_HH (l : Launch) (X : am_X) (s0 : State) : Prop :=
  ∀ (mi pc x pc' : Nat), am_hnd mi pc x = some pc' →
  ∀ (p : Program) (e : Env) (R : Room) (s : State) (m : MethodId) (args : Array Value) (below : List Frame) (meth : Method) (c : Code) (T : State) (locs : List Loc) (cells slots : Nat) (ls : Array Slot) (st : List Value) (a : Nat) (cell : Cell),
  s.vm.findClass (am_ow (am_mo mi)) = some m.cls → am_Lt X s0 s → c.exceptionTable.toList.map (fun h => (h.startPc, h.endPc, h.handlerPc, h.catchType)) = am_hs mi → T.heap[a]? = some cell → cell.vm.isStatics = false → s.vm.findClass (am_cn x) = some cell.cls → Stand p l e R s m args below meth c T locs cells slots →
  ∃ vm' : Vm, Stand p l e R s m args below meth c (T.setVm vm') locs cells slots ∧ ∀ target, Steps p.tables e below ((T.setVm vm').setTop (F0 m pc' ls [.ref a])) target → Steps p.tables e below ((T.setTop (F0 m pc ls st)).pushFrame (.throwing a)) target
/-- the methods' own words -/
def am_HW (s0 : State) : Prop := ∀ mi, am_okm mi = true → plainName (am_mn mi).cls = true ∧ am_ml mi ≤ 45 ∧ ∀ (args : Array Value) (U : State), s0.WarmedH U.vm → (am_cw mi).before args U = true ∧ (Jvm.Cond.initialized (am_mn mi).cls).before args U = true
/-- the tables' instructions are the bytes' -/
def am_HD : Prop := ∀ (mi pc len : Nat) (i : Instr), am_code mi pc = some (i, len) → ∃ i0, decode (am_mb mi) pc = .ok (i0, len) ∧ am_ck (am_mo mi) pc i len i0 = true ∧ ∀ k, i0 = .putfield k → am_pl (am_mo mi) k = true
theorem am_cw_spec {mi : Nat} {args : Array Value} {s : State} {m : MethodId} (h : (am_cw mi).before args s = true) (hn : s.methodNamed? (am_mn mi) = some m) :
    ∃ meth c, s.vm.method? m = some meth ∧ meth.code = some c ∧ c.code = am_mb mi ∧ c.maxLocals = am_ml mi ∧ meth.sig.returnType = am_mr mi ∧ meth.locks = false ∧ c.exceptionTable.toList.map (fun h => (h.startPc, h.endPc, h.handlerPc, h.catchType)) = am_hs mi := by
  unfold am_cw at h
  split at h
  · rename_i hh
    obtain ⟨meth, c, h1, h2, h3, h4, h5, h6, h7, -⟩ := Cond.code_spec hn h
    refine ⟨meth, c, h1, h2, h3, h4, h5, h6, ?_⟩
    rw [hh]
    have : c.exceptionTable = #[] := by simpa using h7
    rw [this]
    rfl
  · rename_i x hs hh
    obtain ⟨m9, meth, c, hn9, h1, h2, h3, h4, h5, h6, h7, -⟩ := Cond.codeWith_spec h
    cases hn.symm.trans hn9
    exact ⟨meth, c, h1, h2, h3, h4, h6, h7, by rw [hh]; exact h5⟩
theorem am_kept {X : am_X} {s u : State} {L : List Loc} {k n : Nat} (h : s.sameButNew u L k n) (hL : ∀ q ∈ L, X.2.1 ≤ q.base) {q : Nat} (hq : q < X.2.1) (hs : X.2.1 ≤ s.heap.size) : u.heap[q]? = s.heap[q]? := by
  have hlt : q < s.heap.size := by omega
  have hc : s.heap[q]? = some s.heap[q] := Array.getElem?_eq_getElem hlt
  obtain ⟨c', h1, h2, h3, h4⟩ := h.2.2.2.2.2 q _ hc
  rw [h1, hc, h2]
  congr 1
  have : c'.slots = s.heap[q].slots := by
    apply Array.ext_getElem?
    intro i
    exact h4 i (fun hm => by have := hL _ hm; simp only at this; omega)
  rw [this]
theorem am_sl_map (X : am_X) (as : List Value) : lg_sl (as.map (am_v X)) = (am_sl as).map (fun o => match o with
    | some v => Slot.val (am_v X v)
    | none => Slot.second) := by
  unfold lg_sl am_sl
  induction as with
  | nil => rfl
  | cons v r ih =>
    simp only [List.map_cons, List.flatMap_cons, ih, List.map_append, am_v_cat]
    congr 1
    split <;> rfl
theorem am_ent_len {mj : Nat} {as : List Value} (h : (am_sl as).length ≤ am_ml mj) : (am_ent mj as).length = am_ml mj := by
  simp [am_ent]
  omega
theorem am_ent_ok {X : am_X} {mj : Nat} {as : List Value} (h : (am_sl as).length ≤ am_ml mj) : am_Ls X (am_ent mj as) (lg_sl (as.map (am_v X)) ++ List.replicate (am_ml mj - (lg_sl (as.map (am_v X))).length) Slot.unset).toArray := by
  have hlen : (lg_sl (as.map (am_v X))).length = (am_sl as).length := by rw [am_sl_map, List.length_map]
  have hl := lv_entry (as.map (am_v X)) (n := am_ml mj) (by rw [hlen]; exact h)
  refine ⟨by rw [hl.1, am_ent_len h], hl.2.1, fun i v hi => ?_⟩
  rw [List.getElem?_toArray]
  unfold am_ent at hi
  by_cases hlt : i < (am_sl as).length
  · rw [List.getElem?_append_left hlt] at hi
    rw [List.getElem?_append_left (by rw [hlen]; exact hlt), am_sl_map, List.getElem?_map, hi]
    rfl
  · rw [List.getElem?_append_right (by omega)] at hi
    have := List.eq_of_mem_replicate (List.mem_of_getElem? hi)
    cases this
theorem W.am_mono {p : Program} {l : Launch} {e : Env} {R : Room} {s : State} {m : MethodId} {args : Array Value} {below : List Frame} {meth : Method} {c : Code} {H : Heap} {locs : List Loc} {cells slots : Nat} {Q Q' : State → Prop} {g : JFrame} (h : ∀ t, Q t → Q' t)
    (w : W p l e R s m args below meth c H locs cells slots Q g) : W p l e R s m args below meth c H locs cells slots Q' g := fun T hT X => by
  obtain ⟨t, a, b⟩ := w T hT X
  exact ⟨t, a, h t b⟩
/-- so much room -/
def am_Rm (R : Room) (d : Nat) (h h' : am_H) : Prop := d + 10 ≤ R.frames ∧ 64 * d + 200 ≤ R.locals ∧ h'.length - h.length ≤ R.cells ∧ am_sz h' - am_sz h ≤ R.slots
/-- what a walk of the method mi from the heap h0 to the end (o, h') leans on -/
def am_Cx (l : Launch) (X : am_X) (s0 : State) (p : Program) (s : State) (m : MethodId) (meth : Method) (c : Code) (R : Room) (d mi : Nat) (h0 h' : am_H) : Prop :=
  p.tables.exec = Jvm.exec ∧ c.code = am_mb mi ∧ c.maxLocals = am_ml mi ∧ meth.sig.returnType = am_mr mi ∧ meth.locks = false ∧ s.vm.findClass (am_ow (am_mo mi)) = some m.cls ∧ am_Lt X s0 s ∧ am_Fx X s ∧ (am_ini mi = true → meth.name = "<init>") ∧
  c.exceptionTable.toList.map (fun h => (h.startPc, h.endPc, h.handlerPc, h.catchType)) = am_hs mi ∧ am_Rm R d h0 h' ∧ X.2.1 ≤ s.heap.size
theorem am_met {l : Launch} {X : am_X} {s0 : State} {d mi : Nat} {as : List Value} {h : am_H} {o : am_O} {h' : am_H} (hW : am_HW s0) (hFx : ∀ s, am_Lt X s0 s → am_Fx X s) (hok : am_okm mi = true) (hini : am_ini mi = true → (am_mn mi).name = "<init>") (how : am_ow (am_mo mi) = (am_mn mi).cls) (hfit : (am_sl as).length ≤ am_ml mi)
    (body : ∀ (p : Program) (e : Env) (s : State) (m : MethodId) (args : Array Value) (below : List Frame) (meth : Method) (c : Code) (ls : Array Slot), am_Cx l X s0 p s m meth c (am_rm d h h') d mi h h' → am_P X h s.heap → am_Ls X (am_ent mi as) ls →
      W p l e (am_rm d h h') s m args below meth c s.heap [] 0 0 (am_MQ X s below o h h') (F0 m 0 ls [])) : am_M l X s0 d mi as h o h' := by
  refine MetFree.of_bodyS (code := am_mb mi) (maxLocals := am_ml mi) (ret := am_mr mi) (hW mi hok).1 ?_ ?_
  · intro args s m hp hn
    obtain ⟨meth, c, h1, h2, h3, h4, h5, h6, -⟩ := am_cw_spec (atoms_spec (ws := [am_cw mi]) hp _ List.mem_cons_self) hn
    exact ⟨meth, c, h1, h2, h3, h4, h5, h6⟩
  · intro p e s m args below meth c s1 B hml hP _
    obtain ⟨rfl, hLt, hPh⟩ := hP
    have hh0 : s1.heap = s.heap := by rw [B.state]; rfl
    have hpre := atoms_spec (ws := [am_cw mi]) B.pre _ List.mem_cons_self
    obtain ⟨meth', c', h1, h2, h3, h4, h5, h6, h7⟩ := am_cw_spec hpre B.named
    cases B.method.symm.trans h1
    have hS := Stand.of_body B
    cases hS.code.symm.trans h2
    have hown : s.vm.findClass (am_ow (am_mo mi)) = some m.cls := by rw [how]; exact findClass_of_methodNamed B.named
    have hCx : am_Cx l X s0 p s m meth c (am_rm d h h') d mi h h' :=
      ⟨B.exec, B.bytes, hml, B.returns, B.notSynchronized, hown, hLt, hFx s hLt, fun q => by rw [(name_of_methodNamed B.named B.method).1]; exact hini q, h7, ⟨Nat.le_refl _, Nat.le_refl _, Nat.le_refl _, Nat.le_refl _⟩, by have := hPh.len; omega⟩
    obtain ⟨t, a1, b1, b2, b3, b4, b5⟩ := body p e s m _ below meth c _ hCx hPh (am_ent_ok hfit) s1 hh0 hS
    refine ⟨t, am_oc X o, ?_, b1, b2, rfl, b3, b4, b5⟩
    rw [lg_entry_eq]
    exact a1
