/-! Instructions that read, write or make cells. What they lean on, at the state s with which the method began: am_Fx. -/
/-- a cell as a read sees it -/
def am_RR (X : am_X) (s : State) (c : am_C) (cell : Cell) : Prop := match c with
  | .inl (ci, fs) => cell.vm ≠ .unknown ∧ cell.vm.isStatics = false ∧ s.vm.findClass (am_cn ci) = some cell.cls ∧ ∀ (k f : Nat) (v : Value), (am_lay ci)[k]? = some f → fs[k]? = some v → cell.slots[X.2.2.2.1 f]? = some (am_v X v)
  | .inr (t, xs) => s.isArrayOf cell (am_ty t) ∧ cell.vm ≠ .unknown ∧ xs.length ≤ cell.slots.size ∧ cell.slots.size.toInt32 = Int32.ofNat xs.length ∧ ∀ (j : Nat) (v : Value), xs[j]? = some v → cell.slots[j]? = some (am_v X v)
/-- a class whose objects are made -/
def am_CF (X : am_X) (s : State) (ci : Nat) : Prop := s.vm.findClass (am_cn ci) = some (X.2.2.1 ci) ∧ ∃ kC : Class, s.vm.classes[X.2.2.1 ci]? = some kC ∧ kC.kind = .ordinary ∧ (∀ (k f : Nat), (am_lay ci)[k]? = some f → kC.instanceTypes[X.2.2.2.1 f]? = some (am_fty f)) ∧
  ∀ (j k f g : Nat), (am_lay ci)[j]? = some f → (am_lay ci)[k]? = some g → j ≠ k → X.2.2.2.1 f ≠ X.2.2.2.1 g
/-- an array class -/
def am_AF (X : am_X) (s : State) (t : Nat) : Prop := ArrOfT s (X.2.2.2.2.1 t) (am_ty t) ∧ s.vm.findClass ("[" ++ (am_ty t).toString) = some (X.2.2.2.2.1 t) ∧ (4 ≤ t → am_ty t = .object (am_en t) ∧ ∃ (kA : Class) (comp : ClassId), s.vm.classes[X.2.2.2.2.1 t]? = some kA ∧ kA.kind = .array comp (.object (am_en t)) ∧ s.vm.findClass (am_en t) = some comp)
/-- a field's link -/
def am_FL (X : am_X) (s : State) (ow k f : Nat) : Prop := ∃ (ref nm ds host : String) (cf i : Nat) (kc : Class) (fd : Field), s.fieldFound? ref nm ds = some (cf, kc, i, fd) ∧ fd.isStatic = false ∧ fd.slot = X.2.2.2.1 f ∧ fd.type = am_fty f ∧
  (∀ args, (Cond.fieldLink (am_ow ow) k ref nm ds).before args s = true ∨ (Cond.fieldLinkNest (am_ow ow) k ref nm ds host).before args s = true) ∧ (am_pl ow k = true → hasFlag fd.accessFlags Acc.final = false ∨ (am_fin f = true ∧ s.vm.findClass (am_ow ow) = some cf))
/-- a static field that nobody writes -/
def am_GL (X : am_X) (s : State) (ow k f : Nat) : Prop := ∃ (ref nm ds host : String) (cf i : Nat) (kc : Class) (fd : Field) (a : Nat) (cell : Cell) (v : Value), am_gst f = some v ∧ s.fieldFound? ref nm ds = some (cf, kc, i, fd) ∧ fd.isStatic = true ∧ kc.init = .initialized ∧ kc.statics = some a ∧ a < X.2.1 ∧ s.heap[a]? = some cell ∧ cell.vm ≠ .unknown ∧ cell.slots[fd.slot]? = some (am_v X v) ∧
  (∀ args, (Cond.fieldLink (am_ow ow) k ref nm ds).before args s = true ∨ (Cond.fieldLinkNest (am_ow ow) k ref nm ds host).before args s = true)
def am_NK (s : State) (ow k ci : Nat) : Prop := am_own ci = true ∧ ∀ args, (Cond.classLink (am_ow ow) k (am_cn ci)).before args s = true ∧ (Cond.instantiable (am_cn ci) (am_N ci)).before args s = true ∧ (Cond.initialized (am_cn ci)).before args s = true
def am_AL (s : State) (ow k t : Nat) : Prop := am_oka t = true ∧ 4 ≤ t ∧ am_ty t = .object (am_en t) ∧ ∀ args, (Cond.classLink (am_ow ow) k (am_en t)).before args s = true ∧ (Cond.arrayOver (.object (am_en t))).before args s = true
def am_Fx (X : am_X) (s : State) : Prop :=
  (∀ (k : Nat) (c : am_C), am_stat[k]? = some c → ∃ cell, s.heap[X.1 k]? = some cell ∧ am_RR X s c cell) ∧
  (∀ ci, am_own ci = true → am_CF X s ci) ∧
  (∀ t, am_oka t = true → am_AF X s t) ∧
  (∀ ow k f, am_fl ow k = some f → am_FL X s ow k f) ∧
  (∀ ow k f, am_gl ow k = some f → am_GL X s ow k f) ∧
  (∀ ow k ci, am_nl ow k = some ci → am_NK s ow k ci) ∧
  (∀ ow k t, am_al ow k = some t → am_AL s ow k t) ∧
  (∀ ci t, am_cast ci t = true → ∃ c1 c2 : ClassId, s.vm.findClass (am_cn ci) = some c1 ∧ s.vm.findClass (am_en t) = some c2 ∧ s.vm.assignable c1 c2 = true) ∧
  (∀ mi k v, am_lc mi k = some v → ∀ args, (Jvm.Cond.constantLong (am_ow (am_mo mi)) k v).before args s = true) ∧
  (X.2.2.2.2.2.1 < X.2.1 ∧ ∃ cell, s.heap[X.2.2.2.2.2.1]? = some cell ∧ am_RR X s (am_scr X) cell) ∧
  (∀ args, (Cond.arrayClass .int).before args s = true ∧ (Cond.arrayClass .char).before args s = true ∧ (Cond.arrayClass .long).before args s = true)
/-- the cells of the start stand as they stood -/
def am_old (X : am_X) (s : State) (H : Heap) : Prop := ∀ q : Nat, q < X.2.1 → H[q]? = s.heap[q]?
theorem am_look {X : am_X} {s : State} {h : am_H} {H : Heap} (hF : am_Fx X s) (hI : am_inj X) (hP : am_P X h H) (ho : am_old X s H) {a : Nat} {c : am_C} (e : am_at h a = some c) : ∃ cell, H[am_ph X a]? = some cell ∧ am_RR X s c cell := by
  unfold am_at at e
  split at e
  · rename_i ha
    obtain ⟨cell, q1, q2⟩ := hF.1 a c e
    refine ⟨cell, ?_, q2⟩
    rw [am_ph, if_pos ha, ho _ (hI.1 a (List.getElem?_eq_some_iff.mp e).1)]
    exact q1
  · rename_i ha
    by_cases ha0 : a = 1000
    · subst ha0
      have e0 : h[0]? = some c := e
      rw [hP.1] at e0
      cases e0
      obtain ⟨g1, cell, g2, g3⟩ := hF.2.2.2.2.2.2.2.2.2.1
      refine ⟨cell, ?_, g3⟩
      rw [am_ph, if_neg ha, if_pos rfl, ho _ g1]
      exact g2
    have e' : h[(a - 1001) + 1]? = some c := by rw [show a - 1001 + 1 = a - 1000 by omega]; exact e
    obtain ⟨cell, q1, q2⟩ := hP.2.2 _ c e'
    refine ⟨cell, by rw [am_ph, if_neg ha, if_neg ha0]; exact q1, ?_⟩
    rcases c with ⟨ci, fs⟩ | ⟨t, xs⟩
    · obtain ⟨z1, z2, z3, z4⟩ := q2
      refine ⟨by rw [z3]; exact (fun q => by cases q), by rw [z3]; rfl, ?_, z4⟩
      rw [z2]
      exact (hF.2.1 ci z1).1
    · obtain ⟨z1, z2⟩ := q2
      subst z2
      refine ⟨(hF.2.2.1 t z1).1 _ _, (fun q => by cases q), by rw [arrV_size]; exact Nat.le_refl _, by rw [arrV_size] <;> rfl, fun j v hj => ?_⟩
      have hlt := (List.getElem?_eq_some_iff.mp hj).1
      rw [arrV_read _ _ hlt]
      simp [List.getD_eq_getElem?_getD, hj]
section AmHeap
variable {p : Program} {l : Launch} {e : Env} {R : Room} {s : State} {m : MethodId} {args : Array Value} {below : List Frame} {meth : Method} {c : Code} {H : Heap} {locs : List Loc} {cells slots : Nat} {Q : State → Prop}
variable {cc : ByteArray} {pc len mi ow : Nat} {ls : Array Slot} {st : List Value} {X : am_X} {lv : am_L} {i i0 : Instr} {h : am_H}
theorem am_ix_ok {j : Int32} {n z : Nat} (e : am_ix j n = true) (h : n ≤ z) : ¬ (j < 0 ∨ z ≤ j.toNatClampNeg) := by
  unfold am_ix at e
  rw [decide_eq_true_eq] at e
  exact fun q => e (q.elim Or.inl (fun w => Or.inr (Nat.le_trans h w)))
/-- an element of an array of numbers -/
theorem am_el_inv {t : Nat} {st' : List Value} (e1 : am_el t st h = some st') : ∃ (j : Int32) (a : Nat) (r xs : List Value) (v : Value), st = .int j :: .ref a :: r ∧ am_at h a = some (.inr (t, xs)) ∧ am_ix j xs.length = true ∧ xs[j.toNatClampNeg]? = some v ∧ st' = v :: r := by
  unfold am_el at e1
  split at e1
  · rename_i j a r
    split at e1
    · rename_i t' xs hat
      split at e1
      · rename_i hc
        obtain ⟨rfl, hix⟩ := hc
        cases hv : xs[j.toNatClampNeg]? with
        | none => rw [hv] at e1; cases e1
        | some v =>
          rw [hv] at e1
          simp only [Option.map_some, Option.some.injEq] at e1
          exact ⟨j, a, r, xs, v, rfl, hat, hix, hv, e1.symm⟩
      · cases e1
    · cases e1
  · cases e1
theorem am_rd_ok (hx : p.tables.exec = Jvm.exec) (hb : c.code = cc) (hF : am_Fx X s) (hI : am_inj X) (hP : am_P X h H) (ho : am_old X s H) (hown : s.vm.findClass (am_ow ow) = some m.cls) {st' : List Value} (e1 : am_rd mi i st h = some st') (hd : decode cc pc = .ok (i0, len)) (hck : am_ck ow pc i len i0 = true)
    (kk : W p l e R s m args below meth c H locs cells slots Q (F0 m (pc + len) ls (st'.map (am_v X)))) : W p l e R s m args below meth c H locs cells slots Q (F0 m pc ls (st.map (am_v X))) := by
  unfold am_rd at e1
  split at e1
  · simp only [am_ck, Bool.and_eq_true, decide_eq_true_eq] at hck
    obtain ⟨rfl, hck⟩ := hck
    simp only [am_len] at hck
    subst hck
    split at e1
    · rename_i a r
      split at e1
      · rename_i t xs hat
        cases e1
        obtain ⟨cell, q1, z1, z2, z3, z4, z5⟩ := am_look hF hI hP ho hat
        exact W.alen hx hb q1 z1 z4 rfl rfl hd kk
      · cases e1
    · cases e1
  · simp only [am_ck, Bool.and_eq_true, decide_eq_true_eq] at hck
    obtain ⟨rfl, hck⟩ := hck
    simp only [am_len] at hck
    subst hck
    obtain ⟨j, a, r, xs, v, rfl, hat, hix, hv, rfl⟩ := am_el_inv e1
    obtain ⟨cell, q1, z1, z2, z3, z4, z5⟩ := am_look hF hI hP ho hat
    exact W.iald hx hb q1 z1 z2 (am_ix_ok hix z3) (z5 _ _ hv) rfl rfl hd kk
  · simp only [am_ck, Bool.and_eq_true, decide_eq_true_eq] at hck
    obtain ⟨rfl, hck⟩ := hck
    simp only [am_len] at hck
    subst hck
    obtain ⟨j, a, r, xs, v, rfl, hat, hix, hv, rfl⟩ := am_el_inv e1
    obtain ⟨cell, q1, z1, z2, z3, z4, z5⟩ := am_look hF hI hP ho hat
    exact W.cald hx hb q1 z1 z2 (am_ix_ok hix z3) (z5 _ _ hv) rfl rfl hd kk
  · simp only [am_ck, Bool.and_eq_true, decide_eq_true_eq] at hck
    obtain ⟨rfl, hck⟩ := hck
    simp only [am_len] at hck
    subst hck
    obtain ⟨j, a, r, xs, v, rfl, hat, hix, hv, rfl⟩ := am_el_inv e1
    obtain ⟨cell, q1, z1, z2, z3, z4, z5⟩ := am_look hF hI hP ho hat
    exact W.bald hx hb q1 z1 z2 (am_ix_ok hix z3) (z5 _ _ hv) rfl rfl hd kk
  · simp only [am_ck, Bool.and_eq_true, decide_eq_true_eq] at hck
    obtain ⟨rfl, hck⟩ := hck
    simp only [am_len] at hck
    subst hck
    obtain ⟨j, a, r, xs, v, rfl, hat, hix, hv, rfl⟩ := am_el_inv e1
    obtain ⟨cell, q1, z1, z2, z3, z4, z5⟩ := am_look hF hI hP ho hat
    exact W.lald hx hb q1 z1 z2 (am_ix_ok hix z3) (z5 _ _ hv) rfl rfl hd kk
  · simp only [am_ck, Bool.and_eq_true, decide_eq_true_eq] at hck
    obtain ⟨rfl, hck⟩ := hck
    simp only [am_len] at hck
    subst hck
    split at e1
    · rename_i j a r
      split at e1
      · rename_i t xs hat
        split at e1
        · rename_i hc
          cases hv : xs[j.toNatClampNeg]? with
          | none => rw [hv] at e1; cases e1
          | some v =>
            rw [hv] at e1
            simp only [Option.map_some, Option.some.injEq] at e1
            subst e1
            obtain ⟨cell, q1, z1, z2, z3, z4, z5⟩ := am_look hF hI hP ho hat
            exact W.aald hx hb q1 z1 (am_ty_ref hc.1) z2 (am_ix_ok hc.2 z3) (z5 _ _ hv) rfl rfl hd kk
        · cases e1
      · cases e1
    · cases e1
  · rename_i f
    simp only [am_ck] at hck
    split at hck
    · rename_i k
      simp only [Bool.and_eq_true, decide_eq_true_eq] at hck
      obtain ⟨hfl, rfl⟩ := hck
      split at e1
      · rename_i a r
        split at e1
        · rename_i ci fs hat
          split at e1
          · rename_i j hj
            cases hv : fs[j]? with
            | none => rw [hv] at e1; cases e1
            | some v =>
              rw [hv] at e1
              simp only [Option.map_some, Option.some.injEq] at e1
              subst e1
              obtain ⟨cell, q1, z1, z2, z3, z4⟩ := am_look hF hI hP ho hat
              obtain ⟨ref, nm, ds, host, cf, fi, kc, fd, g1, g2, g3, g4, g5, g6⟩ := hF.2.2.2.1 ow k f hfl
              have hs : cell.slots[fd.slot]? = some (am_v X v) := by rw [g3]; exact z4 j f v (am_pos_ok hj) hv
              rcases g5 args with g5 | g5
              · exact W.getf hx hb hown g5 g1 g2 q1 z1 hs rfl rfl hd kk
              · exact va_Wgetf hx hb hown g5 g1 g2 q1 z1 hs rfl rfl hd kk
          · cases e1
        · cases e1
      · cases e1
    · cases hck
  · rename_i f
    simp only [am_ck] at hck
    split at hck
    · rename_i k
      simp only [Bool.and_eq_true, decide_eq_true_eq] at hck
      obtain ⟨hgl, rfl⟩ := hck
      obtain ⟨ref, nm, ds, host, cf, fi, kc, fd, a, cell, v, g0, g1, g2, g3, g4, g5, g6, g7, g8, g9⟩ := hF.2.2.2.2.1 ow k f hgl
      rw [g0] at e1
      cases e1
      rcases g9 args with g9 | g9
      · exact W.gets hx hb hown g9 g1 g2 g3 g4 (by rw [ho a g5]; exact g6) g7 g8 rfl hd kk
      · exact va_WgetsN hx hb hown g9 g1 g2 g3 g4 (by rw [ho a g5]; exact g6) g7 g8 rfl hd kk
    · cases hck
  · cases e1
end AmHeap
