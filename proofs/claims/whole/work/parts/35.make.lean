/-! New cells; one step of the small machine in the true one; it never forgets a cell. -/
theorem am_vdef (X : am_X) (ty : FieldType) : am_v X (defaultValue ty) = defaultValue ty := by
  cases ty <;> rfl
theorem am_arr_congr {cA : ClassId} {n : Nat} {f g : Nat → Value} (h : ∀ j, j < n → f j = g j) : arrV cA n f = arrV cA n g := by
  unfold arrV
  congr 1
  apply Array.ext
  · simp
  · intro j h1 h2
    simp only [Array.getElem_ofFn]
    exact h j (by simpa using h1)
theorem am_arr_new {X : am_X} {t n : Nat} {v : Value} (ht : am_oka t = true) (hv : am_v X v = v) : am_RC X (.inr (t, List.replicate n v)) (arrV (X.2.2.2.2.1 t) n (fun _ => v)) := by
  refine ⟨ht, ?_⟩
  rw [List.length_replicate]
  refine am_arr_congr fun j hj => ?_
  simp [List.getD_eq_getElem?_getD, List.getElem?_replicate, hj, hv]
section AmMake
variable {p : Program} {l : Launch} {e : Env} {R : Room} {s : State} {m : MethodId} {args : Array Value} {below : List Frame} {meth : Method} {c : Code} {H : Heap} {locs : List Loc} {cells slots : Nat} {Q : State → Prop}
variable {cc : ByteArray} {pc len mi ow : Nat} {ls : Array Slot} {st : List Value} {X : am_X} {lv : am_L} {i i0 : Instr} {h : am_H}
theorem am_ph_new (X : am_X) {n : Nat} (hn : 1 ≤ n) : am_ph X (1000 + n) = X.2.1 + (n - 1) := by
  unfold am_ph
  rw [if_neg (by omega), if_neg (by omega), show 1000 + n - 1001 = n - 1 by omega]
theorem am_mk_ok (hx : p.tables.exec = Jvm.exec) (hb : c.code = cc) (hF : am_Fx X s) (hP : am_P X h H) (ho : am_old X s H) (hown : s.vm.findClass (am_ow ow) = some m.cls) {st' : List Value} {cl : am_C} (e1 : am_mk i st = some (st', cl)) (hd : decode cc pc = .ok (i0, len)) (hck : am_ck ow pc i len i0 = true)
    (hr1 : cells + 1 ≤ R.cells) (hr2 : slots + am_cs cl ≤ R.slots)
    (kk : ∀ (H' : Heap), am_P X (h ++ [cl]) H' → am_old X s H' → W p l e R s m args below meth c H' locs (cells + 1) (slots + am_cs cl) Q (F0 m (pc + len) ls ((Value.ref (1000 + h.length) :: st').map (am_v X)))) : W p l e R s m args below meth c H locs cells slots Q (F0 m pc ls (st.map (am_v X))) := by
  obtain ⟨hl1, hsz⟩ := hP.len
  have hb0 : X.2.1 ≤ H.size := by omega
  have href : am_v X (.ref (1000 + h.length)) = .ref H.size := by
    show Value.ref _ = _
    rw [am_ph_new X hl1, hsz]
  simp only [List.map_cons, href] at kk
  unfold am_mk at e1
  split at e1
  · rename_i ci
    simp only [am_ck] at hck
    split at hck
    · rename_i k
      simp only [Bool.and_eq_true, decide_eq_true_eq] at hck
      obtain ⟨hnl, rfl⟩ := hck
      cases hn : am_new ci with
      | none => rw [hn] at e1; cases e1
      | some fs =>
        rw [hn] at e1
        simp only [Option.map_some, Option.some.injEq, Prod.mk.injEq] at e1
        obtain ⟨rfl, rfl⟩ := e1
        obtain ⟨n1, n2⟩ := hF.2.2.2.2.2.1 ow k ci hnl
        obtain ⟨n2, n3, n4⟩ := n2 args
        obtain ⟨c1, kC, c2, c3, c4, c5⟩ := hF.2.1 ci n1
        refine W.newcK hx hb hown n2 n3 n4 rfl hd hr1 hr2 c1 rfl fun H' kC' hk' w1 w2 w3 => ?_
        cases c2.symm.trans hk'
        refine kk H' (hP.push w1 w2 w3 ⟨n1, rfl, rfl, fun j f v hj hv => ?_⟩) (ho.push hb0 w3)
        rw [k2_blank (c4 j f hj), am_new_ok hn hj hv, am_vdef]
    · cases hck
  · rename_i ty
    split at e1
    · rename_i n r
      split at e1
      · rename_i hc
        have hN := hc.2
        split at e1
        · cases e1
          simp only [am_ck, Bool.and_eq_true, decide_eq_true_eq] at hck
          obtain ⟨rfl, hck⟩ := hck
          simp only [am_len] at hck
          subst hck
          simp only [am_cs, List.length_replicate] at hr2 kk
          have hA : (Cond.arrayClass (newarray.typeOf ArrayType.int)).before args s = true := by rw [show newarray.typeOf ArrayType.int = FieldType.int from rfl]; exact (hF.2.2.2.2.2.2.2.2.2.2 args).1
          refine va_newaK (atype := ArrayType.int) hx hb hA rfl hd rfl hc.1 rfl (by rw [show componentBytes (newarray.typeOf .int) = 4 from rfl]; omega) hr1 hr2 rfl fun H' cA w1 w2 w3 w4 w5 => ?_
          cases (hF.2.2.1 0 rfl).2.1.symm.trans w5
          exact kk H' (hP.push w1 w2 w3 (am_arr_new rfl rfl)) (ho.push hb0 w3)
        · cases e1
          simp only [am_ck, Bool.and_eq_true, decide_eq_true_eq] at hck
          obtain ⟨rfl, hck⟩ := hck
          simp only [am_len] at hck
          subst hck
          simp only [am_cs, List.length_replicate] at hr2 kk
          have hA : (Cond.arrayClass (newarray.typeOf ArrayType.char)).before args s = true := by rw [show newarray.typeOf ArrayType.char = FieldType.char from rfl]; exact (hF.2.2.2.2.2.2.2.2.2.2 args).2.1
          refine va_newaK (atype := ArrayType.char) hx hb hA rfl hd rfl hc.1 rfl (by rw [show componentBytes (newarray.typeOf .char) = 2 from rfl]; omega) hr1 hr2 rfl fun H' cA w1 w2 w3 w4 w5 => ?_
          cases (hF.2.2.1 1 rfl).2.1.symm.trans w5
          exact kk H' (hP.push w1 w2 w3 (am_arr_new rfl rfl)) (ho.push hb0 w3)
        · cases e1
          simp only [am_ck, Bool.and_eq_true, decide_eq_true_eq] at hck
          obtain ⟨rfl, hck⟩ := hck
          simp only [am_len] at hck
          subst hck
          simp only [am_cs, List.length_replicate] at hr2 kk
          have hA : (Cond.arrayClass (newarray.typeOf ArrayType.long)).before args s = true := by rw [show newarray.typeOf ArrayType.long = FieldType.long from rfl]; exact (hF.2.2.2.2.2.2.2.2.2.2 args).2.2
          refine va_newaK (atype := ArrayType.long) hx hb hA rfl hd rfl hc.1 rfl (by rw [show componentBytes (newarray.typeOf .long) = 8 from rfl]; omega) hr1 hr2 rfl fun H' cA w1 w2 w3 w4 w5 => ?_
          cases (hF.2.2.1 3 rfl).2.1.symm.trans w5
          exact kk H' (hP.push w1 w2 w3 (am_arr_new rfl rfl)) (ho.push hb0 w3)
        · cases e1
      · cases e1
    · cases e1
  · rename_i t
    simp only [am_ck] at hck
    split at hck
    · rename_i k
      simp only [Bool.and_eq_true, decide_eq_true_eq] at hck
      obtain ⟨hal, rfl⟩ := hck
      split at e1
      · rename_i n r
        split at e1
        · rename_i hc
          cases e1
          obtain ⟨a1, a2, a3, a4⟩ := hF.2.2.2.2.2.2.1 ow k t hal
          simp only [am_cs, List.length_replicate] at hr2 kk
          refine W.anew hx hb hown (a4 args).1 (a4 args).2 rfl hd rfl hc.1 (by omega) hr1 hr2 fun cA kA comp f1 f2 f3 f4 => ?_
          have hA := (hF.2.2.1 t a1).2.1
          rw [a3] at hA
          cases hA.symm.trans f1
          have w3 : ∀ q : Nat, q < H.size → (H.push ({ cls := X.2.2.2.2.1 t, slots := Array.replicate n.toNatClampNeg .null, vm := .none } : Cell))[q]? = H[q]? := fun q hq => by rw [Array.getElem?_push, if_neg (Nat.ne_of_lt hq)]
          refine kk _ (hP.push (cell := arrV (X.2.2.2.2.1 t) n.toNatClampNeg (fun _ => .null)) ?_ (by simp) w3 (am_arr_new a1 rfl)) (ho.push hb0 w3)
          rw [Array.getElem?_push_size, ← arrV_new]
        · cases e1
      · cases e1
    · cases hck
  · cases e1
end AmMake
theorem am_set_len {h h' : am_H} {a : Nat} {c c' : am_C} (e : am_set h a c' = some h') (ha : am_at h a = some c) (hc : am_cs c' = am_cs c) : h'.length = h.length ∧ am_sz h' = am_sz h := by
  obtain ⟨h1, h2, rfl⟩ := am_set_inv e
  exact ⟨List.length_set, am_sz_set (am_at_own h1 ha) hc⟩
theorem am_wr_len {mi : Nat} {i : Instr} {st st' : List Value} {h h' : am_H} (e : am_wr mi i st h = some (st', h')) : h'.length = h.length ∧ am_sz h' = am_sz h := by
  unfold am_wr at e
  split at e
  · split at e
    · split at e
      · rename_i a _ ci fs hat
        split at e
        · split at e
          · cases hs : am_set h _ (.inl (_, _)) with
            | none => rw [hs] at e; cases e
            | some h2 =>
              rw [hs] at e
              simp only [Option.map_some, Option.some.injEq, Prod.mk.injEq] at e
              obtain ⟨rfl, rfl⟩ := e
              exact am_set_len hs hat rfl
          · cases e
        · cases e
      · cases e
    · cases e
  · split at e
    · cases e
    · split at e
      · split at e
        · rename_i hat
          split at e
          · cases hs : am_set h _ (.inr (_, _)) with
            | none => rw [hs] at e; cases e
            | some h2 =>
              rw [hs] at e
              simp only [Option.map_some, Option.some.injEq, Prod.mk.injEq] at e
              obtain ⟨rfl, rfl⟩ := e
              exact am_set_len hs hat (by simp [am_cs])
          · cases e
        · cases e
      · cases e
theorem am_one_len {mi : Nat} {i : Instr} {len pc pc' : Nat} {lv lv' : am_L} {st st' : List Value} {h h' : am_H} (e : am_one mi i len pc lv st h = some (pc', lv', st', h')) : h.length ≤ h'.length ∧ am_sz h ≤ am_sz h' := by
  unfold am_one at e
  split at e
  · cases e; exact ⟨Nat.le_refl _, Nat.le_refl _⟩
  · split at e
    · cases e; exact ⟨Nat.le_refl _, Nat.le_refl _⟩
    · split at e
      · cases e; exact ⟨Nat.le_refl _, Nat.le_refl _⟩
      · split at e
        · cases e; exact ⟨Nat.le_refl _, Nat.le_refl _⟩
        · split at e
          · cases e; exact ⟨Nat.le_refl _, Nat.le_refl _⟩
          · split at e
            · rename_i hw
              cases e
              have := am_wr_len hw
              omega
            · split at e
              · cases e
                rw [am_sz_push, List.length_append]
                omega
              · split at e
                · cases e; exact ⟨Nat.le_refl _, Nat.le_refl _⟩
                · cases e
theorem am_run_len : ∀ (n d mi pc : Nat) (lv : am_L) (st : List Value) (h : am_H) (o : am_O) (h' : am_H), am_run n d mi pc lv st h = some (o, h') → h.length ≤ h'.length ∧ am_sz h ≤ am_sz h' := by
  intro n
  induction n with
  | zero =>
    intro d mi pc lv st h o h' hr
    rw [am_zero] at hr
    cases hr
  | succ n ih =>
    intro d mi pc lv st h o h' hr
    rw [am_succ] at hr
    cases hc : am_code mi pc with
    | none => rw [hc] at hr; cases hr
    | some z =>
      obtain ⟨i, len⟩ := z
      simp only [hc] at hr
      cases h1 : am_ret mi i st with
      | some v =>
        simp only [h1] at hr
        cases hr
        exact ⟨Nat.le_refl _, Nat.le_refl _⟩
      | none =>
        simp only [h1] at hr
        cases h2 : am_thr mi i st with
        | some x =>
          simp only [h2] at hr
          cases hr
          rw [am_sz_push, List.length_append]
          omega
        | none =>
          simp only [h2] at hr
          cases h3 : am_inv i st h with
          | some z =>
            obtain ⟨mj, as, r⟩ := z
            simp only [h3] at hr
            cases d with
            | zero => cases hr
            | succ d' =>
              simp only at hr
              cases h4 : am_run n d' mj 0 (am_ent mj as) [] h with
              | none => rw [h4] at hr; cases hr
              | some z =>
                obtain ⟨o1, h1'⟩ := z
                have q := ih _ _ _ _ _ _ _ _ h4
                simp only [h4] at hr
                cases o1 with
                | inl v =>
                  have q2 := ih _ _ _ _ _ _ _ _ hr
                  omega
                | inr a =>
                  simp only at hr
                  cases h5 : am_hx mi pc h1' a with
                  | some pc' =>
                    simp only [h5] at hr
                    have q2 := ih _ _ _ _ _ _ _ _ hr
                    omega
                  | none =>
                    simp only [h5] at hr
                    split at hr
                    · cases hr
                      exact q
                    · cases hr
          | none =>
            simp only [h3] at hr
            cases h4 : am_one mi i len pc lv st h with
            | none => rw [h4] at hr; cases hr
            | some z =>
              obtain ⟨pc', lv', st', h2'⟩ := z
              simp only [h4] at hr
              have q := am_one_len h4
              have q2 := ih _ _ _ _ _ _ _ _ hr
              omega
