/-! What stands in the tables is what the bytes say; the instructions that touch no cell. -/
def am_len (i : Instr) : Nat := match i with
  | .bipush _ => 2
  | .sipush _ => 3
  | .ldc2_w _ => 3
  | .iload _ => 2
  | .lload _ => 2
  | .aload _ => 2
  | .istore _ => 2
  | .lstore _ => 2
  | .astore _ => 2
  | .iinc _ _ => 3
  | .newarray _ => 2
  | _ => 1
def am_ck (ow pc : Nat) (i : Instr) (len : Nat) (i0 : Instr) : Bool := match i with
  | .goto t => decide (i0 = .goto (t - pc)) && decide (len = 3) && decide (0 ≤ t)
  | .ifCond c t => decide (i0 = .ifCond c (t - pc)) && decide (len = 3) && decide (0 ≤ t)
  | .if_icmp c t => decide (i0 = .if_icmp c (t - pc)) && decide (len = 3) && decide (0 ≤ t)
  | .if_acmp c t => decide (i0 = .if_acmp c (t - pc)) && decide (len = 3) && decide (0 ≤ t)
  | .ifnull t => decide (i0 = .ifnull (t - pc)) && decide (len = 3) && decide (0 ≤ t)
  | .ifnonnull t => decide (i0 = .ifnonnull (t - pc)) && decide (len = 3) && decide (0 ≤ t)
  | .tableswitch d lo hi ts => match i0 with
    | .tableswitch d0 lo0 hi0 os => decide (lo0 = lo) && decide (hi0 = hi) && decide ((pc : Int) + d0 = d) && decide (0 ≤ d) && decide (os.toList.map (fun o => (pc : Int) + o) = ts.toList) && ts.toList.all (fun t => decide (0 ≤ t))
    | _ => false
  | .lookupswitch d ps => match i0 with
    | .lookupswitch d0 os => decide ((pc : Int) + d0 = d) && decide (0 ≤ d) && decide (os.toList.map (fun o => (o.1, (pc : Int) + o.2)) = ps.toList) && ps.toList.all (fun t => decide (0 ≤ t.2)) && (os.toList.zip (os.toList.drop 1)).all (fun (a, next) => a.1 < next.1)
    | _ => false
  | .getfield f => match i0 with
    | .getfield k => decide (am_fl ow k = some f) && decide (len = 3)
    | _ => false
  | .putfield f => match i0 with
    | .putfield k => decide (am_fl ow k = some f) && decide (len = 3)
    | _ => false
  | .getstatic f => match i0 with
    | .getstatic k => decide (am_gl ow k = some f) && decide (len = 3)
    | _ => false
  | .new ci => match i0 with
    | .new k => decide (am_nl ow k = some ci) && decide (len = 3)
    | _ => false
  | .instanceof x => match i0 with
    | .new k => decide (am_nl ow k = some x) && decide (len = 3)
    | _ => false
  | .anewarray t => match i0 with
    | .anewarray k => decide (am_al ow k = some t) && decide (len = 3)
    | _ => false
  | .monitorenter => match i0 with
    | .invokespecial k => (am_s3 ow k am_obL).isSome && decide (len = 3)
    | _ => false
  | .monitorexit => match i0 with
    | .invokestatic k => (am_s3 ow k am_ciL).isSome && decide (len = 3)
    | _ => false
  | .dup_x2 => match i0 with
    | .invokestatic k => decide (am_s3 ow k am_maL = some 0) && decide (len = 3)
    | _ => false
  | .dup2_x1 => match i0 with
    | .invokestatic k => decide (am_s3 ow k am_maL = some 1) && decide (len = 3)
    | _ => false
  | .swap => match i0 with
    | .invokestatic k => decide (am_s3 ow k am_maL = some 2) && decide (len = 3)
    | _ => false
  | .invokevirtual x => match i0 with
    | .invokevirtual k => decide (am_il ow k = some x) && decide (len = 3)
    | _ => false
  | .invokestatic x => match i0 with
    | .invokestatic k => decide (am_il ow k = some x) && decide (len = 3)
    | _ => false
  | .invokespecial x => match i0 with
    | .invokespecial k => decide (am_il ow k = some x) && decide (len = 3)
    | _ => false
  | .invokeinterface x n => match i0 with
    | .invokeinterface k n0 => decide (am_il ow k = some x) && decide (n0 = n) && decide (len = 5)
    | _ => false
  | i => decide (i0 = i) && decide (len = am_len i)
section AmSimple
variable {p : Program} {l : Launch} {e : Env} {R : Room} {s : State} {m : MethodId} {args : Array Value} {below : List Frame} {meth : Method} {c : Code} {H : Heap} {locs : List Loc} {cells slots : Nat} {Q : State → Prop}
variable {cc : ByteArray} {pc len mi ow : Nat} {ls : Array Slot} {st : List Value} {X : am_X} {lv : am_L} {i i0 : Instr}
theorem am_push_ok (hx : p.tables.exec = Jvm.exec) (hb : c.code = cc) (hl : am_Ls X lv ls) {v : Value} (e1 : am_push mi i lv = some v) (hd : decode cc pc = .ok (i0, len)) (hck : am_ck ow pc i len i0 = true)
    (hown : s.vm.findClass (am_ow ow) = some m.cls) (hlc : ∀ (k : Nat) (v : Int64), am_lc mi k = some v → (Jvm.Cond.constantLong (am_ow ow) k v).before args s = true)
    (kk : W p l e R s m args below meth c H locs cells slots Q (F0 m (pc + len) ls (am_v X v :: st))) : W p l e R s m args below meth c H locs cells slots Q (F0 m pc ls st) := by
  unfold am_push at e1
  split at e1
  · simp only [am_ck, Bool.and_eq_true, decide_eq_true_eq] at hck
    obtain ⟨rfl, hck⟩ := hck
    simp only [am_len] at hck
    subst hck
    cases e1
    exact lv_iconst hx hb hd rfl kk
  · simp only [am_ck, Bool.and_eq_true, decide_eq_true_eq] at hck
    obtain ⟨rfl, hck⟩ := hck
    simp only [am_len] at hck
    subst hck
    cases e1
    exact lv_bipush hx hb hd rfl kk
  · simp only [am_ck, Bool.and_eq_true, decide_eq_true_eq] at hck
    obtain ⟨rfl, hck⟩ := hck
    simp only [am_len] at hck
    subst hck
    cases e1
    exact lv_sipush hx hb hd rfl kk
  · simp only [am_ck, Bool.and_eq_true, decide_eq_true_eq] at hck
    obtain ⟨rfl, hck⟩ := hck
    simp only [am_len] at hck
    subst hck
    cases e1
    exact lv_lconst hx hb hd rfl kk
  · simp only [am_ck, Bool.and_eq_true, decide_eq_true_eq] at hck
    obtain ⟨rfl, hck⟩ := hck
    simp only [am_len] at hck
    subst hck
    cases e1
    exact lv_null hx hb hd kk
  · simp only [am_ck, Bool.and_eq_true, decide_eq_true_eq] at hck
    obtain ⟨rfl, hck⟩ := hck
    simp only [am_len] at hck
    subst hck
    rename_i k
    cases hv : am_lc mi k with
    | none => rw [hv] at e1; cases e1
    | some z =>
      rw [hv] at e1
      simp only [Option.map_some, Option.some.injEq] at e1
      subst e1
      exact lv_ldc2 hx hb hown (hlc k z hv) hd kk
  · simp only [am_ck, Bool.and_eq_true, decide_eq_true_eq] at hck
    obtain ⟨rfl, hck⟩ := hck
    simp only [am_len] at hck
    subst hck
    split at e1
    · rename_i x hv
      cases e1
      exact lv_iload hx hb hd (hl.ld hv) kk
    · cases e1
  · simp only [am_ck, Bool.and_eq_true, decide_eq_true_eq] at hck
    obtain ⟨rfl, hck⟩ := hck
    simp only [am_len] at hck
    subst hck
    split at e1
    · rename_i x hv
      cases e1
      exact lv_iload_n hx hb hd rfl (hl.ld hv) kk
    · cases e1
  · simp only [am_ck, Bool.and_eq_true, decide_eq_true_eq] at hck
    obtain ⟨rfl, hck⟩ := hck
    simp only [am_len] at hck
    subst hck
    split at e1
    · rename_i x hv
      cases e1
      exact lv_lload hx hb hd (hl.ld hv) kk
    · cases e1
  · simp only [am_ck, Bool.and_eq_true, decide_eq_true_eq] at hck
    obtain ⟨rfl, hck⟩ := hck
    simp only [am_len] at hck
    subst hck
    split at e1
    · rename_i x hv
      cases e1
      exact lv_lload_n hx hb hd rfl (hl.ld hv) kk
    · cases e1
  · simp only [am_ck, Bool.and_eq_true, decide_eq_true_eq] at hck
    obtain ⟨rfl, hck⟩ := hck
    simp only [am_len] at hck
    subst hck
    split at e1
    · rename_i x hv
      cases e1
      exact lv_aload hx hb hd (hl.ld hv) kk
    · rename_i hv
      cases e1
      exact lv_aloadN hx hb hd (hl.ld hv) kk
    · cases e1
  · simp only [am_ck, Bool.and_eq_true, decide_eq_true_eq] at hck
    obtain ⟨rfl, hck⟩ := hck
    simp only [am_len] at hck
    subst hck
    split at e1
    · rename_i x hv
      cases e1
      exact lv_aload_n hx hb hd rfl (hl.ld hv) kk
    · rename_i hv
      cases e1
      exact lv_aload_nN hx hb hd rfl (hl.ld hv) kk
    · cases e1
  · cases e1
theorem am_sto_ok (hx : p.tables.exec = Jvm.exec) (hb : c.code = cc) (hl : am_Ls X lv ls) {lv' : am_L} {st' : List Value} (e1 : am_sto i lv st = some (lv', st')) (hd : decode cc pc = .ok (i0, len)) (hck : am_ck ow pc i len i0 = true)
    (kk : ∀ ls' : Array Slot, am_Ls X lv' ls' → W p l e R s m args below meth c H locs cells slots Q (F0 m (pc + len) ls' (st'.map (am_v X)))) : W p l e R s m args below meth c H locs cells slots Q (F0 m pc ls (st.map (am_v X))) := by
  have one : ∀ {lv1 : am_L} {k : Nat} {w : Value} {r : List Value}, (am_s1 lv k w).map (fun l => (l, r)) = some (lv', st') → am_s1 lv k w = some lv' ∧ r = st' := by
    intro lv1 k w r h
    cases hv : am_s1 lv k w with
    | none => rw [hv] at h; cases h
    | some z =>
      rw [hv] at h
      simp only [Option.map_some, Option.some.injEq, Prod.mk.injEq] at h
      exact ⟨by rw [h.1], h.2⟩
  have two : ∀ {lv1 : am_L} {k : Nat} {w : Value} {r : List Value}, (am_s2 lv k w).map (fun l => (l, r)) = some (lv', st') → am_s2 lv k w = some lv' ∧ r = st' := by
    intro lv1 k w r h
    cases hv : am_s2 lv k w with
    | none => rw [hv] at h; cases h
    | some z =>
      rw [hv] at h
      simp only [Option.map_some, Option.some.injEq, Prod.mk.injEq] at h
      exact ⟨by rw [h.1], h.2⟩
  unfold am_sto at e1
  split at e1
  · simp only [am_ck, Bool.and_eq_true, decide_eq_true_eq] at hck
    obtain ⟨rfl, hck⟩ := hck
    simp only [am_len] at hck
    subst hck
    split at e1
    · obtain ⟨h1, rfl⟩ := one (lv1 := lv) e1
      exact lv_istore hx hb hd hl.has (am_s1_lt h1) rfl (fun ls' h' => kk ls' (am_Ls.s1 h1 h').2)
    · cases e1
  · simp only [am_ck, Bool.and_eq_true, decide_eq_true_eq] at hck
    obtain ⟨rfl, hck⟩ := hck
    simp only [am_len] at hck
    subst hck
    split at e1
    · obtain ⟨h1, rfl⟩ := one (lv1 := lv) e1
      exact lv_istore_n hx hb hd rfl hl.has (am_s1_lt h1) rfl (fun ls' h' => kk ls' (am_Ls.s1 h1 h').2)
    · cases e1
  · simp only [am_ck, Bool.and_eq_true, decide_eq_true_eq] at hck
    obtain ⟨rfl, hck⟩ := hck
    simp only [am_len] at hck
    subst hck
    split at e1
    · obtain ⟨h1, rfl⟩ := two (lv1 := lv) e1
      exact lv_lstore hx hb hd hl.has (am_s2_lt h1) rfl (fun ls' h' => kk ls' (am_Ls.s2 h1 h').2)
    · cases e1
  · simp only [am_ck, Bool.and_eq_true, decide_eq_true_eq] at hck
    obtain ⟨rfl, hck⟩ := hck
    simp only [am_len] at hck
    subst hck
    split at e1
    · obtain ⟨h1, rfl⟩ := two (lv1 := lv) e1
      exact lv_lstore_n hx hb hd rfl hl.has (am_s2_lt h1) rfl (fun ls' h' => kk ls' (am_Ls.s2 h1 h').2)
    · cases e1
  · simp only [am_ck, Bool.and_eq_true, decide_eq_true_eq] at hck
    obtain ⟨rfl, hck⟩ := hck
    simp only [am_len] at hck
    subst hck
    split at e1
    · obtain ⟨h1, rfl⟩ := one (lv1 := lv) e1
      exact lv_astore hx hb hd hl.has (am_s1_lt h1) rfl (fun ls' h' => kk ls' (am_Ls.s1 h1 h').2)
    · obtain ⟨h1, rfl⟩ := one (lv1 := lv) e1
      exact lv_astoreN hx hb hd hl.has (am_s1_lt h1) rfl (fun ls' h' => kk ls' (am_Ls.s1 h1 h').2)
    · cases e1
  · simp only [am_ck, Bool.and_eq_true, decide_eq_true_eq] at hck
    obtain ⟨rfl, hck⟩ := hck
    simp only [am_len] at hck
    subst hck
    split at e1
    · obtain ⟨h1, rfl⟩ := one (lv1 := lv) e1
      exact lv_astore_n hx hb hd rfl hl.has (am_s1_lt h1) rfl (fun ls' h' => kk ls' (am_Ls.s1 h1 h').2)
    · obtain ⟨h1, rfl⟩ := one (lv1 := lv) e1
      exact lv_astore_nN hx hb hd rfl hl.has (am_s1_lt h1) rfl (fun ls' h' => kk ls' (am_Ls.s1 h1 h').2)
    · cases e1
  · rename_i k n
    simp only [am_ck, Bool.and_eq_true, decide_eq_true_eq] at hck
    obtain ⟨rfl, hck⟩ := hck
    simp only [am_len] at hck
    subst hck
    split at e1
    · rename_i x hv
      obtain ⟨h1, rfl⟩ := one (lv1 := lv) e1
      have hk : lv[k]? = some (some (.int x)) := by
        unfold am_ld at hv
        split at hv
        · rename_i w hw
          cases hv
          exact hw
        · cases hv
      obtain ⟨j, hj⟩ := List.getElem?_of_mem (am_ps_mem (X := X) hk)
      exact lv_iinc hx hb hd hl.has hj rfl (am_s1_lt h1) rfl (fun ls' h' => kk ls' (am_Ls.s1 h1 h').2)
    · cases e1
  · cases e1
theorem am_ari_ok (hx : p.tables.exec = Jvm.exec) (hb : c.code = cc) {st' : List Value} (e1 : am_ari i st = some st') (hd : decode cc pc = .ok (i0, len)) (hck : am_ck ow pc i len i0 = true)
    (kk : W p l e R s m args below meth c H locs cells slots Q (F0 m (pc + len) ls (st'.map (am_v X)))) : W p l e R s m args below meth c H locs cells slots Q (F0 m pc ls (st.map (am_v X))) := by
  unfold am_ari at e1
  split at e1 <;> first | (simp only [am_ck, Bool.and_eq_true, decide_eq_true_eq] at hck; obtain ⟨rfl, hck⟩ := hck; simp only [am_len] at hck; subst hck) | (cases e1; done)
  · split at e1
    · cases e1; exact lv_iadd hx hb hd kk
    · cases e1
  · split at e1
    · cases e1; exact lv_isub hx hb hd kk
    · cases e1
  · split at e1
    · cases e1; exact lv_imul hx hb hd kk
    · cases e1
  · split at e1
    · cases e1; exact lv_iand hx hb hd kk
    · cases e1
  · split at e1
    · cases e1; exact lv_ior hx hb hd kk
    · cases e1
  · split at e1
    · cases e1; exact lv_ixor hx hb hd kk
    · cases e1
  · split at e1
    · split at e1
      · cases e1
      · rename_i hne; cases e1; exact lv_idiv hx hb hd hne kk
    · cases e1
  · split at e1
    · split at e1
      · cases e1
      · rename_i hne; cases e1; exact lv_irem hx hb hd hne kk
    · cases e1
  · split at e1
    · cases e1; exact lv_ineg hx hb hd kk
    · cases e1
  · split at e1
    · cases e1; exact lv_ishl hx hb hd kk
    · cases e1
  · split at e1
    · cases e1; exact lv_ishr hx hb hd kk
    · cases e1
  · split at e1
    · cases e1; exact lv_i2c hx hb hd rfl kk
    · cases e1
  · split at e1
    · cases e1; exact lv_i2l hx hb hd rfl kk
    · cases e1
  · split at e1
    · cases e1; exact lv_l2i hx hb hd rfl kk
    · cases e1
  · split at e1
    · cases e1; exact lv_ladd hx hb hd kk
    · cases e1
  · split at e1
    · cases e1; exact lv_lmul hx hb hd kk
    · cases e1
  · split at e1
    · split at e1
      · cases e1
      · rename_i hne; cases e1; exact lv_ldiv hx hb hd hne kk
    · cases e1
  · split at e1
    · split at e1
      · cases e1
      · rename_i hne; cases e1; exact lv_lrem hx hb hd hne kk
    · cases e1
  · split at e1
    · cases e1; exact W.lcmp hx hb hd kk
    · cases e1
  · split at e1
    · split at e1
      · rename_i hv; cases e1; exact lv_dup hx hb hd (by rw [am_v_cat]; exact hv) kk
      · cases e1
    · cases e1
  · split at e1
    · split at e1
      · rename_i hv; cases e1; exact lv_pop hx hb hd (by rw [am_v_cat]; exact hv) kk
      · cases e1
    · cases e1
  · split at e1
    · split at e1
      · rename_i hv; cases e1; exact lv_dup2_11 hx hb hd (by rw [am_v_cat]; exact hv.1) (by rw [am_v_cat]; exact hv.2) kk
      · cases e1
    · cases e1
  · split at e1
    · split at e1
      · rename_i hv; cases e1; exact lv_dup_x1 hx hb hd (by rw [am_v_cat]; exact hv.1) (by rw [am_v_cat]; exact hv.2) kk
      · cases e1
    · cases e1
end AmSimple
