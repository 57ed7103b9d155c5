/-! The calls that are one instruction in the tables: Object.<init>, String.checkIndex, Math.max, min, abs. -/
def am_Kr (f lo : Nat) : Room := { frames := f, cells := 0, slots := 0, locals := lo }
/-- a static method that neither makes nor writes a cell -/
def am_K (l : Launch) (s0 : State) (y : MethodName) (bytes : ByteArray) (ml : Nat) (ret : Option FieldType) (f lo : Nat) (H : Heap) (as : List Value) (v : Option Value) : Prop :=
  MetFree l y (headSpec [.code y bytes ml ret] (am_Kr f lo)) (fun a U => a = as.toArray ∧ s0.WarmedH U.vm ∧ U.heap = H) (fun _ _ _ _ _ => True) (fun _ st oc t => oc = .returned v ∧ t.heap = H ∧ st.WarmedH t.vm ∧ st.sameButNew ({ t with vm := st.vm } : State) [] 0 0)
def am_KQ (s : State) (below : List Frame) (H : Heap) (v : Option Value) : State → Prop := fun t => t.status = .running ∧ Ended t below (.returned v) ∧ t.heap = H ∧ s.WarmedH t.vm ∧ s.sameButNew ({ t with vm := s.vm } : State) [] 0 0
section AmSpec
variable {l : Launch} {X : am_X} {s0 : State}
theorem am_K_of {y : MethodName} {bytes : ByteArray} {ml : Nat} {ret : Option FieldType} {f lo : Nat} {H : Heap} {as : List Value} {v : Option Value} (hy : plainName y.cls = true)
    (body : ∀ (p : Program) (e : Env) (s : State) (m : MethodId) (args : Array Value) (below : List Frame) (meth : Method) (c : Code), p.tables.exec = Jvm.exec → c.code = bytes → c.maxLocals = ml → meth.sig.returnType = ret → meth.locks = false → s.vm.findClass y.cls = some m.cls → s0.WarmedH s.vm → s.heap = H →
      W p l e (am_Kr f lo) s m args below meth c H [] 0 0 (am_KQ s below H v) (F0 m 0 (lg_sl as ++ List.replicate (ml - (lg_sl as).length) Slot.unset).toArray [])) : am_K l s0 y bytes ml ret f lo H as v := by
  refine MetFree.of_bodyS (code := bytes) (maxLocals := ml) (ret := ret) hy ?_ ?_
  · intro args s m hp hn
    obtain ⟨meth, c, h1, h2, h3, h4, h5, h6, -⟩ := Cond.code_spec hn (atoms_spec (ws := [.code y bytes ml ret]) hp _ List.mem_cons_self)
    exact ⟨meth, c, h1, h2, h3, h4, h5, h6⟩
  · intro p e s m args below meth c s1 B hml hP _
    obtain ⟨rfl, hLt, hPh⟩ := hP
    have hh0 : s1.heap = s.heap := by rw [B.state]; rfl
    have hS := Stand.of_body B
    obtain ⟨t, a1, b1, b2, b3, b4, b5⟩ := body p e s m _ below meth c B.exec B.bytes hml B.returns B.notSynchronized (findClass_of_methodNamed B.named) hLt hPh s1 (by rw [hh0]; exact hPh) hS
    refine ⟨t, .returned v, ?_, b1, b2, rfl, b3, b4, b5⟩
    rw [lg_entry_eq]
    exact a1
section Walk
variable {p : Program} {e : Env} {R : Room} {s : State} {m : MethodId} {args : Array Value} {below : List Frame} {meth : Method} {c : Code} {H : Heap} {locs : List Loc} {cells slots : Nat} {Q : State → Prop}
theorem am_KQ_of {v : Option Value} (t : State) (h : MQ below (fun _ _ oc t => oc = .returned v ∧ t.heap = H ∧ s.WarmedH t.vm) args s 0 0 (fun _ => False) t) : am_KQ s below H v t := by
  obtain ⟨oc, b1, b2, ⟨q1, q2, q3⟩, L, ⟨_, w, fr⟩, hL⟩ := h
  subst q1
  have : L = [] := List.eq_nil_iff_forall_not_mem.mpr (fun q hq => hL q hq)
  subst this
  exact ⟨b1, b2, q2, w, fr⟩
theorem am_K_call {y : MethodName} {bytes cc : ByteArray} {ml : Nat} {ret : Option FieldType} {f lo : Nat} {as rest : List Value} {v : Option Value} {own : String} {k pc : Nat} {ls : Array Slot} (hM : am_K l s0 y bytes ml ret f lo H as v) (hx : p.tables.exec = Jvm.exec) (hb : c.code = cc) (hown : s.vm.findClass own = some m.cls)
    (hw : s0.WarmedH s.vm) (hlink : (Jvm.Cond.methodLink own k y).before args s = true) (hstat : (Jvm.Cond.static y).before args s = true) (hcw : am_w s0 (.code y bytes ml ret)) (hini : am_w s0 (.initialized y.cls)) (hy : y.cls ≠ "java/lang/invoke/MethodHandle" ∧ y.cls ≠ "java/lang/invoke/VarHandle")
    (hn : am_np y.desc = some as.length) (hls : ls.size = c.maxLocals) (hcat : (rest.map fun v => v.category).sum ≤ 8) (hRf : f + 1 ≤ R.frames) (hRl : 8 + (ml + 11) + lo ≤ R.locals) (hcells : cells ≤ R.cells) (hslots : slots ≤ R.slots) (hd : decode cc pc = .ok (.invokestatic k, 3))
    (kk : W p l e R s m args below meth c H locs cells slots Q (F0 m (pc + 3) ls (v.toList ++ rest))) : W p l e R s m args below meth c H locs cells slots Q (F0 m pc ls (as.reverse ++ rest)) := by
  intro T hT XX
  obtain ⟨mk, hnamed⟩ := Cond.code_named (hcw args s hw)
  obtain ⟨methM, cM, hmethM, hcM, -, hmlM, -, -, -, hsigM⟩ := Cond.code_spec hnamed (hcw args s hw)
  have hstatic : methM.isStatic = true := Cond.static_spec hnamed hmethM hstat
  obtain ⟨kP, hkP, -⟩ := className_of_methodNamed hnamed
  have hinitP : kP.init = .initialized := Cond.initialized_spec (findClass_of_methodNamed hnamed) hkP (hini args s hw)
  obtain ⟨vm1, X1, hst1⟩ := XX.invokestatic hx hown hlink hnamed hmethM hstatic hkP hinitP hy (g := F0 m pc ls (as.reverse ++ rest)) rfl (argsL := as) (rest := rest) (by rw [am_np_sig hn hsigM]) rfl (by rw [hb]; exact hd)
  have hwarm : s0.WarmedH (T.setVm vm1).vm := State.WarmedH.trans hw X1.warmed
  have hnU : (T.setVm vm1).methodNamed? y = some mk := X1.named hnamed
  obtain ⟨methY, cY, y1, y2, -, y4, -⟩ := Cond.code_spec hnU (hcw #[] _ hwarm)
  have hUh : (T.setVm vm1).heap = H := hT
  obtain ⟨oc, t, L, g', mk', hq, hL, X2, hsteps⟩ := am_back (mc := 0) (ms := 0) (Bad := fun _ => False) (a := as.toArray) hM X1 (g := F0 m pc ls rest) rfl hls (by rw [hb]; exact hd)
    (by show 2 * 0 + (rest.map fun v => v.category).sum ≤ 8; omega) hnU y1 y2 (hini _ _ hwarm) hRf (by rw [y4]; exact hRl)
    (atoms_intro (ws := [.code y bytes ml ret]) (fun w hw' => by rw [List.mem_singleton] at hw'; subst hw'; exact hcw _ _ hwarm)) hcells hslots
    (fun g' mk' => ⟨rfl, hwarm, hUh⟩) (fun g' mk' o2 t2 hq => ⟨hq.2.2.1, [], hq.2.2.2, fun q hq => by cases hq⟩)
  obtain ⟨rfl, hH, -, -⟩ := hq
  have hLn : L = [] := List.eq_nil_iff_forall_not_mem.mpr (fun q hq => hL q hq)
  subst hLn
  rw [List.append_nil] at X2
  obtain ⟨t2, a1, b1⟩ := kk (am_af (T.setVm vm1) t) hH X2
  refine ⟨t2, hst1 t2 fun acts => ?_, b1⟩
  rw [doInvoke_state]
  exact Steps.trans hsteps a1
end Walk
def am_yP : MethodName := ⟨"jdk/internal/util/Preconditions", "checkIndex", "(IILjava/util/function/BiFunction;)I"⟩
def am_yS : MethodName := ⟨"java/lang/String", "checkIndex", "(II)V"⟩
theorem am_kP {H : Heap} {k n : Int32} {fv : Value} (h0 : 0 ≤ k) (hk : k < n) (hf : fv.category = 1) : am_K l s0 am_yP prog_25_method_11_code 3 (some .int) 1 20 H [.int k, .int n, fv] (some (.int k)) := by
  refine am_K_of (by decide +kernel) ?_
  intro p e s m args below meth c hx hb hml hret hlocks hown hw hH
  have hsl : lg_sl [.int k, .int n, fv] = [.val (.int k), .val (.int n), .val fv] := by
    cases fv <;> first | rfl | (simp [Value.category] at hf)
  rw [hsl]
  refine lv_iload_n (i := 0) (x := k) hx hb (by decide +kernel : decode prog_25_method_11_code 0 = .ok (.iload_n 0, 1)) rfl rfl ?_
  refine lv_if_lt hx hb (by decide +kernel : decode prog_25_method_11_code 1 = .ok (.ifCond .lt 8, 3)) (tgt := 9) rfl (fun h => absurd h0 (by rw [Int32.not_le]; exact h)) (fun _ => ?_)
  refine lv_iload_n (i := 0) (x := k) hx hb (by decide +kernel : decode prog_25_method_11_code 4 = .ok (.iload_n 0, 1)) rfl rfl ?_
  refine lv_iload_n (i := 1) (x := n) hx hb (by decide +kernel : decode prog_25_method_11_code 5 = .ok (.iload_n 1, 1)) rfl rfl ?_
  refine lv_icmp_lt hx hb (by decide +kernel : decode prog_25_method_11_code 6 = .ok (.if_icmp .lt 10, 3)) (tgt := 16) rfl (fun _ => ?_) (fun h => absurd hk h)
  refine lv_iload_n (i := 0) (x := k) hx hb (by decide +kernel : decode prog_25_method_11_code 16 = .ok (.iload_n 0, 1)) rfl rfl ?_
  refine W.am_mono (am_KQ_of (args := args)) ?_
  exact W.zret hx hb hret rfl (fun t ht hW => ⟨rfl, ht, hW⟩) (fun q hq => by cases hq) (by decide +kernel : decode prog_25_method_11_code 17 = .ok (.ireturn, 1)) hlocks
abbrev am_Zs (X : am_X) (s0 : State) : Prop := va_Zq "jdk/internal/util/Preconditions" "SIOOBE_FORMATTER" "Ljava/util/function/BiFunction;" (fun q => X.2.1 ≤ q) s0 s0.heap
theorem am_kS {a0 : Array Value} {H : Heap} {k n : Int32} (hts : ∀ w ∈ lw_tbl, w.before a0 s0 = true) (hZ : am_Zs X s0) (hH0 : ∀ q : Nat, q < X.2.1 → H[q]? = s0.heap[q]?) (h0 : 0 ≤ k) (hk : k < n) : am_K l s0 am_yS prog_21_method_155_code 2 none 3 60 H [.int k, .int n] none := by
  refine am_K_of (by decide +kernel) ?_
  intro p e s m args below meth c hx hb hml hret hlocks hown hw hH
  have hZ1 : va_Zq "jdk/internal/util/Preconditions" "SIOOBE_FORMATTER" "Ljava/util/function/BiFunction;" (fun q => X.2.1 ≤ q) s H := (va_Zq.moved hw.alike hZ).kept (fun a _ hA => hH0 a (Nat.lt_of_not_le hA))
  have hgood : ∀ {w : Jvm.Cond} (i : Nat), lw_tbl[i]? = some w → goodWord w = true → w.before args s = true := fun i hi hg => am_w_of hts i hi hg args s hw
  have key : ∀ v : Value, v.category = 1 → va_Z "jdk/internal/util/Preconditions" "SIOOBE_FORMATTER" "Ljava/util/function/BiFunction;" v (fun q => X.2.1 ≤ q) s H →
      W p l e (am_Kr 3 60) s m args below meth c H [] 0 0 (am_KQ s below H none) (F0 m 0 (lg_sl [.int k, .int n] ++ List.replicate (2 - (lg_sl [.int k, .int n]).length) Slot.unset).toArray []) := by
    intro v hv hz
    obtain ⟨cf, kf, fi, f, a, cell, z1, z2, z3, z4, z5, z6, z7, -⟩ := hz
    refine lv_iload_n (i := 0) (x := k) hx hb (by decide +kernel : decode prog_21_method_155_code 0 = .ok (.iload_n 0, 1)) rfl rfl ?_
    refine lv_iload_n (i := 1) (x := n) hx hb (by decide +kernel : decode prog_21_method_155_code 1 = .ok (.iload_n 1, 1)) rfl rfl ?_
    refine W.gets hx hb hown (hgood 292 (by decide +kernel) rfl) z1 z2 z3 z4 z5 (fun e => by rw [e] at z6; cases z6) z7 rfl (by decide +kernel : decode prog_21_method_155_code 2 = .ok (.getstatic 1053, 3)) ?_
    refine am_K_call (as := [.int k, .int n, v]) (rest := []) (am_kP h0 hk hv) hx hb hown hw (hgood 294 (by decide +kernel) rfl) (hgood 295 (by decide +kernel) rfl) (am_w_of hts 296 (by decide +kernel) rfl) (am_w_of hts 59 (by decide +kernel) rfl) ⟨by decide +kernel, by decide +kernel⟩ (by show am_np am_yP.desc = some 3; decide +kernel) hml.symm (by decide) (by decide) (by decide) (by decide) (by decide) (by decide +kernel : decode prog_21_method_155_code 5 = .ok (.invokestatic 1059, 3)) ?_
    refine lv_pop hx hb (by decide +kernel : decode prog_21_method_155_code 8 = .ok (.pop, 1)) rfl ?_
    refine W.am_mono (am_KQ_of (args := args)) ?_
    exact W.vret hx hb hret (fun t ht hW => ⟨rfl, ht, hW⟩) (fun q hq => by cases hq) (by decide +kernel : decode prog_21_method_155_code 9 = .ok (.return_, 1)) hlocks
  rcases hZ1 with h | ⟨t, h⟩
  · exact key _ rfl h
  · exact key _ rfl h
/-- the words of these calls, by their places -/
def am_obI : List Nat := [78, 87, 327, 364, 374, 481, 757]
def am_maI : List Nat := [348, 571, 582, 605]
def am_maN (x : Nat) : MethodName := match x with
  | 0 => Lib.Math.max.name
  | 1 => Lib.Math.min.name
  | _ => Lib.Math.abs.name
set_option maxRecDepth 100000 in
theorem am_obA : am_obL.length = am_obI.length ∧ (am_obL.zip am_obI).all (fun z => decide (lw_tbl[z.2]? = some (.methodLink (am_ow z.1.1) z.1.2.1 Lib.objectInit))) = true := by decide +kernel
set_option maxRecDepth 100000 in
theorem am_maA : am_maL.length = am_maI.length ∧ (am_maL.zip am_maI).all (fun z => decide (lw_tbl[z.2]? = some (.methodLink (am_ow z.1.1) z.1.2.1 (am_maN z.1.2.2)))) = true := by decide +kernel
theorem am_zip_mem {α β : Type} {x : α} : ∀ {l : List α} {k : List β}, l.length = k.length → x ∈ l → ∃ y, (x, y) ∈ l.zip k
  | [], _, _, h => by cases h
  | _ :: _, [], e, _ => by cases e
  | a :: l, b :: k, e, h => by
    rcases List.mem_cons.mp h with rfl | h
    · exact ⟨b, List.mem_cons_self⟩
    · obtain ⟨y, hy⟩ := am_zip_mem (k := k) (by simpa using e) h
      exact ⟨y, List.mem_cons_of_mem _ hy⟩
theorem am_obW {ow k x : Nat} (h : am_s3 ow k am_obL = some x) : Jvm.Cond.methodLink (am_ow ow) k Lib.objectInit ∈ lw_tbl := by
  obtain ⟨y, hy⟩ := am_zip_mem am_obA.1 (am_s3_mem h)
  have q := List.all_eq_true.mp am_obA.2 _ hy
  rw [decide_eq_true_eq] at q
  exact List.mem_of_getElem? q
theorem am_maW {ow k x : Nat} (h : am_s3 ow k am_maL = some x) : Jvm.Cond.methodLink (am_ow ow) k (am_maN x) ∈ lw_tbl := by
  obtain ⟨y, hy⟩ := am_zip_mem am_maA.1 (am_s3_mem h)
  have q := List.all_eq_true.mp am_maA.2 _ hy
  rw [decide_eq_true_eq] at q
  exact List.mem_of_getElem? q
theorem am_ciA {ow k x : Nat} (h : am_s3 ow k am_ciL = some x) : ow = 5 ∧ k = 9 := by
  have := am_s3_mem h
  simp only [am_ciL, List.mem_singleton, Prod.mk.injEq] at this
  exact ⟨this.1, this.2.1⟩
set_option maxHeartbeats 1000000 in
theorem am_hs_ok {a0 : Array Value} (hts : ∀ w ∈ lw_tbl, w.before a0 s0 = true) (hZ : am_Zs X s0) : am_HS l X s0 := by
  intro mi pc len i i0 st r hd hck hspc p e R s m args below meth c H locs cells slots Q ls hx hb hown hLt ho hcells hslots hls hRf hRl kk
  have hw := hLt.1
  have hmem : ∀ {w : Jvm.Cond}, w ∈ lw_tbl → goodWord w = true → w.before args s = true := fun hm hg => word_at hw (good_of_word hg) (hts _ hm)
  have hgood : ∀ {w : Jvm.Cond} (i : Nat), lw_tbl[i]? = some w → goodWord w = true → w.before args s = true := fun i hi hg => am_w_of hts i hi hg args s hw
  unfold am_spc at hspc
  split at hspc
  · simp only [am_ck] at hck
    split at hck
    · rename_i k
      simp only [Bool.and_eq_true, decide_eq_true_eq] at hck
      obtain ⟨ho3, rfl⟩ := hck
      obtain ⟨x, hx3⟩ := Option.isSome_iff_exists.mp ho3
      split at hspc
      · rename_i a rest
        split at hspc
        · rename_i hc8
          cases hspc
          refine W.objInit hx hb hown (hmem (am_obW hx3) rfl) (hgood 79 (by decide +kernel) rfl) (hgood 80 (by decide +kernel) rfl) (g := F0 m pc ls ((Value.ref a :: r).map (am_v X))) rfl hls rfl hd (by omega) ?_ kk
          show 2 * 0 + ((r.map (am_v X)).map fun v => v.category).sum + 12 ≤ R.locals
          rw [am_v_cats]
          omega
        · cases hspc
      · cases hspc
    · cases hck
  · simp only [am_ck] at hck
    split at hck
    · rename_i k
      simp only [Bool.and_eq_true, decide_eq_true_eq] at hck
      obtain ⟨ho3, rfl⟩ := hck
      obtain ⟨x, hx3⟩ := Option.isSome_iff_exists.mp ho3
      obtain ⟨h5, rfl⟩ := am_ciA hx3
      split at hspc
      · rename_i n k rest
        split at hspc
        · rename_i hc8
          cases hspc
          rw [h5] at hown
          refine am_K_call (as := [.int k, .int n]) (rest := r.map (am_v X)) (am_kS hts hZ (fun q hq => by rw [ho q hq]; exact hLt.2 q hq) hc8.1 hc8.2.1) hx hb hown hw (hgood 289 (by decide +kernel) rfl) (hgood 290 (by decide +kernel) rfl) (am_w_of hts 291 (by decide +kernel) rfl) (am_w_of hts 57 (by decide +kernel) rfl) ⟨by decide +kernel, by decide +kernel⟩ (by show am_np am_yS.desc = some 2; decide +kernel) hls ?_ (by omega) (by omega) hcells hslots hd kk
          rw [am_v_cats]
          exact hc8.2.2
        · cases hspc
      · cases hspc
    · cases hck
  · simp only [am_ck] at hck
    split at hck
    · rename_i k
      simp only [Bool.and_eq_true, decide_eq_true_eq] at hck
      obtain ⟨ho3, rfl⟩ := hck
      split at hspc
      · rename_i y x rest
        split at hspc
        · rename_i hc8
          cases hspc
          refine va_mmax hx hb hls.symm hown (hmem (am_maW ho3) rfl) (hgood 349 (by decide +kernel) rfl) (hgood 64 (by decide +kernel) rfl) (hgood 350 (by decide +kernel) rfl) (by omega) ?_ hcells hslots hd kk
          rw [am_v_cats]
          omega
        · cases hspc
      · cases hspc
    · cases hck
  · simp only [am_ck] at hck
    split at hck
    · rename_i k
      simp only [Bool.and_eq_true, decide_eq_true_eq] at hck
      obtain ⟨ho3, rfl⟩ := hck
      split at hspc
      · rename_i y x rest
        split at hspc
        · rename_i hc8
          cases hspc
          refine va_mmin hx hb hls.symm hown (hmem (am_maW ho3) rfl) (hgood 572 (by decide +kernel) rfl) (hgood 64 (by decide +kernel) rfl) (hgood 573 (by decide +kernel) rfl) (by omega) ?_ hcells hslots hd kk
          rw [am_v_cats]
          omega
        · cases hspc
      · cases hspc
    · cases hck
  · simp only [am_ck] at hck
    split at hck
    · rename_i k
      simp only [Bool.and_eq_true, decide_eq_true_eq] at hck
      obtain ⟨ho3, rfl⟩ := hck
      split at hspc
      · rename_i x rest
        split at hspc
        · rename_i hc8
          cases hspc
          refine va_mabs hx hb hls.symm hown (hmem (am_maW ho3) rfl) (hgood 583 (by decide +kernel) rfl) (hgood 64 (by decide +kernel) rfl) (hgood 584 (by decide +kernel) rfl) (by omega) ?_ hcells hslots hd kk
          rw [am_v_cats]
          omega
        · cases hspc
      · cases hspc
    · cases hck
  · cases hspc
end AmSpec
