/-! The invoking instructions are linked (am_HC). -/
theorem am_inv_inv {i : Instr} {st as r : List Value} {h : am_H} {mj : Nat} (e : am_inv i st h = some (mj, as, r)) : ∃ (x n : Nat) (stt : Bool), (i = .invokevirtual x ∨ i = .invokestatic x ∨ i = .invokespecial x ∨ ∃ c, i = .invokeinterface x c) ∧ am_arg x = some (n, stt) ∧ st = as.reverse ++ r ∧ as.length = n ∧
    (stt = true → am_tgt x 0 = some mj) ∧ (stt = false → ∃ (a : Nat) (as' : List Value) (ci : Nat) (fs : List Value), as = .ref a :: as' ∧ am_at h a = some (.inl (ci, fs)) ∧ am_tgt x ci = some mj) := by
  unfold am_inv at e
  split at e
  · cases e
  · rename_i x hx
    have hi : i = .invokevirtual x ∨ i = .invokestatic x ∨ i = .invokespecial x ∨ ∃ c, i = .invokeinterface x c := by
      split at hx
      · cases hx; exact Or.inl rfl
      · cases hx; exact Or.inr (Or.inl rfl)
      · cases hx; exact Or.inr (Or.inr (Or.inl rfl))
      · cases hx; exact Or.inr (Or.inr (Or.inr ⟨_, rfl⟩))
      · cases hx
    split at e
    · cases e
    · rename_i n stt harg
      split at e
      · rename_i hn
        have hcut : st = ((st.take n).reverse).reverse ++ st.drop n := by rw [List.reverse_reverse, List.take_append_drop]
        have hl : ((st.take n).reverse).length = n := by rw [List.length_reverse, List.length_take]; omega
        split at e
        · rename_i hs
          split at e
          · rename_i mj' ht
            split at e
            · cases e
              exact ⟨x, n, stt, hi, harg, hcut, hl, fun _ => ht, fun hf => by rw [hs] at hf; cases hf⟩
            · cases e
          · cases e
        · rename_i hs
          split at e
          · rename_i a as' has
            split at e
            · rename_i ci fs hat
              split at e
              · rename_i mj' ht
                split at e
                · cases e
                  exact ⟨x, n, stt, hi, harg, hcut, hl, fun hf => absurd hf hs, fun _ => ⟨a, as', ci, fs, has, hat, ht⟩⟩
                · cases e
              · cases e
            · cases e
          · cases e
      · cases e
theorem am_np_sig {d : String} {n : Nat} {sig : MethodDescriptor} (h : am_np d = some n) (hs : parseMethodDescriptor d = some sig) : sig.parameters.length = n := by
  unfold am_np at h
  rw [hs] at h
  exact Option.some.inj h
theorem am_cw_sig {mi : Nat} {args : Array Value} {s : State} {m : MethodId} (h : (am_cw mi).before args s = true) (hn : s.methodNamed? (am_mn mi) = some m) : ∃ meth, s.vm.method? m = some meth ∧ parseMethodDescriptor (am_mn mi).desc = some meth.sig := by
  unfold am_cw at h
  split at h
  · obtain ⟨meth, c, h1, h2, h3, h4, h5, h6, h7, h8⟩ := Cond.code_spec hn h
    exact ⟨meth, h1, h8⟩
  · obtain ⟨m9, meth, c, hn9, h1, h2, h3, h4, h5, h6, h7, h8⟩ := Cond.codeWith_spec h
    cases hn.symm.trans hn9
    exact ⟨meth, h1, h8⟩
theorem am_cw_named {mi : Nat} {args : Array Value} {s : State} (h : (am_cw mi).before args s = true) : ∃ m, s.methodNamed? (am_mn mi) = some m := by
  unfold am_cw at h
  split at h
  · exact Cond.code_named h
  · obtain ⟨m9, meth, c, hn9, -⟩ := Cond.codeWith_spec h
    exact ⟨m9, hn9⟩
set_option maxRecDepth 100000 in
theorem am_initA : (List.range 150).all (fun mi => decide ((am_mn mi).name = "<init>" → am_hs mi = [] ∧ am_mr mi = none)) = true := by decide +kernel
theorem am_cw_init {mi : Nat} {args : Array Value} {s : State} (hm : mi < 150) (hn : (am_mn mi).name = "<init>") (h : (am_cw mi).before args s = true) : (Jvm.Cond.code (am_mn mi) (am_mb mi) (am_ml mi) none).before args s = true := by
  have q := List.all_eq_true.mp am_initA mi (List.mem_range.mpr hm)
  rw [decide_eq_true_eq] at q
  obtain ⟨q1, q2⟩ := q hn
  unfold am_cw at h
  rw [q1, q2] at h
  exact h
theorem am_stk {X : am_X} {st as' r : List Value} {a : Nat} (h : st = (Value.ref a :: as').reverse ++ r) : st.map (am_v X) = (as'.map (am_v X)).reverse ++ Value.ref (am_ph X a) :: r.map (am_v X) := by
  subst h
  simp only [List.reverse_cons, List.append_assoc, List.map_append, List.map_reverse, List.singleton_append, List.map_cons]
  rfl
set_option maxHeartbeats 4000000 in
theorem am_hc {l : Launch} {X : am_X} {s0 : State} {a0 : Array Value} (hts : ∀ w ∈ lw_tbl, w.before a0 s0 = true) (hI : am_inj X) (hD : am_HD) (hW : am_HW s0) : am_HC l X s0 := by
  intro mi pc len i mj as r st h hc hinv p e R s m args below meth c T locs cells slots ls hx hb hown hLt hF hP ho XX
  obtain ⟨i0, hd, hck, -⟩ := hD mi pc len i hc
  refine ⟨⟨i0, by rw [hb]; exact hd⟩, ?_⟩
  obtain ⟨hokj, -, -⟩ := am_inv_fit hinv
  obtain ⟨x, n, stt, hi, harg, hst, hlen, hS, hV⟩ := am_inv_inv hinv
  have hop := am_op hc
  have hwarm := hLt.1
  obtain ⟨-, -, hwm⟩ := hW mj hokj
  have hcw := (hwm args s hwarm).1
  have hiniw := (hwm args s hwarm).2
  have hymh : (am_mn mj).cls ≠ "java/lang/invoke/MethodHandle" ∧ (am_mn mj).cls ≠ "java/lang/invoke/VarHandle" := (am_nat hokj).2.2.2.2
  have hgood : ∀ {w : Jvm.Cond}, goodWord w = true → w ∈ lw_tbl → w.before args s = true := fun hg hm => word_at hwarm (good_of_word hg) (hts _ hm)
  have hsite : ∀ {ow k : Nat}, am_il ow k = some x → (am_site x).2.1 = ow ∧ (am_site x).2.2.1 = k := by
    intro ow k hil
    have q := List.all_eq_true.mp am_ilA _ (am_s3_mem hil)
    simp only [Bool.and_eq_true, decide_eq_true_eq] at q
    exact q
  rcases hi with rfl | rfl | rfl | ⟨cnt, rfl⟩
  · simp only [am_opB, decide_eq_true_eq] at hop
    simp only [am_ck] at hck
    split at hck
    · rename_i k
      simp only [Bool.and_eq_true, decide_eq_true_eq] at hck
      obtain ⟨hil, rfl⟩ := hck
      obtain ⟨hs1, hs2⟩ := hsite hil
      have hstt : stt = false := by
        cases stt with
        | false => rfl
        | true =>
          obtain ⟨is, his⟩ := am_tg_ok (hS rfl)
          obtain ⟨-, -, ⟨n', s', g1, g2, -⟩, -⟩ := am_seB_ok his
          rw [harg] at g1
          cases g1
          have := g2.mp rfl
          omega
      obtain ⟨a, as', ci, fs, rfl, hat, htg⟩ := hV hstt
      obtain ⟨is, his⟩ := am_tg_ok htg
      obtain ⟨hws, -, ⟨n', s', g1, -, -, g4⟩, -, hnm, hox⟩ := am_seB_ok his
      rw [harg] at g1
      cases g1
      obtain ⟨g5, g6, g7⟩ := g4 hstt
      obtain ⟨cell, q1, z1, z2, z3, -⟩ := am_look hF hI hP ho hat
      have hlen' : (as'.map (am_v X)).length = n - 1 := by
        rw [List.length_map]
        simp only [List.length_cons] at hlen
        omega
      rcases (by omega : (am_site x).1 = 0 ∨ (am_site x).1 = 1) with hk | hk
      · simp only [am_seW, hk, hs1, hs2] at hws
        have w1 := hgood rfl (hws (.methodLink (am_ow (am_mo mi)) k (am_mn mj)) (by simp))
        have w2 := hgood rfl (hws (.instanceMethod (am_mn mj)) (by simp))
        have w3 := hgood rfl (hws (.selects (am_cn ci) (am_mn mj) (am_mn mj)) (by simp))
        obtain ⟨mk, methM, hnamed, hmethM, hstM, habM⟩ := Cond.instanceMethod_spec w2
        obtain ⟨methM', hmethM', hsigM⟩ := am_cw_sig hcw hnamed
        cases hmethM.symm.trans hmethM'
        obtain ⟨c2, r2, m2, p1, p2, p3, p4, kP, hkP, hkPi⟩ := Cond.selects_spec w3
        cases z3.symm.trans p1
        cases (State.methodFound?_of_named hnamed hymh).symm.trans p2
        cases hnamed.symm.trans p3
        have hselP : selectMethod e.platform s.vm cell.cls mk = .method mk := by rw [Launch.admits_selectMethod XX.admits]; exact p4
        obtain ⟨vm1, X1, hst1⟩ := XX.invokevirtual hx hown w1 hnamed hmethM hstM hkP hkPi hymh (a := am_ph X a) (cell := cell) q1
          (fun z hz => by rw [hz] at z2; cases z2) hselP hmethM habM hkP hkPi (g := F0 m pc ls (st.map (am_v X))) rfl (argsL := as'.map (am_v X)) (rest := r.map (am_v X)) (by rw [hlen', am_np_sig g5 hsigM]) (am_stk hst) (by rw [hb]; exact hd)
        exact ⟨vm1, mk, hnamed, X1, hst1⟩
      · simp only [am_seW, hk, hs1, hs2] at hws
        have w1 := hgood rfl (hws (.methodLink (am_ow (am_mo mi)) k (am_site x).2.2.2.1) (by simp))
        have w2 := hgood rfl (hws (.sameMethod (am_site x).2.2.2.1.cls (am_site x).2.2.2.2 (am_site x).2.2.2.1.name (am_site x).2.2.2.1.desc) (by simp))
        have w3 := hgood rfl (hws (.selects (am_cn ci) (am_site x).2.2.2.1 (am_mn mj)) (by simp))
        have w4 := hgood rfl (hws (.instanceMethod (am_mn mj)) (by simp))
        have w5 := va_Decl.abs (va_Nw.warmD hwarm (va_Nw.of rfl (hts _ (hws (.declares ⟨(am_site x).2.2.2.2, (am_site x).2.2.2.1.name, (am_site x).2.2.2.1.desc⟩) (by simp)))))
        obtain ⟨r0, rr, hn, hrm, hstR, hsigR⟩ := w5
        obtain ⟨cn, ck, r1, hcn, hckk, hni, hf, hn1⟩ := Cond.sameMethod_found w2
        cases hn.symm.trans hn1
        obtain ⟨mk, methM, hnamed, hmethM, -, habM⟩ := Cond.instanceMethod_spec w4
        obtain ⟨c2, r2, m2, p1, p2, p3, p4, kP, hkP, hkPi⟩ := Cond.selects_spec w3
        cases z3.symm.trans p1
        cases hf.symm.trans p2
        cases hnamed.symm.trans p3
        have hselP : selectMethod e.platform s.vm cell.cls r0 = .method mk := by rw [Launch.admits_selectMethod XX.admits]; exact p4
        obtain ⟨vm1, X1, hst1⟩ := XX.invokevirtualUp hx hown w1 w2 hox hn hrm hstR (a := am_ph X a) (cell := cell) q1
          (fun z hz => by rw [hz] at z2; cases z2) hselP hmethM habM hkP hkPi (g := F0 m pc ls (st.map (am_v X))) rfl (argsL := as'.map (am_v X)) (rest := r.map (am_v X)) (by rw [hlen', am_np_sig g6 hsigR]) (am_stk hst) (by rw [hb]; exact hd)
        exact ⟨vm1, mk, hnamed, X1, hst1⟩
    · cases hck
  · simp only [am_opB, decide_eq_true_eq] at hop
    simp only [am_ck] at hck
    split at hck
    · rename_i k
      simp only [Bool.and_eq_true, decide_eq_true_eq] at hck
      obtain ⟨hil, rfl⟩ := hck
      obtain ⟨hs1, hs2⟩ := hsite hil
      have hstt : stt = true := by
        cases stt with
        | true => rfl
        | false =>
          obtain ⟨a, as', ci, fs, -, -, htg⟩ := hV rfl
          obtain ⟨is, his⟩ := am_tg_ok htg
          obtain ⟨-, -, ⟨n', s', g1, g2, -⟩, -⟩ := am_seB_ok his
          rw [harg] at g1
          cases g1
          have := g2.mpr hop
          cases this
      obtain ⟨is, his⟩ := am_tg_ok (hS hstt)
      obtain ⟨hws, -, ⟨n', s', g1, -, g3, -⟩, -, hnm, hox⟩ := am_seB_ok his
      rw [harg] at g1
      cases g1
      have g5 := g3 hstt
      have hstk : st.map (am_v X) = (as.map (am_v X)).reverse ++ r.map (am_v X) := by
        rw [hst, List.map_append, List.map_reverse]
      rcases hop with hk | hk
      · simp only [am_seW, hk, hs1, hs2] at hws
        have w1 := hgood rfl (hws (.methodLink (am_ow (am_mo mi)) k (am_mn mj)) (by simp))
        have w2 := hgood rfl (hws (.static (am_mn mj)) (by simp))
        obtain ⟨mk, hnamed⟩ := am_cw_named hcw
        obtain ⟨methM, hmethM, hsigM⟩ := am_cw_sig hcw hnamed
        have hstatic : methM.isStatic = true := Cond.static_spec hnamed hmethM w2
        obtain ⟨kP, hkP, -⟩ := className_of_methodNamed hnamed
        have hinitP : kP.init = .initialized := Cond.initialized_spec (findClass_of_methodNamed hnamed) hkP hiniw
        obtain ⟨vm1, X1, hst1⟩ := XX.invokestatic hx hown w1 hnamed hmethM hstatic hkP hinitP hymh (g := F0 m pc ls (st.map (am_v X))) rfl (argsL := as.map (am_v X)) (rest := r.map (am_v X)) (by rw [List.length_map, hlen, am_np_sig g5 hsigM]) hstk (by rw [hb]; exact hd)
        exact ⟨vm1, mk, hnamed, X1, hst1⟩
      · simp only [am_seW, hk, hs1, hs2] at hws
        have w1 : (Jvm.Cond.methodLinkNest (am_ow (am_mo mi)) k (am_mn mj) (am_site x).2.2.2.2).before args s = true := va_Nw.use rfl (va_Nw.warmM hwarm (va_Nw.of rfl (hts _ (hws (.methodLinkNest (am_ow (am_mo mi)) k (am_mn mj) (am_site x).2.2.2.2) (by simp)))))
        have w2 := hgood rfl (hws (.static (am_mn mj)) (by simp))
        obtain ⟨mk, hnamed⟩ := am_cw_named hcw
        obtain ⟨methM, hmethM, hsigM⟩ := am_cw_sig hcw hnamed
        have hstatic : methM.isStatic = true := Cond.static_spec hnamed hmethM w2
        obtain ⟨kP, hkP, -⟩ := className_of_methodNamed hnamed
        have hinitP : kP.init = .initialized := Cond.initialized_spec (findClass_of_methodNamed hnamed) hkP hiniw
        obtain ⟨vm1, X1, hst1⟩ := XX.invokestaticNest hx hown w1 hnamed hmethM hstatic hkP hinitP hymh (g := F0 m pc ls (st.map (am_v X))) rfl (argsL := as.map (am_v X)) (rest := r.map (am_v X)) (by rw [List.length_map, hlen, am_np_sig g5 hsigM]) hstk (by rw [hb]; exact hd)
        exact ⟨vm1, mk, hnamed, X1, hst1⟩
    · cases hck
  · simp only [am_opB, decide_eq_true_eq] at hop
    simp only [am_ck] at hck
    split at hck
    · rename_i k
      simp only [Bool.and_eq_true, decide_eq_true_eq] at hck
      obtain ⟨hil, rfl⟩ := hck
      obtain ⟨hs1, hs2⟩ := hsite hil
      have hstt : stt = false := by
        cases stt with
        | false => rfl
        | true =>
          obtain ⟨is, his⟩ := am_tg_ok (hS rfl)
          obtain ⟨-, -, ⟨n', s', g1, g2, -⟩, -⟩ := am_seB_ok his
          rw [harg] at g1
          cases g1
          have := g2.mp rfl
          omega
      obtain ⟨a, as', ci, fs, rfl, hat, htg⟩ := hV hstt
      obtain ⟨is, his⟩ := am_tg_ok htg
      obtain ⟨hws, -, ⟨n', s', g1, -, -, g4⟩, hy1, hnm, hox⟩ := am_seB_ok his
      rw [harg] at g1
      cases g1
      obtain ⟨g5, g6, g7⟩ := g4 hstt
      have hy1 := hy1 (by omega)
      have hlen' : (as'.map (am_v X)).length = n - 1 := by
        rw [List.length_map]
        simp only [List.length_cons] at hlen
        omega
      have hpl : e.platform.magicAccessors = ({} : Platform).magicAccessors := by rw [XX.admits.platform]
      have hcode : (Jvm.Cond.code (am_mn mj) (am_mb mj) (am_ml mj) none).before args s = true := am_cw_init (am_okm_lt hokj) hy1 hcw
      rcases hop with hk | hk
      · simp only [am_seW, hk, hs1, hs2] at hws
        have w1 := hgood rfl (hws (.methodLink (am_ow (am_mo mi)) k (am_mn mj)) (by simp))
        have w2 := hgood rfl (hws (.instanceMethod (am_mn mj)) (by simp))
        obtain ⟨mk, methM, cM, kP, vm1, hnamed, hmethM, hcodeM, -, hlocalsM, -, hkP, -, hW1, hst1⟩ := Steps.initColdArgs (e := e) XX.here hx XX.warmed hpl hown hy1 hymh w1 w2 hcode (f := F0 m pc ls (st.map (am_v X))) rfl (argsL := as'.map (am_v X)) (rest := r.map (am_v X)) (a := am_ph X a) (fun sig hs => by rw [hlen', am_np_sig g5 hs]) (am_stk hst) (by rw [hb]; exact hd)
        exact ⟨vm1, mk, hnamed, XX.noted hW1, hst1⟩
      · simp only [am_seW, hk, hs1, hs2] at hws
        have w1 : (Jvm.Cond.methodLinkNest (am_ow (am_mo mi)) k (am_mn mj) (am_site x).2.2.2.2).before args s = true := va_Nw.use rfl (va_Nw.warmM hwarm (va_Nw.of rfl (hts _ (hws (.methodLinkNest (am_ow (am_mo mi)) k (am_mn mj) (am_site x).2.2.2.2) (by simp)))))
        have w2 := hgood rfl (hws (.instanceMethod (am_mn mj)) (by simp))
        obtain ⟨mk, methM, cM, kP, vm1, hnamed, hmethM, hcodeM, -, hlocalsM, -, hkP, -, hW1, hst1⟩ := Steps.initColdArgsNest (e := e) XX.here hx XX.warmed hpl hown hy1 hymh w1 w2 hcode (f := F0 m pc ls (st.map (am_v X))) rfl (argsL := as'.map (am_v X)) (rest := r.map (am_v X)) (a := am_ph X a) (fun sig hs => by rw [hlen', am_np_sig g5 hs]) (am_stk hst) (by rw [hb]; exact hd)
        exact ⟨vm1, mk, hnamed, XX.noted hW1, hst1⟩
    · cases hck
  · simp only [am_opB, decide_eq_true_eq] at hop
    simp only [am_ck] at hck
    split at hck
    · rename_i k cnt0
      simp only [Bool.and_eq_true, decide_eq_true_eq] at hck
      obtain ⟨⟨hil, rfl⟩, rfl⟩ := hck
      obtain ⟨hs1, hs2⟩ := hsite hil
      have hstt : stt = false := by
        cases stt with
        | false => rfl
        | true =>
          obtain ⟨is, his⟩ := am_tg_ok (hS rfl)
          obtain ⟨-, -, ⟨n', s', g1, g2, -⟩, -⟩ := am_seB_ok his
          rw [harg] at g1
          cases g1
          have := g2.mp rfl
          omega
      obtain ⟨a, as', ci, fs, rfl, hat, htg⟩ := hV hstt
      obtain ⟨is, his⟩ := am_tg_ok htg
      obtain ⟨hws, -, ⟨n', s', g1, -, -, g4⟩, -, hnm, hox⟩ := am_seB_ok his
      rw [harg] at g1
      cases g1
      obtain ⟨g5, g6, g7⟩ := g4 hstt
      obtain ⟨cell, q1, z1, z2, z3, -⟩ := am_look hF hI hP ho hat
      have hlen' : (as'.map (am_v X)).length = n - 1 := by
        rw [List.length_map]
        simp only [List.length_cons] at hlen
        omega
      simp only [am_seW, hop, hs1, hs2] at hws
      have w1 := hgood rfl (hws (.methodLink (am_ow (am_mo mi)) k (am_site x).2.2.2.1) (by simp))
      have w4 := hgood rfl (hws (.selects (am_cn ci) (am_site x).2.2.2.1 (am_mn mj)) (by simp))
      have w5 := hgood rfl (hws (.instanceMethod (am_mn mj)) (by simp))
      have hFw : va_Fw (am_cn ci) (am_site x).2.2.2.1 (am_mn mj) s := va_Fw.moved hnm hwarm.alike (va_Fw.of (A := a0) (hts _ (hws (.declares (am_site x).2.2.2.1) (by simp))) (hts _ (hws (.interfaceMethod (am_site x).2.2.2.1.cls (am_site x).2.2.2.1.cls (am_site x).2.2.2.1.name (am_site x).2.2.2.1.desc) (by simp))) (hts _ (hws (.publicMethod (am_mn mj)) (by simp))) (hts _ (hws (.unhidden (am_cn ci) (am_site x).2.2.2.1.name (am_site x).2.2.2.1.desc) (by simp))) (hts _ (hws (.castable (am_cn ci) (am_site x).2.2.2.1.cls) (by simp))))
      obtain ⟨hdecl, hface, hpub, hunh, hcast⟩ := hFw
      obtain ⟨r0, rr, hn, hrm, hstR, hsigR⟩ := Cond.declares_spec hdecl
      obtain ⟨cL, kL, r1, hcL, hkL, hiL, hfoundL, hn1⟩ := Cond.interfaceMethod_spec hface
      cases hn.symm.trans hn1
      have hr0cls : r0.cls = cL := Option.some.inj ((findClass_of_methodNamed hn).symm.trans hcL)
      obtain ⟨hnameR, hdescR⟩ := name_of_methodNamed hn hrm
      obtain ⟨mk, methM, hnamed, hmethM, -, habM⟩ := Cond.instanceMethod_spec w5
      obtain ⟨c2, r2, m2, p1, p2, p3, p4, -⟩ := Cond.selects_spec w4
      cases z3.symm.trans p1
      cases hfoundL.symm.trans p2
      cases hnamed.symm.trans p3
      have hselP : selectMethod e.platform s.vm cell.cls r0 = .method mk := by rw [Launch.admits_selectMethod XX.admits]; exact p4
      have hpubM : hasFlag methM.accessFlags Acc.public_ = true := Cond.publicMethod_spec hnamed hmethM hpub
      have hway : ((cell.cls :: s.vm.superclasses cell.cls).any fun k => (declaredIn s.vm rr.name rr.desc k).any fun (_, z) => z.isPrivate || z.isStatic) = false := by
        rw [hnameR, hdescR]; exact Cond.unhidden_spec z3 hunh
      obtain ⟨c3, t3, v1, v2, v3⟩ := Cond.castable_spec hcast
      cases z3.symm.trans v1
      cases hcL.symm.trans v2
      obtain ⟨kB, hkB, -⟩ := Vm.findClass_spec z3
      obtain ⟨vm1, X1, hst1⟩ := XX.invokeinterface hx hown w1 hn hrm hstR (by rw [hr0cls]; exact hkL) hiL hnm (a := am_ph X a) (cell := cell) (kcell := kB) q1
        (fun z hz => by rw [hz] at z2; cases z2) hkB (by rw [hr0cls]; exact v3) hselP hmethM hway hpubM habM (g := F0 m pc ls (st.map (am_v X))) rfl (argsL := as'.map (am_v X)) (rest := r.map (am_v X)) (by rw [hlen', am_np_sig g6 hsigR]) (am_stk hst) (by rw [hb]; exact hd)
      exact ⟨vm1, mk, hnamed, X1, hst1⟩
    · cases hck
