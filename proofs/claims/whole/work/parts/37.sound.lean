/-! The theorem. -/
theorem am_inv_fit {i : Instr} {st as r : List Value} {h : am_H} {mj : Nat} (e : am_inv i st h = some (mj, as, r)) : am_okm mj = true ∧ (am_sl as).length ≤ am_ml mj ∧ (r.map fun v => v.category).sum ≤ 8 := by
  have key : ∀ {as r : List Value}, am_fit mj as r = true → am_okm mj = true ∧ (am_sl as).length ≤ am_ml mj ∧ (r.map fun v => v.category).sum ≤ 8 := by
    intro as r hf
    unfold am_fit at hf
    simp only [Bool.and_eq_true, decide_eq_true_eq] at hf
    exact ⟨hf.1.1, hf.1.2, hf.2⟩
  unfold am_inv at e
  split at e
  · cases e
  · split at e
    · cases e
    · split at e
      · split at e
        · split at e
          · split at e
            · rename_i hf
              cases e
              exact key hf
            · cases e
          · cases e
        · split at e
          · split at e
            · split at e
              · split at e
                · rename_i hf
                  cases e
                  exact key hf
                · cases e
              · cases e
            · cases e
          · cases e
      · cases e
section AmSound
variable {l : Launch} {X : am_X} {s0 : State}
theorem am_ret_ok {p : Program} {e : Env} {R : Room} {s : State} {m : MethodId} {args : Array Value} {below : List Frame} {meth : Method} {c : Code} {H : Heap} {locs : List Loc} {mi pc len ow : Nat} {i i0 : Instr} {st : List Value} {ls : Array Slot} {v : Option Value} {h0 h : am_H}
    (hx : p.tables.exec = Jvm.exec) (hb : c.code = am_mb mi) (hr : meth.sig.returnType = am_mr mi) (hlocks : meth.locks = false) (hP : am_P X h H) (hl : ∀ q ∈ locs, X.2.1 ≤ q.base) (e1 : am_ret mi i st = some v) (hd : decode (am_mb mi) pc = .ok (i0, len)) (hck : am_ck ow pc i len i0 = true) :
    W p l e R s m args below meth c H locs (h.length - h0.length) (am_sz h - am_sz h0) (am_MQ X s below (.inl v) h0 h) (F0 m pc ls (st.map (am_v X))) := by
  have fin : ∀ (t : State), MQ below (fun _ _ oc t => oc = am_oc X (.inl v) ∧ am_P X h t.heap ∧ s.WarmedH t.vm) args s (h.length - h0.length) (am_sz h - am_sz h0) (fun q => X.2.1 ≤ q) t → am_MQ X s below (.inl v) h0 h t := by
    intro t ⟨oc, b1, b2, ⟨q1, q2, q3⟩, L, ⟨_, w, fr⟩, hL⟩
    subst q1
    exact ⟨b1, b2, q2, w, L, fr, hL⟩
  refine W.am_mono fin ?_
  unfold am_ret at e1
  split at e1
  · simp only [am_ck, Bool.and_eq_true, decide_eq_true_eq] at hck
    obtain ⟨rfl, hck⟩ := hck
    simp only [am_len] at hck
    subst hck
    split at e1
    · split at e1
      · rename_i hm
        cases e1
        exact W.vret hx hb (by rw [hr, hm]) (fun t ht hW => ⟨rfl, by rw [ht]; exact hP, hW⟩) hl hd
      · cases e1
    · cases e1
  · simp only [am_ck, Bool.and_eq_true, decide_eq_true_eq] at hck
    obtain ⟨rfl, hck⟩ := hck
    simp only [am_len] at hck
    subst hck
    split at e1
    · rename_i x
      split at e1
      · rename_i ty hm
        split at e1
        · rename_i hf
          cases e1
          exact W.zret hx hb (by rw [hr, hm]) (am_narrow hf) (fun t ht hW => ⟨rfl, by rw [ht]; exact hP, hW⟩) hl hd
        · cases e1
      · cases e1
    · cases e1
  · simp only [am_ck, Bool.and_eq_true, decide_eq_true_eq] at hck
    obtain ⟨rfl, hck⟩ := hck
    simp only [am_len] at hck
    subst hck
    split at e1
    · rename_i w
      split at e1
      · rename_i ty hm
        split at e1
        · rename_i hf
          cases e1
          have hty : (∃ n, ty = .object n) ∨ ∃ t, ty = .array t := by
            have := hf.1
            cases ty <;> first | (exact Or.inl ⟨_, rfl⟩) | (exact Or.inr ⟨_, rfl⟩) | (simp [FieldType.isReference] at this)
          have hv : am_v X w = .null ∨ ∃ a, am_v X w = .ref a := by
            have := hf.2
            rcases hty with ⟨n, rfl⟩ | ⟨t, rfl⟩ <;> cases w <;> first | (exact Or.inl rfl) | (exact Or.inr ⟨_, rfl⟩) | (simp [fits] at this)
          exact W.aret hx hb (by rw [hr, hm]) hty hv (fun t ht hW => ⟨rfl, by rw [ht]; exact hP, hW⟩) hl hd
        · cases e1
      · cases e1
    · cases e1
  · cases e1
theorem am_sound (hI : am_inj X) (hFx : ∀ s, am_Lt X s0 s → am_Fx X s) (hC : am_HC l X s0) (hT : am_HT l X s0) (hS : am_HS l X s0) (hH : am_HH l X s0) (hW : am_HW s0) (hD : am_HD)
    (hN : ∀ mi, am_okm mi = true → (am_ini mi = true → (am_mn mi).name = "<init>") ∧ am_ow (am_mo mi) = (am_mn mi).cls) (hN2 : ∀ mi, am_noh mi = true → am_hs mi = []) :
    ∀ (n d mi pc : Nat) (lv : am_L) (st : List Value) (h : am_H) (o : am_O) (h' : am_H), am_run n d mi pc lv st h = some (o, h') →
    ∀ (p : Program) (e : Env) (s : State) (m : MethodId) (args : Array Value) (below : List Frame) (meth : Method) (c : Code) (R : Room) (h0 : am_H) (H : Heap) (locs : List Loc) (ls : Array Slot),
    am_Cx l X s0 p s m meth c R d mi h0 h' → h0.length ≤ h.length → am_sz h0 ≤ am_sz h → lv.length = am_ml mi → am_Ls X lv ls → am_P X h H → am_old X s H → (∀ q ∈ locs, X.2.1 ≤ q.base) →
    W p l e R s m args below meth c H locs (h.length - h0.length) (am_sz h - am_sz h0) (am_MQ X s below o h0 h') (F0 m pc ls (st.map (am_v X))) := by
  intro n
  induction n with
  | zero =>
    intro d mi pc lv st h o h' hr
    rw [am_zero] at hr
    cases hr
  | succ n ih =>
    intro d mi pc lv st h o h' hr p e s m args below meth c R h0 H locs ls hCx hl1 hl2 hlv hls hP ho hl
    obtain ⟨hx, hb, hml, hrt, hlocks, hown, hLt, hF, hini, htab, ⟨hR1, hR2, hR3, hR4⟩, hb0⟩ := id hCx
    rw [am_succ] at hr
    cases hc : am_code mi pc with
    | none => rw [hc] at hr; cases hr
    | some z =>
      obtain ⟨i, len⟩ := z
      simp only [hc] at hr
      obtain ⟨i0, hd, hck, hpl⟩ := hD mi pc len i hc
      cases h1 : am_ret mi i st with
      | some v =>
        simp only [h1] at hr
        cases hr
        exact am_ret_ok hx hb hrt hlocks hP hl h1 hd hck
      | none =>
        simp only [h1] at hr
        cases h2 : am_thr mi i st with
        | some x =>
          simp only [h2] at hr
          cases hr
          unfold am_thr at h2
          split at h2
          · split at h2
            · split at h2
              · rename_i hno
                cases h2
                have htl : c.exceptionTable.toList = [] := by
                  rw [hN2 mi hno] at htab
                  exact List.map_eq_nil_iff.mp htab
                intro T hTH XX
                have hRc : h.length + 1 - h0.length ≤ R.cells := by simpa using hR3
                have hRs : am_sz h + am_N x - am_sz h0 ≤ R.slots := by rw [am_sz_push] at hR4; exact hR4
                obtain ⟨t1, t2, U, u1, u2, u3, u4, u5, u6, u7, ce, u8, u9, u10⟩ := hT mi pc len x hc p e R s m args below meth c T locs _ _ ls hx hb hown hlocks hLt (by rw [hTH]; exact ho) (by rw [hTH]; have := hP.len; omega) (by rw [hls.1, hlv, hml]) htl (by omega) (by omega) (by omega) (by omega) XX
                refine ⟨U, u1, u2, ?_, ?_, u4, locs, ?_, hl⟩
                · show Ended U below (.threw (am_ph X (1000 + h.length)))
                  rw [am_ph_new X hP.len.1, ← hP.len.2, ← hTH]
                  exact u3
                · exact hP.push (by rw [← hTH]; exact u8) (by rw [← hTH]; exact u6) (by rw [← hTH]; exact u7) ⟨t1, u9, u10, fun k f v hk => by rw [t2] at hk; cases hk⟩
                · have e1 : (h ++ [Sum.inl (x, [])]).length - h0.length = h.length - h0.length + 1 := by simp; omega
                  have e2 : am_sz (h ++ [Sum.inl (x, [])]) - am_sz h0 = am_sz h - am_sz h0 + am_N x := by
                    rw [am_sz_push]
                    show am_sz h + am_N x - am_sz h0 = _
                    omega
                  rw [e1, e2]
                  exact u5
              · cases h2
            · cases h2
          · cases h2
        | none =>
          simp only [h2] at hr
          cases h3 : am_inv i st h with
          | some z =>
            obtain ⟨mj, as, r⟩ := z
            simp only [h3] at hr
            cases d with
            | zero => cases hr
            | succ d' =>
              simp only at hr
              obtain ⟨hokj, hfit, hcat⟩ := am_inv_fit h3
              cases h4 : am_run n d' mj 0 (am_ent mj as) [] h with
              | none => rw [h4] at hr; cases hr
              | some z =>
                obtain ⟨o1, h1'⟩ := z
                simp only [h4] at hr
                have hlen1 := am_run_len _ _ _ _ _ _ _ _ _ h4
                have hM : am_M l X s0 d' mj as h o1 h1' := am_met hW hFx hokj (hN mj hokj).1 (hN mj hokj).2 hfit (fun p2 e2 s2 m2 args2 below2 meth2 c2 ls2 hCx2 hP2 hls2 => by
                  have w := ih d' mj 0 (am_ent mj as) [] h o1 h1' h4 p2 e2 s2 m2 args2 below2 meth2 c2 _ h s2.heap [] ls2 hCx2 (Nat.le_refl _) (Nat.le_refl _) (am_ent_len hfit) hls2 hP2 (fun q _ => rfl) (fun q hq => by cases hq)
                  rw [Nat.sub_self, Nat.sub_self] at w
                  exact w)
                have hlen2 : h1'.length ≤ h'.length ∧ am_sz h1' ≤ am_sz h' := by
                  cases o1 with
                  | inl v => exact am_run_len _ _ _ _ _ _ _ _ _ hr
                  | inr a =>
                    simp only at hr
                    cases h5 : am_hx mi pc h1' a with
                    | some pc' =>
                      simp only [h5] at hr
                      exact am_run_len _ _ _ _ _ _ _ _ _ hr
                    | none =>
                      simp only [h5] at hr
                      split at hr
                      · cases hr
                        exact ⟨Nat.le_refl _, Nat.le_refl _⟩
                      · cases hr
                intro T hTH XX
                obtain ⟨⟨ig, hdg⟩, vm', mk, hnm, X1, hstep⟩ := hC mi pc len i mj as r st h hc h3 p e R s m args below meth c T locs _ _ ls hx hb hown hLt hF (by rw [hTH]; exact hP) (by rw [hTH]; exact ho) XX
                have hwarm : s0.WarmedH (T.setVm vm').vm := State.WarmedH.trans hLt.1 X1.warmed
                obtain ⟨w1, w2, w3⟩ := hW mj hokj
                obtain ⟨w4, w5⟩ := w3 #[] (T.setVm vm') hwarm
                have hnU : (T.setVm vm').methodNamed? (am_mn mj) = some mk := X1.named hnm
                obtain ⟨methY, cY, y1, y2, y3, y4, -, -, -⟩ := am_cw_spec w4 hnU
                have hUh : (T.setVm vm').heap = H := hTH
                have hHs : X.2.1 ≤ H.size := by have := hP.len; omega
                obtain ⟨oc, t, L, g', mk', hq, hL, X2, hsteps⟩ := am_back (mc := h1'.length - h.length) (ms := am_sz h1' - am_sz h) (Bad := fun q => X.2.1 ≤ q.base) (a := (as.map (am_v X)).toArray) hM X1 (g := F0 m pc ls (r.map (am_v X))) rfl (by show ls.size = _; rw [hls.1, hlv, hml]) hdg
                  (by show 2 * 0 + _ ≤ 8; rw [am_v_cats]; omega) hnU y1 y2 w5 (by show d' + 10 + 1 ≤ R.frames; omega) (by rw [y4]; show 8 + (am_ml mj + 11) + (64 * d' + 200) ≤ R.locals; omega)
                  (atoms_intro (ws := [am_cw mj]) (fun w hw => by rw [List.mem_singleton] at hw; subst hw; exact (w3 _ _ hwarm).1)) (by show _ + (h1'.length - h.length) ≤ R.cells; omega) (by show _ + (am_sz h1' - am_sz h) ≤ R.slots; omega)
                  (fun g' mk' => ⟨rfl, ⟨hwarm, fun q hq => by show (T.setVm vm').heap[q]? = _; rw [hUh, ho q hq]; exact hLt.2 q hq⟩, by show am_P X h (T.setVm vm').heap; rw [hUh]; exact hP⟩)
                  (fun g' mk' o2 t2 hq => ⟨hq.2.2.1, hq.2.2.2⟩)
                obtain ⟨rfl, hP1, hWt, L', hs', hL'⟩ := hq
                have ho1 : am_old X s t.heap := fun q hq => by
                  have k1 := am_kept (X := X) hs' hL' hq (by show X.2.1 ≤ (T.setVm vm').heap.size; rw [hUh]; exact hHs)
                  have k2 : t.heap[q]? = (T.setVm vm').heap[q]? := k1
                  rw [k2, hUh]
                  exact ho q hq
                have hll : ∀ q ∈ locs ++ L, X.2.1 ≤ q.base := fun q hq => (List.mem_append.mp hq).elim (hl q) (hL q)
                have e1 : h.length - h0.length + (h1'.length - h.length) = h1'.length - h0.length := by omega
                have e2 : am_sz h - am_sz h0 + (am_sz h1' - am_sz h) = am_sz h1' - am_sz h0 := by omega
                rw [e1, e2] at X2
                cases o1 with
                | inl v =>
                  obtain ⟨t2, a1, b1⟩ := ih (d' + 1) mi (pc + len) lv (v.toList ++ r) h1' o h' hr p e s m args below meth c R h0 t.heap (locs ++ L) ls hCx (by omega) (by omega) hlv hls hP1 ho1 hll (am_af (T.setVm vm') t) rfl X2
                  refine ⟨t2, hstep t2 fun acts => ?_, b1⟩
                  rw [doInvoke_state]
                  refine Steps.trans hsteps ?_
                  have e3 : (v.toList ++ r).map (am_v X) = (v.map (am_v X)).toList ++ r.map (am_v X) := by cases v <;> rfl
                  rw [e3] at a1
                  exact a1
                | inr a =>
                  simp only at hr
                  cases h5 : am_hx mi pc h1' a with
                  | some pc' =>
                    simp only [h5] at hr
                    unfold am_hx at h5
                    split at h5
                    · rename_i ci fs hat
                      obtain ⟨cell, q1, z1, z2, z3, -⟩ := am_look hF hI hP1 ho1 hat
                      obtain ⟨vm3, X3, hst3⟩ := hH mi pc ci pc' h5 p e R s m args below meth c (am_af (T.setVm vm') t) (locs ++ L) _ _ ls (r.map (am_v X)) (am_ph X a) cell hown hLt htab q1 z2 z3 X2
                      obtain ⟨t2, a1, b1⟩ := ih (d' + 1) mi pc' lv [.ref a] h1' o h' hr p e s m args below meth c R h0 t.heap (locs ++ L) ls hCx (by omega) (by omega) hlv hls hP1 ho1 hll ((am_af (T.setVm vm') t).setVm vm3) rfl X3
                      refine ⟨t2, hstep t2 fun acts => ?_, b1⟩
                      rw [doInvoke_state]
                      exact Steps.trans hsteps (hst3 t2 a1)
                    · cases h5
                  | none =>
                    simp only [h5] at hr
                    split at hr
                    · rename_i hno
                      cases hr
                      have htl : c.exceptionTable.toList = [] := by
                        rw [hN2 mi hno] at htab
                        exact List.map_eq_nil_iff.mp htab
                      obtain ⟨k1, k2, k3, k4, k5⟩ := X2.leaveThrown (am_ph X a) (g := F0 m pc ls (r.map (am_v X))) rfl rfl rfl (fun x hx => by rw [htl] at hx; cases hx) (hlocks := hlocks)
                      refine ⟨_, hstep _ fun acts => ?_, k2, k3, hP1, k4, locs ++ L, k5, hll⟩
                      rw [doInvoke_state]
                      exact Steps.trans hsteps k1
                    · cases hr
          | none =>
            simp only [h3] at hr
            cases h4 : am_one mi i len pc lv st h with
            | none => rw [h4] at hr; cases hr
            | some z =>
              obtain ⟨pc', lv', st', h2'⟩ := z
              simp only [h4] at hr
              have hl4 := am_run_len _ _ _ _ _ _ _ _ _ hr
              have hown' := hown
              unfold am_one at h4
              split at h4
              · rename_i v hv
                cases h4
                exact am_push_ok hx hb hls hv hd hck hown (fun k v hk => hF.2.2.2.2.2.2.2.2.1 mi k v hk args) (ih _ _ _ _ _ _ _ _ hr p e s m args below meth c R h0 H locs ls hCx hl1 hl2 hlv hls hP ho hl)
              · split at h4
                · rename_i hv
                  cases h4
                  exact am_sto_ok hx hb hls hv hd hck (fun ls' hls' => ih _ _ _ _ _ _ _ _ hr p e s m args below meth c R h0 H locs ls' hCx hl1 hl2 (by rw [am_sto_len hv]; exact hlv) hls' hP ho hl)
                · split at h4
                  · rename_i hv
                    cases h4
                    exact am_ari_ok hx hb hv hd hck (ih _ _ _ _ _ _ _ _ hr p e s m args below meth c R h0 H locs ls hCx hl1 hl2 hlv hls hP ho hl)
                  · split at h4
                    · rename_i hv
                      cases h4
                      exact am_br_ok hx hb hI hv hd hck (ih _ _ _ _ _ _ _ _ hr p e s m args below meth c R h0 H locs ls hCx hl1 hl2 hlv hls hP ho hl)
                    · split at h4
                      · rename_i hv
                        cases h4
                        exact am_rd_ok hx hb hF hI hP ho hown hv hd hck (ih _ _ _ _ _ _ _ _ hr p e s m args below meth c R h0 H locs ls hCx hl1 hl2 hlv hls hP ho hl)
                      · split at h4
                        · rename_i hv
                          cases h4
                          refine am_wr_ok hx hb hF hI hP ho hl hown hini hv hd hck hpl (fun H' locs' q1 q2 q3 q4 q5 => ?_)
                          have w := ih _ _ _ _ _ _ _ _ hr p e s m args below meth c R h0 H' locs' ls hCx (by omega) (by omega) hlv hls q1 q2 q3
                          rw [q4, q5] at w
                          exact w
                        · split at h4
                          · rename_i st2 cl hv
                            cases h4
                            rw [am_sz_push, List.length_append, List.length_singleton] at hl4
                            refine am_mk_ok hx hb hF hP ho hown hv hd hck (by omega) (by omega) (fun H' q1 q2 => ?_)
                            have w := ih _ _ _ _ _ _ _ _ hr p e s m args below meth c R h0 H' locs ls hCx (by rw [List.length_append]; omega) (by rw [am_sz_push]; omega) hlv hls q1 q2 hl
                            rw [am_sz_push, List.length_append, List.length_singleton, show h.length + 1 - h0.length = h.length - h0.length + 1 by omega, show am_sz h + am_cs cl - am_sz h0 = am_sz h - am_sz h0 + am_cs cl by omega] at w
                            exact w
                          · split at h4
                            · rename_i hv
                              cases h4
                              exact hS mi pc len i i0 st _ hd hck hv p e R s m args below meth c H locs _ _ _ ls hx hb hown hLt ho (by omega) (by omega) (by rw [hls.1, hlv, hml]) (by omega) (by omega) (ih _ _ _ _ _ _ _ _ hr p e s m args below meth c R h0 H locs ls hCx hl1 hl2 hlv hls hP ho hl)
                            · cases h4
end AmSound
