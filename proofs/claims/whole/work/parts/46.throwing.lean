/-! 'throw new X(message)': the four places. -/
def am_xn : List String := ["java/lang/RuntimeException", "java/lang/Exception"]
/-- words that the classes alone decide -/
def am_sof : Jvm.Cond → Bool
  | .castable .. => true
  | .declares _ => true
  | _ => false
def am_tB (mi pc x kc kl ic : Nat) (cls tx : String) : Bool :=
  decide (am_ow (am_mo mi) = "ToldShields") && decide (am_cn x = cls) && am_own x && decide (am_lay x = []) && decide (am_N x = 6) && Bundle.fit cls &&
  decide (decode (am_mb mi) pc = .ok (.new kc, 3)) && decide (decode (am_mb mi) (pc + 3) = .ok (.dup, 1)) && decide (decode (am_mb mi) (pc + 4) = .ok (.ldc kl, 2)) && decide (decode (am_mb mi) (pc + 6) = .ok (.invokespecial ic, 3)) && decide (decode (am_mb mi) (pc + 9) = .ok (.athrow, 1)) &&
  decide (Jvm.Cond.classLink "ToldShields" kc cls ∈ lw_tbl) && decide (Jvm.Cond.initialized cls ∈ lw_tbl) && decide (Jvm.Cond.stringRef "ToldShields" kl tx ∈ lw_tbl) && decide (Jvm.Cond.castable cls cls ∈ lw_tbl) &&
  (vx_atS "ToldShields" ic cls am_xn).all (fun w => (goodWord w || am_sof w) && decide (w ∈ lw_tbl))
def am_tS (z : Nat × Nat × Nat) : Bool := decide (z = (9, 9, 8)) || decide (z = (68, 10, 8)) || decide (z = (69, 19, 9)) || decide (z = (81, 14, 10))
def am_tC (mi : Nat) (z : Nat × Instr × Nat) : Bool := match z.2.1 with
  | .instanceof x => am_tS (mi, z.1, x)
  | _ => true
set_option maxRecDepth 100000 in
theorem am_tA : (List.range 150).all (fun mi => (am_cL mi).all (am_tC mi)) = true := by decide +kernel
set_option maxRecDepth 100000 in
theorem am_t0 : am_tB 9 9 8 109 111 113 "java/lang/IndexOutOfBoundsException" "there is no such shield" = true := by decide +kernel
set_option maxRecDepth 100000 in
theorem am_t1 : am_tB 68 10 8 109 114 113 "java/lang/IndexOutOfBoundsException" "there is no such cell" = true := by decide +kernel
set_option maxRecDepth 100000 in
theorem am_t2 : am_tB 69 19 9 116 118 120 "java/lang/IllegalStateException" "the shield was not read" = true := by decide +kernel
set_option maxRecDepth 100000 in
theorem am_t3 : am_tB 81 14 10 79 81 83 "java/lang/IllegalArgumentException" "there is nothing such to count" = true := by decide +kernel
theorem am_xfit : ∀ n ∈ am_xn, Bundle.fit n = true := by decide +kernel
theorem am_sof_at {a0 args : Array Value} {s0 U : State} {w : Jvm.Cond} (hs : am_sof w = true) (hW : s0.WarmedH U.vm) (h : w.before a0 s0 = true) : w.before args U = true := by
  have e2 : U.setVm U.vm = U := rfl
  cases w with
  | castable C D =>
    have e1 : (Jvm.Cond.castable C D).before args (U.setVm U.vm) = (Jvm.Cond.castable C D).before a0 (s0.setVm U.vm) := Cond.onTables_vm U.vm _ rfl
    rw [e2] at e1
    rw [e1, Cond.castable_setVm hW.alike]
    exact h
  | declares y =>
    have e1 : (Jvm.Cond.declares y).before args (U.setVm U.vm) = (Jvm.Cond.declares y).before a0 (s0.setVm U.vm) := Cond.onTables_vm U.vm _ rfl
    rw [e2] at e1
    rw [e1, Cond.declares_setVm hW.alike]
    exact h
  | _ => cases hs
theorem am_str_at {a0 args : Array Value} {s0 U : State} {C tx : String} {k : Nat} (hW : s0.WarmedH U.vm) (h : (Jvm.Cond.stringRef C k tx).before a0 s0 = true) : (Jvm.Cond.stringRef C k tx).before args U = true := by
  have h1 : (Jvm.Cond.stringRef C k tx).before #[] s0 = true := h
  have hcur : ∃ cur, s0.vm.findClass C = some cur := by
    simp only [Cond.before, Cond.holds, Cond.value] at h1
    cases hc : s0.vm.findClass C with
    | none => simp [hc] at h1
    | some cur => exact ⟨cur, rfl⟩
  obtain ⟨cur, hcur⟩ := hcur
  obtain ⟨-, -, -, a, -, -, -, -, -, hev⟩ := Cond.stringRef_spec hcur (show (Jvm.Cond.stringRef C k tx).holds #[] s0 none s0 [] = true from h1)
  have h2 : vk_R C k tx a s0 := ⟨h1, hev⟩
  exact (vk_R.warm hW h2).1
abbrev am_Zu (X : am_X) (s0 : State) : Prop := vx_Zq Bundle.tN "UNASSIGNED_STACK" Bundle.steD (fun q => X.2.1 ≤ q) s0 s0.heap ∧ vx_Zq Bundle.tN "SUPPRESSED_SENTINEL" Bundle.listD (fun q => X.2.1 ≤ q) s0 s0.heap
section AmHT
variable {l : Launch} {X : am_X} {s0 : State}
theorem am_ht1 {a0 : Array Value} {mi pc x kc kl ic : Nat} {cls tx : String} (hts : ∀ w ∈ lw_tbl, w.before a0 s0 = true) (hFx : ∀ s, am_Lt X s0 s → am_Fx X s) (hl : l.stackTraces = false) (hZ : am_Zu X s0) (hB : am_tB mi pc x kc kl ic cls tx = true)
    {p : Program} {e : Env} {R : Room} {s : State} {m : MethodId} {args : Array Value} {below : List Frame} {meth : Method} {c : Code} {T : State} {locs : List Loc} {cells slots : Nat} {ls : Array Slot}
    (hx : p.tables.exec = Jvm.exec) (hb : c.code = am_mb mi) (hown : s.vm.findClass (am_ow (am_mo mi)) = some m.cls) (hlocks : meth.locks = false) (hLt : am_Lt X s0 s) (ho : am_old X s T.heap) (hls : ls.size = c.maxLocals) (htl : c.exceptionTable.toList = []) (hRf : 10 ≤ R.frames) (hRl : 200 ≤ R.locals) (hc : cells + 1 ≤ R.cells) (hs : slots + am_N x ≤ R.slots) (XX : Stand p l e R s m args below meth c T locs cells slots) :
    am_own x = true ∧ am_lay x = [] ∧ ∃ U : State, Steps p.tables e below (T.setTop (F0 m pc ls [])) U ∧ U.status = .running ∧ Ended U below (.threw T.heap.size) ∧ s.WarmedH U.vm ∧ s.sameButNew ({ U with vm := s.vm } : State) locs (cells + 1) (slots + am_N x) ∧ U.heap.size = T.heap.size + 1 ∧ (∀ q : Nat, q < T.heap.size → U.heap[q]? = T.heap[q]?) ∧
      ∃ ce : Cell, U.heap[T.heap.size]? = some ce ∧ ce.cls = X.2.2.1 x ∧ ce.vm = .none := by
  unfold am_tB at hB
  simp only [Bool.and_eq_true, decide_eq_true_eq] at hB
  obtain ⟨⟨⟨⟨⟨⟨⟨⟨⟨⟨⟨⟨⟨⟨⟨b1, b2⟩, b3⟩, b4⟩, b5⟩, b6⟩, b7⟩, b8⟩, b9⟩, b10⟩, b11⟩, b12⟩, b13⟩, b14⟩, b15⟩, b16⟩ := hB
  refine ⟨b3, b4, ?_⟩
  rw [b5] at hs ⊢
  rw [b1] at hown
  have hwT : s0.WarmedH T.vm := State.WarmedH.trans hLt.1 XX.warmed
  have hwV : s0.WarmedH (T.setFrames (.invoking m args :: below)).vm := hwT
  have hmem : ∀ {w : Jvm.Cond}, w ∈ lw_tbl → goodWord w = true → w.before args (T.setFrames (.invoking m args :: below)) = true := fun hm hg => word_at hwV (good_of_word hg) (hts _ hm)
  have htr : e.platform.stackTraces = false := (show e.platform.stackTraces = l.stackTraces by rw [XX.admits.platform]).trans hl
  have hkp : ∀ a : Nat, a < s0.heap.size → ¬ X.2.1 ≤ a → T.heap[a]? = s0.heap[a]? := fun a _ hA => by rw [ho a (Nat.lt_of_not_le hA)]; exact hLt.2 a (Nat.lt_of_not_le hA)
  have hU : vx_Zq Bundle.tN "UNASSIGNED_STACK" Bundle.steD (fun q => X.2.1 ≤ q) (T.setFrames (.invoking m args :: below)) (T.setFrames (.invoking m args :: below)).heap := (vx_Zq.moved hwV.alike hZ.1).kept hkp
  have hN : vx_Zq Bundle.tN "SUPPRESSED_SENTINEL" Bundle.listD (fun q => X.2.1 ≤ q) (T.setFrames (.invoking m args :: below)) (T.setFrames (.invoking m args :: below)).heap := (vx_Zq.moved hwV.alike hZ.2).kept hkp
  have hat : ∀ a ∈ Bundle.ownAtoms "ToldShields" ic cls am_xn, a.before args (T.setFrames (.invoking m args :: below)) = true := by
    refine vx_own (fun w hw => ?_) (vx_isRefq hU.1) (vx_isRefq hN.1) hU.2.word hN.2.word
    have q := List.all_eq_true.mp b16 w hw
    simp only [Bool.or_eq_true, Bool.and_eq_true, decide_eq_true_eq] at q
    rcases q.1 with g | g
    · exact hmem q.2 g
    · exact am_sof_at g hwV (hts _ q.2)
  obtain ⟨U, u1, u2, u3, u4, u5, u6, u7, ce, u8, u9, u10⟩ := am_throwNew XX hx htr hlocks (own := "ToldShields") (cls := cls) (tx := tx) (names := am_xn) (kc := kc) (kl := kl) (ic := ic) (pc := pc) (ls := ls) hown b6 am_xfit hat (hmem b12 rfl) (hmem b13 rfl) (am_str_at hwV (hts _ b14)) hls htl
    (by rw [hb]; exact b7) (by rw [hb]; exact b8) (by rw [hb]; exact b9) (by rw [hb]; exact b10) (by rw [hb]; exact b11) (by show 2 + 3 < R.frames; omega) (by show 13 * (2 + 1) + 50 ≤ R.locals; omega) hc hs
  refine ⟨U, u1, u2, u3, u4, u5, u6, u7, ce, u8, ?_, u10⟩
  have h1 := ((hFx s hLt).2.1 x b3).1
  rw [b2] at h1
  rw [XX.warmed.alike.findClass] at u9
  exact Option.some.inj (u9.symm.trans h1)
theorem am_ht {a0 : Array Value} (hts : ∀ w ∈ lw_tbl, w.before a0 s0 = true) (hFx : ∀ s, am_Lt X s0 s → am_Fx X s) (hl : l.stackTraces = false) (hZ : am_Zu X s0) : am_HT l X s0 := by
  intro mi pc len x hc p e R s m args below meth c T locs cells slots ls hx hb hown hlocks hLt ho hsz hls htl hRf hRl hcc hss XX
  have hm : mi < 150 := by
    by_cases hm : mi < 150
    · exact hm
    · obtain ⟨k, rfl⟩ := Nat.exists_eq_add_of_le (Nat.not_lt.mp hm)
      have h2 := am_find_mem hc
      have h3 : am_cL (150 + k) = [] := by
        rw [Nat.add_comm]
        rfl
      rw [h3] at h2
      cases h2
  have q : am_tS (mi, pc, x) = true := List.all_eq_true.mp (List.all_eq_true.mp am_tA mi (List.mem_range.mpr hm)) _ (am_find_mem hc)
  simp only [am_tS, Bool.or_eq_true, decide_eq_true_eq, Prod.mk.injEq] at q
  rcases q with ((⟨rfl, rfl, rfl⟩ | ⟨rfl, rfl, rfl⟩) | ⟨rfl, rfl, rfl⟩) | ⟨rfl, rfl, rfl⟩
  · exact am_ht1 hts hFx hl hZ am_t0 hx hb hown hlocks hLt ho hls htl hRf hRl hcc hss XX
  · exact am_ht1 hts hFx hl hZ am_t1 hx hb hown hlocks hLt ho hls htl hRf hRl hcc hss XX
  · exact am_ht1 hts hFx hl hZ am_t2 hx hb hown hlocks hLt ho hls htl hRf hRl hcc hss XX
  · exact am_ht1 hts hFx hl hZ am_t3 hx hb hown hlocks hLt ho hls htl hRf hRl hcc hss XX
end AmHT
