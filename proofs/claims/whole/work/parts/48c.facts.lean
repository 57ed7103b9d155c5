/-! What the Statement says of the start: classes, fields, links. -/
section AmFacts
variable {a0 : Array Value} {s0 s : State} {b : Nat} {xs : List Int32}
/-- the word that lays field f in class ci -/
def am_lyw (ci f : Nat) : Jvm.Cond := if am_fin f = true then .laysFinal (am_cn ci) (am_fd f).1 (am_fd f).2.1 (am_fd f).2.2 else .lays (am_cn ci) (am_fd f).1 (am_fd f).2.1 (am_fd f).2.2
set_option maxRecDepth 100000 in
theorem am_lyA : (List.range 8).all (fun ci => decide ((am_lyI.getD ci []).map (fun i => lw_tbl[i]?) = (am_lay ci).map (fun f => some (am_lyw ci f)))) = true := by decide +kernel
theorem am_ly {ci f : Nat} (hci : ci < 8) (hf : f ∈ am_lay ci) : am_lyw ci f ∈ lw_tbl := by
  have q := List.all_eq_true.mp am_lyA ci (List.mem_range.mpr hci)
  rw [decide_eq_true_eq] at q
  have hm : some (am_lyw ci f) ∈ (am_lyI.getD ci []).map (fun i => lw_tbl[i]?) := by
    rw [q]
    exact List.mem_map.mpr ⟨f, hf, rfl⟩
  obtain ⟨i, -, hi⟩ := List.mem_map.mp hm
  exact List.mem_of_getElem? hi
theorem am_ly_ok (hts : ∀ w ∈ lw_tbl, w.before a0 s0 = true) (hW : s0.WarmedH s.vm) {ci f : Nat} (hci : ci < 8) (hf : f ∈ am_lay ci) (args : Array Value) : (Jvm.Cond.lays (am_cn ci) (am_fd f).1 (am_fd f).2.1 (am_fd f).2.2).before args s = true ∨ (Jvm.Cond.laysFinal (am_cn ci) (am_fd f).1 (am_fd f).2.1 (am_fd f).2.2).before args s = true := by
  have h := hts _ (am_ly hci hf)
  unfold am_lyw at h
  split at h
  · exact Or.inr (word_at hW (good_of_word rfl) h)
  · exact Or.inl (word_at hW (good_of_word rfl) h)
set_option maxRecDepth 100000 in
theorem am_fA : (List.range 57).all (fun f => (List.range 8).any (fun ci => (am_lay ci).contains f)) = true := by decide +kernel
set_option maxRecDepth 100000 in
theorem am_tyA : (List.range 63).all (fun f => decide (parseFieldDescriptor (am_fd f).2.2 = some (am_fty f))) = true := by decide +kernel
theorem am_fty_ok {f : Nat} (hf : f < 63) : parseFieldDescriptor (am_fd f).2.2 = some (am_fty f) := by
  have q := List.all_eq_true.mp am_tyA f (List.mem_range.mpr hf)
  rw [decide_eq_true_eq] at q
  exact q
theorem am_owner {f : Nat} (hf : f < 57) : ∃ ci, ci < 8 ∧ f ∈ am_lay ci := by
  have q := List.all_eq_true.mp am_fA f (List.mem_range.mpr hf)
  obtain ⟨ci, h1, h2⟩ := List.any_eq_true.mp q
  exact ⟨ci, List.mem_range.mp h1, List.contains_iff_mem.mp h2⟩
/-- every field is found at the start -/
theorem am_found (hn : ∀ w ∈ flatC narrow_1, w.before a0 s0 = true) (hts : ∀ w ∈ lw_tbl, w.before a0 s0 = true) {f : Nat} (hf : f < 63) :
    ∃ (cf : ClassId) (k : Class) (i : Nat) (fd : Field), s0.fieldFound? (am_fd f).1 (am_fd f).2.1 (am_fd f).2.2 = some (cf, k, i, fd) ∧ fd.isStatic = false := by
  by_cases h57 : f < 57
  · obtain ⟨ci, h1, h2⟩ := am_owner h57
    rcases am_ly_ok (s := s0) hts (State.WarmedH.refl s0) h1 h2 a0 with h | h
    · obtain ⟨c, k, cf', kf', fi', fd', r1, r2, hi', hst, -⟩ := Cond.lays_spec h
      exact ⟨_, _, _, _, hi', hst⟩
    · obtain ⟨c, k, cf', kf', fi', fd', r1, r2, hi', hst, -⟩ := Cond.laysFinal_spec h
      exact ⟨_, _, _, _, hi', hst⟩
  · have key : ∀ {k ci i : Nat} {fs : List Value} {v : Value}, am_stat[k]? = some (.inl (ci, fs)) → (am_lay ci)[i]? = some f → fs[i]? = some v → ∃ (cf : ClassId) (k : Class) (i : Nat) (fd : Field), s0.fieldFound? (am_fd f).1 (am_fd f).2.1 (am_fd f).2.2 = some (cf, k, i, fd) ∧ fd.isStatic = false := by
      intro k ci i fs v e1 e2 e3
      obtain ⟨cf, kk, fi, fd, cell, g1, g2, -⟩ := am_fld0 (b := 0) (xs := []) hn e1 e2 e3
      exact ⟨cf, kk, fi, fd, g1, g2⟩
    rcases (by omega : f = 57 ∨ f = 58 ∨ f = 59 ∨ f = 60 ∨ f = 61 ∨ f = 62) with rfl | rfl | rfl | rfl | rfl | rfl
    · exact key (k := 0) (ci := 11) (i := 0) (by rfl) (by rfl) (by rfl)
    · exact key (k := 0) (ci := 11) (i := 1) (by rfl) (by rfl) (by rfl)
    · exact key (k := 0) (ci := 11) (i := 2) (by rfl) (by rfl) (by rfl)
    · exact key (k := 0) (ci := 11) (i := 3) (by rfl) (by rfl) (by rfl)
    · exact key (k := 40) (ci := 12) (i := 0) (by rfl) (by rfl) (by rfl)
    · exact key (k := 40) (ci := 12) (i := 1) (by rfl) (by rfl) (by rfl)
/-- .. and later, in the same slot -/
theorem am_foundS (hn : ∀ w ∈ flatC narrow_1, w.before a0 s0 = true) (hts : ∀ w ∈ lw_tbl, w.before a0 s0 = true) (hW : s0.WarmedH s.vm) {f : Nat} (hf : f < 63) :
    ∃ (cf : ClassId) (k : Class) (i : Nat) (fd : Field), s.fieldFound? (am_fd f).1 (am_fd f).2.1 (am_fd f).2.2 = some (cf, k, i, fd) ∧ fd.isStatic = false ∧ fd.slot = am_so s0 f ∧ fd.type = am_fty f ∧ fd.name = (am_fd f).2.1 := by
  obtain ⟨cf, k, i, fd, h1, h2⟩ := am_found hn hts hf
  obtain ⟨k', hi', -⟩ := State.fieldFound?_setVm (s := s0) hW.alike h1
  have hi2 : s.fieldFound? (am_fd f).1 (am_fd f).2.1 (am_fd f).2.2 = some (cf, k', i, fd) := by simpa only [State.fieldFound?, State.vm_setVm] using hi'
  have ht := State.fieldFound?_type hi2 (am_fty_ok hf)
  refine ⟨cf, k', i, fd, hi2, h2, ?_, ht.2, ht.1⟩
  unfold am_so
  rw [h1]
set_option maxRecDepth 100000 in
theorem am_inA : (List.range 11).all (fun ci => decide (lw_tbl[am_inI.getD ci 0]? = some (.instantiable (am_cn ci) (am_N ci))) && decide (lw_tbl[am_icI.getD ci 0]? = some (.initialized (am_cn ci)))) = true := by decide +kernel
theorem am_in {ci : Nat} (h : am_own ci = true) : Jvm.Cond.instantiable (am_cn ci) (am_N ci) ∈ lw_tbl ∧ Jvm.Cond.initialized (am_cn ci) ∈ lw_tbl := by
  have q := List.all_eq_true.mp am_inA ci (List.mem_range.mpr (of_decide_eq_true h))
  simp only [Bool.and_eq_true, decide_eq_true_eq] at q
  exact ⟨List.mem_of_getElem? q.1, List.mem_of_getElem? q.2⟩
def am_nd2 (ci : Nat) : Bool := (List.range (am_lay ci).length).all (fun j => (List.range (am_lay ci).length).all (fun k => decide (j = k) || decide ((am_fd ((am_lay ci).getD j 0)).2.1 ≠ (am_fd ((am_lay ci).getD k 0)).2.1)))
set_option maxRecDepth 100000 in
theorem am_ndA : (List.range 11).all am_nd2 = true := by decide +kernel
set_option maxRecDepth 100000 in
theorem am_f63 : (List.range 11).all (fun ci => (am_lay ci).all (fun f => decide (f < 63))) = true := by decide +kernel
theorem am_lay8 {ci f k : Nat} (h : am_own ci = true) (hf : (am_lay ci)[k]? = some f) : ci < 8 := by
  have h11 : ci < 11 := of_decide_eq_true h
  by_cases h8 : ci < 8
  · exact h8
  · rcases (by omega : ci = 8 ∨ ci = 9 ∨ ci = 10) with rfl | rfl | rfl <;> cases hf
theorem am_cf (hn : ∀ w ∈ flatC narrow_1, w.before a0 s0 = true) (hts : ∀ w ∈ lw_tbl, w.before a0 s0 = true) (hW : s0.WarmedH s.vm) {ci : Nat} (h : am_own ci = true) : am_CF (am_X0 a0 s0 b xs) s ci := by
  have h11 : ci < 11 := of_decide_eq_true h
  obtain ⟨cC, kC, hfc, hk, hkind, -⟩ := Cond.instantiable_spec (hts _ (am_in h).1)
  have hfc' : s.vm.findClass (am_cn ci) = some cC := by rw [hW.alike.findClass]; exact hfc
  have hX : (am_X0 a0 s0 b xs).2.2.1 ci = cC := by
    show am_fcl s0 (am_cn ci) = cC
    unfold am_fcl
    rw [hfc]
    rfl
  obtain ⟨k', hk', he⟩ := hW.alike.2.2 _ _ hk
  refine ⟨by rw [hX]; exact hfc', k', by rw [hX]; exact hk', by rw [he]; exact hkind, fun k f hf => ?_, fun j k f g hj hk2 hne => ?_⟩
  · have h8 := am_lay8 h hf
    have hf63 : f < 63 := of_decide_eq_true (List.all_eq_true.mp (List.all_eq_true.mp am_f63 ci (List.mem_range.mpr h11)) f (List.mem_of_getElem? hf))
    obtain ⟨cf, kf, fi, fd, g1, g2, g3, g4, -⟩ := am_foundS (s := s) hn hts hW hf63
    have q := (u_facts hfc' hk' (am_ly_ok hts hW h8 (List.mem_of_getElem? hf) #[]) g1).2.2
    rw [g3, g4] at q
    exact q
  · have h8 := am_lay8 h hj
    have hf63 : f < 63 := of_decide_eq_true (List.all_eq_true.mp (List.all_eq_true.mp am_f63 ci (List.mem_range.mpr h11)) f (List.mem_of_getElem? hj))
    have hg63 : g < 63 := of_decide_eq_true (List.all_eq_true.mp (List.all_eq_true.mp am_f63 ci (List.mem_range.mpr h11)) g (List.mem_of_getElem? hk2))
    obtain ⟨_, _, _, fd, g1, g2, g3, -, g5⟩ := am_foundS (s := s) hn hts hW hf63
    obtain ⟨_, _, _, fd', g1', g2', g3', -, g5'⟩ := am_foundS (s := s) hn hts hW hg63
    have hnm : fd.name ≠ fd'.name := by
      have q := List.all_eq_true.mp (List.all_eq_true.mp (List.all_eq_true.mp am_ndA ci (List.mem_range.mpr h11)) j (List.mem_range.mpr (List.getElem?_eq_some_iff.mp hj).1)) k (List.mem_range.mpr (List.getElem?_eq_some_iff.mp hk2).1)
      rw [List.getD_eq_getElem?_getD, hj, List.getD_eq_getElem?_getD, hk2] at q
      simp only [Bool.or_eq_true, decide_eq_true_eq] at q
      rw [g5, g5']
      exact q.resolve_left hne
    have q := u_apart (am_ly_ok hts hW h8 (List.mem_of_getElem? hj) #[]) (am_ly_ok hts hW h8 (List.mem_of_getElem? hk2) #[]) g1 g1' hnm
    rw [g3, g3'] at q
    exact q
set_option maxRecDepth 100000 in
theorem am_aoA : lw_tbl[89]? = some (.arrayOver (.object "ToldShields$Word")) ∧ lw_tbl[82]? = some (.arrayOver (.object "ToldShields$Told")) ∧ lw_tbl[376]? = some (.arrayOver (.object "ToldShields$Layer")) ∧ lw_tbl[135]? = some (.arrayClass .char) ∧ lw_tbl[136]? = some (.arrayClass .int) ∧ lw_tbl[883]? = some (.arrayClass .long) := by decide +kernel
theorem am_ao (hts : ∀ w ∈ lw_tbl, w.before a0 s0 = true) (hW : s0.WarmedH s.vm) {t : Nat} (h4 : 4 ≤ t) (h7 : t < 7) (args : Array Value) : (Jvm.Cond.arrayOver (.object (am_en t))).before args s = true := by
  obtain ⟨w1, w2, w3, -⟩ := am_aoA
  rcases (by omega : t = 4 ∨ t = 5 ∨ t = 6) with rfl | rfl | rfl
  · exact (va_AO.moved hW.alike (va_AO.of (hts _ (List.mem_of_getElem? w1)))).use
  · exact (va_AO.moved hW.alike (va_AO.of (hts _ (List.mem_of_getElem? w2)))).use
  · exact (va_AO.moved hW.alike (va_AO.of (hts _ (List.mem_of_getElem? w3)))).use
theorem am_ac (hts : ∀ w ∈ lw_tbl, w.before a0 s0 = true) (hW : s0.WarmedH s.vm) (args : Array Value) : (Jvm.Cond.arrayClass .int).before args s = true ∧ (Jvm.Cond.arrayClass .char).before args s = true ∧ (Jvm.Cond.arrayClass .long).before args s = true := by
  obtain ⟨-, -, -, w1, w2, w3⟩ := am_aoA
  exact ⟨am_w_of hts _ w2 rfl args s hW, am_w_of hts _ w1 rfl args s hW, am_w_of hts _ w3 rfl args s hW⟩
theorem am_arrOf {U : State} {c : ClassId} {k : Class} {comp : ClassId} {ty : FieldType} (h1 : U.vm.classes[c]? = some k) (h2 : k.kind = .array comp ty) : ArrOfT U c ty := fun n z => ⟨fun j q => (nomatch q), k, h1, comp, h2⟩
theorem am_af0 (hts : ∀ w ∈ lw_tbl, w.before a0 s0 = true) (hW : s0.WarmedH s.vm) {t : Nat} (h : am_oka t = true) : am_AF (am_X0 a0 s0 b xs) s t := by
  have ht : t < 7 ∧ t ≠ 2 := by simpa [am_oka] using h
  have fin : ∀ {c : ClassId} {k : Class} {comp : ClassId}, s.vm.findClass ("[" ++ (am_ty t).toString) = some c → s.vm.classes[c]? = some k → k.kind = .array comp (am_ty t) → (4 ≤ t → s.vm.findClass (am_en t) = some comp) → am_AF (am_X0 a0 s0 b xs) s t := by
    intro c k comp h1 h2 h3 h4
    have hX : (am_X0 a0 s0 b xs).2.2.2.2.1 t = c := by
      show am_fcl s0 ("[" ++ (am_ty t).toString) = c
      unfold am_fcl
      rw [← hW.alike.findClass, h1]
      rfl
    refine ⟨by rw [hX]; exact am_arrOf h2 h3, by rw [hX]; exact h1, fun q => ⟨am_ty_obj q, k, comp, by rw [hX]; exact h2, by rw [← am_ty_obj q]; exact h3, h4 q⟩⟩
  by_cases h4 : 4 ≤ t
  · obtain ⟨comp, c, k, h1, -, h3, h5, h6⟩ := Cond.arrayOver_spec (am_ao hts hW h4 ht.1 #[])
    rw [← am_ty_obj h4] at h5 h6
    exact fin h6 h3 h5 (fun _ => h1)
  · obtain ⟨w1, w2, w3⟩ := am_ac hts hW (#[] : Array Value)
    rcases (by omega : t = 0 ∨ t = 1 ∨ t = 3) with rfl | rfl | rfl
    · obtain ⟨c, k, comp, h1, h2, h3⟩ := Cond.arrayClass_spec w1
      exact fin h1 h2 h3 (fun q => absurd q (by decide))
    · obtain ⟨c, k, comp, h1, h2, h3⟩ := Cond.arrayClass_spec w2
      exact fin h1 h2 h3 (fun q => absurd q (by decide))
    · obtain ⟨c, k, comp, h1, h2, h3⟩ := Cond.arrayClass_spec w3
      exact fin h1 h2 h3 (fun q => absurd q (by decide))
/-! Links. -/
def am_flB (z : (Nat × Nat × Nat) × (String × String × Nat × Nat)) : Bool :=
  decide (z.1.2.2 < 63) && (if z.2.2.1 = "" then decide (lw_tbl[z.2.2.2.1]? = some (.fieldLink (am_ow z.1.1) z.1.2.1 z.2.1 (am_fd z.1.2.2).2.1 (am_fd z.1.2.2).2.2)) else decide (lw_tbl[z.2.2.2.1]? = some (.fieldLinkNest (am_ow z.1.1) z.1.2.1 z.2.1 (am_fd z.1.2.2).2.1 (am_fd z.1.2.2).2.2 z.2.2.1))) &&
  (decide (z.2.1 = (am_fd z.1.2.2).1) || decide (lw_tbl[z.2.2.2.2]? = some (.sameField z.2.1 (am_fd z.1.2.2).1 (am_fd z.1.2.2).2.1 (am_fd z.1.2.2).2.2))) &&
  (!am_pl z.1.1 z.1.2.1 || (decide (z.1.2.2 < 57) && (!am_fin z.1.2.2 || decide ((am_fd z.1.2.2).1 = am_ow z.1.1))))
set_option maxRecDepth 100000 in
theorem am_flA : am_flL.length = am_flW.length ∧ (am_flL.zip am_flW).all am_flB = true := by decide +kernel
theorem am_flk (hn : ∀ w ∈ flatC narrow_1, w.before a0 s0 = true) (hts : ∀ w ∈ lw_tbl, w.before a0 s0 = true) (hW : s0.WarmedH s.vm) {ow k f : Nat} (h : am_fl ow k = some f) : am_FL (am_X0 a0 s0 b xs) s ow k f := by
  obtain ⟨⟨ref, host, wi, si⟩, hy⟩ := am_zip_mem am_flA.1 (am_s3_mem h)
  have q := List.all_eq_true.mp am_flA.2 _ hy
  simp only [am_flB, Bool.and_eq_true, decide_eq_true_eq, Bool.or_eq_true, Bool.not_eq_true'] at q
  obtain ⟨⟨⟨q1, q2⟩, q3⟩, q4⟩ := q
  obtain ⟨cf, kc, i, fd, g1, g2, g3, g4, g5⟩ := am_foundS (s := s) hn hts hW q1
  have hf : s.fieldFound? ref (am_fd f).2.1 (am_fd f).2.2 = some (cf, kc, i, fd) := by
    rcases q3 with e | e
    · rw [e]
      exact g1
    · exact u_same (args := #[]) (am_w_of hts _ e rfl _ s hW) _ g1
  refine ⟨ref, (am_fd f).2.1, (am_fd f).2.2, host, cf, i, kc, fd, hf, g2, g3, g4, fun args => ?_, fun hp => ?_⟩
  · by_cases hh : host = ""
    · rw [if_pos hh, decide_eq_true_eq] at q2
      exact Or.inl (am_w_of hts _ q2 rfl args s hW)
    · rw [if_neg hh, decide_eq_true_eq] at q2
      exact Or.inr (va_Nw.use rfl (va_Nw.warmF hW (va_Nw.of rfl (hts _ (List.mem_of_getElem? q2)))))
  · have q5 := q4.resolve_left (by rw [hp]; decide)
    obtain ⟨ci, c8, hm⟩ := am_owner q5.1
    have hw := hts _ (am_ly c8 hm)
    unfold am_lyw at hw
    split at hw
    · rename_i hfin
      have hw' := word_at (args := a0) (a' := #[]) hW (good_of_word rfl) hw
      obtain ⟨c, k2, cf', kf', fi', fd', r1, r2, hi', -, -, -, ho, -⟩ := Cond.laysFinal_spec hw'
      cases g1.symm.trans hi'
      refine Or.inr ⟨hfin, ?_⟩
      rw [← q5.2.resolve_left (by rw [hfin]; decide)]
      exact ho
    · have hw' := word_at (args := a0) (a' := #[]) hW (good_of_word rfl) hw
      obtain ⟨c, k2, cf', kf', fi', fd', r1, r2, hi', -, hfin, -⟩ := Cond.lays_spec hw'
      cases g1.symm.trans hi'
      exact Or.inl hfin
end AmFacts
