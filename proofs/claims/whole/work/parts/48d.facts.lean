/-! What the Statement says of the start: statics, classes to be made, casts, the script; all together. -/
section AmFacts2
variable {a0 : Array Value} {s0 s : State} {b : Nat} {xs : List Int32}
def am_glB (z : (Nat × Nat × Nat) × (String × String × String × String × Nat × Nat × Nat)) : Bool :=
  (if z.2.2.2.2.1 = "" then decide (lw_tbl[z.2.2.2.2.2.1]? = some (.fieldLink (am_ow z.1.1) z.1.2.1 z.2.1 z.2.2.1 z.2.2.2.1)) else decide (lw_tbl[z.2.2.2.2.2.1]? = some (.fieldLinkNest (am_ow z.1.1) z.1.2.1 z.2.1 z.2.2.1 z.2.2.2.1 z.2.2.2.2.1))) &&
  decide (lw_tbl[z.2.2.2.2.2.2.1]? = some (.laysStatic z.2.1 z.2.2.1 z.2.2.2.1)) && decide (lw_tbl[z.2.2.2.2.2.2.2]? = some (.initialized z.2.1)) &&
  (match am_gst z.1.2.2 with
    | some (.ref j) => decide (j < 116) && decide (am_tm j = .static z.2.1 z.2.2.1 z.2.2.2.1)
    | some (.int x) => decide ((flatC narrow_1)[47]? = some (.eq (.static z.2.1 z.2.2.1 z.2.2.2.1) (.int x)))
    | _ => false)
set_option maxRecDepth 100000 in
theorem am_glA : am_glL.length = am_glW.length ∧ (am_glL.zip am_glW).all am_glB = true := by decide +kernel
theorem am_glk (hn : ∀ w ∈ flatC narrow_1, w.before a0 s0 = true) (hts : ∀ w ∈ lw_tbl, w.before a0 s0 = true) (hLt : am_Lt (am_X0 a0 s0 b xs) s0 s) {ow k f : Nat} (h : am_gl ow k = some f) : am_GL (am_X0 a0 s0 b xs) s ow k f := by
  obtain ⟨⟨c, n, d, host, li, lsi, ii⟩, hy⟩ := am_zip_mem am_glA.1 (am_s3_mem h)
  have q := List.all_eq_true.mp am_glA.2 _ hy
  have hW := hLt.1
  simp only [am_glB, Bool.and_eq_true, decide_eq_true_eq] at q
  obtain ⟨⟨⟨q1, q2⟩, q3⟩, q4⟩ := q
  have key : ∃ v, am_gst f = some v ∧ (Term.static c n d).eval a0 s0 none [] s0 = some (am_v (am_X0 a0 s0 b xs) v) := by
    split at q4
    · rename_i j hj
      simp only [Bool.and_eq_true, decide_eq_true_eq] at q4
      have hv := am_vt_ev (b := b) (xs := xs) hn (v := .ref j) (by simpa [am_vok] using q4.1)
      refine ⟨.ref j, hj, ?_⟩
      rw [← q4.2]
      exact hv
    · rename_i x hx
      rw [decide_eq_true_eq] at q4
      exact ⟨.int x, hx, va_eqi (hn _ (List.mem_of_getElem? q4))⟩
    · cases q4
  obtain ⟨v, hv1, hv2⟩ := key
  have hZ := va_Zof (A := fun q => s0.heap.size ≤ q) (hts _ (List.mem_of_getElem? q2)) (hts _ (List.mem_of_getElem? q3)) hv2 (fun a ha => Nat.not_le.mpr ha)
  obtain ⟨cf, kf, fi, fd, a, cell, z1, z2, z3, z4, z5, z6, z7, z8⟩ := (va_Z.moved hW.alike hZ).kept (H1 := s.heap) (fun a _ ha => hLt.2 a (Nat.lt_of_not_le ha))
  refine ⟨c, n, d, host, cf, fi, kf, fd, a, cell, v, hv1, z1, z2, z3, z4, Nat.lt_of_not_le z8, z5, (fun e => by rw [e] at z6; cases z6), z7, fun args => ?_⟩
  by_cases hh : host = ""
  · rw [if_pos hh, decide_eq_true_eq] at q1
    exact Or.inl (am_w_of hts _ q1 rfl args s hW)
  · rw [if_neg hh, decide_eq_true_eq] at q1
    exact Or.inr (va_Nw.use rfl (va_Nw.warmF hW (va_Nw.of rfl (hts _ (List.mem_of_getElem? q1)))))
set_option maxRecDepth 100000 in
theorem am_nlA : am_nlL.length = am_nlW.length ∧ (am_nlL.zip am_nlW).all (fun z => am_own z.1.2.2 && decide (lw_tbl[z.2]? = some (.classLink (am_ow z.1.1) z.1.2.1 (am_cn z.1.2.2)))) = true := by decide +kernel
theorem am_nkk (hts : ∀ w ∈ lw_tbl, w.before a0 s0 = true) (hW : s0.WarmedH s.vm) {ow k ci : Nat} (h : am_nl ow k = some ci) : am_NK s ow k ci := by
  obtain ⟨wi, hy⟩ := am_zip_mem am_nlA.1 (am_s3_mem h)
  have q := List.all_eq_true.mp am_nlA.2 _ hy
  simp only [Bool.and_eq_true, decide_eq_true_eq] at q
  refine ⟨q.1, fun args => ⟨am_w_of hts _ q.2 rfl args s hW, word_at hW (good_of_word rfl) (hts _ (am_in q.1).1), word_at hW (good_of_word rfl) (hts _ (am_in q.1).2)⟩⟩
set_option maxRecDepth 100000 in
theorem am_alA : am_alL.length = am_alW.length ∧ (am_alL.zip am_alW).all (fun z => am_oka z.1.2.2 && decide (4 ≤ z.1.2.2) && decide (lw_tbl[z.2.1]? = some (.classLink (am_ow z.1.1) z.1.2.1 (am_en z.1.2.2)))) = true := by decide +kernel
theorem am_alk (hts : ∀ w ∈ lw_tbl, w.before a0 s0 = true) (hW : s0.WarmedH s.vm) {ow k t : Nat} (h : am_al ow k = some t) : am_AL s ow k t := by
  obtain ⟨wi, hy⟩ := am_zip_mem am_alA.1 (am_s3_mem h)
  have q := List.all_eq_true.mp am_alA.2 _ hy
  simp only [Bool.and_eq_true, decide_eq_true_eq] at q
  have ht : t < 7 ∧ t ≠ 2 := by simpa [am_oka] using q.1.1
  exact ⟨q.1.1, q.1.2, am_ty_obj q.1.2, fun args => ⟨am_w_of hts _ q.2 rfl args s hW, am_ao hts hW q.1.2 ht.1 args⟩⟩
theorem am_s3l_mem {a b : Nat} {c : Int64} : ∀ {l : List (Nat × Nat × Int64)}, am_s3l a b l = some c → (a, b, c) ∈ l := by
  intro l
  induction l with
  | nil => intro h; cases h
  | cons z r ih =>
    obtain ⟨x, y, w⟩ := z
    intro h
    unfold am_s3l at h
    split at h
    · rename_i hq
      obtain ⟨rfl, rfl⟩ := hq
      cases h
      exact List.mem_cons_self
    · exact List.mem_cons_of_mem _ (ih h)
set_option maxRecDepth 100000 in
theorem am_lcA : am_lcL.length = am_lcW.length ∧ (am_lcL.zip am_lcW).all (fun z => decide (lw_tbl[z.2]? = some (.constantLong (am_ow z.1.1) z.1.2.1 z.1.2.2))) = true := by decide +kernel
theorem am_lck (hts : ∀ w ∈ lw_tbl, w.before a0 s0 = true) (hW : s0.WarmedH s.vm) {mi k : Nat} {v : Int64} (h : am_lc mi k = some v) (args : Array Value) : (Jvm.Cond.constantLong (am_ow (am_mo mi)) k v).before args s = true := by
  obtain ⟨wi, hy⟩ := am_zip_mem am_lcA.1 (am_s3l_mem h)
  have q := List.all_eq_true.mp am_lcA.2 _ hy
  rw [decide_eq_true_eq] at q
  exact am_w_of hts _ q rfl args s hW
set_option maxRecDepth 100000 in
theorem am_csA : lw_tbl[1092]? = some (.castable "ToldShields$Charges" "ToldShields$Layer") ∧ lw_tbl[1093]? = some (.castable "ToldShields$Ordinary" "ToldShields$Layer") := by decide +kernel
theorem am_castk (hn : ∀ w ∈ flatC narrow_1, w.before a0 s0 = true) (hts : ∀ w ∈ lw_tbl, w.before a0 s0 = true) (hW : s0.WarmedH s.vm) {ci t : Nat} (h : am_cast ci t = true) : ∃ c1 c2 : ClassId, s.vm.findClass (am_cn ci) = some c1 ∧ s.vm.findClass (am_en t) = some c2 ∧ s.vm.assignable c1 c2 = true := by
  simp only [am_cast, Bool.or_eq_true, Bool.and_eq_true, decide_eq_true_eq] at h
  rcases h with (⟨rfl, rfl⟩ | ⟨rfl, rfl⟩) | ⟨rfl, rfl | rfl⟩
  · obtain ⟨comp, c, k, h1, -⟩ := Cond.arrayOver_spec (am_ao hts hW (t := 4) (by decide) (by decide) #[])
    exact ⟨comp, comp, h1, h1, va_asg _ _⟩
  · obtain ⟨comp, c, k, h1, -⟩ := Cond.arrayOver_spec (am_ao hts hW (t := 5) (by decide) (by decide) #[])
    exact ⟨comp, comp, h1, h1, va_asg _ _⟩
  · obtain ⟨c1, c2, h1, h2, h3⟩ := Cond.castable_spec (am_sof_at (args := #[]) rfl hW (hts _ (List.mem_of_getElem? am_csA.1)))
    exact ⟨c1, c2, h1, h2, h3⟩
  · obtain ⟨c1, c2, h1, h2, h3⟩ := Cond.castable_spec (am_sof_at (args := #[]) rfl hW (hts _ (List.mem_of_getElem? am_csA.2)))
    exact ⟨c1, c2, h1, h2, h3⟩
theorem am_RR_moved {X : am_X} {c : am_C} {cell : Cell} (hvm : s0.vm.Alike s.vm) (h : am_RR X s0 c cell) : am_RR X s c cell := by
  rcases c with ⟨ci, fs⟩ | ⟨t, ys⟩
  · obtain ⟨h1, h2, h3, h4⟩ := h
    exact ⟨h1, h2, by rw [hvm.findClass]; exact h3, h4⟩
  · obtain ⟨h1, h2⟩ := h
    exact ⟨State.isArrayOf_alike hvm h1, h2⟩
/-- the script at the start -/
def am_Sc (s0 : State) (b : Nat) (xs : List Int32) : Prop := ∃ cell, s0.heap[b]? = some cell ∧ s0.isArrayOf cell .int ∧ cell.vm ≠ .unknown ∧ cell.slots.size = xs.length ∧ ∀ j : Nat, j < xs.length → cell.slots[j]? = some (.int (xs.getD j 0))
theorem am_fx (hn : ∀ w ∈ flatC narrow_1, w.before a0 s0 = true) (hts : ∀ w ∈ lw_tbl, w.before a0 s0 = true) (hsc : am_Sc s0 b xs) : ∀ s, am_Lt (am_X0 a0 s0 b xs) s0 s → am_Fx (am_X0 a0 s0 b xs) s := by
  intro s hLt
  have hW := hLt.1
  refine ⟨fun k c h => ?_, fun ci h => am_cf hn hts hW h, fun t h => am_af0 hts hW h, fun ow k f h => am_flk hn hts hW h, fun ow k f h => am_glk hn hts hLt h, fun ow k ci h => am_nkk hts hW h, fun ow k t h => am_alk hts hW h, fun ci t h => am_castk hn hts hW h, fun mi k v h args => am_lck hts hW h args, ?_, fun args => am_ac hts hW args⟩
  · obtain ⟨cell, h1, h2⟩ := am_st0 (b := b) (xs := xs) hn h
    refine ⟨cell, ?_, am_RR_moved hW.alike h2⟩
    show s.heap[am_ad a0 s0 k]? = some cell
    rw [hLt.2 _ (am_ad_lt hn (List.getElem?_eq_some_iff.mp h).1)]
    exact h1
  · obtain ⟨cell, h1, h2, h3, h4, h5⟩ := hsc
    have hb : b < s0.heap.size := (Array.getElem?_eq_some_iff.mp h1).1
    refine ⟨hb, cell, by rw [show (am_X0 a0 s0 b xs).2.2.2.2.2.1 = b from rfl, hLt.2 b hb]; exact h1, ?_⟩
    have hl : (xs.map Value.int).length = xs.length := List.length_map ..
    refine ⟨State.isArrayOf_alike hW.alike h2, h3, by rw [h4]; show (xs.map Value.int).length ≤ _; rw [hl]; exact Nat.le_refl _, by rw [h4]; show Int32.ofNat xs.length = Int32.ofNat (xs.map Value.int).length; rw [hl], fun j v hv => ?_⟩
    have hv' : (xs.map Value.int)[j]? = some v := hv
    rw [List.getElem?_map] at hv'
    cases hx : xs[j]? with
    | none => rw [hx] at hv'; cases hv'
    | some z =>
      rw [hx] at hv'
      cases hv'
      have := h5 j (List.getElem?_eq_some_iff.mp hx).1
      rw [List.getD_eq_getElem?_getD, hx] at this
      exact this
set_option maxRecDepth 100000 in
theorem am_zA : lw_tbl[293]? = some (.laysStatic "jdk/internal/util/Preconditions" "SIOOBE_FORMATTER" "Ljava/util/function/BiFunction;") ∧ lw_tbl[59]? = some (.initialized "jdk/internal/util/Preconditions") ∧ lw_tbl[211]? = some (.laysStatic Bundle.tN "UNASSIGNED_STACK" Bundle.steD) ∧ lw_tbl[213]? = some (.laysStatic Bundle.tN "SUPPRESSED_SENTINEL" Bundle.listD) ∧ Jvm.Cond.initialized Bundle.tN ∈ lw_tbl := by decide +kernel
set_option maxRecDepth 100000 in
theorem am_zB : (flatC narrow_1)[48]? = some (.isRef (.static "jdk/internal/util/Preconditions" "SIOOBE_FORMATTER" "Ljava/util/function/BiFunction;")) ∧ (flatC narrow_1)[2]? = some (.isRef (.static Bundle.tN "UNASSIGNED_STACK" Bundle.steD)) ∧ (flatC narrow_1)[3]? = some (.isRef (.static Bundle.tN "SUPPRESSED_SENTINEL" Bundle.listD)) := by decide +kernel
theorem am_zs (hn : ∀ w ∈ flatC narrow_1, w.before a0 s0 = true) (hts : ∀ w ∈ lw_tbl, w.before a0 s0 = true) : am_Zs (am_X0 a0 s0 b xs) s0 := by
  obtain ⟨w1, w2, -⟩ := am_zA
  exact va_Zqof (hts _ (List.mem_of_getElem? w1)) (hts _ (List.mem_of_getElem? w2)) (hn _ (List.mem_of_getElem? am_zB.1)) (fun a ha => Nat.not_le.mpr ha)
theorem am_zu (hn : ∀ w ∈ flatC narrow_1, w.before a0 s0 = true) (hts : ∀ w ∈ lw_tbl, w.before a0 s0 = true) : am_Zu (am_X0 a0 s0 b xs) s0 := by
  obtain ⟨-, -, w1, w2, w3⟩ := am_zA
  exact ⟨vx_Zqof (hts _ (List.mem_of_getElem? w1)) (hts _ w3) (hn _ (List.mem_of_getElem? am_zB.2.1)) (fun a ha => Nat.not_le.mpr ha), vx_Zqof (hts _ (List.mem_of_getElem? w2)) (hts _ w3) (hn _ (List.mem_of_getElem? am_zB.2.2)) (fun a ha => Nat.not_le.mpr ha)⟩
set_option maxRecDepth 100000 in
theorem am_nxA : ([(9, 8, 292), (10, 8, 293), (8, 9, 297), (10, 9, 304), (8, 10, 308), (9, 10, 315)] : List (Nat × Nat × Nat)).all (fun z => decide ((flatC narrow_1)[z.2.2]? = some (.not (.castable (am_cn z.1) (am_cn z.2.1))))) = true := by decide +kernel
theorem am_nx0 (hn : ∀ w ∈ flatC narrow_1, w.before a0 s0 = true) : am_Nx s0 := by
  intro x y hx hy hne
  have key : ∀ i, (x, y, i) ∈ ([(9, 8, 292), (10, 8, 293), (8, 9, 297), (10, 9, 304), (8, 10, 308), (9, 10, 315)] : List (Nat × Nat × Nat)) → va_Nc (am_cn x) (am_cn y) s0 := by
    intro i hi
    have q := List.all_eq_true.mp am_nxA _ hi
    rw [decide_eq_true_eq] at q
    exact va_Nc.of (hn _ (List.mem_of_getElem? q))
  rcases hx with rfl | rfl | rfl <;> rcases hy with rfl | rfl | rfl
  · exact absurd rfl hne
  · exact key 297 (by decide)
  · exact key 308 (by decide)
  · exact key 292 (by decide)
  · exact absurd rfl hne
  · exact key 315 (by decide)
  · exact key 293 (by decide)
  · exact key 304 (by decide)
  · exact absurd rfl hne
/-- all that am_sound leans on -/
theorem am_true {l : Launch} (hl : l.stackTraces = false) (hn : ∀ w ∈ flatC narrow_1, w.before a0 s0 = true) (hts : ∀ w ∈ lw_tbl, w.before a0 s0 = true) (hsc : am_Sc s0 b xs) :
    ∀ (n d mi pc : Nat) (lv : am_L) (st : List Value) (h : am_H) (o : am_O) (h' : am_H), am_run n d mi pc lv st h = some (o, h') →
    ∀ (p : Program) (e : Env) (s : State) (m : MethodId) (args : Array Value) (below : List Frame) (meth : Method) (c : Code) (R : Room) (h0 : am_H) (H : Heap) (locs : List Loc) (ls : Array Slot),
    am_Cx l (am_X0 a0 s0 b xs) s0 p s m meth c R d mi h0 h' → h0.length ≤ h.length → am_sz h0 ≤ am_sz h → lv.length = am_ml mi → am_Ls (am_X0 a0 s0 b xs) lv ls → am_P (am_X0 a0 s0 b xs) h H → am_old (am_X0 a0 s0 b xs) s H → (∀ q ∈ locs, (am_X0 a0 s0 b xs).2.1 ≤ q.base) →
    W p l e R s m args below meth c H locs (h.length - h0.length) (am_sz h - am_sz h0) (am_MQ (am_X0 a0 s0 b xs) s below o h0 h') (F0 m pc ls (st.map (am_v (am_X0 a0 s0 b xs)))) :=
  am_sound (am_inj0 hn) (am_fx hn hts hsc) (am_hc hts (am_inj0 hn) am_hd (am_hw hts)) (am_ht hts (am_fx hn hts hsc) hl (am_zu hn hts)) (am_hs_ok hts (am_zs hn hts)) (am_hh hts (am_nx0 hn)) (am_hw hts) am_hd am_hn1 am_hn2
end AmFacts2
