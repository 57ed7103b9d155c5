/-! Branches. -/
/-- the cells of the start are apart from each other and from the new ones -/
def am_inj (X : am_X) : Prop := (∀ k, k < am_stat.length → X.1 k < X.2.1) ∧ ∀ j k, j < 38 → k < 38 → X.1 j = X.1 k → j = k
theorem am_at_lt {h : am_H} {a : Nat} (e : (am_at h a).isSome = true ∧ (a < 38 ∨ 1001 ≤ a)) : a < 38 ∨ 1001 ≤ a ∧ a - 1000 < h.length := by
  obtain ⟨e, hne⟩ := e
  rcases hne with hne | hne
  · exact Or.inl hne
  · unfold am_at at e
    rw [if_neg (by omega)] at e
    refine Or.inr ⟨hne, ?_⟩
    obtain ⟨z, hz⟩ := Option.isSome_iff_exists.mp e
    exact (List.getElem?_eq_some_iff.mp hz).1
theorem am_stat_len : 38 ≤ am_stat.length := by decide
theorem am_ph_inj {X : am_X} (hX : am_inj X) {h : am_H} {a b : Nat} (ha : (am_at h a).isSome = true ∧ (a < 38 ∨ 1001 ≤ a)) (hb : (am_at h b).isSome = true ∧ (b < 38 ∨ 1001 ≤ b)) (e : am_ph X a = am_ph X b) : a = b := by
  have hl := am_stat_len
  unfold am_ph at e
  rcases am_at_lt ha with a1 | ⟨a1, a2⟩ <;> rcases am_at_lt hb with b1 | ⟨b1, b2⟩
  · rw [if_pos (by omega), if_pos (by omega)] at e
    exact hX.2 a b a1 b1 e
  · rw [if_pos (by omega), if_neg (by omega), if_neg (by omega)] at e
    have := hX.1 a (by omega)
    omega
  · rw [if_neg (by omega), if_neg (by omega), if_pos (by omega)] at e
    have := hX.1 b (by omega)
    omega
  · rw [if_neg (by omega), if_neg (by omega), if_neg (by omega), if_neg (by omega)] at e
    omega
theorem am_rf_v {X : am_X} {h : am_H} {v : Value} {r : Option Nat} (e : am_rf h v = some r) : am_v X v = va_rf (r.map (am_ph X)) := by
  unfold am_rf at e
  split at e
  · split at e
    · cases e; rfl
    · cases e
  · cases e; rfl
  · cases e
theorem am_rf_eq {X : am_X} (hX : am_inj X) {h : am_H} {v w : Value} {r q : Option Nat} (e1 : am_rf h v = some r) (e2 : am_rf h w = some q) (e : r.map (am_ph X) = q.map (am_ph X)) : r = q := by
  unfold am_rf at e1 e2
  split at e1
  · split at e1
    · rename_i a ha
      cases e1
      split at e2
      · split at e2
        · rename_i b hb
          cases e2
          simp only [Option.map_some, Option.some.injEq] at e
          rw [am_ph_inj hX ha hb e]
        · cases e2
      · cases e2; cases e
      · cases e2
    · cases e1
  · cases e1
    split at e2
    · split at e2
      · cases e2; cases e
      · cases e2
    · cases e2; rfl
    · cases e2
  · cases e1
theorem am_off {d : Int} {x : Int} (z : Int) : ∀ (os ps : List (Int × Int)), os.map (fun o => (o.1, z + o.2)) = ps → Op.lookupswitch.offset ps (z + d) x = z + Op.lookupswitch.offset os d x := by
  intro os
  induction os with
  | nil =>
    intro ps h
    subst h
    rfl
  | cons o r ih =>
    intro ps h
    subst h
    obtain ⟨a, b⟩ := o
    rw [List.map_cons, Op.lookupswitch.offset_cons, Op.lookupswitch.offset_cons]
    split
    · rfl
    · exact ih _ rfl
theorem am_off_pos {x d : Int} : ∀ ps : List (Int × Int), ps.all (fun t => decide (0 ≤ t.2)) = true → 0 ≤ d → 0 ≤ Op.lookupswitch.offset ps d x := by
  intro ps
  induction ps with
  | nil => intro _ h; exact h
  | cons o r ih =>
    intro h hd
    obtain ⟨a, b⟩ := o
    rw [List.all_cons, Bool.and_eq_true, decide_eq_true_eq] at h
    rw [Op.lookupswitch.offset_cons]
    split
    · exact h.1
    · exact ih h.2 hd
section AmBranch
variable {p : Program} {l : Launch} {e : Env} {R : Room} {s : State} {m : MethodId} {args : Array Value} {below : List Frame} {meth : Method} {c : Code} {H : Heap} {locs : List Loc} {cells slots : Nat} {Q : State → Prop}
variable {cc : ByteArray} {pc len mi ow : Nat} {ls : Array Slot} {st : List Value} {X : am_X} {lv : am_L} {i i0 : Instr} {h : am_H}
theorem am_t {pc : Nat} {t : Int} (h : 0 ≤ t) : (pc : Int) + (t - pc) = ((t.toNat : Nat) : Int) := by
  rw [Int.toNat_of_nonneg h]
  omega
theorem am_br_ok (hx : p.tables.exec = Jvm.exec) (hb : c.code = cc) (hX : am_inj X) {pc' : Nat} {st' : List Value} (e1 : am_br i (pc + len) st h = some (pc', st')) (hd : decode cc pc = .ok (i0, len)) (hck : am_ck ow pc i len i0 = true)
    (kk : W p l e R s m args below meth c H locs cells slots Q (F0 m pc' ls (st'.map (am_v X)))) : W p l e R s m args below meth c H locs cells slots Q (F0 m pc ls (st.map (am_v X))) := by
  unfold am_br at e1
  split at e1
  · simp only [am_ck, Bool.and_eq_true, decide_eq_true_eq] at hck
    obtain ⟨⟨rfl, rfl⟩, h0⟩ := hck
    cases e1
    exact lv_goto hx hb hd (am_t h0) kk
  · rename_i cnd t
    simp only [am_ck, Bool.and_eq_true, decide_eq_true_eq] at hck
    obtain ⟨⟨rfl, rfl⟩, h0⟩ := hck
    split at e1
    · cases e1
      cases cnd <;> dsimp only at kk
      · exact lv_if_eq hx hb hd (am_t h0) (fun q => by rw [if_pos q] at kk; exact kk) (fun q => by rw [if_neg q] at kk; exact kk)
      · exact lv_if_ne hx hb hd (am_t h0) (fun q => by rw [if_pos q] at kk; exact kk) (fun q => by rw [if_neg (not_not_intro q)] at kk; exact kk)
      · exact lv_if_lt hx hb hd (am_t h0) (fun q => by rw [if_pos q] at kk; exact kk) (fun q => by rw [if_neg q] at kk; exact kk)
      · exact lv_if_ge hx hb hd (am_t h0) (fun q => by rw [if_pos q] at kk; exact kk) (fun q => by rw [if_neg q] at kk; exact kk)
      · exact lv_if_gt hx hb hd (am_t h0) (fun q => by rw [if_pos q] at kk; exact kk) (fun q => by rw [if_neg q] at kk; exact kk)
      · exact lv_if_le hx hb hd (am_t h0) (fun q => by rw [if_pos q] at kk; exact kk) (fun q => by rw [if_neg q] at kk; exact kk)
    · cases e1
  · rename_i cnd t
    simp only [am_ck, Bool.and_eq_true, decide_eq_true_eq] at hck
    obtain ⟨⟨rfl, rfl⟩, h0⟩ := hck
    split at e1
    · cases e1
      cases cnd <;> dsimp only at kk
      · exact lv_icmp_eq hx hb hd (am_t h0) (fun q => by rw [if_pos q] at kk; exact kk) (fun q => by rw [if_neg q] at kk; exact kk)
      · exact lv_icmp_ne hx hb hd (am_t h0) (fun q => by rw [if_pos q] at kk; exact kk) (fun q => by rw [if_neg (not_not_intro q)] at kk; exact kk)
      · exact lv_icmp_lt hx hb hd (am_t h0) (fun q => by rw [if_pos q] at kk; exact kk) (fun q => by rw [if_neg q] at kk; exact kk)
      · exact lv_icmp_ge hx hb hd (am_t h0) (fun q => by rw [if_pos q] at kk; exact kk) (fun q => by rw [if_neg q] at kk; exact kk)
      · exact lv_icmp_gt hx hb hd (am_t h0) (fun q => by rw [if_pos q] at kk; exact kk) (fun q => by rw [if_neg q] at kk; exact kk)
      · exact lv_icmp_le hx hb hd (am_t h0) (fun q => by rw [if_pos q] at kk; exact kk) (fun q => by rw [if_neg q] at kk; exact kk)
    · cases e1
  · rename_i cnd t
    simp only [am_ck, Bool.and_eq_true, decide_eq_true_eq] at hck
    obtain ⟨⟨rfl, rfl⟩, h0⟩ := hck
    split at e1
    · rename_i w v r
      split at e1
      · rename_i x y hx1 hy1
        cases e1
        show W p l e R s m args below meth c H locs cells slots Q (F0 m pc ls (am_v X w :: am_v X v :: _))
        rw [am_rf_v hx1, am_rf_v hy1]
        cases cnd <;> dsimp only at kk
        · exact lv_acmp_eq hx hb hd (am_t h0) (fun q => by rw [if_pos (am_rf_eq hX hx1 hy1 q)] at kk; exact kk) (fun q => by rw [if_neg (fun z => q (by rw [z]))] at kk; exact kk)
        · exact lv_acmp_ne hx hb hd (am_t h0) (fun q => by rw [if_pos (fun z => q (by rw [z]))] at kk; exact kk) (fun q => by rw [if_neg (not_not_intro (am_rf_eq hX hx1 hy1 q))] at kk; exact kk)
      · cases e1
    · cases e1
  · rename_i t
    simp only [am_ck, Bool.and_eq_true, decide_eq_true_eq] at hck
    obtain ⟨⟨rfl, rfl⟩, h0⟩ := hck
    split at e1
    · cases e1; exact lv_ifnullN hx hb hd (am_t h0) kk
    · cases e1; exact lv_ifnull hx hb hd kk
    · cases e1
  · rename_i t
    simp only [am_ck, Bool.and_eq_true, decide_eq_true_eq] at hck
    obtain ⟨⟨rfl, rfl⟩, h0⟩ := hck
    split at e1
    · cases e1; exact lv_ifnonnullN hx hb hd kk
    · cases e1; exact lv_ifnonnull hx hb hd (am_t h0) kk
    · cases e1
  · rename_i d lo hi ts
    simp only [am_ck] at hck
    split at hck
    · rename_i d0 lo0 hi0 os
      simp only [Bool.and_eq_true, decide_eq_true_eq] at hck
      obtain ⟨⟨⟨⟨⟨rfl, rfl⟩, hdd⟩, hd0⟩, hos⟩, hts⟩ := hck
      split at e1
      · rename_i x r
        split at e1
        · rename_i hout
          cases e1
          exact lv_tableOut hx hb hd hout (by rw [hdd, Int.toNat_of_nonneg hd0]) kk
        · rename_i hin
          have hlo : ¬ x.toInt < lo0 := fun q => hin (Or.inl q)
          have hhi : ¬ hi0 < x.toInt := fun q => hin (Or.inr q)
          cases ht : ts[(x.toInt - lo0).toNat]? with
          | none => rw [ht] at e1; cases e1
          | some t =>
            rw [ht] at e1
            simp only [Option.map_some, Option.some.injEq, Prod.mk.injEq] at e1
            obtain ⟨rfl, rfl⟩ := e1
            have ht2 : ts.toList[(x.toInt - lo0).toNat]? = some t := by rw [Array.getElem?_toList]; exact ht
            have h0 : 0 ≤ t := by
              have := List.all_eq_true.mp hts t (List.mem_of_getElem? ht2)
              simpa using this
            rw [← hos, List.getElem?_map] at ht2
            cases ho : os.toList[(x.toInt - lo0).toNat]? with
            | none => rw [ho] at ht2; cases ht2
            | some o =>
              rw [ho] at ht2
              simp only [Option.map_some, Option.some.injEq] at ht2
              exact lv_tableIn hx hb hd hlo hhi (off := o) (by rw [← Array.getElem?_toList]; exact ho) (by rw [ht2, Int.toNat_of_nonneg h0]) kk
      · cases e1
    · cases hck
  · rename_i d ps
    simp only [am_ck] at hck
    split at hck
    · rename_i d0 os
      simp only [Bool.and_eq_true, decide_eq_true_eq] at hck
      obtain ⟨⟨⟨⟨hdd, hd0⟩, hos⟩, hps⟩, hord⟩ := hck
      split at e1
      · rename_i x r
        cases e1
        refine lv_lookup hx hb hd hord rfl ?_ kk
        rw [← hdd, am_off (pc : Int) os.toList ps.toList hos, Int.toNat_of_nonneg]
        rw [← am_off (pc : Int) os.toList ps.toList hos, hdd]
        exact am_off_pos ps.toList hps hd0
      · cases e1
    · cases hck
  · cases e1
end AmBranch
