/-! Stores into cells, new cells. -/
theorem am_fits (X : am_X) (ty : FieldType) (v : Value) : fits ty (am_v X v) = fits ty v := by
  cases v <;> cases ty <;> rfl
theorem am_narrow {ty : FieldType} {v : Value} (h : fits ty v = true) : narrow ty v = v := by
  cases ty <;> cases v <;> first | rfl | (simp [fits] at h; done) | skip
  · rename_i x
    simp only [fits, Bool.and_eq_true, decide_eq_true_eq] at h
    show Value.int _ = Value.int _
    congr 1
    have h1 := Int32.le_iff_toInt_le.mp h.1
    have h2 := Int32.le_iff_toInt_le.mp h.2
    rw [show (-128 : Int32).toInt = -128 from rfl] at h1
    rw [show (127 : Int32).toInt = 127 from rfl] at h2
    apply Int32.toInt_inj.mp
    rw [Int8.toInt_toInt32, Int32.toInt_toInt8]
    exact Int.bmod_eq_of_le (by omega) (by omega)
  · rename_i x
    simp only [fits, Bool.and_eq_true, decide_eq_true_eq] at h
    show Value.int _ = Value.int _
    congr 1
    have h1 := Int32.le_iff_toInt_le.mp h.1
    have h2 := Int32.le_iff_toInt_le.mp h.2
    rw [show (0 : Int32).toInt = 0 from rfl] at h1
    rw [show (65535 : Int32).toInt = 65535 from rfl] at h2
    rw [← lg_i2c_nf]
    exact lg_i2c_word h1 (by omega)
  · rename_i x
    simp only [fits, Bool.and_eq_true, decide_eq_true_eq] at h
    show Value.int _ = Value.int _
    congr 1
    have h1 := Int32.le_iff_toInt_le.mp h.1
    have h2 := Int32.le_iff_toInt_le.mp h.2
    rw [show (-32768 : Int32).toInt = -32768 from rfl] at h1
    rw [show (32767 : Int32).toInt = 32767 from rfl] at h2
    apply Int32.toInt_inj.mp
    rw [Int16.toInt_toInt32, Int32.toInt_toInt16]
    exact Int.bmod_eq_of_le (by omega) (by omega)
  · rename_i x
    simp only [fits, Bool.or_eq_true, beq_iff_eq] at h
    rcases h with rfl | rfl <;> rfl
theorem am_set_inv {h h' : am_H} {a : Nat} {c : am_C} (e : am_set h a c = some h') : 1001 ≤ a ∧ a - 1000 < h.length ∧ h' = h.set (a - 1000) c := by
  unfold am_set at e
  split at e
  · rename_i hc
    cases e
    exact ⟨hc.1, hc.2, rfl⟩
  · cases e
theorem am_at_own {h : am_H} {a : Nat} {c : am_C} (ha : 1001 ≤ a) (e : am_at h a = some c) : h[a - 1000]? = some c := by
  unfold am_at at e
  rw [if_neg (by omega)] at e
  exact e
theorem am_ph_own {X : am_X} {a : Nat} (ha : 1001 ≤ a) : am_ph X a = X.2.1 + (a - 1001) := by
  unfold am_ph
  rw [if_neg (by omega), if_neg (by omega)]
theorem am_own_ix {h : am_H} {a : Nat} {c : am_C} (ha : 1001 ≤ a) (e : h[a - 1000]? = some c) : h[(a - 1001) + 1]? = some c := by
  rw [show a - 1001 + 1 = a - 1000 by omega]
  exact e
theorem am_own_set {h : am_H} {a : Nat} {c : am_C} (ha : 1001 ≤ a) : h.set (a - 1000) c = h.set ((a - 1001) + 1) c := by
  rw [show a - 1001 + 1 = a - 1000 by omega]
theorem am_sz_set {h : am_H} {k : Nat} {c c' : am_C} (e : h[k]? = some c) (hc : am_cs c' = am_cs c) : am_sz (h.set k c') = am_sz h := by
  unfold am_sz
  rw [List.map_set, hc]
  have : (List.map am_cs h).set k (am_cs c) = List.map am_cs h := by
    apply List.ext_getElem?
    intro j
    by_cases hj : j = k
    · subst hj
      have hl := (List.getElem?_eq_some_iff.mp e).1
      rw [List.getElem?_set_self (by simpa using hl), List.getElem?_map, e]
      rfl
    · rw [List.getElem?_set_ne (fun q => hj q.symm)]
  rw [this]
section AmWrite
variable {p : Program} {l : Launch} {e : Env} {R : Room} {s : State} {m : MethodId} {args : Array Value} {below : List Frame} {meth : Method} {c : Code} {H : Heap} {locs : List Loc} {cells slots : Nat} {Q : State → Prop}
variable {cc : ByteArray} {pc len mi ow : Nat} {ls : Array Slot} {st : List Value} {X : am_X} {lv : am_L} {i i0 : Instr} {h : am_H}
theorem am_old.set {H' : Heap} {a : Nat} (ho : am_old X s H) (ha : X.2.1 ≤ a) (hq : ∀ q, q ≠ a → H'[q]? = H[q]?) : am_old X s H' := fun q h1 => by
  rw [hq q (by omega)]
  exact ho q h1
theorem am_old.push {H' : Heap} (ho : am_old X s H) (ha : X.2.1 ≤ H.size) (hq : ∀ q, q < H.size → H'[q]? = H[q]?) : am_old X s H' := fun q h1 => by
  rw [hq q (by omega)]
  exact ho q h1
theorem am_arr_set {t : Nat} {xs : List Value} {j : Nat} {v : Value} {cell : Cell} (hj : j < xs.length) (hc : am_RC X (.inr (t, xs)) cell) : am_RC X (.inr (t, xs.set j v)) (cell.setSlot j (am_v X v)) := by
  obtain ⟨h1, h2⟩ := hc
  refine ⟨h1, ?_⟩
  subst h2
  rw [arrV_store, List.length_set]
  congr 1
  funext q
  unfold updV
  by_cases hq : q = j
  · subst hq
    simp [List.getD_eq_getElem?_getD, hj]
  · rw [if_neg hq]
    simp [List.getD_eq_getElem?_getD, List.getElem?_set_ne (fun z => hq z.symm)]
theorem am_wr_ok (hx : p.tables.exec = Jvm.exec) (hb : c.code = cc) (hF : am_Fx X s) (hI : am_inj X) (hP : am_P X h H) (ho : am_old X s H) (hl : ∀ q ∈ locs, X.2.1 ≤ q.base) (hown : s.vm.findClass (am_ow ow) = some m.cls) (hini : am_ini mi = true → meth.name = "<init>") {st' : List Value} {h' : am_H} (e1 : am_wr mi i st h = some (st', h')) (hd : decode cc pc = .ok (i0, len)) (hck : am_ck ow pc i len i0 = true)
    (hpl : ∀ k, i0 = .putfield k → am_pl ow k = true)
    (kk : ∀ (H' : Heap) (locs' : List Loc), am_P X h' H' → am_old X s H' → (∀ q ∈ locs', X.2.1 ≤ q.base) → h'.length = h.length → am_sz h' = am_sz h → W p l e R s m args below meth c H' locs' cells slots Q (F0 m (pc + len) ls (st'.map (am_v X)))) : W p l e R s m args below meth c H locs cells slots Q (F0 m pc ls (st.map (am_v X))) := by
  have hll : ∀ {a j : Nat}, 1001 ≤ a → ∀ q ∈ locs ++ [(⟨am_ph X a, j⟩ : Loc)], X.2.1 ≤ q.base := by
    intro a j ha q hq
    rcases List.mem_append.mp hq with h1 | h1
    · exact hl q h1
    · rw [List.mem_singleton] at h1
      subst h1
      show X.2.1 ≤ am_ph X a
      rw [am_ph_own ha]
      omega
  unfold am_wr at e1
  split at e1
  · rename_i f
    simp only [am_ck] at hck
    split at hck
    · rename_i k
      simp only [Bool.and_eq_true, decide_eq_true_eq] at hck
      obtain ⟨hfl, rfl⟩ := hck
      split at e1
      · rename_i v a r
        split at e1
        · rename_i ci fs hat
          split at e1
          · rename_i j hj
            split at e1
            · rename_i hc
              obtain ⟨hlt, hfit, hfin⟩ := hc
              cases hs : am_set h a (.inl (ci, fs.set j v)) with
              | none => rw [hs] at e1; cases e1
              | some h2 =>
                rw [hs] at e1
                simp only [Option.map_some, Option.some.injEq, Prod.mk.injEq] at e1
                obtain ⟨rfl, rfl⟩ := e1
                obtain ⟨ha, hal, rfl⟩ := am_set_inv hs
                have hat2 := am_at_own ha hat
                obtain ⟨cell, q1, z1, z2, z3, z4⟩ := hP.2.2 _ _ (am_own_ix ha hat2)
                rw [← am_ph_own ha] at q1
                obtain ⟨ref, nm, ds, host, cf, fi, kc, fd, g1, g2, g3, g4, g5, g6⟩ := hF.2.2.2.1 ow k f hfl
                obtain ⟨c1, kC, c2, c3, c4, c5⟩ := hF.2.1 ci z1
                have hlay := am_pos_ok hj
                obtain ⟨v0, hv0⟩ : ∃ v0, fs[j]? = some v0 := ⟨_, List.getElem?_eq_getElem hlt⟩
                have hslot : cell.slots[fd.slot]? = some (am_v X v0) := by rw [g3]; exact z4 j f v0 hlay hv0
                have hslt : fd.slot < cell.slots.size := (Array.getElem?_eq_some_iff.mp hslot).1
                have hfit2 : fits (am_fty f) (am_v X v) = true := by rw [am_fits]; exact hfit
                have hnar : narrow fd.type (am_v X v) = am_v X v := by rw [g4]; exact am_narrow hfit2
                have hfs : s.fitsSlot cell.cls cell.vm fd.slot (am_v X v) = true := by
                  rw [z2, z3, g3]
                  exact fresh_fits (s := s) (U := s) (Vm.Alike.refl _) c2 c3 (c4 j f hlay) hfit2
                have hfin2 : hasFlag fd.accessFlags Acc.final = false ∨ (m.cls = cf ∧ meth.name = "<init>") := by
                  rcases g6 (hpl k rfl) with g6 | ⟨g6, g7⟩
                  · exact Or.inl g6
                  · exact Or.inr ⟨Option.some.inj (hown.symm.trans g7), hini (hfin g6)⟩
                have hnew : am_RC X (.inl (ci, fs.set j v)) (cell.setSlot fd.slot (am_v X v)) := by
                  refine ⟨z1, z2, z3, fun j' f' v' hj' hv' => ?_⟩
                  by_cases hjj : j' = j
                  · subst hjj
                    rw [List.getElem?_set_self hlt] at hv'
                    cases hv'
                    cases hlay.symm.trans hj'
                    rw [← g3]
                    exact Cell.slots_setSlot_self _ hslt
                  · rw [List.getElem?_set_ne (fun z => hjj z.symm)] at hv'
                    rw [slot_ne _ _ (by rw [g3]; exact fun z => c5 j j' f f' hlay hj' (fun w => hjj w.symm) z)]
                    exact z4 j' f' v' hj' hv'
                have hlt2 : am_ph X a < H.size := (Array.getElem?_eq_some_iff.mp q1).1
                have hset : (H.setIfInBounds (am_ph X a) (cell.setSlot fd.slot (am_v X v)))[am_ph X a]? = some (cell.setSlot fd.slot (am_v X v)) := by simp [Array.getElem?_setIfInBounds, hlt2]
                have hoth : ∀ q, q ≠ am_ph X a → (H.setIfInBounds (am_ph X a) (cell.setSlot fd.slot (am_v X v)))[q]? = H[q]? := fun q hq => by simp [Array.getElem?_setIfInBounds, Ne.symm hq]
                have hk := kk (H.setIfInBounds (am_ph X a) (cell.setSlot fd.slot (am_v X v))) (locs ++ [(⟨am_ph X a, fd.slot⟩ : Loc)])
                  (by rw [am_own_set ha]; exact hP.set (by omega) (by rw [← am_ph_own ha]; exact hset) (by simp) (by rw [← am_ph_own ha]; exact hoth) hnew) (ho.set (by rw [am_ph_own ha]; omega) hoth) (hll ha) List.length_set (am_sz_set hat2 rfl)
                rcases g5 args with g5 | g5
                · exact W.putf hx hb hown g5 g1 g2 hfin2 q1 (by rw [z3]; exact fun q => by cases q) hslt hnar hfs rfl rfl hd hk
                · exact va_Wputf hx hb hown g5 g1 g2 hfin2 q1 (by rw [z3]; exact fun q => by cases q) hslt hnar hfs rfl rfl hd hk
            · cases e1
          · cases e1
        · cases e1
      · cases e1
    · cases hck
  · split at e1
    · cases e1
    · rename_i k hk
      split at e1
      · rename_i v j a r
        split at e1
        · rename_i t xs hat
          split at e1
          · rename_i hc
            obtain ⟨hkind, hix, hok⟩ := hc
            cases hs : am_set h a (.inr (t, xs.set j.toNatClampNeg v)) with
            | none => rw [hs] at e1; cases e1
            | some h2 =>
              rw [hs] at e1
              simp only [Option.map_some, Option.some.injEq, Prod.mk.injEq] at e1
              obtain ⟨rfl, rfl⟩ := e1
              obtain ⟨ha, hal, rfl⟩ := am_set_inv hs
              have hat2 := am_at_own ha hat
              obtain ⟨cell, q1, z1, z2⟩ := hP.2.2 _ _ (am_own_ix ha hat2)
              rw [← am_ph_own ha] at q1
              have hR : am_RC X (.inr (t, xs)) cell := ⟨z1, z2⟩
              obtain ⟨f1, f2, f3⟩ := hF.2.2.1 t z1
              have hsz : cell.slots.size = xs.length := by rw [z2, arrV_size]
              have hin : ¬ (j < 0 ∨ cell.slots.size ≤ j.toNatClampNeg) := am_ix_ok hix (by rw [hsz]; exact Nat.le_refl _)
              have hjl : j.toNatClampNeg < xs.length := by rw [← hsz]; exact Nat.not_le.mp fun q => hin (Or.inr q)
              have harr : s.isArrayOf cell (am_ty t) := by rw [z2]; exact f1 _ _
              have hkn : cell.vm ≠ .unknown := by rw [z2]; exact fun q => by cases q
              have fin : ∀ (H' : Heap), H'[am_ph X a]? = some (cell.setSlot j.toNatClampNeg (am_v X v)) → H'.size = H.size → (∀ q, q ≠ am_ph X a → H'[q]? = H[q]?) → W p l e R s m args below meth c H' (locs ++ [(⟨am_ph X a, j.toNatClampNeg⟩ : Loc)]) cells slots Q (F0 m (pc + len) ls (r.map (am_v X))) :=
                fun H' e1 e2 e3 => kk H' _ (by rw [am_own_set ha]; exact hP.set (by omega) (by rw [← am_ph_own ha]; exact e1) e2 (by rw [← am_ph_own ha]; exact e3) (am_arr_set hjl hR)) (ho.set (by rw [am_ph_own ha]; omega) e3) (hll ha) List.length_set (am_sz_set hat2 (by simp [am_cs]))
              unfold am_kind at hk
              split at hk
              · cases hk
                simp only [am_ck, Bool.and_eq_true, decide_eq_true_eq] at hck
                obtain ⟨rfl, hck⟩ := hck
                simp only [am_len] at hck
                subst hck
                obtain rfl : t = 0 := by rcases hkind with q | ⟨q, -⟩ <;> omega
                cases v with
                | int x => exact W.iast hx hb q1 harr hkn hin rfl rfl hd fin
                | ref b => simp only [am_ok] at hok; split at hok <;> simp at hok
                | _ => simp [am_ok] at hok
              · cases hk
                simp only [am_ck, Bool.and_eq_true, decide_eq_true_eq] at hck
                obtain ⟨rfl, hck⟩ := hck
                simp only [am_len] at hck
                subst hck
                obtain rfl : t = 1 := by rcases hkind with q | ⟨q, -⟩ <;> omega
                cases v with
                | int x =>
                  have hn : narrow .char (.int x) = .int x := am_narrow (by simp [am_ok] at hok; simp [fits, hok])
                  exact W.cast hx hb q1 harr hkn hin rfl rfl hd (fun H' w1 w2 w3 => fin H' (by rw [w1, hn]; rfl) w2 w3)
                | ref b => simp only [am_ok] at hok; split at hok <;> simp at hok
                | _ => simp [am_ok] at hok
              · cases hk
                simp only [am_ck, Bool.and_eq_true, decide_eq_true_eq] at hck
                obtain ⟨rfl, hck⟩ := hck
                simp only [am_len] at hck
                subst hck
                obtain rfl : t = 3 := by rcases hkind with q | ⟨q, -⟩ <;> omega
                cases v with
                | long x => exact W.last hx hb q1 harr hkn hin rfl rfl hd fin
                | ref b => simp only [am_ok] at hok; split at hok <;> simp at hok
                | _ => simp [am_ok] at hok
              · cases hk
                simp only [am_ck, Bool.and_eq_true, decide_eq_true_eq] at hck
                obtain ⟨rfl, hck⟩ := hck
                simp only [am_len] at hck
                subst hck
                have ht4 : 4 ≤ t := by rcases hkind with q | ⟨-, q⟩ <;> omega
                obtain ⟨f4, kA, comp, f5, f6, f7⟩ := f3 ht4
                cases v with
                | null => exact va_WaastN (C := am_en t) hx hb q1 (by rw [← f4]; exact harr) hkn hin rfl rfl hd fin
                | ref b =>
                  simp only [am_ok] at hok
                  split at hok
                  · rename_i ci fs hbt
                    simp only [Bool.and_eq_true, decide_eq_true_eq] at hok
                    obtain ⟨cellV, v1, v2, v3, v4, -⟩ := am_look hF hI hP ho hbt
                    obtain ⟨cx, ce, w1, w2, w3⟩ := hF.2.2.2.2.2.2.2.1 ci t hok.2
                    cases v4.symm.trans w1
                    cases f7.symm.trans w2
                    obtain ⟨kcomp, hkcomp, -⟩ := Vm.findClass_spec f7
                    obtain ⟨kv, hkv, -⟩ := Vm.findClass_spec v4
                    exact W.aast hx hb q1 (fun q w => by rw [z2] at w; cases w) hkn (by rw [z2]; exact f5) f6 rfl hkcomp ⟨fun q => hin (Or.inl q), by rw [hsz]; exact hjl⟩ v1 (fun q w => by rw [w] at v3; cases v3) hkv w3 rfl rfl hd fin
                  · cases hok
                | _ => simp [am_ok] at hok <;> omega
              · cases hk
          · cases e1
        · cases e1
      · cases e1
end AmWrite
