/-! The call sites: what the checks give. -/
theorem am_s3_mem {a b c : Nat} : ∀ {l : List (Nat × Nat × Nat)}, am_s3 a b l = some c → (a, b, c) ∈ l := by
  intro l
  induction l with
  | nil => intro h; cases h
  | cons z r ih =>
    obtain ⟨x, y, w⟩ := z
    intro h
    rw [am_s3] at h
    split at h
    · rename_i hq
      obtain ⟨rfl, rfl⟩ := hq
      cases h
      exact List.mem_cons_self
    · exact List.mem_cons_of_mem _ (ih h)
theorem am_sk_mem {a c : Nat} : ∀ {l : List (Nat × Nat)}, am_sk a l = some c → (a, c) ∈ l := by
  intro l
  induction l with
  | nil => intro h; cases h
  | cons z r ih =>
    obtain ⟨x, w⟩ := z
    intro h
    rw [am_sk] at h
    split at h
    · rename_i hq
      subst hq
      cases h
      exact List.mem_cons_self
    · exact List.mem_cons_of_mem _ (ih h)
theorem am_tg_ok {x ci mj : Nat} (h : am_tgt x ci = some mj) : ∃ is : List Nat, am_seB x (ci, mj) is = true := by
  have hx : x < 149 := by
    by_cases hq : x < 149
    · exact hq
    · have h2 := am_sk_mem h
      rw [List.getD_eq_getElem?_getD, List.getElem?_eq_none (by show am_tgL.length ≤ x; exact Nat.not_lt.mp hq)] at h2
      cases h2
  have h2 := am_sk_mem h
  have h3 := am_sx hx
  unfold am_seX at h3
  simp only [Bool.and_eq_true, decide_eq_true_eq] at h3
  obtain ⟨k, hk⟩ := List.getElem?_of_mem h2
  have hkl := (List.getElem?_eq_some_iff.mp hk).1
  obtain ⟨is, hk2⟩ : ∃ is, (am_tiL.getD x [])[k]? = some is := ⟨_, List.getElem?_eq_getElem (by rw [← h3.1]; exact hkl)⟩
  refine ⟨is, List.all_eq_true.mp h3.2 ((ci, mj), is) (List.mem_of_getElem? (i := k) ?_)⟩
  rw [List.getElem?_zip_eq_some]
  exact ⟨hk, hk2⟩
/-- what the table's rows say of a call -/
theorem am_seB_ok {x ci mj : Nat} {is : List Nat} (h : am_seB x (ci, mj) is = true) : (∀ w ∈ am_seW x ci mj, w ∈ lw_tbl) ∧ (am_site x).1 ≤ 6 ∧
    (∃ (n : Nat) (stt : Bool), am_arg x = some (n, stt) ∧ (stt = true ↔ ((am_site x).1 = 3 ∨ (am_site x).1 = 4)) ∧ (stt = true → am_np (am_mn mj).desc = some n) ∧ (stt = false → am_np (am_mn mj).desc = some (n - 1) ∧ am_np (am_site x).2.2.2.1.desc = some (n - 1) ∧ 1 ≤ n)) ∧
    (5 ≤ (am_site x).1 → (am_mn mj).name = "<init>") ∧ ((am_site x).2.2.2.1.cls ≠ "java/lang/invoke/MethodHandle" ∧ (am_site x).2.2.2.1.cls ≠ "java/lang/invoke/VarHandle") ∧ ((am_site x).2.2.2.2 ≠ "java/lang/invoke/MethodHandle" ∧ (am_site x).2.2.2.2 ≠ "java/lang/invoke/VarHandle") := by
  unfold am_seB at h
  simp only [Bool.and_eq_true, decide_eq_true_eq] at h
  obtain ⟨⟨⟨⟨⟨⟨⟨h1, h2⟩, h3⟩, h4⟩, h5⟩, h6⟩, h7⟩, h8⟩ := h
  refine ⟨fun w hw => ?_, h2, ?_, fun h9 => ?_, ⟨h5, h6⟩, ⟨h7, h8⟩⟩
  · have hm : some w ∈ is.map (fun i => lw_tbl[i]?) := by
      rw [h1]
      exact List.mem_map.mpr ⟨w, hw, rfl⟩
    obtain ⟨i, -, hi⟩ := List.mem_map.mp hm
    exact List.mem_of_getElem? hi
  · split at h3
    · rename_i n stt harg
      simp only [Bool.and_eq_true, decide_eq_true_eq] at h3
      refine ⟨n, stt, harg, by rw [h3.1]; simp, fun hs => ?_, fun hs => ?_⟩
      · have h9 := h3.2
        rw [if_pos hs, decide_eq_true_eq] at h9
        exact h9
      · have h9 := h3.2
        rw [if_neg (by rw [hs]; decide)] at h9
        simp only [Bool.and_eq_true, decide_eq_true_eq] at h9
        exact ⟨h9.1.1, h9.1.2, h9.2⟩
    · cases h3
  · rw [if_pos h9, decide_eq_true_eq] at h4
    exact h4
