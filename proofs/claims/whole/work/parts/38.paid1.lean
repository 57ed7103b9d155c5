/-! What the soundness leans on, paid: the bytes. -/
theorem am_hd : am_HD := by
  intro mi pc len i h
  have h1 := List.all_eq_true.mp (am_kall mi) _ (am_find_mem h)
  unfold am_chk at h1
  split at h1
  · rename_i i0 l0 hd
    simp only [Bool.and_eq_true, decide_eq_true_eq] at h1
    obtain ⟨⟨h2, h3⟩, h4⟩ := h1
    subst h2
    refine ⟨i0, hd, h3, fun k hk => ?_⟩
    subst hk
    exact h4
  · cases h1
