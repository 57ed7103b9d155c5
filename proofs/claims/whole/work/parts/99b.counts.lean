/-! The counts of a reading are sums over its tables. -/
def aw_su (f : Nat → Nat) : Nat → Nat
  | 0 => 0
  | n + 1 => aw_su f n + f n
def aw_mx (f : Nat → Nat) : Nat → Nat
  | 0 => 0
  | n + 1 => max (aw_mx f n) (f n)
theorem aw_su_congr {f f' : Nat → Nat} : ∀ n, (∀ z, z < n → f' z = f z) → aw_su f' n = aw_su f n := by
  intro n
  induction n with
  | zero => intro _; rfl
  | succ n ih => intro h; rw [aw_su, aw_su, ih (fun z hz => h z (by omega)), h n (by omega)]
theorem aw_mx_congr {f f' : Nat → Nat} : ∀ n, (∀ z, z < n → f' z = f z) → aw_mx f' n = aw_mx f n := by
  intro n
  induction n with
  | zero => intro _; rfl
  | succ n ih => intro h; rw [aw_mx, aw_mx, ih (fun z hz => h z (by omega)), h n (by omega)]
theorem aw_su_upd {f f' : Nat → Nat} {s e : Nat} : ∀ n, s < n → (∀ z, z < n → z ≠ s → f' z = f z) → f' s = f s + e → aw_su f' n = aw_su f n + e := by
  intro n
  induction n with
  | zero => intro h; omega
  | succ n ih =>
    intro hs h he
    rw [aw_su, aw_su]
    by_cases hn : s = n
    · subst hn
      rw [he, aw_su_congr s (fun z hz => h z (by omega) (by omega))]
      omega
    · rw [ih (by omega) (fun z hz => h z (by omega)) he, h n (by omega) (fun q => hn q.symm)]
      omega
def aw_ni (T : aw_T) (z : Nat) : Nat := (T 38 z).toNatClampNeg
def aw_nmq (T : aw_T) (n : Nat) : Nat := (T 42 n).toNatClampNeg
def aw_nd (T : aw_T) (z : Nat) : Nat := (T 37 z).toNatClampNeg
def aw_nc (T : aw_T) (z : Nat) : Nat := aw_su (fun j => aw_nmq T (4 * z + j)) (aw_ni T z)
/-- a shield's entries are numbers, and small -/
def aw_sm (T : aw_T) (z : Nat) : Prop := T 38 z = Int32.ofNat (aw_ni T z) ∧ aw_ni T z ≤ 4 ∧ T 37 z = Int32.ofNat (aw_nd T z) ∧ aw_nd T z ≤ 3 ∧ ∀ j, j < aw_ni T z → T 42 (4 * z + j) = Int32.ofNat (aw_nmq T (4 * z + j)) ∧ aw_nmq T (4 * z + j) ≤ 6
def aw_K (T : aw_T) (sh ic cc dp : Nat) : Prop := ic = aw_su (aw_ni T) sh ∧ cc = aw_su (aw_nc T) sh ∧ dp = aw_mx (aw_nd T) sh ∧ ∀ z, z < sh → aw_sm T z
/-- the entries of shield z that count -/
def aw_same (T T' : aw_T) (z : Nat) : Prop := T' 38 z = T 38 z ∧ T' 37 z = T 37 z ∧ ∀ j, j < 4 → T' 42 (4 * z + j) = T 42 (4 * z + j)
theorem aw_same_of {T T' : aw_T} {z : Nat} (h : aw_same T T' z) (hs : aw_sm T z) : aw_ni T' z = aw_ni T z ∧ aw_nc T' z = aw_nc T z ∧ aw_nd T' z = aw_nd T z ∧ aw_sm T' z := by
  obtain ⟨h1, h2, h3⟩ := h
  obtain ⟨s1, s2, s3, s4, s5⟩ := hs
  have e1 : aw_ni T' z = aw_ni T z := by
    unfold aw_ni
    rw [h1]
  have e2 : aw_nd T' z = aw_nd T z := by
    unfold aw_nd
    rw [h2]
  have e3 : ∀ j, j < aw_ni T z → aw_nmq T' (4 * z + j) = aw_nmq T (4 * z + j) := by
    intro j hj
    unfold aw_nmq
    rw [h3 j (by omega)]
  refine ⟨e1, ?_, e2, ?_, ?_, ?_, ?_, ?_⟩
  · unfold aw_nc
    rw [e1]
    exact aw_su_congr _ e3
  · rw [e1, h1]
    exact s1
  · rw [e1]
    exact s2
  · rw [e2, h2]
    exact s3
  · rw [e2]
    exact s4
  · intro j hj
    rw [e1] at hj
    rw [h3 j (by omega), e3 j hj]
    exact s5 j hj
theorem aw_K_congr {T T' : aw_T} {sh ic cc dp : Nat} (h : ∀ z, z < sh → aw_same T T' z) (hK : aw_K T sh ic cc dp) : aw_K T' sh ic cc dp := by
  obtain ⟨k1, k2, k3, k4⟩ := hK
  refine ⟨?_, ?_, ?_, fun z hz => (aw_same_of (h z hz) (k4 z hz)).2.2.2⟩
  · rw [aw_su_congr sh (fun z hz => (aw_same_of (h z hz) (k4 z hz)).1)]
    exact k1
  · rw [aw_su_congr sh (fun z hz => (aw_same_of (h z hz) (k4 z hz)).2.1)]
    exact k2
  · rw [aw_mx_congr sh (fun z hz => (aw_same_of (h z hz) (k4 z hz)).2.2.1)]
    exact k3
theorem aw_K_it {js : List Nat} {s i : Nat} {T : aw_T} {sh ic cc dp : Nat} {br : List Nat} {p p' : Nat} {T' : aw_T} {sh' ic' cc' dp' : Nat} {br' : List Nat} (hs : s < sh) (hi : T 38 s = Int32.ofNat i) (hi4 : i < 4) (hK : aw_K T sh ic cc dp) (h : aw_FI js s i T sh ic cc dp br p p' T' sh' ic' cc' dp' br') : aw_K T' sh' ic' cc' dp' := by
  obtain ⟨k1, k2, k3, k4⟩ := hK
  obtain ⟨f1, f2, f3, f4, f5, f6, -, -, f8, f9, f10⟩ := h
  subst f2 f3 f4
  have ni0 : aw_ni T s = i := by
    unfold aw_ni
    rw [hi]
    exact aw_ofA i (by omega)
  have ni1 : aw_ni T' s = i + 1 := by
    unfold aw_ni
    rw [f6]
    exact aw_ofA (i + 1) (by omega)
  have nd1 : aw_nd T' s = aw_nd T s ∧ T' 37 s = T 37 s := by
    have : T' 37 s = T 37 s := by
      rcases f5 37 s with q | q | q
      · exact q
      · omega
      · omega
    unfold aw_nd
    rw [this]
    exact ⟨rfl, rfl⟩
  have nmi : aw_nmq T' (4 * s + i) = cc' - cc := by
    unfold aw_nmq
    rw [f10]
    exact aw_ofA _ (by omega)
  have nmj : ∀ j, j < i → T' 42 (4 * s + j) = T 42 (4 * s + j) ∧ aw_nmq T' (4 * s + j) = aw_nmq T (4 * s + j) := by
    intro j hj
    have : T' 42 (4 * s + j) = T 42 (4 * s + j) := by
      rcases f5 42 (4 * s + j) with q | q | q
      · exact q
      · omega
      · omega
    unfold aw_nmq
    rw [this]
    exact ⟨rfl, rfl⟩
  have nc1 : aw_nc T' s = aw_nc T s + (cc' - cc) := by
    unfold aw_nc
    rw [ni0, ni1, aw_su, nmi, aw_su_congr i (fun j hj => (nmj j hj).2)]
  have oth : ∀ z, z < sh' → z ≠ s → aw_same T T' z := by
    intro z hz hne
    refine ⟨?_, ?_, fun j hj => ?_⟩
    · rcases f5 38 z with q | q | q
      · exact q
      · omega
      · omega
    · rcases f5 37 z with q | q | q
      · exact q
      · omega
      · omega
    · rcases f5 42 (4 * z + j) with q | q | q
      · exact q
      · omega
      · omega
  refine ⟨?_, ?_, ?_, fun z hz => ?_⟩
  · rw [aw_su_upd sh' hs (fun z hz hne => (aw_same_of (oth z hz hne) (k4 z hz)).1) (by rw [ni0, ni1]), ← k1]
  · rw [aw_su_upd sh' hs (fun z hz hne => (aw_same_of (oth z hz hne) (k4 z hz)).2.1) nc1, ← k2]
    omega
  · rw [aw_mx_congr sh' (f := aw_nd T) (fun z hz => by
      by_cases hne : z = s
      · rw [hne]
        exact nd1.1
      · exact (aw_same_of (oth z hz hne) (k4 z hz)).2.2.1)]
    exact k3
  · by_cases hne : z = s
    · subst hne
      obtain ⟨s1, s2, s3, s4, s5⟩ := k4 z hz
      refine ⟨by rw [ni1]; exact f6, by omega, by rw [nd1.1, nd1.2]; exact s3, by rw [nd1.1]; exact s4, fun j hj => ?_⟩
      rw [ni1] at hj
      by_cases hji : j = i
      · subst hji
        rw [nmi]
        exact ⟨f10, by omega⟩
      · rw [(nmj j (by omega)).1, (nmj j (by omega)).2]
        exact s5 j (by omega)
    · exact (aw_same_of (oth z hz hne) (k4 z hz)).2.2.2
theorem aw_K_is {js : List Nat} {s : Nat} : ∀ (k i : Nat) {T : aw_T} {sh ic cc dp : Nat} {br : List Nat} {p p' : Nat} {T' : aw_T} {sh' ic' cc' dp' : Nat} {br' : List Nat}, i + k ≤ 4 → s < sh → T 38 s = Int32.ofNat i → aw_K T sh ic cc dp → aw_Pis js s k i (T, sh, ic, cc, dp, br) p = .inr (p', (T', sh', ic', cc', dp', br')) → aw_K T' sh' ic' cc' dp' := by
  intro k
  induction k with
  | zero =>
    intro i T sh ic cc dp br p p' T' sh' ic' cc' dp' br' hik hs hi hK h
    rw [aw_Pis] at h
    split at h
    · cases h
    · cases h
      exact hK
  | succ k ih =>
    intro i T sh ic cc dp br p p' T' sh' ic' cc' dp' br' hik hs hi hK h
    rw [aw_Pis] at h
    split at h
    · split at h
      · cases h
      · rename_i p1 S1 h1
        obtain ⟨T1, sh1, ic1, cc1, dp1, br1⟩ := S1
        have hf := aw_Pit_f h1
        have e2 := hf.2.1
        exact ih (i + 1) (by omega) (by omega) hf.2.2.2.2.2.1 (aw_K_it hs hi (by omega) hK hf) h
    · cases h
      exact hK
def aw_NC2 (N : Nat → aw_S → Nat → aw_Res) : Prop := ∀ (s : Nat) {T : aw_T} {sh ic cc dp : Nat} {br : List Nat} {p p' : Nat} {T' : aw_T} {sh' ic' cc' dp' : Nat} {br' : List Nat}, s < sh → T 38 s = 0 → aw_K T sh ic cc dp → N s (T, sh, ic, cc, dp, br) p = .inr (p', (T', sh', ic', cc', dp', br')) → aw_K T' sh' ic' cc' dp'
theorem aw_same_up {T : aw_T} {k i z : Nat} {v : Int32} (hk : k = 35 ∨ k = 36) : aw_same T (aw_up T k i v) z := ⟨aw_up_ne (by omega), aw_up_ne (by omega), fun j _ => aw_up_ne (by omega)⟩
theorem aw_K_pt {js : List Nat} {N : Nat → aw_S → Nat → aw_Res} {dpt : Nat} {lv : Bool} (hd : dpt ≤ 3) (hN : lv = true → dpt ≤ 2 ∧ aw_NC2 N) {q : Nat} {T : aw_T} {sh ic cc dp : Nat} {br : List Nat} {p p' : Nat} {T' : aw_T} {sh' ic' cc' dp' : Nat} {br' : List Nat} (hK : aw_K T sh ic cc dp) (h : aw_Ppt js N dpt lv q (T, sh, ic, cc, dp, br) p = .inr (p', (T', sh', ic', cc', dp', br'))) : aw_K T' sh' ic' cc' dp' := by
  unfold aw_Ppt at h
  dsimp only at h
  split at h
  · cases h
    exact aw_K_congr (fun z _ => aw_same_up (.inr rfl)) hK
  · split at h
    · rename_i hl
      obtain ⟨hd2, hNC⟩ := hN hl.1
      split at h
      · cases h
      · rename_i p1 S1 h1
        obtain ⟨T1, sh1, ic1, cc1, dp1, br1⟩ := S1
        have hnew : aw_K (aw_up (aw_nsT T sh (dpt + 1)) 36 q (Int32.ofNat (100 + sh))) (sh + 1) ic cc (max dp (dpt + 1)) := by
          refine aw_K_congr (fun z _ => aw_same_up (.inr rfl)) ?_
          obtain ⟨k1, k2, k3, k4⟩ := hK
          have oth : ∀ z, z < sh → aw_same T (aw_nsT T sh (dpt + 1)) z := by
            intro z hz
            unfold aw_nsT
            refine ⟨?_, ?_, fun j hj => ?_⟩
            · rw [aw_up_ne (by omega), aw_up_ne (by omega), aw_up_ne (by omega)]
            · rw [aw_up_ne (by omega), aw_up_ne (by omega), aw_up_ne (by omega)]
            · rw [aw_up_ne (by omega), aw_up_ne (by omega), aw_up_ne (by omega)]
          have n38 : aw_nsT T sh (dpt + 1) 38 sh = 0 := by
            unfold aw_nsT
            rw [aw_up_eq]
          have n37 : aw_nsT T sh (dpt + 1) 37 sh = Int32.ofNat (dpt + 1) := by
            unfold aw_nsT
            rw [aw_up_ne (by omega), aw_up_eq]
          have i0 : aw_ni (aw_nsT T sh (dpt + 1)) sh = 0 := by
            unfold aw_ni
            rw [n38]
            rfl
          have d0 : aw_nd (aw_nsT T sh (dpt + 1)) sh = dpt + 1 := by
            unfold aw_nd
            rw [n37]
            exact aw_ofA _ (by omega)
          have c0 : aw_nc (aw_nsT T sh (dpt + 1)) sh = 0 := by
            unfold aw_nc
            rw [i0]
            rfl
          refine ⟨?_, ?_, ?_, fun z hz => ?_⟩
          · rw [aw_su, i0, aw_su_congr sh (fun z hz => (aw_same_of (oth z hz) (k4 z hz)).1)]
            exact k1
          · rw [aw_su, c0, aw_su_congr sh (fun z hz => (aw_same_of (oth z hz) (k4 z hz)).2.1)]
            exact k2
          · rw [aw_mx, d0, aw_mx_congr sh (fun z hz => (aw_same_of (oth z hz) (k4 z hz)).2.2.1), ← k3]
          · by_cases hz2 : z = sh
            · subst hz2
              exact ⟨by rw [i0]; exact n38, by omega, by rw [d0]; exact n37, by omega, fun j hj => by rw [i0] at hj; omega⟩
            · exact (aw_same_of (oth z (by omega)) (k4 z (by omega))).2.2.2
        have k1 := hNC sh (by omega) (by unfold aw_nsT; rw [aw_up_ne (by omega), aw_up_eq]) hnew h1
        split at h
        · cases h
          exact k1
        · cases h
    · cases h
theorem aw_K_pp {js : List Nat} {N : Nat → aw_S → Nat → aw_Res} {dpt : Nat} {lv : Bool} (hd : dpt ≤ 3) (hN : lv = true → dpt ≤ 2 ∧ aw_NC2 N) {s : Nat} {T : aw_T} {sh ic cc dp : Nat} {br : List Nat} {p p' : Nat} {T' : aw_T} {sh' ic' cc' dp' : Nat} {br' : List Nat} (hK : aw_K T sh ic cc dp) (h : aw_Ppp js N dpt lv s (T, sh, ic, cc, dp, br) p = .inr (p', (T', sh', ic', cc', dp', br'))) : aw_K T' sh' ic' cc' dp' := by
  unfold aw_Ppp at h
  split at h
  · cases h
  · rename_i p1 S1 h1
    obtain ⟨T1, sh1, ic1, cc1, dp1, br1⟩ := S1
    have k1 := aw_K_pt hd hN hK h1
    split at h
    · exact aw_K_pt hd hN k1 h
    · cases h
theorem aw_K_fd {js : List Nat} {N : Nat → aw_S → Nat → aw_Res} {dpt : Nat} {lv : Bool} (hd : dpt ≤ 3) (hN : lv = true → dpt ≤ 2 ∧ aw_NC2 N) {s : Nat} {T : aw_T} {sh ic cc dp : Nat} {br : List Nat} {p p' : Nat} {T' : aw_T} {sh' ic' cc' dp' : Nat} {br' : List Nat} (hK : aw_K T sh ic cc dp) (h : aw_Pfd js N dpt lv s (T, sh, ic, cc, dp, br) p = .inr (p', (T', sh', ic', cc', dp', br'))) : aw_K T' sh' ic' cc' dp' := by
  unfold aw_Pfd at h
  dsimp only at h
  split at h
  · cases h
    exact aw_K_congr (fun z _ => aw_same_up (.inr rfl)) (aw_K_congr (fun z _ => aw_same_up (.inr rfl)) hK)
  · split at h
    · exact aw_K_pp hd hN (aw_K_congr (fun z _ => aw_same_up (.inl rfl)) hK) h
    · split at h
      · split at h
        · exact aw_K_pp hd hN (aw_K_congr (fun z _ => aw_same_up (.inl rfl)) hK) h
        · cases h
      · cases h
theorem aw_K_sb {js : List Nat} {N : Nat → aw_S → Nat → aw_Res} {dpt c : Nat} {lv : Bool} (hd : dpt ≤ 3) (hF : lv = true → aw_NF js N c) (hN : lv = true → dpt ≤ 2 ∧ aw_NC2 N) : aw_NC2 (fun s S p => aw_Psb js N dpt lv s S p) := by
  intro s T sh ic cc dp br p p' T' sh' ic' cc' dp' br' hs h0 hK h
  dsimp only at h
  unfold aw_Psb at h
  split at h
  · cases h
  · rename_i p1 S1 h1
    obtain ⟨T1, sh1, ic1, cc1, dp1, br1⟩ := S1
    obtain ⟨a1, a2, a3, a4, a4', a5, -⟩ := aw_Pfd_f hF (fun q => (hN q).1) hs h1
    have hi : T1 38 s = Int32.ofNat 0 := by
      rcases a5 38 s with g | g | g
      · rw [g]
        exact h0
      · omega
      · rw [aw_ow35 (.inr (.inr rfl))] at g
        omega
    exact aw_K_is 4 0 (by omega) (by omega) hi (aw_K_fd hd hN hK h1) h
theorem aw_K_sh {js : List Nat} : ∀ l, l ≤ 2 → aw_NC2 (fun s S p => aw_Psh js l s S p) := by
  intro l
  induction l with
  | zero =>
    intro _ s T sh ic cc dp br p p' T' sh' ic' cc' dp' br' hs h0 hK h
    exact aw_K_sb (c := 0) (dpt := 3) (lv := false) (N := fun _ _ p => .inl p) (by omega) (fun q => by cases q) (fun q => by cases q) s hs h0 hK h
  | succ l ih =>
    intro hl s T sh ic cc dp br p p' T' sh' ic' cc' dp' br' hs h0 hK h
    exact aw_K_sb (c := aw_cap l) (dpt := 2 - l) (lv := true) (N := fun s S p => aw_Psh js l s S p) (by omega) (fun _ => aw_Psh_f l (by omega)) (fun _ => ⟨by omega, @ih (by omega)⟩) s hs h0 hK h
/-- the counts of a whole reading -/
theorem aw_K_P {js : List Nat} {T : aw_T} {U : aw_T} {sh ic cc dp : Nat} {br : List Nat} (h : aw_P js T = .inr (U, sh, ic, cc, dp, br)) : aw_K U sh ic cc dp := by
  unfold aw_P at h
  split at h
  · cases h
  · rename_i p1 S1 h1
    split at h
    · cases h
      refine aw_K_sh 2 (by decide) 0 (by decide) (by unfold aw_nsT; rw [aw_up_eq]) ?_ h1
      have n38 : aw_nsT T 0 1 38 0 = 0 := by
        unfold aw_nsT
        rw [aw_up_eq]
      have n37 : aw_nsT T 0 1 37 0 = Int32.ofNat 1 := by
        unfold aw_nsT
        rw [aw_up_ne (by omega), aw_up_eq]
      have i0 : aw_ni (aw_nsT T 0 1) 0 = 0 := by
        unfold aw_ni
        rw [n38]
        rfl
      have d0 : aw_nd (aw_nsT T 0 1) 0 = 1 := by
        unfold aw_nd
        rw [n37]
        rfl
      refine ⟨by rw [aw_su, i0]; rfl, ?_, by rw [aw_mx, d0]; rfl, fun z hz => ?_⟩
      · rw [aw_su]
        unfold aw_nc
        rw [i0]
        rfl
      · rw [show z = 0 by omega]
        exact ⟨by rw [i0]; exact n38, by omega, by rw [d0]; exact n37, by omega, fun j hj => by rw [i0] at hj; omega⟩
    · cases h
