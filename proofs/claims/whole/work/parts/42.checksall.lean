/-! All methods. -/
theorem am_kall : ∀ mi : Nat, (am_cL mi).all (am_chk mi) = true
  | 0 => am_k0
  | 1 => am_k1
  | 2 => am_k2
  | 3 => am_k3
  | 4 => am_k4
  | 5 => am_k5
  | 6 => am_k6
  | 7 => am_k7
  | 8 => am_k8
  | 9 => am_k9
  | 10 => am_k10
  | 11 => am_k11
  | 12 => am_k12
  | 13 => am_k13
  | 14 => am_k14
  | 15 => am_k15
  | 16 => am_k16
  | 17 => am_k17
  | 18 => am_k18
  | 19 => am_k19
  | 20 => am_k20
  | 21 => am_k21
  | 22 => am_k22
  | 23 => am_k23
  | 24 => am_k24
  | 25 => am_k25
  | 26 => am_k26
  | 27 => am_k27
  | 28 => am_k28
  | 29 => am_k29
  | 30 => am_k30
  | 31 => am_k31
  | 32 => am_k32
  | 33 => am_k33
  | 34 => am_k34
  | 35 => am_k35
  | 36 => am_k36
  | 37 => am_k37
  | 38 => am_k38
  | 39 => am_k39
  | 40 => am_k40
  | 41 => am_k41
  | 42 => am_k42
  | 43 => am_k43
  | 44 => am_k44
  | 45 => am_k45
  | 46 => am_k46
  | 47 => am_k47
  | 48 => am_k48
  | 49 => am_k49
  | 50 => am_k50
  | 51 => am_k51
  | 52 => am_k52
  | 53 => am_k53
  | 54 => am_k54
  | 55 => am_k55
  | 56 => am_k56
  | 57 => am_k57
  | 58 => am_k58
  | 59 => am_k59
  | 60 => am_k60
  | 61 => am_k61
  | 62 => am_k62
  | 63 => am_k63
  | 64 => am_k64
  | 65 => am_k65
  | 66 => am_k66
  | 67 => am_k67
  | 68 => am_k68
  | 69 => am_k69
  | 70 => am_k70
  | 71 => am_k71
  | 72 => am_k72
  | 73 => am_k73
  | 74 => am_k74
  | 75 => am_k75
  | 76 => am_k76
  | 77 => am_k77
  | 78 => am_k78
  | 79 => am_k79
  | 80 => am_k80
  | 81 => am_k81
  | 82 => am_k82
  | 83 => am_k83
  | 84 => am_k84
  | 85 => am_k85
  | 86 => am_k86
  | 87 => am_k87
  | 88 => am_k88
  | 89 => am_k89
  | 90 => am_k90
  | 91 => am_k91
  | 92 => am_k92
  | 93 => am_k93
  | 94 => am_k94
  | 95 => am_k95
  | 96 => am_k96
  | 97 => am_k97
  | 98 => am_k98
  | 99 => am_k99
  | 100 => am_k100
  | 101 => am_k101
  | 102 => am_k102
  | 103 => am_k103
  | 104 => am_k104
  | 105 => am_k105
  | 106 => am_k106
  | 107 => am_k107
  | 108 => am_k108
  | 109 => am_k109
  | 110 => am_k110
  | 111 => am_k111
  | 112 => am_k112
  | 113 => am_k113
  | 114 => am_k114
  | 115 => am_k115
  | 116 => am_k116
  | 117 => am_k117
  | 118 => am_k118
  | 119 => am_k119
  | 120 => am_k120
  | 121 => am_k121
  | 122 => am_k122
  | 123 => am_k123
  | 124 => am_k124
  | 125 => am_k125
  | 126 => am_k126
  | 127 => am_k127
  | 128 => am_k128
  | 129 => am_k129
  | 130 => am_k130
  | 131 => am_k131
  | 132 => am_k132
  | 133 => am_k133
  | 134 => am_k134
  | 135 => am_k135
  | 136 => am_k136
  | 137 => am_k137
  | 138 => am_k138
  | 139 => am_k139
  | 140 => am_k140
  | 141 => am_k141
  | 142 => am_k142
  | 143 => am_k143
  | 144 => am_k144
  | 145 => am_k145
  | 146 => am_k146
  | 147 => am_k147
  | 148 => am_k148
  | 149 => am_k149
  | _ + 150 => rfl
theorem am_find_mem {pc : Nat} : ∀ {l : List (Nat × Instr × Nat)} {i : Instr} {n : Nat}, am_find pc l = some (i, n) → (pc, i, n) ∈ l := by
  intro l
  induction l with
  | nil => intro i n h; cases h
  | cons z r ih =>
    obtain ⟨q, j, k⟩ := z
    intro i n h
    rw [am_find] at h
    split at h
    · rename_i hq
      cases h
      rw [hq]
      exact List.mem_cons_self
    · exact List.mem_cons_of_mem _ (ih h)
theorem am_hd : am_HD := by
  intro mi pc len i h
  have h1 := List.all_eq_true.mp (am_kall mi) _ (am_find_mem h)
  unfold am_chk at h1
  split at h1
  · rename_i i0 l0 hd
    simp only [Bool.and_eq_true, decide_eq_true_eq] at h1
    obtain ⟨⟨h2, h3⟩, h4⟩ := h1
    subst h2
    refine ⟨i0, hd, h3, fun k hk => ?_⟩
    subst hk
    exact h4
  · cases h1
