/-! The tables' words at every later state of the run; the methods' own words, by their places. -/
def am_w (s0 : State) (w : Jvm.Cond) : Prop := ∀ (args : Array Value) (U : State), s0.WarmedH U.vm → w.before args U = true
theorem am_w_of {a0 : Array Value} {s0 : State} (hts : ∀ w ∈ lw_tbl, w.before a0 s0 = true) {w : Jvm.Cond} (i : Nat) (hi : lw_tbl[i]? = some w) (hg : goodWord w = true) : am_w s0 w := fun args U hW => word_at hW (good_of_word hg) (hts w (List.mem_of_getElem? hi))
/-- where a method's code stands among the words -/
def am_wiL : List Nat := [0, 77, 86, 159, 163, 167, 171, 174, 179, 183, 255, 258, 261, 267, 271, 275, 281, 285, 288, 321, 326, 339, 343, 347, 350, 354, 358, 363, 373, 396, 402, 408, 418, 428, 434, 438, 448, 454, 458, 464, 467, 472, 477, 480, 501, 505, 510, 521, 531, 535, 539, 548, 560, 565, 569, 573, 577, 581, 584, 592, 596, 601, 604, 608, 611, 615, 618, 623, 627, 632, 651, 655, 658, 662, 665, 669, 672, 676, 679, 683, 686, 691, 710, 714, 718, 721, 725, 729, 733, 737, 742, 747, 751, 756, 762, 887, 891, 895, 899, 903, 907, 910, 914, 919, 923, 927, 931, 935, 938, 942, 946, 949, 953, 957, 961, 965, 969, 972, 975, 978, 981, 984, 987, 991, 994, 997, 1000, 1004, 1008, 1011, 1015, 1019, 1023, 1027, 1031, 1035, 1039, 1043, 1047, 1051, 1055, 1059, 1063, 1067, 1070, 1074, 1078, 1082, 1086, 1090]
def am_wi (mi : Nat) : Nat := am_wiL.getD mi 0
/-- where a class is said to be initialised -/
def am_iiL : List Nat := [49, 50, 51, 62, 57, 58, 63, 64, 65, 66, 68, 67, 69, 61, 52]
def am_ii (ow : Nat) : Nat := am_iiL.getD ow 0
set_option maxRecDepth 100000 in
theorem am_q1 : lw_tbl[am_wi 1]? = some (am_cw 1) := by rfl
set_option maxRecDepth 100000 in
theorem am_q2 : lw_tbl[am_wi 2]? = some (am_cw 2) := by rfl
set_option maxRecDepth 100000 in
theorem am_q3 : lw_tbl[am_wi 3]? = some (am_cw 3) := by rfl
set_option maxRecDepth 100000 in
theorem am_q4 : lw_tbl[am_wi 4]? = some (am_cw 4) := by rfl
set_option maxRecDepth 100000 in
theorem am_q5 : lw_tbl[am_wi 5]? = some (am_cw 5) := by rfl
set_option maxRecDepth 100000 in
theorem am_q6 : lw_tbl[am_wi 6]? = some (am_cw 6) := by rfl
set_option maxRecDepth 100000 in
theorem am_q7 : lw_tbl[am_wi 7]? = some (am_cw 7) := by rfl
set_option maxRecDepth 100000 in
theorem am_q8 : lw_tbl[am_wi 8]? = some (am_cw 8) := by rfl
set_option maxRecDepth 100000 in
theorem am_q9 : lw_tbl[am_wi 9]? = some (am_cw 9) := by rfl
set_option maxRecDepth 100000 in
theorem am_q10 : lw_tbl[am_wi 10]? = some (am_cw 10) := by rfl
set_option maxRecDepth 100000 in
theorem am_q11 : lw_tbl[am_wi 11]? = some (am_cw 11) := by rfl
set_option maxRecDepth 100000 in
theorem am_q12 : lw_tbl[am_wi 12]? = some (am_cw 12) := by rfl
set_option maxRecDepth 100000 in
theorem am_q13 : lw_tbl[am_wi 13]? = some (am_cw 13) := by rfl
set_option maxRecDepth 100000 in
theorem am_q14 : lw_tbl[am_wi 14]? = some (am_cw 14) := by rfl
set_option maxRecDepth 100000 in
theorem am_q15 : lw_tbl[am_wi 15]? = some (am_cw 15) := by rfl
set_option maxRecDepth 100000 in
theorem am_q16 : lw_tbl[am_wi 16]? = some (am_cw 16) := by rfl
set_option maxRecDepth 100000 in
theorem am_q17 : lw_tbl[am_wi 17]? = some (am_cw 17) := by rfl
set_option maxRecDepth 100000 in
theorem am_q18 : lw_tbl[am_wi 18]? = some (am_cw 18) := by rfl
set_option maxRecDepth 100000 in
theorem am_q19 : lw_tbl[am_wi 19]? = some (am_cw 19) := by rfl
set_option maxRecDepth 100000 in
theorem am_q20 : lw_tbl[am_wi 20]? = some (am_cw 20) := by rfl
set_option maxRecDepth 100000 in
theorem am_q21 : lw_tbl[am_wi 21]? = some (am_cw 21) := by rfl
set_option maxRecDepth 100000 in
theorem am_q22 : lw_tbl[am_wi 22]? = some (am_cw 22) := by rfl
set_option maxRecDepth 100000 in
theorem am_q23 : lw_tbl[am_wi 23]? = some (am_cw 23) := by rfl
set_option maxRecDepth 100000 in
theorem am_q24 : lw_tbl[am_wi 24]? = some (am_cw 24) := by rfl
set_option maxRecDepth 100000 in
theorem am_q25 : lw_tbl[am_wi 25]? = some (am_cw 25) := by rfl
set_option maxRecDepth 100000 in
theorem am_q26 : lw_tbl[am_wi 26]? = some (am_cw 26) := by rfl
set_option maxRecDepth 100000 in
theorem am_q27 : lw_tbl[am_wi 27]? = some (am_cw 27) := by rfl
set_option maxRecDepth 100000 in
theorem am_q28 : lw_tbl[am_wi 28]? = some (am_cw 28) := by rfl
set_option maxRecDepth 100000 in
theorem am_q29 : lw_tbl[am_wi 29]? = some (am_cw 29) := by rfl
set_option maxRecDepth 100000 in
theorem am_q30 : lw_tbl[am_wi 30]? = some (am_cw 30) := by rfl
set_option maxRecDepth 100000 in
theorem am_q31 : lw_tbl[am_wi 31]? = some (am_cw 31) := by rfl
set_option maxRecDepth 100000 in
theorem am_q32 : lw_tbl[am_wi 32]? = some (am_cw 32) := by rfl
set_option maxRecDepth 100000 in
theorem am_q33 : lw_tbl[am_wi 33]? = some (am_cw 33) := by rfl
set_option maxRecDepth 100000 in
theorem am_q34 : lw_tbl[am_wi 34]? = some (am_cw 34) := by rfl
set_option maxRecDepth 100000 in
theorem am_q35 : lw_tbl[am_wi 35]? = some (am_cw 35) := by rfl
set_option maxRecDepth 100000 in
theorem am_q36 : lw_tbl[am_wi 36]? = some (am_cw 36) := by rfl
set_option maxRecDepth 100000 in
theorem am_q37 : lw_tbl[am_wi 37]? = some (am_cw 37) := by rfl
set_option maxRecDepth 100000 in
theorem am_q38 : lw_tbl[am_wi 38]? = some (am_cw 38) := by rfl
set_option maxRecDepth 100000 in
theorem am_q39 : lw_tbl[am_wi 39]? = some (am_cw 39) := by rfl
set_option maxRecDepth 100000 in
theorem am_q40 : lw_tbl[am_wi 40]? = some (am_cw 40) := by rfl
set_option maxRecDepth 100000 in
theorem am_q41 : lw_tbl[am_wi 41]? = some (am_cw 41) := by rfl
set_option maxRecDepth 100000 in
theorem am_q42 : lw_tbl[am_wi 42]? = some (am_cw 42) := by rfl
set_option maxRecDepth 100000 in
theorem am_q43 : lw_tbl[am_wi 43]? = some (am_cw 43) := by rfl
set_option maxRecDepth 100000 in
theorem am_q44 : lw_tbl[am_wi 44]? = some (am_cw 44) := by rfl
set_option maxRecDepth 100000 in
theorem am_q45 : lw_tbl[am_wi 45]? = some (am_cw 45) := by rfl
set_option maxRecDepth 100000 in
theorem am_q46 : lw_tbl[am_wi 46]? = some (am_cw 46) := by rfl
set_option maxRecDepth 100000 in
theorem am_q47 : lw_tbl[am_wi 47]? = some (am_cw 47) := by rfl
set_option maxRecDepth 100000 in
theorem am_q48 : lw_tbl[am_wi 48]? = some (am_cw 48) := by rfl
set_option maxRecDepth 100000 in
theorem am_q49 : lw_tbl[am_wi 49]? = some (am_cw 49) := by rfl
set_option maxRecDepth 100000 in
theorem am_q50 : lw_tbl[am_wi 50]? = some (am_cw 50) := by rfl
set_option maxRecDepth 100000 in
theorem am_q51 : lw_tbl[am_wi 51]? = some (am_cw 51) := by rfl
set_option maxRecDepth 100000 in
theorem am_q52 : lw_tbl[am_wi 52]? = some (am_cw 52) := by rfl
set_option maxRecDepth 100000 in
theorem am_q53 : lw_tbl[am_wi 53]? = some (am_cw 53) := by rfl
set_option maxRecDepth 100000 in
theorem am_q54 : lw_tbl[am_wi 54]? = some (am_cw 54) := by rfl
set_option maxRecDepth 100000 in
theorem am_q55 : lw_tbl[am_wi 55]? = some (am_cw 55) := by rfl
set_option maxRecDepth 100000 in
theorem am_q56 : lw_tbl[am_wi 56]? = some (am_cw 56) := by rfl
set_option maxRecDepth 100000 in
theorem am_q57 : lw_tbl[am_wi 57]? = some (am_cw 57) := by rfl
set_option maxRecDepth 100000 in
theorem am_q58 : lw_tbl[am_wi 58]? = some (am_cw 58) := by rfl
set_option maxRecDepth 100000 in
theorem am_q59 : lw_tbl[am_wi 59]? = some (am_cw 59) := by rfl
set_option maxRecDepth 100000 in
theorem am_q60 : lw_tbl[am_wi 60]? = some (am_cw 60) := by rfl
set_option maxRecDepth 100000 in
theorem am_q61 : lw_tbl[am_wi 61]? = some (am_cw 61) := by rfl
set_option maxRecDepth 100000 in
theorem am_q62 : lw_tbl[am_wi 62]? = some (am_cw 62) := by rfl
set_option maxRecDepth 100000 in
theorem am_q63 : lw_tbl[am_wi 63]? = some (am_cw 63) := by rfl
set_option maxRecDepth 100000 in
theorem am_q64 : lw_tbl[am_wi 64]? = some (am_cw 64) := by rfl
set_option maxRecDepth 100000 in
theorem am_q65 : lw_tbl[am_wi 65]? = some (am_cw 65) := by rfl
set_option maxRecDepth 100000 in
theorem am_q66 : lw_tbl[am_wi 66]? = some (am_cw 66) := by rfl
set_option maxRecDepth 100000 in
theorem am_q67 : lw_tbl[am_wi 67]? = some (am_cw 67) := by rfl
set_option maxRecDepth 100000 in
theorem am_q68 : lw_tbl[am_wi 68]? = some (am_cw 68) := by rfl
set_option maxRecDepth 100000 in
theorem am_q69 : lw_tbl[am_wi 69]? = some (am_cw 69) := by rfl
set_option maxRecDepth 100000 in
theorem am_q70 : lw_tbl[am_wi 70]? = some (am_cw 70) := by rfl
set_option maxRecDepth 100000 in
theorem am_q71 : lw_tbl[am_wi 71]? = some (am_cw 71) := by rfl
set_option maxRecDepth 100000 in
theorem am_q72 : lw_tbl[am_wi 72]? = some (am_cw 72) := by rfl
set_option maxRecDepth 100000 in
theorem am_q73 : lw_tbl[am_wi 73]? = some (am_cw 73) := by rfl
set_option maxRecDepth 100000 in
theorem am_q74 : lw_tbl[am_wi 74]? = some (am_cw 74) := by rfl
set_option maxRecDepth 100000 in
theorem am_q75 : lw_tbl[am_wi 75]? = some (am_cw 75) := by rfl
set_option maxRecDepth 100000 in
theorem am_q76 : lw_tbl[am_wi 76]? = some (am_cw 76) := by rfl
set_option maxRecDepth 100000 in
theorem am_q77 : lw_tbl[am_wi 77]? = some (am_cw 77) := by rfl
set_option maxRecDepth 100000 in
theorem am_q78 : lw_tbl[am_wi 78]? = some (am_cw 78) := by rfl
set_option maxRecDepth 100000 in
theorem am_q79 : lw_tbl[am_wi 79]? = some (am_cw 79) := by rfl
set_option maxRecDepth 100000 in
theorem am_q80 : lw_tbl[am_wi 80]? = some (am_cw 80) := by rfl
set_option maxRecDepth 100000 in
theorem am_q81 : lw_tbl[am_wi 81]? = some (am_cw 81) := by rfl
set_option maxRecDepth 100000 in
theorem am_q82 : lw_tbl[am_wi 82]? = some (am_cw 82) := by rfl
set_option maxRecDepth 100000 in
theorem am_q83 : lw_tbl[am_wi 83]? = some (am_cw 83) := by rfl
set_option maxRecDepth 100000 in
theorem am_q84 : lw_tbl[am_wi 84]? = some (am_cw 84) := by rfl
set_option maxRecDepth 100000 in
theorem am_q85 : lw_tbl[am_wi 85]? = some (am_cw 85) := by rfl
set_option maxRecDepth 100000 in
theorem am_q86 : lw_tbl[am_wi 86]? = some (am_cw 86) := by rfl
set_option maxRecDepth 100000 in
theorem am_q87 : lw_tbl[am_wi 87]? = some (am_cw 87) := by rfl
set_option maxRecDepth 100000 in
theorem am_q88 : lw_tbl[am_wi 88]? = some (am_cw 88) := by rfl
set_option maxRecDepth 100000 in
theorem am_q89 : lw_tbl[am_wi 89]? = some (am_cw 89) := by rfl
set_option maxRecDepth 100000 in
theorem am_q90 : lw_tbl[am_wi 90]? = some (am_cw 90) := by rfl
set_option maxRecDepth 100000 in
theorem am_q91 : lw_tbl[am_wi 91]? = some (am_cw 91) := by rfl
set_option maxRecDepth 100000 in
theorem am_q92 : lw_tbl[am_wi 92]? = some (am_cw 92) := by rfl
set_option maxRecDepth 100000 in
theorem am_q93 : lw_tbl[am_wi 93]? = some (am_cw 93) := by rfl
set_option maxRecDepth 100000 in
theorem am_q94 : lw_tbl[am_wi 94]? = some (am_cw 94) := by rfl
set_option maxRecDepth 100000 in
theorem am_q95 : lw_tbl[am_wi 95]? = some (am_cw 95) := by rfl
set_option maxRecDepth 100000 in
theorem am_q96 : lw_tbl[am_wi 96]? = some (am_cw 96) := by rfl
set_option maxRecDepth 100000 in
theorem am_q97 : lw_tbl[am_wi 97]? = some (am_cw 97) := by rfl
set_option maxRecDepth 100000 in
theorem am_q98 : lw_tbl[am_wi 98]? = some (am_cw 98) := by rfl
set_option maxRecDepth 100000 in
theorem am_q99 : lw_tbl[am_wi 99]? = some (am_cw 99) := by rfl
set_option maxRecDepth 100000 in
theorem am_q100 : lw_tbl[am_wi 100]? = some (am_cw 100) := by rfl
set_option maxRecDepth 100000 in
theorem am_q101 : lw_tbl[am_wi 101]? = some (am_cw 101) := by rfl
set_option maxRecDepth 100000 in
theorem am_q102 : lw_tbl[am_wi 102]? = some (am_cw 102) := by rfl
set_option maxRecDepth 100000 in
theorem am_q103 : lw_tbl[am_wi 103]? = some (am_cw 103) := by rfl
set_option maxRecDepth 100000 in
theorem am_q104 : lw_tbl[am_wi 104]? = some (am_cw 104) := by rfl
set_option maxRecDepth 100000 in
theorem am_q105 : lw_tbl[am_wi 105]? = some (am_cw 105) := by rfl
set_option maxRecDepth 100000 in
theorem am_q106 : lw_tbl[am_wi 106]? = some (am_cw 106) := by rfl
set_option maxRecDepth 100000 in
theorem am_q107 : lw_tbl[am_wi 107]? = some (am_cw 107) := by rfl
set_option maxRecDepth 100000 in
theorem am_q108 : lw_tbl[am_wi 108]? = some (am_cw 108) := by rfl
set_option maxRecDepth 100000 in
theorem am_q109 : lw_tbl[am_wi 109]? = some (am_cw 109) := by rfl
set_option maxRecDepth 100000 in
theorem am_q110 : lw_tbl[am_wi 110]? = some (am_cw 110) := by rfl
set_option maxRecDepth 100000 in
theorem am_q111 : lw_tbl[am_wi 111]? = some (am_cw 111) := by rfl
set_option maxRecDepth 100000 in
theorem am_q112 : lw_tbl[am_wi 112]? = some (am_cw 112) := by rfl
set_option maxRecDepth 100000 in
theorem am_q113 : lw_tbl[am_wi 113]? = some (am_cw 113) := by rfl
set_option maxRecDepth 100000 in
theorem am_q114 : lw_tbl[am_wi 114]? = some (am_cw 114) := by rfl
set_option maxRecDepth 100000 in
theorem am_q115 : lw_tbl[am_wi 115]? = some (am_cw 115) := by rfl
set_option maxRecDepth 100000 in
theorem am_q116 : lw_tbl[am_wi 116]? = some (am_cw 116) := by rfl
set_option maxRecDepth 100000 in
theorem am_q117 : lw_tbl[am_wi 117]? = some (am_cw 117) := by rfl
set_option maxRecDepth 100000 in
theorem am_q118 : lw_tbl[am_wi 118]? = some (am_cw 118) := by rfl
set_option maxRecDepth 100000 in
theorem am_q119 : lw_tbl[am_wi 119]? = some (am_cw 119) := by rfl
set_option maxRecDepth 100000 in
theorem am_q120 : lw_tbl[am_wi 120]? = some (am_cw 120) := by rfl
set_option maxRecDepth 100000 in
theorem am_q121 : lw_tbl[am_wi 121]? = some (am_cw 121) := by rfl
set_option maxRecDepth 100000 in
theorem am_q122 : lw_tbl[am_wi 122]? = some (am_cw 122) := by rfl
set_option maxRecDepth 100000 in
theorem am_q123 : lw_tbl[am_wi 123]? = some (am_cw 123) := by rfl
set_option maxRecDepth 100000 in
theorem am_q124 : lw_tbl[am_wi 124]? = some (am_cw 124) := by rfl
set_option maxRecDepth 100000 in
theorem am_q125 : lw_tbl[am_wi 125]? = some (am_cw 125) := by rfl
set_option maxRecDepth 100000 in
theorem am_q126 : lw_tbl[am_wi 126]? = some (am_cw 126) := by rfl
set_option maxRecDepth 100000 in
theorem am_q127 : lw_tbl[am_wi 127]? = some (am_cw 127) := by rfl
set_option maxRecDepth 100000 in
theorem am_q128 : lw_tbl[am_wi 128]? = some (am_cw 128) := by rfl
set_option maxRecDepth 100000 in
theorem am_q129 : lw_tbl[am_wi 129]? = some (am_cw 129) := by rfl
set_option maxRecDepth 100000 in
theorem am_q130 : lw_tbl[am_wi 130]? = some (am_cw 130) := by rfl
set_option maxRecDepth 100000 in
theorem am_q131 : lw_tbl[am_wi 131]? = some (am_cw 131) := by rfl
set_option maxRecDepth 100000 in
theorem am_q132 : lw_tbl[am_wi 132]? = some (am_cw 132) := by rfl
set_option maxRecDepth 100000 in
theorem am_q133 : lw_tbl[am_wi 133]? = some (am_cw 133) := by rfl
set_option maxRecDepth 100000 in
theorem am_q134 : lw_tbl[am_wi 134]? = some (am_cw 134) := by rfl
set_option maxRecDepth 100000 in
theorem am_q135 : lw_tbl[am_wi 135]? = some (am_cw 135) := by rfl
set_option maxRecDepth 100000 in
theorem am_q136 : lw_tbl[am_wi 136]? = some (am_cw 136) := by rfl
set_option maxRecDepth 100000 in
theorem am_q137 : lw_tbl[am_wi 137]? = some (am_cw 137) := by rfl
set_option maxRecDepth 100000 in
theorem am_q138 : lw_tbl[am_wi 138]? = some (am_cw 138) := by rfl
set_option maxRecDepth 100000 in
theorem am_q139 : lw_tbl[am_wi 139]? = some (am_cw 139) := by rfl
set_option maxRecDepth 100000 in
theorem am_q140 : lw_tbl[am_wi 140]? = some (am_cw 140) := by rfl
set_option maxRecDepth 100000 in
theorem am_q141 : lw_tbl[am_wi 141]? = some (am_cw 141) := by rfl
set_option maxRecDepth 100000 in
theorem am_q142 : lw_tbl[am_wi 142]? = some (am_cw 142) := by rfl
set_option maxRecDepth 100000 in
theorem am_q143 : lw_tbl[am_wi 143]? = some (am_cw 143) := by rfl
set_option maxRecDepth 100000 in
theorem am_q144 : lw_tbl[am_wi 144]? = some (am_cw 144) := by rfl
set_option maxRecDepth 100000 in
theorem am_q145 : lw_tbl[am_wi 145]? = some (am_cw 145) := by rfl
set_option maxRecDepth 100000 in
theorem am_q146 : lw_tbl[am_wi 146]? = some (am_cw 146) := by rfl
set_option maxRecDepth 100000 in
theorem am_q147 : lw_tbl[am_wi 147]? = some (am_cw 147) := by rfl
set_option maxRecDepth 100000 in
theorem am_q148 : lw_tbl[am_wi 148]? = some (am_cw 148) := by rfl
set_option maxRecDepth 100000 in
theorem am_q149 : lw_tbl[am_wi 149]? = some (am_cw 149) := by rfl
theorem am_okm_lt {mi : Nat} (h : am_okm mi = true) : mi < 150 := by
  unfold am_okm at h
  simp only [Bool.and_eq_true, decide_eq_true_eq] at h
  exact h.1.2
theorem am_qall : ∀ mi : Nat, am_okm mi = true → lw_tbl[am_wi mi]? = some (am_cw mi)
  | 0, h => by cases h
  | 1, _ => am_q1
  | 2, _ => am_q2
  | 3, _ => am_q3
  | 4, _ => am_q4
  | 5, _ => am_q5
  | 6, _ => am_q6
  | 7, _ => am_q7
  | 8, _ => am_q8
  | 9, _ => am_q9
  | 10, _ => am_q10
  | 11, _ => am_q11
  | 12, _ => am_q12
  | 13, _ => am_q13
  | 14, _ => am_q14
  | 15, _ => am_q15
  | 16, _ => am_q16
  | 17, _ => am_q17
  | 18, _ => am_q18
  | 19, _ => am_q19
  | 20, _ => am_q20
  | 21, _ => am_q21
  | 22, _ => am_q22
  | 23, _ => am_q23
  | 24, _ => am_q24
  | 25, _ => am_q25
  | 26, _ => am_q26
  | 27, _ => am_q27
  | 28, _ => am_q28
  | 29, _ => am_q29
  | 30, _ => am_q30
  | 31, _ => am_q31
  | 32, _ => am_q32
  | 33, _ => am_q33
  | 34, _ => am_q34
  | 35, _ => am_q35
  | 36, _ => am_q36
  | 37, _ => am_q37
  | 38, _ => am_q38
  | 39, _ => am_q39
  | 40, _ => am_q40
  | 41, _ => am_q41
  | 42, _ => am_q42
  | 43, _ => am_q43
  | 44, _ => am_q44
  | 45, _ => am_q45
  | 46, _ => am_q46
  | 47, _ => am_q47
  | 48, _ => am_q48
  | 49, _ => am_q49
  | 50, _ => am_q50
  | 51, _ => am_q51
  | 52, _ => am_q52
  | 53, _ => am_q53
  | 54, _ => am_q54
  | 55, _ => am_q55
  | 56, _ => am_q56
  | 57, _ => am_q57
  | 58, _ => am_q58
  | 59, _ => am_q59
  | 60, _ => am_q60
  | 61, _ => am_q61
  | 62, _ => am_q62
  | 63, _ => am_q63
  | 64, _ => am_q64
  | 65, _ => am_q65
  | 66, _ => am_q66
  | 67, _ => am_q67
  | 68, _ => am_q68
  | 69, _ => am_q69
  | 70, _ => am_q70
  | 71, _ => am_q71
  | 72, _ => am_q72
  | 73, _ => am_q73
  | 74, _ => am_q74
  | 75, _ => am_q75
  | 76, _ => am_q76
  | 77, _ => am_q77
  | 78, _ => am_q78
  | 79, _ => am_q79
  | 80, _ => am_q80
  | 81, _ => am_q81
  | 82, _ => am_q82
  | 83, _ => am_q83
  | 84, _ => am_q84
  | 85, _ => am_q85
  | 86, _ => am_q86
  | 87, _ => am_q87
  | 88, _ => am_q88
  | 89, _ => am_q89
  | 90, _ => am_q90
  | 91, _ => am_q91
  | 92, _ => am_q92
  | 93, _ => am_q93
  | 94, _ => am_q94
  | 95, _ => am_q95
  | 96, _ => am_q96
  | 97, _ => am_q97
  | 98, _ => am_q98
  | 99, _ => am_q99
  | 100, _ => am_q100
  | 101, _ => am_q101
  | 102, _ => am_q102
  | 103, _ => am_q103
  | 104, _ => am_q104
  | 105, _ => am_q105
  | 106, _ => am_q106
  | 107, _ => am_q107
  | 108, _ => am_q108
  | 109, _ => am_q109
  | 110, _ => am_q110
  | 111, _ => am_q111
  | 112, _ => am_q112
  | 113, _ => am_q113
  | 114, _ => am_q114
  | 115, _ => am_q115
  | 116, _ => am_q116
  | 117, _ => am_q117
  | 118, _ => am_q118
  | 119, _ => am_q119
  | 120, _ => am_q120
  | 121, _ => am_q121
  | 122, _ => am_q122
  | 123, _ => am_q123
  | 124, _ => am_q124
  | 125, _ => am_q125
  | 126, _ => am_q126
  | 127, _ => am_q127
  | 128, _ => am_q128
  | 129, _ => am_q129
  | 130, _ => am_q130
  | 131, _ => am_q131
  | 132, _ => am_q132
  | 133, _ => am_q133
  | 134, _ => am_q134
  | 135, _ => am_q135
  | 136, _ => am_q136
  | 137, _ => am_q137
  | 138, _ => am_q138
  | 139, _ => am_q139
  | 140, _ => am_q140
  | 141, _ => am_q141
  | 142, _ => am_q142
  | 143, _ => am_q143
  | 144, _ => am_q144
  | 145, _ => am_q145
  | 146, _ => am_q146
  | 147, _ => am_q147
  | 148, _ => am_q148
  | 149, _ => am_q149
  | n + 150, h => absurd (am_okm_lt h) (by omega)
set_option maxRecDepth 100000 in
theorem am_iall : (List.range 15).all (fun ow => decide (lw_tbl[am_ii ow]? = some (Jvm.Cond.initialized (am_ow ow)))) = true := by decide +kernel
set_option maxRecDepth 100000 in
theorem am_nall : (List.range 150).all (fun mi => !am_okm mi || decide (am_mo mi < 15) && decide (am_ow (am_mo mi) = (am_mn mi).cls) && plainName (am_mn mi).cls && decide (am_ml mi ≤ 45) && decide ((am_mn mi).cls ≠ "java/lang/invoke/MethodHandle") && decide ((am_mn mi).cls ≠ "java/lang/invoke/VarHandle")) = true := by decide +kernel
theorem am_nat {mi : Nat} (h : am_okm mi = true) : am_mo mi < 15 ∧ am_ow (am_mo mi) = (am_mn mi).cls ∧ plainName (am_mn mi).cls = true ∧ am_ml mi ≤ 45 ∧ (am_mn mi).cls ≠ "java/lang/invoke/MethodHandle" ∧ (am_mn mi).cls ≠ "java/lang/invoke/VarHandle" := by
  have q := List.all_eq_true.mp am_nall mi (List.mem_range.mpr (am_okm_lt h))
  rw [h] at q
  simp only [Bool.not_true, Bool.false_or, Bool.and_eq_true, decide_eq_true_eq] at q
  exact ⟨q.1.1.1.1.1, q.1.1.1.1.2, q.1.1.1.2, q.1.1.2, q.1.2, q.2⟩
theorem am_cw_good (mi : Nat) : goodWord (am_cw mi) = true := by
  unfold am_cw
  split <;> rfl
theorem am_hw {a0 : Array Value} {s0 : State} (hts : ∀ w ∈ lw_tbl, w.before a0 s0 = true) : am_HW s0 := by
  intro mi hok
  obtain ⟨n1, n2, n3, n4, -⟩ := am_nat hok
  refine ⟨n3, n4, fun args U hW => ⟨am_w_of hts (am_wi mi) (am_qall mi hok) (am_cw_good mi) args U hW, ?_⟩⟩
  rw [← n2]
  have q := List.all_eq_true.mp am_iall (am_mo mi) (List.mem_range.mpr n1)
  rw [decide_eq_true_eq] at q
  exact am_w_of hts _ q rfl args U hW
theorem am_hn1 : ∀ mi, am_okm mi = true → (am_ini mi = true → (am_mn mi).name = "<init>") ∧ am_ow (am_mo mi) = (am_mn mi).cls := by
  intro mi hok
  refine ⟨fun h => ?_, (am_nat hok).2.1⟩
  unfold am_ini at h
  exact of_decide_eq_true h
theorem am_hn2 : ∀ mi, am_noh mi = true → am_hs mi = [] := by
  intro mi h
  unfold am_noh at h
  exact List.isEmpty_iff.mp h
