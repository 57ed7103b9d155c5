/-! Where the words and the facts of the start stand (printed by wip/whole/gen4.py). -/
def am_wnL : List String := ["OR", "ARGENT", "GULES", "AZURE", "VERT", "SABLE", "PURPURE", "ERMINE", "VAIR", "COUNTERCHANGE", "PER", "QUARTERLY", "AND", "OPEN", "CLOSE", "CHARGED", "WITH", "CHIEF", "FESS", "PALE", "BEND", "CROSS", "SALTIRE", "CHEVRON", "BORDURE", "A", "TWO", "THREE", "FOUR", "FIVE", "SIX", "ROUNDEL", "BILLET", "LOZENGE", "ROUNDELS", "BILLETS", "LOZENGES", "UNKNOWN"]
def am_wsL : List Nat := [167, 170, 173, 176, 179, 182, 185, 188, 191, 194, 197, 203, 206, 209, 212, 215, 218, 221, 224, 227, 230, 233, 236, 239, 242, 245, 248, 251, 254, 257, 260, 263, 266, 269, 272, 275, 278, 281]
/-- how the Statement names the cells that stand at the start -/
def am_tm (k : Nat) : Jvm.Term :=
  if k < 38 then .static "ToldShields$Word" (am_wnL.getD k "") "LToldShields$Word;"
  else if k = 38 then .static "ToldShields" "WORDS" "[LToldShields$Word;"
  else if k = 39 then .static "ToldShields$1" "$SwitchMap$ToldShields$Word" "[I"
  else if k < 78 then .string "ToldShields$Word" (am_wsL.getD (k - 40) 0)
  else .field (.string "ToldShields$Word" (am_wsL.getD (k - 78) 0)) "java/lang/String" "value" "[B"
def am_vt (v : Value) : Jvm.Term := match v with
  | .int x => .int x
  | .ref a => am_tm a
  | _ => .int 0
def am_fd (f : Nat) : String × String × String := am_fdL.getD f ("", "", "")
def am_eqs (a b : Jvm.Term) : List Jvm.Cond := if a = b then [] else [.eq a b]
/-- what is asked of a cell of the start -/
def am_nd (k : Nat) (c : am_C) : List Jvm.Cond := match c with
  | .inl (ci, fs) => .exactly (am_tm k) (am_cn ci) :: ((am_lay ci).zip fs).flatMap (fun z => am_eqs (.field (am_tm k) (am_fd z.1).1 (am_fd z.1).2.1 (am_fd z.1).2.2) (am_vt z.2))
  | .inr (t, xs) => .arrayOf (am_tm k) (am_ty t) :: .eq (.length (am_tm k)) (.int (Int32.ofNat xs.length)) :: xs.zipIdx.map (fun z => .eq (.elem (am_tm k) (.int (Int32.ofNat z.2))) (am_vt z.1))
def am_niL : List (List Nat) := [[163, 165, 166, 167, 164],
  [168, 170, 171, 172, 169],
  [173, 175, 176, 177, 174],
  [178, 180, 181, 182, 179],
  [183, 185, 186, 187, 184],
  [188, 190, 191, 192, 189],
  [193, 195, 196, 197, 194],
  [198, 200, 201, 202, 199],
  [203, 205, 206, 207, 204],
  [102, 104, 105, 106, 103],
  [62, 64, 65, 66, 63],
  [57, 59, 60, 61, 58],
  [92, 94, 95, 96, 93],
  [82, 84, 85, 86, 83],
  [87, 89, 90, 91, 88],
  [112, 114, 115, 116, 113],
  [117, 119, 120, 121, 118],
  [107, 109, 110, 111, 108],
  [72, 74, 75, 76, 73],
  [67, 69, 70, 71, 68],
  [77, 79, 80, 81, 78],
  [208, 210, 211, 212, 209],
  [213, 215, 216, 217, 214],
  [218, 220, 221, 222, 219],
  [223, 225, 226, 227, 224],
  [97, 99, 100, 101, 98],
  [228, 230, 231, 232, 229],
  [233, 235, 236, 237, 234],
  [238, 240, 241, 242, 239],
  [243, 245, 246, 247, 244],
  [248, 250, 251, 252, 249],
  [253, 255, 256, 257, 254],
  [258, 260, 261, 262, 259],
  [263, 265, 266, 267, 264],
  [268, 270, 271, 272, 269],
  [273, 275, 276, 277, 274],
  [278, 280, 281, 282, 279],
  [52, 54, 55, 56, 53],
  [6, 7, 9, 10, 11, 12, 13, 14, 15, 16, 17, 18, 19, 20, 21, 22, 23, 24, 25, 26, 27, 28, 29, 30, 31, 32, 33, 34, 35, 36, 37, 38, 39, 40, 41, 42, 43, 44, 45, 46],
  [123, 124, 125, 126, 127, 128, 129, 130, 131, 132, 133, 134, 135, 136, 137, 138, 139, 140, 141, 142, 143, 144, 145, 146, 147, 148, 149, 150, 151, 152, 153, 154, 155, 156, 157, 158, 159, 160, 161, 162],
  [545, 546],
  [551, 552],
  [561, 562],
  [570, 571],
  [579, 580],
  [587, 588],
  [596, 597],
  [607, 608],
  [617, 618],
  [499, 500],
  [446, 447],
  [433, 434],
  [487, 488],
  [477, 478],
  [482, 483],
  [526, 527],
  [537, 538],
  [517, 518],
  [461, 462],
  [453, 454],
  [469, 470],
  [625, 626],
  [634, 635],
  [645, 646],
  [656, 657],
  [494, 495],
  [667, 668],
  [674, 675],
  [683, 684],
  [691, 692],
  [699, 700],
  [706, 707],
  [717, 718],
  [727, 728],
  [738, 739],
  [750, 751],
  [761, 762],
  [429, 430],
  [547, 548, 549, 550],
  [553, 554, 555, 556, 557, 558, 559, 560],
  [563, 564, 565, 566, 567, 568, 569],
  [572, 573, 574, 575, 576, 577, 578],
  [581, 582, 583, 584, 585, 586],
  [589, 590, 591, 592, 593, 594, 595],
  [598, 599, 600, 601, 602, 603, 604, 605, 606],
  [609, 610, 611, 612, 613, 614, 615, 616],
  [619, 620, 621, 622, 623, 624],
  [501, 502, 503, 504, 505, 506, 507, 508, 509, 510, 511, 512, 513, 514, 515, 516],
  [448, 449, 450, 451, 452],
  [435, 436, 437, 438, 439, 440, 441, 442, 443, 444, 445],
  [489, 490, 491, 492, 493],
  [479, 480, 481],
  [484, 485, 486],
  [528, 529, 530, 531, 532, 533, 534, 535, 536],
  [539, 540, 541, 542, 543, 544],
  [519, 520, 521, 522, 523, 524, 525],
  [463, 464, 465, 466, 467, 468],
  [455, 456, 457, 458, 459, 460],
  [471, 472, 473, 474, 475, 476],
  [627, 628, 629, 630, 631, 632, 633],
  [636, 637, 638, 639, 640, 641, 642, 643, 644],
  [647, 648, 649, 650, 651, 652, 653, 654, 655],
  [658, 659, 660, 661, 662, 663, 664, 665, 666],
  [496, 497, 498],
  [669, 670, 671, 672, 673],
  [676, 677, 678, 679, 680, 681, 682],
  [685, 686, 687, 688, 689, 690],
  [693, 694, 695, 696, 697, 698],
  [701, 702, 703, 704, 705],
  [708, 709, 710, 711, 712, 713, 714, 715, 716],
  [719, 720, 721, 722, 723, 724, 725, 726],
  [729, 730, 731, 732, 733, 734, 735, 736, 737],
  [740, 741, 742, 743, 744, 745, 746, 747, 748, 749],
  [752, 753, 754, 755, 756, 757, 758, 759, 760],
  [763, 764, 765, 766, 767, 768, 769, 770, 771, 772],
  [431, 432]]
def am_nok (k : Nat) (c : am_C) : Bool := decide ((am_niL.getD k []).map (fun i => (flatC narrow_1)[i]?) = (am_nd k c).map some)
/-- the fields of the classes whose objects are made -/
def am_lyI : List (List Nat) := [[143, 145, 147, 149, 151, 153], [114, 116, 118, 120, 122, 124, 126, 128, 130, 132], [826, 828, 830, 832, 834, 836, 838, 840, 842, 844, 846, 848, 850, 852, 854, 856, 858, 860, 862, 864, 866, 868, 870, 872, 874, 876, 878, 880], [331, 333], [366], [382, 384, 386, 388, 390], [489, 491, 493, 495], [514, 516]]
def am_inI : List Nat := [74, 83, 753, 323, 360, 370, 474, 507, 185, 634, 693]
def am_icI : List Nat := [50, 51, 52, 63, 65, 66, 68, 69, 56, 71, 72]
/-- links of fields: named class, nest host, place of the word, place of 'the same field' -/
def am_flW : List (String × String × Nat × Nat) := [("ToldShields$Told", "", 90, 0), ("ToldShields$Told", "", 91, 0), ("ToldShields$Told", "", 92, 0), ("ToldShields$Told", "", 93, 0), ("ToldShields$Told", "", 94, 0), ("ToldShields$Told", "", 95, 0), ("ToldShields$Told", "", 96, 0), ("ToldShields$Told", "", 97, 0), ("ToldShields$Told", "", 98, 0), ("ToldShields$Told", "", 99, 0), ("ToldShields$Told", "", 100, 0), ("ToldShields$Told", "", 101, 0), ("ToldShields$Told", "", 102, 0), ("ToldShields$Told", "", 103, 0), ("ToldShields$Told", "", 104, 0), ("ToldShields$Told", "", 105, 0), ("ToldShields$Told", "", 106, 0), ("ToldShields$Told", "", 107, 0), ("ToldShields$Told", "", 108, 0), ("ToldShields$Told", "", 109, 0), ("ToldShields$Told", "", 110, 0), ("ToldShields$Told", "", 111, 0), ("ToldShields$Told", "", 112, 0), ("ToldShields$Told", "", 113, 0), ("ToldShields", "", 137, 0), ("ToldShields", "", 138, 0), ("ToldShields", "", 139, 0), ("ToldShields", "", 140, 0), ("ToldShields", "", 141, 0), ("ToldShields", "", 142, 0), ("ToldShields$Reader", "", 328, 0), ("ToldShields$Reader", "", 329, 0), ("ToldShields$Reader", "", 330, 0), ("ToldShields$Plain", "", 365, 0), ("ToldShields$Shield", "", 377, 0), ("ToldShields$Shield", "", 378, 0), ("ToldShields$Shield", "", 379, 0), ("ToldShields$Shield", "", 380, 0), ("ToldShields$Shield", "", 381, 0), ("ToldShields$Charges", "", 482, 0), ("ToldShields$Charges", "", 483, 0), ("ToldShields$Charges", "", 484, 0), ("ToldShields$Layer", "", 485, 0), ("ToldShields$Layer", "", 486, 0), ("ToldShields$Ordinary", "", 487, 488), ("ToldShields$Ordinary", "", 512, 0), ("ToldShields$Ordinary", "ToldShields", 513, 0), ("ToldShieldsModel", "", 798, 0), ("ToldShieldsModel", "", 799, 0), ("ToldShieldsModel", "", 800, 0), ("ToldShieldsModel", "", 801, 0), ("ToldShieldsModel", "", 802, 0), ("ToldShieldsModel", "", 803, 0), ("ToldShieldsModel", "", 804, 0), ("ToldShieldsModel", "", 805, 0), ("ToldShieldsModel", "", 806, 0), ("ToldShieldsModel", "", 807, 0), ("ToldShieldsModel", "", 808, 0), ("ToldShieldsModel", "", 809, 0), ("ToldShieldsModel", "", 810, 0), ("ToldShieldsModel", "", 811, 0), ("ToldShieldsModel", "", 812, 0), ("ToldShieldsModel", "", 813, 0), ("ToldShieldsModel", "", 814, 0), ("ToldShieldsModel", "", 815, 0), ("ToldShieldsModel", "", 816, 0), ("ToldShieldsModel", "", 817, 0), ("ToldShieldsModel", "", 818, 0), ("ToldShieldsModel", "", 819, 0), ("ToldShieldsModel", "", 820, 0), ("ToldShieldsModel", "", 821, 0), ("ToldShieldsModel", "", 822, 0), ("ToldShieldsModel", "", 823, 0), ("ToldShieldsModel", "", 824, 0), ("ToldShieldsModel", "", 825, 0), ("ToldShields$Word", "", 1094, 0), ("java/lang/String", "", 1095, 0), ("java/lang/String", "", 1096, 0), ("ToldShields$Word", "", 1097, 0), ("ToldShields$Word", "", 1098, 0), ("java/lang/Enum", "", 1099, 0), ("ToldShields$Word", "", 1100, 0), ("ToldShields$Word", "", 1101, 0), ("ToldShields$Word", "", 1102, 0)]
/-- static fields: class, name, descriptor, nest host, places of link, of its lying there, of the class's being initialised -/
def am_glW : List (String × String × String × String × Nat × Nat × Nat) := [("ToldShields", "WORDS", "[LToldShields$Word;", "ToldShields", 262, 263, 50), ("java/lang/String", "COMPACT_STRINGS", "Z", "", 276, 277, 57), ("ToldShields$Word", "UNKNOWN", "LToldShields$Word;", "", 316, 317, 62), ("ToldShields$Word", "QUARTERLY", "LToldShields$Word;", "", 397, 398, 62), ("ToldShields$Word", "PER", "LToldShields$Word;", "", 403, 404, 62), ("ToldShields$Word", "PALE", "LToldShields$Word;", "", 409, 410, 62), ("ToldShields$Word", "FESS", "LToldShields$Word;", "", 411, 412, 62), ("ToldShields$Word", "BEND", "LToldShields$Word;", "", 413, 414, 62), ("ToldShields$Word", "OPEN", "LToldShields$Word;", "", 419, 420, 62), ("ToldShields$Word", "CLOSE", "LToldShields$Word;", "", 421, 422, 62), ("ToldShields$Word", "AND", "LToldShields$Word;", "", 423, 424, 62), ("ToldShields$Word", "A", "LToldShields$Word;", "", 429, 430, 62), ("ToldShields$Word", "COUNTERCHANGE", "LToldShields$Word;", "", 459, 460, 62), ("ToldShields$Word", "CHIEF", "LToldShields$Word;", "", 522, 523, 62), ("ToldShields$Word", "CHARGED", "LToldShields$Word;", "", 524, 525, 62), ("ToldShields$Word", "WITH", "LToldShields$Word;", "", 526, 527, 62), ("ToldShields$Word", "BEND", "LToldShields$Word;", "", 552, 414, 62), ("ToldShields$Word", "FESS", "LToldShields$Word;", "", 553, 412, 62), ("ToldShields$Word", "PALE", "LToldShields$Word;", "", 554, 410, 62), ("ToldShields$Word", "CHIEF", "LToldShields$Word;", "", 561, 523, 62), ("ToldShields$Word", "PALE", "LToldShields$Word;", "", 570, 410, 62), ("ToldShields$1", "$SwitchMap$ToldShields$Word", "[I", "", 585, 586, 70), ("ToldShields$Word", "FESS", "LToldShields$Word;", "", 593, 412, 62), ("ToldShields$1", "$SwitchMap$ToldShields$Word", "[I", "", 597, 586, 70), ("ToldShields", "WORDS", "[LToldShields$Word;", "ToldShields", 738, 263, 50)]
def am_nlW : List Nat := [73, 81, 184, 322, 359, 369, 473, 506, 633, 692, 752]
def am_alW : List (Nat × Nat) := [(81, 82), (88, 89), (375, 376)]
def am_lcW : List Nat := [758, 763, 764, 765, 766, 767, 768, 769, 770, 771, 772, 773, 774, 775, 776, 777, 778, 779, 780, 781, 782, 783, 784, 785, 786, 787, 788, 789, 790, 791, 792, 793, 794, 795, 796, 797, 915]
