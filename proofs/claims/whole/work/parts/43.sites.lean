/-! The call sites: how each is linked, by the places of its words. Kinds: 0 the method that is named, 1 one that the receiver's class selects for it, 2 through an interface, 3 static, 4 static in a nest mate, 5 constructor, 6 constructor of a nest mate. -/
def am_stL : List (Nat × Nat × Nat × MethodName × String) := [(5, 0, 52, ⟨"ToldShields", "<init>", "()V"⟩, ""),
  (5, 0, 55, ⟨"ToldShieldsModel", "<init>", "()V"⟩, ""),
  (0, 0, 56, ⟨"ToldShields", "type", "(C)Z"⟩, ""),
  (0, 0, 60, ⟨"ToldShieldsModel", "type", "(C)Z"⟩, ""),
  (0, 0, 61, ⟨"ToldShields", "wipe", "()I"⟩, ""),
  (0, 0, 65, ⟨"ToldShieldsModel", "wipe", "()I"⟩, ""),
  (3, 0, 66, ⟨"ToldShieldsLaw", "read", "(LToldShields;I[J)I"⟩, ""),
  (0, 0, 71, ⟨"ToldShieldsModel", "read", "(I)I"⟩, ""),
  (0, 0, 72, ⟨"ToldShieldsModel", "thrown", "()I"⟩, ""),
  (3, 0, 75, ⟨"ToldShieldsLaw", "cell", "(LToldShields;III[J)I"⟩, ""),
  (0, 0, 78, ⟨"ToldShieldsModel", "cell", "(III)I"⟩, ""),
  (3, 0, 79, ⟨"ToldShieldsLaw", "row", "(LToldShields;III[J)I"⟩, ""),
  (0, 0, 81, ⟨"ToldShieldsModel", "row", "(III)I"⟩, ""),
  (3, 0, 82, ⟨"ToldShieldsLaw", "cells", "(LToldShields;II[J)I"⟩, ""),
  (0, 0, 85, ⟨"ToldShieldsModel", "cells", "(II)I"⟩, ""),
  (3, 0, 86, ⟨"ToldShieldsLaw", "differ", "(LToldShields;II[J)I"⟩, ""),
  (0, 0, 88, ⟨"ToldShieldsModel", "differ", "(II)I"⟩, ""),
  (3, 0, 89, ⟨"ToldShieldsLaw", "breaches", "(LToldShields;I[J)I"⟩, ""),
  (0, 0, 91, ⟨"ToldShieldsModel", "breaches", "(I)I"⟩, ""),
  (3, 0, 92, ⟨"ToldShieldsLaw", "breach", "(LToldShields;II[J)I"⟩, ""),
  (0, 0, 94, ⟨"ToldShieldsModel", "breach", "(II)I"⟩, ""),
  (3, 0, 95, ⟨"ToldShieldsLaw", "count", "(LToldShields;II[J)I"⟩, ""),
  (0, 0, 97, ⟨"ToldShieldsModel", "count", "(II)I"⟩, ""),
  (3, 0, 98, ⟨"ToldShieldsLaw", "same", "(LToldShields;II[J)I"⟩, ""),
  (0, 0, 100, ⟨"ToldShieldsModel", "same", "(II)Z"⟩, ""),
  (3, 0, 101, ⟨"ToldShieldsLaw", "tell", "(LToldShields;I[J)I"⟩, ""),
  (0, 0, 103, ⟨"ToldShieldsModel", "tell", "(I)I"⟩, ""),
  (3, 0, 104, ⟨"ToldShieldsLaw", "turned", "(LToldShields;I[J)I"⟩, ""),
  (0, 0, 106, ⟨"ToldShieldsModel", "turned", "(I)I"⟩, ""),
  (0, 0, 107, ⟨"ToldShields", "length", "()I"⟩, ""),
  (0, 0, 110, ⟨"ToldShieldsModel", "length", "()I"⟩, ""),
  (0, 0, 111, ⟨"ToldShields", "charAt", "(I)C"⟩, ""),
  (0, 0, 115, ⟨"ToldShieldsModel", "charAt", "(I)C"⟩, ""),
  (6, 1, 22, ⟨"ToldShields$Told", "<init>", "()V"⟩, "ToldShields"),
  (0, 0, 7, ⟨"ToldShields", "read", "(I)I"⟩, ""),
  (0, 1, 31, ⟨"ToldShields", "refuseNoShield", "(I)V"⟩, ""),
  (0, 1, 35, ⟨"ToldShields$Told", "splitText", "([CI)V"⟩, ""),
  (5, 1, 41, ⟨"ToldShields$Reader", "<init>", "(LToldShields$Told;)V"⟩, ""),
  (0, 1, 44, ⟨"ToldShields$Reader", "readWhole", "()LToldShields$Shield;"⟩, ""),
  (0, 1, 51, ⟨"ToldShields$Told", "paint", "(LToldShields$Shield;)V"⟩, ""),
  (4, 2, 28, ⟨"ToldShields", "isLetter", "(C)Z"⟩, "ToldShields"),
  (3, 2, 32, ⟨"ToldShields$Told", "wordSpelled", "([CII)LToldShields$Word;"⟩, ""),
  (0, 2, 36, ⟨"ToldShields$Told", "addWord", "(LToldShields$Word;)V"⟩, ""),
  (0, 2, 43, ⟨"ToldShields$Word", "isSpelled", "([CII)Z"⟩, ""),
  (0, 3, 153, ⟨"java/lang/String", "length", "()I"⟩, ""),
  (0, 3, 159, ⟨"java/lang/String", "charAt", "(I)C"⟩, ""),
  (0, 4, 335, ⟨"java/lang/String", "coder", "()B"⟩, ""),
  (0, 4, 492, ⟨"java/lang/String", "isLatin1", "()Z"⟩, ""),
  (3, 4, 495, ⟨"java/lang/StringLatin1", "charAt", "([BI)C"⟩, ""),
  (0, 6, 15, ⟨"ToldShields$Told", "forgetCounts", "()V"⟩, ""),
  (0, 6, 20, ⟨"ToldShields$Reader", "readShield", "(I)LToldShields$Shield;"⟩, ""),
  (0, 6, 43, ⟨"ToldShields$Reader", "readField", "(I)LToldShields$Shield;"⟩, ""),
  (0, 6, 46, ⟨"ToldShields$Told", "wordAt", "(I)LToldShields$Word;"⟩, ""),
  (0, 6, 55, ⟨"ToldShields$Reader", "readItem", "(LToldShields$Shield;)Z"⟩, ""),
  (5, 6, 64, ⟨"ToldShields$Plain", "<init>", "(I)V"⟩, ""),
  (5, 6, 69, ⟨"ToldShields$Shield", "<init>", "(LToldShields$Word;LToldShields$Part;LToldShields$Part;)V"⟩, ""),
  (0, 6, 72, ⟨"ToldShields$Reader", "readDivision", "()LToldShields$Word;"⟩, ""),
  (0, 6, 76, ⟨"ToldShields$Reader", "readPart", "(I)LToldShields$Part;"⟩, ""),
  (0, 6, 84, ⟨"ToldShields$Reader", "take", "(LToldShields$Word;)Z"⟩, ""),
  (0, 6, 94, ⟨"ToldShields$Word", "canFollowPer", "()Z"⟩, ""),
  (0, 6, 110, ⟨"ToldShields$Reader", "readCharges", "(LToldShields$Shield;LToldShields$Ordinary;)Z"⟩, ""),
  (0, 6, 114, ⟨"ToldShields$Reader", "readOrdinary", "(LToldShields$Shield;)LToldShields$Ordinary;"⟩, ""),
  (0, 6, 123, ⟨"ToldShields$Word", "canBeCharged", "()Z"⟩, ""),
  (0, 6, 132, ⟨"ToldShields$Shield", "canBeCounterchanged", "()Z"⟩, ""),
  (0, 6, 135, ⟨"ToldShields$Reader", "readCoat", "(Z)I"⟩, ""),
  (0, 6, 139, ⟨"ToldShields$Shield", "isBrokenBy", "(I)Z"⟩, ""),
  (4, 6, 156, ⟨"ToldShields", "breaksLaw", "(II)Z"⟩, "ToldShields"),
  (0, 6, 143, ⟨"ToldShields$Told", "addBreach", "(I)V"⟩, ""),
  (5, 6, 162, ⟨"ToldShields$Charges", "<init>", "(LToldShields$Word;ILToldShields$Word;I)V"⟩, ""),
  (0, 6, 149, ⟨"ToldShields$Shield", "addLayer", "(LToldShields$Layer;)V"⟩, ""),
  (2, 9, 32, ⟨"ToldShields$Part", "plainTincture", "()I"⟩, ""),
  (4, 9, 38, ⟨"ToldShields", "breaksLaw", "(II)Z"⟩, "ToldShields"),
  (5, 10, 1, ⟨"ToldShields$Layer", "<init>", "(I)V"⟩, ""),
  (5, 6, 146, ⟨"ToldShields$Ordinary", "<init>", "(LToldShields$Word;I)V"⟩, ""),
  (5, 12, 1, ⟨"ToldShields$Layer", "<init>", "(I)V"⟩, ""),
  (0, 2, 66, ⟨"ToldShields$Shield", "tinctureAt", "(IIII)I"⟩, ""),
  (0, 9, 42, ⟨"ToldShields$Shield", "fieldAt", "(IIII)I"⟩, ""),
  (1, 9, 46, ⟨"ToldShields$Layer", "covers", "(IIII)Z"⟩, "ToldShields$Layer"),
  (0, 9, 53, ⟨"ToldShields$Shield", "otherThan", "(I)I"⟩, ""),
  (2, 9, 57, ⟨"ToldShields$Part", "tinctureAt", "(IIII)I"⟩, ""),
  (0, 10, 25, ⟨"ToldShields$Charges", "rowsCover", "(IIIII)Z"⟩, ""),
  (0, 10, 35, ⟨"ToldShields$Charges", "chargesInRow", "(I)I"⟩, ""),
  (0, 10, 39, ⟨"ToldShields$Charges", "rowCovers", "(IIIII)Z"⟩, ""),
  (0, 10, 48, ⟨"ToldShields$Charges", "chargeCovers", "(IIII)Z"⟩, ""),
  (1, 10, 61, ⟨"ToldShields$Word", "ordinal", "()I"⟩, "java/lang/Enum"),
  (1, 12, 19, ⟨"ToldShields$Word", "ordinal", "()I"⟩, "java/lang/Enum"),
  (3, 12, 25, ⟨"ToldShields$Ordinary", "isMiddle", "(II)Z"⟩, ""),
  (3, 12, 29, ⟨"ToldShields$Ordinary", "isBend", "(IIII)Z"⟩, ""),
  (3, 12, 33, ⟨"ToldShields$Ordinary", "isChevron", "(IIII)Z"⟩, ""),
  (3, 12, 36, ⟨"ToldShields$Ordinary", "isEdge", "(II)Z"⟩, ""),
  (0, 0, 15, ⟨"ToldShields", "cell", "(III)I"⟩, ""),
  (0, 1, 62, ⟨"ToldShields", "refuseNoPlace", "(I)V"⟩, ""),
  (0, 1, 65, ⟨"ToldShields", "toldOf", "(I)LToldShields$Told;"⟩, ""),
  (0, 0, 21, ⟨"ToldShields", "row", "(III)I"⟩, ""),
  (0, 0, 24, ⟨"ToldShields", "cells", "(II)I"⟩, ""),
  (0, 0, 28, ⟨"ToldShields", "differ", "(II)I"⟩, ""),
  (0, 0, 31, ⟨"ToldShields", "breaches", "(I)I"⟩, ""),
  (0, 0, 34, ⟨"ToldShields", "breach", "(II)I"⟩, ""),
  (0, 0, 37, ⟨"ToldShields", "count", "(II)I"⟩, ""),
  (0, 0, 42, ⟨"ToldShields", "same", "(II)Z"⟩, ""),
  (0, 1, 98, ⟨"ToldShields$Told", "hasWordsOf", "(LToldShields$Told;)Z"⟩, ""),
  (0, 0, 46, ⟨"ToldShields", "tell", "(I)I"⟩, ""),
  (0, 1, 102, ⟨"ToldShields", "writePage", "(LToldShields$Told;Z)V"⟩, ""),
  (0, 1, 121, ⟨"ToldShields", "writeChar", "(C)V"⟩, ""),
  (0, 1, 129, ⟨"ToldShields$Word", "turnedWord", "()LToldShields$Word;"⟩, ""),
  (0, 1, 135, ⟨"ToldShields", "writeWord", "(LToldShields$Word;)V"⟩, ""),
  (0, 1, 143, ⟨"java/lang/String", "length", "()I"⟩, ""),
  (0, 1, 149, ⟨"java/lang/String", "charAt", "(I)C"⟩, ""),
  (0, 0, 49, ⟨"ToldShields", "turned", "(I)I"⟩, ""),
  (0, 14, 79, ⟨"ToldShieldsModel", "set", "(IJJ)V"⟩, ""),
  (0, 14, 257, ⟨"ToldShieldsModel", "refused", "(I)Z"⟩, ""),
  (0, 14, 260, ⟨"ToldShieldsModel", "cutWords", "()V"⟩, ""),
  (0, 14, 263, ⟨"ToldShieldsModel", "readAll", "()I"⟩, ""),
  (0, 14, 267, ⟨"ToldShieldsModel", "paint", "(II)I"⟩, ""),
  (0, 14, 270, ⟨"ToldShieldsModel", "countAll", "(I)V"⟩, ""),
  (0, 14, 274, ⟨"ToldShieldsModel", "judge", "(I)V"⟩, ""),
  (3, 14, 165, ⟨"ToldShieldsModel", "isLetter", "(I)Z"⟩, ""),
  (0, 14, 169, ⟨"ToldShieldsModel", "find", "(II)I"⟩, ""),
  (0, 14, 204, ⟨"ToldShieldsModel", "newShield", "(I)I"⟩, ""),
  (0, 14, 197, ⟨"ToldShieldsModel", "push", "(II)V"⟩, ""),
  (0, 14, 208, ⟨"ToldShieldsModel", "take", "(III)I"⟩, ""),
  (0, 14, 179, ⟨"ToldShieldsModel", "takeField", "(II)I"⟩, ""),
  (0, 14, 182, ⟨"ToldShieldsModel", "takePart", "(II)I"⟩, ""),
  (0, 14, 185, ⟨"ToldShieldsModel", "takeItems", "(II)I"⟩, ""),
  (0, 14, 188, ⟨"ToldShieldsModel", "takeBehindA", "(II)I"⟩, ""),
  (3, 14, 191, ⟨"ToldShieldsModel", "isTincture", "(I)Z"⟩, ""),
  (0, 14, 194, ⟨"ToldShieldsModel", "isTwofold", "(I)Z"⟩, ""),
  (3, 14, 201, ⟨"ToldShieldsModel", "isNumber", "(I)Z"⟩, ""),
  (0, 14, 247, ⟨"ToldShieldsModel", "isFirst", "(IIIII)Z"⟩, ""),
  (0, 14, 250, ⟨"ToldShieldsModel", "given", "(IZIIII)I"⟩, ""),
  (3, 14, 240, ⟨"ToldShieldsModel", "isCharged", "(IIIIII)Z"⟩, ""),
  (0, 14, 244, ⟨"ToldShieldsModel", "isOnOrdinary", "(IIIII)Z"⟩, ""),
  (3, 14, 237, ⟨"ToldShieldsModel", "isOrdinary", "(IIIII)Z"⟩, ""),
  (3, 14, 223, ⟨"ToldShieldsModel", "stripe", "(III)I"⟩, ""),
  (3, 14, 230, ⟨"ToldShieldsModel", "inRow", "(II)I"⟩, ""),
  (3, 14, 233, ⟨"ToldShieldsModel", "isInRow", "(IIIIIIII)Z"⟩, ""),
  (3, 14, 226, ⟨"ToldShieldsModel", "isCharge", "(IIIII)Z"⟩, ""),
  (3, 14, 212, ⟨"ToldShieldsModel", "size", "(I)I"⟩, ""),
  (3, 14, 215, ⟨"ToldShieldsModel", "isBend", "(IIII)Z"⟩, ""),
  (3, 14, 219, ⟨"ToldShieldsModel", "isChevron", "(II)Z"⟩, ""),
  (3, 14, 254, ⟨"ToldShieldsModel", "classOf", "(I)I"⟩, ""),
  (0, 14, 277, ⟨"ToldShieldsModel", "ground", "(I)I"⟩, ""),
  (0, 14, 280, ⟨"ToldShieldsModel", "isBroken", "(II)Z"⟩, ""),
  (0, 14, 283, ⟨"ToldShieldsModel", "wrong", "(IZ)I"⟩, ""),
  (0, 14, 287, ⟨"ToldShieldsModel", "wrongTwo", "(II)I"⟩, ""),
  (0, 14, 303, ⟨"ToldShieldsModel", "write", "(IZ)I"⟩, ""),
  (3, 14, 296, ⟨"ToldShieldsModel", "other", "(I)I"⟩, ""),
  (0, 14, 293, ⟨"ToldShieldsModel", "put", "(I)V"⟩, ""),
  (0, 14, 299, ⟨"ToldShieldsModel", "putLetters", "(J)V"⟩, "")]
def am_site (x : Nat) : Nat × Nat × Nat × MethodName × String := am_stL.getD x (9, 0, 0, ⟨"", "", ""⟩, "")
/-- for each target of a site the places of its words -/
def am_tiL : List (List (List Nat)) := [[[75, 76]],
  [[754, 755]],
  [[156, 157, 158]],
  [[888, 889, 890]],
  [[160, 161, 162]],
  [[892, 893, 894]],
  [[172, 173]],
  [[896, 897, 898]],
  [[884, 885, 886]],
  [[616, 617]],
  [[1020, 1021, 1022]],
  [[649, 650]],
  [[1028, 1029, 1030]],
  [[656, 657]],
  [[1032, 1033, 1034]],
  [[663, 664]],
  [[1036, 1037, 1038]],
  [[670, 671]],
  [[1044, 1045, 1046]],
  [[677, 678]],
  [[1048, 1049, 1050]],
  [[684, 685]],
  [[1052, 1053, 1054]],
  [[708, 709]],
  [[1056, 1057, 1058]],
  [[719, 720]],
  [[1060, 1061, 1062]],
  [[745, 746]],
  [[1079, 1080, 1081]],
  [[164, 165, 166]],
  [[1083, 1084, 1085]],
  [[168, 169, 170]],
  [[1087, 1088, 1089]],
  [[84, 85]],
  [[176, 177, 178]],
  [[180, 182, 0]],
  [[252, 253, 254]],
  [[324, 325]],
  [[336, 337, 338]],
  [[528, 529, 530]],
  [[256, 257]],
  [[259, 260]],
  [[318, 320, 2]],
  [[264, 265, 266]],
  [[268, 269, 270]],
  [[278, 279, 280]],
  [[272, 273, 274]],
  [[282, 283, 284]],
  [[286, 287]],
  [[340, 341, 342]],
  [[344, 346, 3]],
  [[351, 353, 4]],
  [[355, 356, 357]],
  [[425, 427, 8]],
  [[361, 362]],
  [[371, 372]],
  [[393, 395, 5]],
  [[415, 417, 7]],
  [[399, 401, 6]],
  [[405, 406, 407]],
  [[431, 433, 9]],
  [[502, 504, 11]],
  [[518, 519, 520]],
  [[435, 436, 437]],
  [[455, 457, 10]],
  [[461, 462, 463]],
  [[468, 466]],
  [[469, 470, 471]],
  [[475, 476]],
  [[498, 499, 500]],
  [[440, 442, 441, 444, 446, 447, 445, 443], [440, 442, 441, 450, 452, 453, 451, 449]],
  [[465, 466]],
  [[478, 479], [478, 479]],
  [[508, 509]],
  [[511, 479], [511, 479]],
  [[532, 533, 534]],
  [[536, 538, 12]],
  [[555, 557, 558, 559, 556], [555, 557, 594, 595, 556]],
  [[612, 614, 17]],
  [[541, 543, 542, 544, 546, 547, 545, 443], [541, 543, 542, 549, 533, 551, 550, 449]],
  [[562, 564, 13]],
  [[566, 568, 14]],
  [[574, 576, 15]],
  [[578, 580, 16]],
  [[587, 588, 590, 591, 589]],
  [[598, 588, 590, 591, 589]],
  [[599, 600]],
  [[602, 603]],
  [[606, 607]],
  [[609, 610]],
  [[620, 621, 622]],
  [[624, 626, 18]],
  [[629, 631, 19]],
  [[652, 653, 654]],
  [[659, 660, 661]],
  [[666, 667, 668]],
  [[673, 674, 675]],
  [[680, 681, 682]],
  [[688, 689, 690]],
  [[711, 712, 713]],
  [[715, 716, 717]],
  [[722, 723, 724]],
  [[726, 728, 20]],
  [[730, 732, 21]],
  [[734, 735, 736]],
  [[739, 741, 22]],
  [[743, 269, 270]],
  [[744, 279, 280]],
  [[748, 749, 750]],
  [[759, 761, 23]],
  [[900, 902, 24]],
  [[904, 906, 25]],
  [[916, 918, 27]],
  [[958, 960, 36]],
  [[1001, 1003, 40]],
  [[1005, 1007, 41]],
  [[908, 909]],
  [[911, 913, 26]],
  [[920, 922, 28]],
  [[924, 926, 29]],
  [[928, 930, 30]],
  [[932, 934, 31]],
  [[939, 941, 32]],
  [[943, 945, 33]],
  [[950, 952, 34]],
  [[936, 937]],
  [[954, 956, 35]],
  [[947, 948]],
  [[962, 964, 37]],
  [[966, 968, 38]],
  [[970, 971]],
  [[988, 990, 39]],
  [[992, 993]],
  [[973, 974]],
  [[976, 977]],
  [[979, 980]],
  [[982, 983]],
  [[985, 986]],
  [[995, 996]],
  [[998, 999]],
  [[1009, 1010]],
  [[1012, 1014, 42]],
  [[1016, 1018, 43]],
  [[1024, 1026, 44]],
  [[1040, 1042, 45]],
  [[1064, 1066, 46]],
  [[1068, 1069]],
  [[1071, 1073, 47]],
  [[1075, 1077, 48]]]
/-- the words that a call at site x on a receiver of the kind ci to the method mj asks for -/
def am_seW (x ci mj : Nat) : List Jvm.Cond := match (am_site x).1 with
  | 0 => [.methodLink (am_ow (am_site x).2.1) (am_site x).2.2.1 (am_mn mj), .instanceMethod (am_mn mj), .selects (am_cn ci) (am_mn mj) (am_mn mj)]
  | 1 => [.methodLink (am_ow (am_site x).2.1) (am_site x).2.2.1 (am_site x).2.2.2.1, .sameMethod (am_site x).2.2.2.1.cls (am_site x).2.2.2.2 (am_site x).2.2.2.1.name (am_site x).2.2.2.1.desc, .selects (am_cn ci) (am_site x).2.2.2.1 (am_mn mj), .instanceMethod (am_mn mj), .declares ⟨(am_site x).2.2.2.2, (am_site x).2.2.2.1.name, (am_site x).2.2.2.1.desc⟩]
  | 2 => [.methodLink (am_ow (am_site x).2.1) (am_site x).2.2.1 (am_site x).2.2.2.1, .declares (am_site x).2.2.2.1, .interfaceMethod (am_site x).2.2.2.1.cls (am_site x).2.2.2.1.cls (am_site x).2.2.2.1.name (am_site x).2.2.2.1.desc, .selects (am_cn ci) (am_site x).2.2.2.1 (am_mn mj), .instanceMethod (am_mn mj), .publicMethod (am_mn mj), .unhidden (am_cn ci) (am_site x).2.2.2.1.name (am_site x).2.2.2.1.desc, .castable (am_cn ci) (am_site x).2.2.2.1.cls]
  | 3 => [.methodLink (am_ow (am_site x).2.1) (am_site x).2.2.1 (am_mn mj), .static (am_mn mj)]
  | 4 => [.methodLinkNest (am_ow (am_site x).2.1) (am_site x).2.2.1 (am_mn mj) (am_site x).2.2.2.2, .static (am_mn mj)]
  | 5 => [.methodLink (am_ow (am_site x).2.1) (am_site x).2.2.1 (am_mn mj), .instanceMethod (am_mn mj)]
  | 6 => [.methodLinkNest (am_ow (am_site x).2.1) (am_site x).2.2.1 (am_mn mj) (am_site x).2.2.2.2, .instanceMethod (am_mn mj)]
  | _ => []
/-- how many parameters -/
def am_np (d : String) : Option Nat := (parseMethodDescriptor d).map (fun d => d.parameters.length)
def am_seB (x : Nat) (t : Nat × Nat) (is : List Nat) : Bool :=
  decide (is.map (fun i => lw_tbl[i]?) = (am_seW x t.1 t.2).map some) && decide ((am_site x).1 ≤ 6) &&
  (match am_arg x with
    | some (n, stt) => decide (stt = decide ((am_site x).1 = 3 ∨ (am_site x).1 = 4)) && (if stt = true then decide (am_np (am_mn t.2).desc = some n) else decide (am_np (am_mn t.2).desc = some (n - 1)) && decide (am_np (am_site x).2.2.2.1.desc = some (n - 1)) && decide (1 ≤ n))
    | none => false) &&
  (if 5 ≤ (am_site x).1 then decide ((am_mn t.2).name = "<init>") else true) &&
  decide ((am_site x).2.2.2.1.cls ≠ "java/lang/invoke/MethodHandle") && decide ((am_site x).2.2.2.1.cls ≠ "java/lang/invoke/VarHandle") && decide ((am_site x).2.2.2.2 ≠ "java/lang/invoke/MethodHandle") && decide ((am_site x).2.2.2.2 ≠ "java/lang/invoke/VarHandle")
def am_seX (x : Nat) : Bool := decide ((am_tgL.getD x []).length = (am_tiL.getD x []).length) && ((am_tgL.getD x []).zip (am_tiL.getD x [])).all (fun q => am_seB x q.1 q.2)
set_option maxRecDepth 100000 in
theorem am_sx0 : ((List.range 20).drop 0).all am_seX = true := by decide +kernel
set_option maxRecDepth 100000 in
theorem am_sx1 : ((List.range 40).drop 20).all am_seX = true := by decide +kernel
set_option maxRecDepth 100000 in
theorem am_sx2 : ((List.range 60).drop 40).all am_seX = true := by decide +kernel
set_option maxRecDepth 100000 in
theorem am_sx3 : ((List.range 80).drop 60).all am_seX = true := by decide +kernel
set_option maxRecDepth 100000 in
theorem am_sx4 : ((List.range 100).drop 80).all am_seX = true := by decide +kernel
set_option maxRecDepth 100000 in
theorem am_sx5 : ((List.range 120).drop 100).all am_seX = true := by decide +kernel
set_option maxRecDepth 100000 in
theorem am_sx6 : ((List.range 140).drop 120).all am_seX = true := by decide +kernel
set_option maxRecDepth 100000 in
theorem am_sx7 : ((List.range 149).drop 140).all am_seX = true := by decide +kernel
theorem am_sx {x : Nat} (h : x < 149) : am_seX x = true := by
  have key : ∀ {a b : Nat}, ((List.range b).drop a).all am_seX = true → a ≤ x → x < b → am_seX x = true := by
    intro a b hq h1 h2
    refine List.all_eq_true.mp hq x ?_
    refine List.mem_of_getElem? (i := x - a) ?_
    rw [List.getElem?_drop, List.getElem?_range (by omega)]
    congr 1
    omega
  by_cases h0 : x < 20
  · exact key am_sx0 (by omega) h0
  by_cases h1 : x < 40
  · exact key am_sx1 (by omega) h1
  by_cases h2 : x < 60
  · exact key am_sx2 (by omega) h2
  by_cases h3 : x < 80
  · exact key am_sx3 (by omega) h3
  by_cases h4 : x < 100
  · exact key am_sx4 (by omega) h4
  by_cases h5 : x < 120
  · exact key am_sx5 (by omega) h5
  by_cases h6 : x < 140
  · exact key am_sx6 (by omega) h6
  exact key am_sx7 (by omega) h
set_option maxRecDepth 100000 in
theorem am_ilA : am_ilL.all (fun z => decide ((am_site z.2.2).2.1 = z.1) && decide ((am_site z.2.2).2.2.1 = z.2.1)) = true := by decide +kernel
def am_opB (z : Nat × Instr × Nat) : Bool := match z.2.1 with
  | .invokevirtual x => decide ((am_site x).1 ≤ 1)
  | .invokeinterface x _ => decide ((am_site x).1 = 2)
  | .invokestatic x => decide ((am_site x).1 = 3 ∨ (am_site x).1 = 4)
  | .invokespecial x => decide ((am_site x).1 = 5 ∨ (am_site x).1 = 6)
  | _ => true
set_option maxRecDepth 100000 in
theorem am_opA : (List.range 150).all (fun mi => (am_cL mi).all am_opB) = true := by decide +kernel
theorem am_op {mi pc len : Nat} {i : Instr} (h : am_code mi pc = some (i, len)) : am_opB (pc, i, len) = true := by
  by_cases hm : mi < 150
  · exact List.all_eq_true.mp (List.all_eq_true.mp am_opA mi (List.mem_range.mpr hm)) _ (am_find_mem h)
  · obtain ⟨k, rfl⟩ := Nat.exists_eq_add_of_le (Nat.not_lt.mp hm)
    have h2 := am_find_mem h
    have h3 : am_cL (150 + k) = [] := by
      rw [Nat.add_comm]
      rfl
    rw [h3] at h2
    cases h2
